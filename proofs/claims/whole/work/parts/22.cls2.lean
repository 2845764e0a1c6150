set_option maxHeartbeats 4000000 in
set_option maxRecDepth 100000 in
theorem cx_many {g : gT} {nq_ n9 : Nat} {sm : mS} {Y : cY} {c : mS} (q : Int32) (hY : Yok Y c n9) (hC9 : c_inv c) : M g 3 0 0 kX8_howManyAre [.ref 8, .int q] nq_ (hh sm Y c) (m_Q (.int (nI (ct (fun a => c 24 a = q) (mA c)))) nq_ (hh sm Y c)) := by
  refine M_of_G (by decide +kernel) (Nat.le_of_ble_eq_true rfl) ?_
  obtain ⟨hI, hG, hgv, hov, hrw, hps⟩ := id hC9
  obtain ⟨hK, hT, hB, hP9, hA, hkf, haf, hbf⟩ := id hI
  have hA2 := hA.2
  have hT2 := hT.2
  have hK2 := hK.2
  have hB2 := hB.2
  have hG2 := hG.2
  have hP2 := hP9.2
  have loop : ∀ m i, i + m = mA c → G g 3 0 0 kX8_howManyAre 4 [.ref 8, .int q, .int (nI (ct (fun a => c 24 a = q) i)), .int (nI i)] [] nq_ (hh sm Y c) (m_Q (.int (nI (ct (fun a => c 24 a = q) (mA c)))) nq_ (hh sm Y c)) := by
    intro m
    induction m with
    | zero =>
      intro i hi0 
      rw [Nat.add_zero] at hi0
      refine G_iload_n dX8_howManyAre_4 rfl rfl ?_
      refine G_aload_n dX8_howManyAre_5 rfl rfl ?_
      refine G_get dX8_howManyAre_6 fg_X8_22 (hx_8 _ _ _) rfl ?_
      refine GL_size3 dX8_howManyAre_9 (mc_X8_60 rfl) (Nat.le_of_ble_eq_true rfl) (Nat.le_of_ble_eq_true rfl) ?_
      refine G_icmp_ge (tgt := 42) dX8_howManyAre_12 (by decide) (fun c12 => ?_) (fun c12 => ?_)
      · skip
        refine G_iload_n dX8_howManyAre_42 rfl rfl ?_
        refine G_iret dX8_howManyAre_43 rfl ?_
        exact ⟨by rw [hi0], rfl, rfl⟩
      · skip
        exact absurd (by rw [hA.1]; exact nI_le (Nat.le_of_eq hi0.symm) (by omega)) c12
    | succ m ih =>
      intro i hi0 
      refine G_iload_n dX8_howManyAre_4 rfl rfl ?_
      refine G_aload_n dX8_howManyAre_5 rfl rfl ?_
      refine G_get dX8_howManyAre_6 fg_X8_22 (hx_8 _ _ _) rfl ?_
      refine GL_size3 dX8_howManyAre_9 (mc_X8_60 rfl) (Nat.le_of_ble_eq_true rfl) (Nat.le_of_ble_eq_true rfl) ?_
      refine G_icmp_ge (tgt := 42) dX8_howManyAre_12 (by decide) (fun c12 => ?_) (fun c12 => ?_)
      · skip
        exact absurd c12 (by rw [hA.1, nI_leI (by omega) (by omega)]; omega)
      · skip
        refine G_aload_n dX8_howManyAre_15 rfl rfl ?_
        refine G_get dX8_howManyAre_16 fg_X8_22 (hx_8 _ _ _) rfl ?_
        refine G_iload_n dX8_howManyAre_19 rfl rfl ?_
        refine GL_get3 (i := i) (sz := mA c) dX8_howManyAre_20 (mc_X8_158 rfl) hY hA.1 (show i < mA c by omega) (Nat.le_trans hA.2 (by decide)) (Nat.le_of_ble_eq_true rfl) (Nat.le_of_ble_eq_true rfl) ?_
        refine G_cast (ci := 0) dX8_howManyAre_23 rfl tw_558 (hx_A hY (show i < mA c by omega)) ?_
        refine G_get dX8_howManyAre_26 fg_X8_162 (hx_A hY (show i < mA c by omega)) rfl ?_
        refine G_iload_n dX8_howManyAre_29 rfl rfl ?_
        refine G_icmp_ne (tgt := 36) dX8_howManyAre_30 (by decide) (fun c30 => ?_) (fun c30 => ?_)
        · skip
          rw [show nI (ct (fun a => c 24 a = q) i) = nI (ct (fun a => c 24 a = q) (i + 1)) from by rw [ct_f c30]]
          refine G_iinc (b := nI (i + 1)) dX8_howManyAre_36 rfl (nI_1 i) rfl ?_
          refine G_goto (tgt := 4) dX8_howManyAre_39 (by decide) ?_
          exact ih (i + 1) (by omega)
        · skip
          refine G_iinc (b := nI (ct (fun a => c 24 a = q) (i + 1))) dX8_howManyAre_33 rfl (ct_add_t c30) rfl ?_
          refine G_iinc (b := nI (i + 1)) dX8_howManyAre_36 rfl (nI_1 i) rfl ?_
          refine G_goto (tgt := 4) dX8_howManyAre_39 (by decide) ?_
          exact ih (i + 1) (by omega)
  refine G_iconst (v := 0) dX8_howManyAre_0 rfl ?_
  refine G_istore_n dX8_howManyAre_1 rfl (Nat.le_of_ble_eq_true rfl) rfl ?_
  refine G_iconst (v := 0) dX8_howManyAre_2 rfl ?_
  refine G_istore_n dX8_howManyAre_3 rfl (Nat.le_of_ble_eq_true rfl) rfl ?_
  exact loop (mA c) 0 (by omega)
set_option maxHeartbeats 4000000 in
set_option maxRecDepth 100000 in
theorem cx_manyOn {g : gT} {nq_ n9 : Nat} {sm : mS} {Y : cY} {c : mS} (t : Nat) (hY : Yok Y c n9) (hC9 : c_inv c) (ht : t < mT c) : M g 3 0 0 kX8_howManyAreBookedOn [.ref 8, .ref (y_a Y 7 t)] nq_ (hh sm Y c) (m_Q (.int (nI (ct (fun a => c 24 a = 1 ∧ c 25 a = nI t) (mA c)))) nq_ (hh sm Y c)) := by
  refine M_of_G (by decide +kernel) (Nat.le_of_ble_eq_true rfl) ?_
  obtain ⟨hI, hG, hgv, hov, hrw, hps⟩ := id hC9
  obtain ⟨hK, hT, hB, hP9, hA, hkf, haf, hbf⟩ := id hI
  have hA2 := hA.2
  have hT2 := hT.2
  have hK2 := hK.2
  have hB2 := hB.2
  have hG2 := hG.2
  have hP2 := hP9.2
  have loop : ∀ m i, i + m = mA c → G g 3 0 0 kX8_howManyAreBookedOn 4 [.ref 8, .ref (y_a Y 7 t), .int (nI (ct (fun a => c 24 a = 1 ∧ c 25 a = nI t) i)), .int (nI i)] [] nq_ (hh sm Y c) (m_Q (.int (nI (ct (fun a => c 24 a = 1 ∧ c 25 a = nI t) (mA c)))) nq_ (hh sm Y c)) := by
    intro m
    induction m with
    | zero =>
      intro i hi0 
      rw [Nat.add_zero] at hi0
      refine G_iload_n dX8_howManyAreBookedOn_4 rfl rfl ?_
      refine G_aload_n dX8_howManyAreBookedOn_5 rfl rfl ?_
      refine G_get dX8_howManyAreBookedOn_6 fg_X8_22 (hx_8 _ _ _) rfl ?_
      refine GL_size3 dX8_howManyAreBookedOn_9 (mc_X8_60 rfl) (Nat.le_of_ble_eq_true rfl) (Nat.le_of_ble_eq_true rfl) ?_
      refine G_icmp_ge (tgt := 42) dX8_howManyAreBookedOn_12 (by decide) (fun c12 => ?_) (fun c12 => ?_)
      · skip
        refine G_iload_n dX8_howManyAreBookedOn_42 rfl rfl ?_
        refine G_iret dX8_howManyAreBookedOn_43 rfl ?_
        exact ⟨by rw [hi0], rfl, rfl⟩
      · skip
        exact absurd (by rw [hA.1]; exact nI_le (Nat.le_of_eq hi0.symm) (by omega)) c12
    | succ m ih =>
      intro i hi0 
      refine G_iload_n dX8_howManyAreBookedOn_4 rfl rfl ?_
      refine G_aload_n dX8_howManyAreBookedOn_5 rfl rfl ?_
      refine G_get dX8_howManyAreBookedOn_6 fg_X8_22 (hx_8 _ _ _) rfl ?_
      refine GL_size3 dX8_howManyAreBookedOn_9 (mc_X8_60 rfl) (Nat.le_of_ble_eq_true rfl) (Nat.le_of_ble_eq_true rfl) ?_
      refine G_icmp_ge (tgt := 42) dX8_howManyAreBookedOn_12 (by decide) (fun c12 => ?_) (fun c12 => ?_)
      · skip
        exact absurd c12 (by rw [hA.1, nI_leI (by omega) (by omega)]; omega)
      · skip
        refine G_aload_n dX8_howManyAreBookedOn_15 rfl rfl ?_
        refine G_get dX8_howManyAreBookedOn_16 fg_X8_22 (hx_8 _ _ _) rfl ?_
        refine G_iload_n dX8_howManyAreBookedOn_19 rfl rfl ?_
        refine GL_get3 (i := i) (sz := mA c) dX8_howManyAreBookedOn_20 (mc_X8_158 rfl) hY hA.1 (show i < mA c by omega) (Nat.le_trans hA.2 (by decide)) (Nat.le_of_ble_eq_true rfl) (Nat.le_of_ble_eq_true rfl) ?_
        refine G_cast (ci := 0) dX8_howManyAreBookedOn_23 rfl tw_558 (hx_A hY (show i < mA c by omega)) ?_
        refine G_aload_n dX8_howManyAreBookedOn_26 rfl rfl ?_
        refine G_callV (cx_bon i t hY hC9 (show i < mA c by omega) ht) dX8_howManyAreBookedOn_27 (mc_X8_282 rfl) tw_785 tw_786 (hx_A hY (show i < mA c by omega)) rfl rfl rfl (Nat.le_of_ble_eq_true rfl) (Nat.le_of_ble_eq_true rfl) (Nat.le_of_ble_eq_true rfl) (Nat.le_of_ble_eq_true rfl) ?_
        rintro _ n9_ _ ⟨rfl, e9_, rfl⟩
        obtain rfl := e9_.symm
        refine G_if_eq (tgt := 36) dX8_howManyAreBookedOn_30 (by decide) (fun c30 => ?_) (fun c30 => ?_)
        · skip
          rw [show nI (ct (fun a => c 24 a = 1 ∧ c 25 a = nI t) i) = nI (ct (fun a => c 24 a = 1 ∧ c 25 a = nI t) (i + 1)) from by rw [ct_f (b1_0.mp c30)]]
          refine G_iinc (b := nI (i + 1)) dX8_howManyAreBookedOn_36 rfl (nI_1 i) rfl ?_
          refine G_goto (tgt := 4) dX8_howManyAreBookedOn_39 (by decide) ?_
          exact ih (i + 1) (by omega)
        · skip
          refine G_iinc (b := nI (ct (fun a => c 24 a = 1 ∧ c 25 a = nI t) (i + 1))) dX8_howManyAreBookedOn_33 rfl (ct_add_t (b1_1 c30)) rfl ?_
          refine G_iinc (b := nI (i + 1)) dX8_howManyAreBookedOn_36 rfl (nI_1 i) rfl ?_
          refine G_goto (tgt := 4) dX8_howManyAreBookedOn_39 (by decide) ?_
          exact ih (i + 1) (by omega)
  refine G_iconst (v := 0) dX8_howManyAreBookedOn_0 rfl ?_
  refine G_istore_n dX8_howManyAreBookedOn_1 rfl (Nat.le_of_ble_eq_true rfl) rfl ?_
  refine G_iconst (v := 0) dX8_howManyAreBookedOn_2 rfl ?_
  refine G_istore_n dX8_howManyAreBookedOn_3 rfl (Nat.le_of_ble_eq_true rfl) rfl ?_
  exact loop (mA c) 0 (by omega)
set_option maxHeartbeats 4000000 in
set_option maxRecDepth 100000 in
theorem cx_freeN {g : gT} {nq_ n9 : Nat} {sm : mS} {Y : cY} {c : mS} (t : Nat) (f l : Int32) (hY : Yok Y c n9) (hC9 : c_inv c) (ht : t < mT c) : M g 3 0 0 kX8_isFreeBut [.ref 8, .null, .ref (y_a Y 7 t), .int f, .int l] nq_ (hh sm Y c) (m_Q (.int (b1 (s_free c (nI t) f l (-1)))) nq_ (hh sm Y c)) := by
  refine M_of_G (by decide +kernel) (Nat.le_of_ble_eq_true rfl) ?_
  obtain ⟨hI, hG, hgv, hov, hrw, hps⟩ := id hC9
  obtain ⟨hK, hT, hB, hP9, hA, hkf, haf, hbf⟩ := id hI
  have hA2 := hA.2
  have hT2 := hT.2
  have hK2 := hK.2
  have hB2 := hB.2
  have hG2 := hG.2
  have hP2 := hP9.2
  have loop : ∀ w9 : Value, w9.category = 1 → ∀ m i, i + m = mA c → (∀ j, j < i → ¬ nI j = (-1) → s_holds c j (nI t) → ¬ s_near f.toInt64 l.toInt64 (c 30 j).toInt64 (s_end c j).toInt64 (s_care c (nI t))) → G g 3 0 0 kX8_isFreeBut 12 [.ref 8, .null, .ref (y_a Y 7 t), .int f, .int l, .int (c 2 (ix (c 6 t))), .int (nI i), w9] [] nq_ (hh sm Y c) (m_Q (.int (b1 (s_free c (nI t) f l (-1)))) nq_ (hh sm Y c)) := by
    intro w9 hw9 m
    revert w9 hw9
    revert m
    suffices hs : ∀ m i, i + m = mA c → ∀ w9 : Value, w9.category = 1 → (∀ j, j < i → ¬ nI j = (-1) → s_holds c j (nI t) → ¬ s_near f.toInt64 l.toInt64 (c 30 j).toInt64 (s_end c j).toInt64 (s_care c (nI t))) → G g 3 0 0 kX8_isFreeBut 12 [.ref 8, .null, .ref (y_a Y 7 t), .int f, .int l, .int (c 2 (ix (c 6 t))), .int (nI i), w9] [] nq_ (hh sm Y c) (m_Q (.int (b1 (s_free c (nI t) f l (-1)))) nq_ (hh sm Y c)) from fun m w9 hw9 i hi hn => hs m i hi w9 hw9 hn
    intro m
    induction m with
    | zero =>
      intro i hi0 w9 hw9 hn
      rw [Nat.add_zero] at hi0
      refine G_iload dX8_isFreeBut_12 rfl ?_
      refine G_aload_n dX8_isFreeBut_14 rfl rfl ?_
      refine G_get dX8_isFreeBut_15 fg_X8_22 (hx_8 _ _ _) rfl ?_
      refine GL_size3 dX8_isFreeBut_18 (mc_X8_60 rfl) (Nat.le_of_ble_eq_true rfl) (Nat.le_of_ble_eq_true rfl) ?_
      refine G_icmp_ge (tgt := 86) dX8_isFreeBut_21 (by decide) (fun c21 => ?_) (fun c21 => ?_)
      · skip
        refine G_iconst (v := 1) dX8_isFreeBut_86 rfl ?_
        refine G_zret dX8_isFreeBut_87 rfl rfl ?_
        exact q_t (fun j hj => hn j (by omega))
      · skip
        exact absurd (by rw [hA.1]; exact nI_le (Nat.le_of_eq hi0.symm) (by omega)) c21
    | succ m ih =>
      intro i hi0 w9 hw9 hn
      refine G_iload dX8_isFreeBut_12 rfl ?_
      refine G_aload_n dX8_isFreeBut_14 rfl rfl ?_
      refine G_get dX8_isFreeBut_15 fg_X8_22 (hx_8 _ _ _) rfl ?_
      refine GL_size3 dX8_isFreeBut_18 (mc_X8_60 rfl) (Nat.le_of_ble_eq_true rfl) (Nat.le_of_ble_eq_true rfl) ?_
      refine G_icmp_ge (tgt := 86) dX8_isFreeBut_21 (by decide) (fun c21 => ?_) (fun c21 => ?_)
      · skip
        exact absurd c21 (by rw [hA.1, nI_leI (by omega) (by omega)]; omega)
      · skip
        refine G_aload_n dX8_isFreeBut_24 rfl rfl ?_
        refine G_get dX8_isFreeBut_25 fg_X8_22 (hx_8 _ _ _) rfl ?_
        refine G_iload dX8_isFreeBut_28 rfl ?_
        refine GL_get3 (i := i) (sz := mA c) dX8_isFreeBut_30 (mc_X8_158 rfl) hY hA.1 (show i < mA c by omega) (Nat.le_trans hA.2 (by decide)) (Nat.le_of_ble_eq_true rfl) (Nat.le_of_ble_eq_true rfl) ?_
        refine G_cast (ci := 0) dX8_isFreeBut_33 rfl tw_558 (hx_A hY (show i < mA c by omega)) ?_
        refine G_astore dX8_isFreeBut_36 (Nat.le_of_ble_eq_true rfl) rfl ?_
        refine G_aload dX8_isFreeBut_38 rfl ?_
        refine G_aload_nN dX8_isFreeBut_40 rfl rfl ?_
        refine G_acmp_eq (a := (some (y_a Y 0 i))) (b := none) (tgt := 80) dX8_isFreeBut_41 (by decide) (ap_oo (na_A hY (show i < mA c by omega)) (fun _ h9 => by cases h9)) (fun c41 => ?_) (fun c41 => ?_)
        · skip
          exact absurd c41 (by intro z; cases z)
        · skip
          refine G_aload dX8_isFreeBut_44 rfl ?_
          refine G_aload_n dX8_isFreeBut_46 rfl rfl ?_
          refine G_callV (cx_holds i t hY hC9 (show i < mA c by omega) ht) dX8_isFreeBut_47 (mc_X8_286 rfl) tw_649 tw_650 (hx_A hY (show i < mA c by omega)) rfl rfl rfl (Nat.le_of_ble_eq_true rfl) (Nat.le_of_ble_eq_true rfl) (Nat.le_of_ble_eq_true rfl) (Nat.le_of_ble_eq_true rfl) ?_
          rintro _ n9_ _ ⟨rfl, e9_, rfl⟩
          obtain rfl := e9_.symm
          refine G_if_eq (tgt := 80) dX8_isFreeBut_50 (by decide) (fun c50 => ?_) (fun c50 => ?_)
          · skip
            refine G_iinc (b := nI (i + 1)) dX8_isFreeBut_80 rfl (nI_1 i) rfl ?_
            refine G_goto (tgt := 12) dX8_isFreeBut_83 (by decide) ?_
            refine ih (i + 1) (by omega) _ rfl (fun j hj q1 q2 q3 => ?_)
            rcases Nat.lt_or_ge j i with z | z
            · exact hn j z q1 q2 q3
            · have e : j = i := by omega
              subst e
              first | exact b1_0.mp c50 q2 | (have w := b1_0.mp c75; rw [s_care, show ix (nI t) = t from nI_clamp (by omega)] at q3; exact w q3)
          · skip
            refine G_iload_n dX8_isFreeBut_53 rfl rfl ?_
            refine G_iload dX8_isFreeBut_54 rfl ?_
            refine G_aload dX8_isFreeBut_56 rfl ?_
            refine G_get dX8_isFreeBut_58 fg_X8_207 (hx_A hY (show i < mA c by omega)) rfl ?_
            refine G_aload dX8_isFreeBut_61 rfl ?_
            refine G_aload_n dX8_isFreeBut_63 rfl rfl ?_
            refine G_get dX8_isFreeBut_64 fg_X8_56 (hx_8 _ _ _) rfl ?_
            refine G_callV (cx_last i hY hC9 (show i < mA c by omega)) dX8_isFreeBut_67 (mc_X8_289 rfl) tw_653 tw_654 (hx_A hY (show i < mA c by omega)) rfl rfl rfl (Nat.le_of_ble_eq_true rfl) (Nat.le_of_ble_eq_true rfl) (Nat.le_of_ble_eq_true rfl) (Nat.le_of_ble_eq_true rfl) ?_
            rintro _ n9_ _ ⟨rfl, e9_, rfl⟩
            obtain rfl := e9_.symm
            refine G_iload dX8_isFreeBut_70 rfl ?_
            refine G_callS (cx_near _ _ _ _ _) dX8_isFreeBut_72 (mc_X8_292 rfl) tw_658 rfl rfl (Nat.le_of_ble_eq_true rfl) (Nat.le_of_ble_eq_true rfl) (Nat.le_of_ble_eq_true rfl) (Nat.le_of_ble_eq_true rfl) ?_
            rintro _ n9_ _ ⟨rfl, e9_, rfl⟩
            obtain rfl := e9_.symm
            refine G_if_eq (tgt := 80) dX8_isFreeBut_75 (by decide) (fun c75 => ?_) (fun c75 => ?_)
            · skip
              refine G_iinc (b := nI (i + 1)) dX8_isFreeBut_80 rfl (nI_1 i) rfl ?_
              refine G_goto (tgt := 12) dX8_isFreeBut_83 (by decide) ?_
              refine ih (i + 1) (by omega) _ rfl (fun j hj q1 q2 q3 => ?_)
              rcases Nat.lt_or_ge j i with z | z
              · exact hn j z q1 q2 q3
              · have e : j = i := by omega
                subst e
                first | exact b1_0.mp c50 q2 | (have w := b1_0.mp c75; rw [s_care, show ix (nI t) = t from nI_clamp (by omega)] at q3; exact w q3)
            · skip
              refine G_iconst (v := 0) dX8_isFreeBut_78 rfl ?_
              refine G_zret dX8_isFreeBut_79 rfl rfl ?_
              exact ⟨by rw [b1_f (fun q => q i (by omega) (fun z => absurd z (oI_ne (by omega))) (b1_1 c50) (by have := b1_1 c75; rw [s_care, show ix (nI t) = t from nI_clamp (by omega)]; exact this))], rfl, rfl⟩
  refine G_aload_n dX8_isFreeBut_0 rfl rfl ?_
  refine G_get dX8_isFreeBut_1 fg_X8_210 (hx_T hY ht) rfl ?_
  refine G_get dX8_isFreeBut_4 fg_X8_240 (hx_K hY (hkf _ ht).2) rfl ?_
  refine G_istore dX8_isFreeBut_7 (Nat.le_of_ble_eq_true rfl) rfl ?_
  refine G_iconst (v := 0) dX8_isFreeBut_9 rfl ?_
  refine G_istore dX8_isFreeBut_10 (Nat.le_of_ble_eq_true rfl) rfl ?_
  exact loop (.retAddr 0) rfl (mA c) 0 (by omega) (fun j hj => absurd hj (Nat.not_lt_zero j))
set_option maxHeartbeats 4000000 in
set_option maxRecDepth 100000 in
theorem cx_freeA {g : gT} {nq_ n9 : Nat} {sm : mS} {Y : cY} {c : mS} (b : Nat) (t : Nat) (f l : Int32) (hY : Yok Y c n9) (hC9 : c_inv c) (hb : b < mA c) (ht : t < mT c) : M g 3 0 0 kX8_isFreeBut [.ref 8, .ref (y_a Y 0 b), .ref (y_a Y 7 t), .int f, .int l] nq_ (hh sm Y c) (m_Q (.int (b1 (s_free c (nI t) f l (nI b)))) nq_ (hh sm Y c)) := by
  refine M_of_G (by decide +kernel) (Nat.le_of_ble_eq_true rfl) ?_
  obtain ⟨hI, hG, hgv, hov, hrw, hps⟩ := id hC9
  obtain ⟨hK, hT, hB, hP9, hA, hkf, haf, hbf⟩ := id hI
  have hA2 := hA.2
  have hT2 := hT.2
  have hK2 := hK.2
  have hB2 := hB.2
  have hG2 := hG.2
  have hP2 := hP9.2
  have loop : ∀ w9 : Value, w9.category = 1 → ∀ m i, i + m = mA c → (∀ j, j < i → ¬ nI j = (nI b) → s_holds c j (nI t) → ¬ s_near f.toInt64 l.toInt64 (c 30 j).toInt64 (s_end c j).toInt64 (s_care c (nI t))) → G g 3 0 0 kX8_isFreeBut 12 [.ref 8, .ref (y_a Y 0 b), .ref (y_a Y 7 t), .int f, .int l, .int (c 2 (ix (c 6 t))), .int (nI i), w9] [] nq_ (hh sm Y c) (m_Q (.int (b1 (s_free c (nI t) f l (nI b)))) nq_ (hh sm Y c)) := by
    intro w9 hw9 m
    revert w9 hw9
    revert m
    suffices hs : ∀ m i, i + m = mA c → ∀ w9 : Value, w9.category = 1 → (∀ j, j < i → ¬ nI j = (nI b) → s_holds c j (nI t) → ¬ s_near f.toInt64 l.toInt64 (c 30 j).toInt64 (s_end c j).toInt64 (s_care c (nI t))) → G g 3 0 0 kX8_isFreeBut 12 [.ref 8, .ref (y_a Y 0 b), .ref (y_a Y 7 t), .int f, .int l, .int (c 2 (ix (c 6 t))), .int (nI i), w9] [] nq_ (hh sm Y c) (m_Q (.int (b1 (s_free c (nI t) f l (nI b)))) nq_ (hh sm Y c)) from fun m w9 hw9 i hi hn => hs m i hi w9 hw9 hn
    intro m
    induction m with
    | zero =>
      intro i hi0 w9 hw9 hn
      rw [Nat.add_zero] at hi0
      refine G_iload dX8_isFreeBut_12 rfl ?_
      refine G_aload_n dX8_isFreeBut_14 rfl rfl ?_
      refine G_get dX8_isFreeBut_15 fg_X8_22 (hx_8 _ _ _) rfl ?_
      refine GL_size3 dX8_isFreeBut_18 (mc_X8_60 rfl) (Nat.le_of_ble_eq_true rfl) (Nat.le_of_ble_eq_true rfl) ?_
      refine G_icmp_ge (tgt := 86) dX8_isFreeBut_21 (by decide) (fun c21 => ?_) (fun c21 => ?_)
      · skip
        refine G_iconst (v := 1) dX8_isFreeBut_86 rfl ?_
        refine G_zret dX8_isFreeBut_87 rfl rfl ?_
        exact q_t (fun j hj => hn j (by omega))
      · skip
        exact absurd (by rw [hA.1]; exact nI_le (Nat.le_of_eq hi0.symm) (by omega)) c21
    | succ m ih =>
      intro i hi0 w9 hw9 hn
      refine G_iload dX8_isFreeBut_12 rfl ?_
      refine G_aload_n dX8_isFreeBut_14 rfl rfl ?_
      refine G_get dX8_isFreeBut_15 fg_X8_22 (hx_8 _ _ _) rfl ?_
      refine GL_size3 dX8_isFreeBut_18 (mc_X8_60 rfl) (Nat.le_of_ble_eq_true rfl) (Nat.le_of_ble_eq_true rfl) ?_
      refine G_icmp_ge (tgt := 86) dX8_isFreeBut_21 (by decide) (fun c21 => ?_) (fun c21 => ?_)
      · skip
        exact absurd c21 (by rw [hA.1, nI_leI (by omega) (by omega)]; omega)
      · skip
        refine G_aload_n dX8_isFreeBut_24 rfl rfl ?_
        refine G_get dX8_isFreeBut_25 fg_X8_22 (hx_8 _ _ _) rfl ?_
        refine G_iload dX8_isFreeBut_28 rfl ?_
        refine GL_get3 (i := i) (sz := mA c) dX8_isFreeBut_30 (mc_X8_158 rfl) hY hA.1 (show i < mA c by omega) (Nat.le_trans hA.2 (by decide)) (Nat.le_of_ble_eq_true rfl) (Nat.le_of_ble_eq_true rfl) ?_
        refine G_cast (ci := 0) dX8_isFreeBut_33 rfl tw_558 (hx_A hY (show i < mA c by omega)) ?_
        refine G_astore dX8_isFreeBut_36 (Nat.le_of_ble_eq_true rfl) rfl ?_
        refine G_aload dX8_isFreeBut_38 rfl ?_
        refine G_aload_n dX8_isFreeBut_40 rfl rfl ?_
        refine G_acmp_eq (a := (some (y_a Y 0 i))) (b := (some (y_a Y 0 b))) (tgt := 80) dX8_isFreeBut_41 (by decide) (ap_oo (na_A hY (show i < mA c by omega)) (na_A hY hb)) (fun c41 => ?_) (fun c41 => ?_)
        · skip
          refine G_iinc (b := nI (i + 1)) dX8_isFreeBut_80 rfl (nI_1 i) rfl ?_
          refine G_goto (tgt := 12) dX8_isFreeBut_83 (by decide) ?_
          refine ih (i + 1) (by omega) _ rfl (fun j hj q1 q2 q3 => ?_)
          rcases Nat.lt_or_ge j i with z | z
          · exact hn j z q1 q2 q3
          · have e : j = i := by omega
            subst e
            first | exact q1 (by rw [yi_A hY (show _ < mA c by omega) hb (Option.some.inj c41)]) | exact b1_0.mp c50 q2 | (have w := b1_0.mp c75; rw [s_care, show ix (nI t) = t from nI_clamp (by omega)] at q3; exact w q3)
        · skip
          refine G_aload dX8_isFreeBut_44 rfl ?_
          refine G_aload_n dX8_isFreeBut_46 rfl rfl ?_
          refine G_callV (cx_holds i t hY hC9 (show i < mA c by omega) ht) dX8_isFreeBut_47 (mc_X8_286 rfl) tw_649 tw_650 (hx_A hY (show i < mA c by omega)) rfl rfl rfl (Nat.le_of_ble_eq_true rfl) (Nat.le_of_ble_eq_true rfl) (Nat.le_of_ble_eq_true rfl) (Nat.le_of_ble_eq_true rfl) ?_
          rintro _ n9_ _ ⟨rfl, e9_, rfl⟩
          obtain rfl := e9_.symm
          refine G_if_eq (tgt := 80) dX8_isFreeBut_50 (by decide) (fun c50 => ?_) (fun c50 => ?_)
          · skip
            refine G_iinc (b := nI (i + 1)) dX8_isFreeBut_80 rfl (nI_1 i) rfl ?_
            refine G_goto (tgt := 12) dX8_isFreeBut_83 (by decide) ?_
            refine ih (i + 1) (by omega) _ rfl (fun j hj q1 q2 q3 => ?_)
            rcases Nat.lt_or_ge j i with z | z
            · exact hn j z q1 q2 q3
            · have e : j = i := by omega
              subst e
              first | exact q1 (by rw [yi_A hY (show _ < mA c by omega) hb (Option.some.inj c41)]) | exact b1_0.mp c50 q2 | (have w := b1_0.mp c75; rw [s_care, show ix (nI t) = t from nI_clamp (by omega)] at q3; exact w q3)
          · skip
            refine G_iload_n dX8_isFreeBut_53 rfl rfl ?_
            refine G_iload dX8_isFreeBut_54 rfl ?_
            refine G_aload dX8_isFreeBut_56 rfl ?_
            refine G_get dX8_isFreeBut_58 fg_X8_207 (hx_A hY (show i < mA c by omega)) rfl ?_
            refine G_aload dX8_isFreeBut_61 rfl ?_
            refine G_aload_n dX8_isFreeBut_63 rfl rfl ?_
            refine G_get dX8_isFreeBut_64 fg_X8_56 (hx_8 _ _ _) rfl ?_
            refine G_callV (cx_last i hY hC9 (show i < mA c by omega)) dX8_isFreeBut_67 (mc_X8_289 rfl) tw_653 tw_654 (hx_A hY (show i < mA c by omega)) rfl rfl rfl (Nat.le_of_ble_eq_true rfl) (Nat.le_of_ble_eq_true rfl) (Nat.le_of_ble_eq_true rfl) (Nat.le_of_ble_eq_true rfl) ?_
            rintro _ n9_ _ ⟨rfl, e9_, rfl⟩
            obtain rfl := e9_.symm
            refine G_iload dX8_isFreeBut_70 rfl ?_
            refine G_callS (cx_near _ _ _ _ _) dX8_isFreeBut_72 (mc_X8_292 rfl) tw_658 rfl rfl (Nat.le_of_ble_eq_true rfl) (Nat.le_of_ble_eq_true rfl) (Nat.le_of_ble_eq_true rfl) (Nat.le_of_ble_eq_true rfl) ?_
            rintro _ n9_ _ ⟨rfl, e9_, rfl⟩
            obtain rfl := e9_.symm
            refine G_if_eq (tgt := 80) dX8_isFreeBut_75 (by decide) (fun c75 => ?_) (fun c75 => ?_)
            · skip
              refine G_iinc (b := nI (i + 1)) dX8_isFreeBut_80 rfl (nI_1 i) rfl ?_
              refine G_goto (tgt := 12) dX8_isFreeBut_83 (by decide) ?_
              refine ih (i + 1) (by omega) _ rfl (fun j hj q1 q2 q3 => ?_)
              rcases Nat.lt_or_ge j i with z | z
              · exact hn j z q1 q2 q3
              · have e : j = i := by omega
                subst e
                first | exact q1 (by rw [yi_A hY (show _ < mA c by omega) hb (Option.some.inj c41)]) | exact b1_0.mp c50 q2 | (have w := b1_0.mp c75; rw [s_care, show ix (nI t) = t from nI_clamp (by omega)] at q3; exact w q3)
            · skip
              refine G_iconst (v := 0) dX8_isFreeBut_78 rfl ?_
              refine G_zret dX8_isFreeBut_79 rfl rfl ?_
              exact ⟨by rw [b1_f (fun q => q i (by omega) (fun z => c41 (by rw [(nI_eq (by omega) (by omega)).mp z])) (b1_1 c50) (by have := b1_1 c75; rw [s_care, show ix (nI t) = t from nI_clamp (by omega)]; exact this))], rfl, rfl⟩
  refine G_aload_n dX8_isFreeBut_0 rfl rfl ?_
  refine G_get dX8_isFreeBut_1 fg_X8_210 (hx_T hY ht) rfl ?_
  refine G_get dX8_isFreeBut_4 fg_X8_240 (hx_K hY (hkf _ ht).2) rfl ?_
  refine G_istore dX8_isFreeBut_7 (Nat.le_of_ble_eq_true rfl) rfl ?_
  refine G_iconst (v := 0) dX8_isFreeBut_9 rfl ?_
  refine G_istore dX8_isFreeBut_10 (Nat.le_of_ble_eq_true rfl) rfl ?_
  exact loop (.retAddr 0) rfl (mA c) 0 (by omega) (fun j hj => absurd hj (Nat.not_lt_zero j))
