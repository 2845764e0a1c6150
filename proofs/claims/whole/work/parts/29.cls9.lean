noncomputable def c_bg (c : mS) (k : Nat) : Nat → Nat × Int32
  | 0 => (0, 0)
  | i + 1 => cif ((c_bg c k i).2 ≤ c 30 (ix (c 80 i)) ∧ s_fits c k (ix (c 80 i))) ((c_bg c k i).1 + 1, c 31 (ix (c 80 i)) + c 2 k + 1) (c_bg c k i)
noncomputable def cp_buy (c : mS) (v : Int32) : mS × Int32 := (c, cif (wi v 0 (c 1 0 - 1)) (nI (c_bg c (ix v) (mL c)).1) (-1))
set_option maxHeartbeats 4000000 in
set_option maxRecDepth 100000 in
theorem cp9_buy {g : gT} {nq_ n9 : Nat} {sm : mS} {Y : cY} {c : mS} (v : Int32) (hY : Yok Y c n9) (hC9 : c_inv c) : M g 4 0 0 kX8_buy [.ref 8, .int v] nq_ (hh sm Y c) (c_S (.int (cp_buy c v).2) nq_ sm Y (cp_buy c v).1) := by
  refine M_of_G (by decide +kernel) (Nat.le_of_ble_eq_true rfl) ?_
  obtain ⟨hI, hG, hgv, hov, hrw, hps⟩ := id hC9
  obtain ⟨hK, hT, hB, hP9, hA, hkf, haf, hbf⟩ := id hI
  have hA2 := hA.2
  have hT2 := hT.2
  have hK2 := hK.2
  have hB2 := hB.2
  have hG2 := hG.2
  have hP2 := hP9.2
  refine G_aload_n dX8_buy_0 rfl rfl ?_
  refine G_iload_n dX8_buy_1 rfl rfl ?_
  refine G_callV (cx_kindAt v hY hC9) dX8_buy_2 (mc_X8_77 rfl) tw_328 tw_3 (hx_8 _ _ _) rfl rfl rfl (Nat.le_of_ble_eq_true rfl) (Nat.le_of_ble_eq_true rfl) (Nat.le_of_ble_eq_true rfl) (Nat.le_of_ble_eq_true rfl) ?_
  rintro _ n9_ _ ⟨rfl, e9_, rfl⟩
  obtain rfl := e9_.symm
  by_cases hw2 : wi v 0 (c 1 0 - 1)
  · obtain ⟨j, hj, rfl⟩ := m_ixe hK (by decide) hw2
    have ej : ix (nI j) = j := nI_clamp (by omega)
    refine G_top (w := .ref (y_a Y 1 j)) (by unfold oW; rw [cif_t hw2, ej]; rfl) ?_
    refine G_astore_n dX8_buy_5 rfl (Nat.le_of_ble_eq_true rfl) rfl ?_
    refine G_aload_n dX8_buy_6 rfl rfl ?_
    refine G_ifnonnull (tgt := 12) dX8_buy_7 (by decide) ?_
    refine G_iconst (v := 0) dX8_buy_12 rfl ?_
    refine G_istore_n dX8_buy_13 rfl (Nat.le_of_ble_eq_true rfl) rfl ?_
    refine G_iconst (v := 0) dX8_buy_14 rfl ?_
    refine G_istore dX8_buy_15 (Nat.le_of_ble_eq_true rfl) rfl ?_
    refine G_iconst (v := 0) dX8_buy_17 rfl ?_
    refine G_istore dX8_buy_18 (Nat.le_of_ble_eq_true rfl) rfl ?_
    have loop : ∀ m i, i + m = mL c → ∀ w9 : Value, w9.category = 1 → G g 4 0 0 kX8_buy 20 [.ref 8, .int (nI j), .ref (y_a Y 1 j), .int (nI (c_bg c j i).1), .int (c_bg c j i).2, .int (nI i), w9] [] nq_ (hh sm Y c) (c_S (.int (cp_buy c (nI j)).2) nq_ sm Y (cp_buy c (nI j)).1) := by
      intro m
      induction m with
      | zero =>
        intro i hi0 w9 hw9
        rw [Nat.add_zero] at hi0
        refine G_iload dX8_buy_20 rfl ?_
        refine G_aload_n dX8_buy_22 rfl rfl ?_
        refine G_get dX8_buy_23 fg_X8_25 (hx_8 _ _ _) rfl ?_
        refine GL_size4 dX8_buy_26 (mc_X8_60 rfl) (Nat.le_of_ble_eq_true rfl) (Nat.le_of_ble_eq_true rfl) ?_
        refine G_icmp_ge (tgt := 88) dX8_buy_29 (by decide) (fun c29 => ?_) (fun c29 => ?_)
        · skip
          refine G_iload_n dX8_buy_88 rfl rfl ?_
          refine G_iret dX8_buy_89 rfl ?_
          refine c_close (Prod.ext rfl ?_)
          show cif _ (nI (c_bg c (ix (nI j)) (mL c)).1) _ = _
          rw [ej, cif_t hw2, ← hi0]
        · skip
          exact absurd (by rw [hG.1]; exact nI_le (Nat.le_of_eq hi0.symm) (by omega)) c29
      | succ m ih =>
        intro i hi0 w9 hw9
        refine G_iload dX8_buy_20 rfl ?_
        refine G_aload_n dX8_buy_22 rfl rfl ?_
        refine G_get dX8_buy_23 fg_X8_25 (hx_8 _ _ _) rfl ?_
        refine GL_size4 dX8_buy_26 (mc_X8_60 rfl) (Nat.le_of_ble_eq_true rfl) (Nat.le_of_ble_eq_true rfl) ?_
        refine G_icmp_ge (tgt := 88) dX8_buy_29 (by decide) (fun c29 => ?_) (fun c29 => ?_)
        · skip
          exact absurd c29 (by rw [hG.1, nI_leI (by omega) (by omega)]; omega)
        · skip
          refine G_aload_n dX8_buy_32 rfl rfl ?_
          refine G_get dX8_buy_33 fg_X8_25 (hx_8 _ _ _) rfl ?_
          refine G_iload dX8_buy_36 rfl ?_
          refine GL_get4 (i := i) (sz := mL c) dX8_buy_38 (mc_X8_158 rfl) hY hG.1 (show i < mL c by omega) (Nat.le_trans hG.2 (by decide)) (Nat.le_of_ble_eq_true rfl) (Nat.le_of_ble_eq_true rfl) ?_
          refine G_cast (ci := 0) dX8_buy_41 rfl tw_558 (hx_A hY (hgv _ (show i < mL c by omega)).2) ?_
          refine G_astore dX8_buy_44 (Nat.le_of_ble_eq_true rfl) rfl ?_
          refine G_aload dX8_buy_46 rfl ?_
          refine G_get dX8_buy_48 fg_X8_207 (hx_A hY (hgv _ (show i < mL c by omega)).2) rfl ?_
          refine G_iload dX8_buy_51 rfl ?_
          refine G_icmp_lt (tgt := 82) dX8_buy_53 (by decide) (fun c53 => ?_) (fun c53 => ?_)
          · skip
            refine G_iinc (b := nI (i + 1)) dX8_buy_82 rfl (nI_1 i) rfl ?_
            refine G_goto (tgt := 20) dX8_buy_85 (by decide) ?_
            first | (have z9 := ih (i + 1) (by omega) (.ref (y_a Y 0 (ix (c 80 i)))) rfl; rw [show c_bg c j (i + 1) = c_bg c j i from cif_f (fun q => absurd q.1 (Int32.not_le.mpr c53))] at z9; exact z9) | (have z9 := ih (i + 1) (by omega) (.ref (y_a Y 0 (ix (c 80 i)))) rfl; rw [show c_bg c j (i + 1) = c_bg c j i from cif_f (fun q => b1_0.mp c62 q.2)] at z9; exact z9) | (have z9 := ih (i + 1) (by omega) (.ref (y_a Y 0 (ix (c 80 i)))) rfl; rw [show c_bg c j (i + 1) = ((c_bg c j i).1 + 1, c 31 (ix (c 80 i)) + c 2 j + 1) from cif_t ⟨Int32.not_lt.mp c53, b1_1 c62⟩] at z9; exact z9)
          · skip
            refine G_aload_n dX8_buy_56 rfl rfl ?_
            refine G_aload dX8_buy_57 rfl ?_
            refine G_callV (cx_fits j _ hY hC9 hj (hgv i (by omega)).2) dX8_buy_59 (mc_X8_236 rfl) tw_637 tw_638 (hx_K hY hj) rfl rfl rfl (Nat.le_of_ble_eq_true rfl) (Nat.le_of_ble_eq_true rfl) (Nat.le_of_ble_eq_true rfl) (Nat.le_of_ble_eq_true rfl) ?_
            rintro _ n9_ _ ⟨rfl, e9_, rfl⟩
            obtain rfl := e9_.symm
            refine G_if_eq (tgt := 82) dX8_buy_62 (by decide) (fun c62 => ?_) (fun c62 => ?_)
            · skip
              refine G_iinc (b := nI (i + 1)) dX8_buy_82 rfl (nI_1 i) rfl ?_
              refine G_goto (tgt := 20) dX8_buy_85 (by decide) ?_
              first | (have z9 := ih (i + 1) (by omega) (.ref (y_a Y 0 (ix (c 80 i)))) rfl; rw [show c_bg c j (i + 1) = c_bg c j i from cif_f (fun q => absurd q.1 (Int32.not_le.mpr c53))] at z9; exact z9) | (have z9 := ih (i + 1) (by omega) (.ref (y_a Y 0 (ix (c 80 i)))) rfl; rw [show c_bg c j (i + 1) = c_bg c j i from cif_f (fun q => b1_0.mp c62 q.2)] at z9; exact z9) | (have z9 := ih (i + 1) (by omega) (.ref (y_a Y 0 (ix (c 80 i)))) rfl; rw [show c_bg c j (i + 1) = ((c_bg c j i).1 + 1, c 31 (ix (c 80 i)) + c 2 j + 1) from cif_t ⟨Int32.not_lt.mp c53, b1_1 c62⟩] at z9; exact z9)
            · skip
              refine G_iinc (b := nI ((c_bg c j i).1 + 1)) dX8_buy_65 rfl (nI_1 _) rfl ?_
              refine G_aload dX8_buy_68 rfl ?_
              refine G_get dX8_buy_70 fg_X8_198 (hx_A hY (hgv _ (show i < mL c by omega)).2) rfl ?_
              refine G_aload_n dX8_buy_73 rfl rfl ?_
              refine G_get dX8_buy_74 fg_X8_240 (hx_K hY hj) rfl ?_
              refine G_iadd dX8_buy_77 ?_
              refine G_iconst (v := 1) dX8_buy_78 rfl ?_
              refine G_iadd dX8_buy_79 ?_
              refine G_istore dX8_buy_80 (Nat.le_of_ble_eq_true rfl) rfl ?_
              refine G_iinc (b := nI (i + 1)) dX8_buy_82 rfl (nI_1 i) rfl ?_
              refine G_goto (tgt := 20) dX8_buy_85 (by decide) ?_
              first | (have z9 := ih (i + 1) (by omega) (.ref (y_a Y 0 (ix (c 80 i)))) rfl; rw [show c_bg c j (i + 1) = c_bg c j i from cif_f (fun q => absurd q.1 (Int32.not_le.mpr c53))] at z9; exact z9) | (have z9 := ih (i + 1) (by omega) (.ref (y_a Y 0 (ix (c 80 i)))) rfl; rw [show c_bg c j (i + 1) = c_bg c j i from cif_f (fun q => b1_0.mp c62 q.2)] at z9; exact z9) | (have z9 := ih (i + 1) (by omega) (.ref (y_a Y 0 (ix (c 80 i)))) rfl; rw [show c_bg c j (i + 1) = ((c_bg c j i).1 + 1, c 31 (ix (c 80 i)) + c 2 j + 1) from cif_t ⟨Int32.not_lt.mp c53, b1_1 c62⟩] at z9; exact z9)
    exact loop (mL c) 0 (by omega) (.retAddr 0) rfl
  · refine G_top (w := .null) (by unfold oW; rw [cif_f hw2]; rfl) ?_
    refine G_astore_nN dX8_buy_5 rfl (Nat.le_of_ble_eq_true rfl) rfl ?_
    refine G_aload_nN dX8_buy_6 rfl rfl ?_
    refine G_ifnonnullN dX8_buy_7 ?_
    refine G_iconst (v := -1) dX8_buy_10 rfl ?_
    refine G_iret dX8_buy_11 rfl ?_
    exact c_close (Prod.ext rfl (cif_f hw2))
theorem c_inv_st {c : mS} {a : Nat} {v : Int32} (h : c_inv c) (h1 : ¬ v = 1) (h3 : ¬ v = 3) : c_inv (m_set c 24 a v) := ⟨m_inv_st h.1 h1 h3, h.2⟩
theorem c_inv_on {c : mS} {a t : Nat} (h : c_inv c) (ht : t < mT c) : c_inv (m_set c 25 a (nI t)) := ⟨m_inv_on h.1 ht, h.2⟩
theorem c_inv_26 {c : mS} {a : Nat} {v : Int32} (h : c_inv c) : c_inv (m_set c 26 a v) := h
theorem c_inv_11 {c : mS} {v : Int32} (h : c_inv c) : c_inv (m_set c 11 0 v) := h
noncomputable def ls_r : Nat → Nat → mS → mS
  | 0, _, c => c
  | m + 1, i, c => ls_r m (i + 1) (cif (c 24 i = 1 ∧ c 31 i < c 11 0) (m_set c 24 i 5) c)
theorem ls_r_eq (c : mS) : ∀ m i, ls_r m i (ls_l c i) = ls_l c (i + m)
  | 0, i => rfl
  | m + 1, i => by
    have e : cif (ls_l c i 24 i = 1 ∧ ls_l c i 31 i < ls_l c i 11 0) (m_set (ls_l c i) 24 i 5) (ls_l c i) = ls_l c (i + 1) := by
      rw [ls_l_24 c i i (Nat.le_refl _), ls_l_o c (by decide) i, ls_l_o c (by decide) i]
      rfl
    show ls_r m (i + 1) (cif _ _ _) = _
    rw [e, ls_r_eq c m (i + 1)]
    congr 1
    omega
set_option maxHeartbeats 4000000 in
set_option maxRecDepth 100000 in
theorem cx_lose {g : gT} {nq_ n9 : Nat} {sm : mS} {Y : cY} {c fin : mS} (hY : Yok Y c n9) (hC9 : c_inv c) (he : fin = ls_l c (mA c)) : M g 3 0 0 kX8_loseWhatIsOver [.ref 8] nq_ (hh sm Y c) (c_V nq_ sm Y fin) := by
  refine M_of_G (by decide +kernel) (Nat.le_of_ble_eq_true rfl) ?_
  have loop : ∀ m i (c : mS) (w9 : Value), w9.category = 1 → c_inv c → Yok Y c n9 → i + m = mA c → fin = ls_r m i c → G g 3 0 0 kX8_loseWhatIsOver 2 [.ref 8, .int (nI i), w9] [] nq_ (hh sm Y c) (c_V nq_ sm Y fin) := by
    intro m
    induction m with
    | zero =>
      intro i c w9 hw9 hC9 hY hi0 hs
      obtain ⟨hI, hG, hgv, hov, hrw, hps⟩ := id hC9
      obtain ⟨hK, hT, hB, hP9, hA, hkf, haf, hbf⟩ := id hI
      have hA2 := hA.2
      have hT2 := hT.2
      have hK2 := hK.2
      have hB2 := hB.2
      have hG2 := hG.2
      have hP2 := hP9.2
      refine G_iload_n dX8_loseWhatIsOver_2 rfl rfl ?_
      refine G_aload_n dX8_loseWhatIsOver_3 rfl rfl ?_
      refine G_get dX8_loseWhatIsOver_4 fg_X8_22 (hx_8 _ _ _) rfl ?_
      refine GL_size3 dX8_loseWhatIsOver_7 (mc_X8_60 rfl) (Nat.le_of_ble_eq_true rfl) (Nat.le_of_ble_eq_true rfl) ?_
      refine G_icmp_ge (tgt := 55) dX8_loseWhatIsOver_10 (by decide) (fun c10 => ?_) (fun c10 => ?_)
      · skip
        refine G_vret dX8_loseWhatIsOver_55 rfl ?_
        exact v_cc hs
      · skip
        exact absurd (by rw [hA.1]; exact nI_le (by omega) (by omega)) c10
    | succ m ih =>
      intro i c w9 hw9 hC9 hY hi0 hs
      obtain ⟨hI, hG, hgv, hov, hrw, hps⟩ := id hC9
      obtain ⟨hK, hT, hB, hP9, hA, hkf, haf, hbf⟩ := id hI
      have hA2 := hA.2
      have hT2 := hT.2
      have hK2 := hK.2
      have hB2 := hB.2
      have hG2 := hG.2
      have hP2 := hP9.2
      have hi : i < mA c := by omega
      refine G_iload_n dX8_loseWhatIsOver_2 rfl rfl ?_
      refine G_aload_n dX8_loseWhatIsOver_3 rfl rfl ?_
      refine G_get dX8_loseWhatIsOver_4 fg_X8_22 (hx_8 _ _ _) rfl ?_
      refine GL_size3 dX8_loseWhatIsOver_7 (mc_X8_60 rfl) (Nat.le_of_ble_eq_true rfl) (Nat.le_of_ble_eq_true rfl) ?_
      refine G_icmp_ge (tgt := 55) dX8_loseWhatIsOver_10 (by decide) (fun c10 => ?_) (fun c10 => ?_)
      · skip
        exact absurd c10 (by rw [hA.1, nI_leI (by omega) (by omega)]; omega)
      · skip
        refine G_aload_n dX8_loseWhatIsOver_13 rfl rfl ?_
        refine G_get dX8_loseWhatIsOver_14 fg_X8_22 (hx_8 _ _ _) rfl ?_
        refine G_iload_n dX8_loseWhatIsOver_17 rfl rfl ?_
        refine GL_get3 (i := i) (sz := mA c) dX8_loseWhatIsOver_18 (mc_X8_158 rfl) hY hA.1 hi (Nat.le_trans hA.2 (by decide)) (Nat.le_of_ble_eq_true rfl) (Nat.le_of_ble_eq_true rfl) ?_
        refine G_cast (ci := 0) dX8_loseWhatIsOver_21 rfl tw_558 (hx_A hY hi) ?_
        refine G_astore_n dX8_loseWhatIsOver_24 rfl (Nat.le_of_ble_eq_true rfl) rfl ?_
        refine G_aload_n dX8_loseWhatIsOver_25 rfl rfl ?_
        refine G_get dX8_loseWhatIsOver_26 fg_X8_162 (hx_A hY hi) rfl ?_
        refine G_iconst (v := 1) dX8_loseWhatIsOver_29 rfl ?_
        refine G_icmp_ne (tgt := 49) dX8_loseWhatIsOver_30 (by decide) (fun c30 => ?_) (fun c30 => ?_)
        · skip
          refine G_iinc (b := nI (i + 1)) dX8_loseWhatIsOver_49 rfl (nI_1 i) rfl ?_
          refine G_goto (tgt := 2) dX8_loseWhatIsOver_52 (by decide) ?_
          first | exact ih (i + 1) _ _ rfl hC9 hY (by omega) (hs.trans (congrArg (ls_r m (i + 1)) (cif_f (fun q => c30 q.1)))) | exact ih (i + 1) _ _ rfl hC9 hY (by omega) (hs.trans (congrArg (ls_r m (i + 1)) (cif_f (fun q => absurd q.2 (Int32.not_lt.mpr c41))))) | exact ih (i + 1) _ _ rfl (c_inv_st hC9 (by decide) (by decide)) (hY.same rfl rfl rfl rfl rfl) (by show _ = mA c; omega) (hs.trans (congrArg (ls_r m (i + 1)) (cif_t ⟨c30, Int32.not_le.mp c41⟩)))
        · skip
          refine G_aload_n dX8_loseWhatIsOver_33 rfl rfl ?_
          refine G_get dX8_loseWhatIsOver_34 fg_X8_198 (hx_A hY hi) rfl ?_
          refine G_aload_n dX8_loseWhatIsOver_37 rfl rfl ?_
          refine G_get dX8_loseWhatIsOver_38 fg_X8_56 (hx_8 _ _ _) rfl ?_
          refine G_icmp_ge (tgt := 49) dX8_loseWhatIsOver_41 (by decide) (fun c41 => ?_) (fun c41 => ?_)
          · skip
            refine G_iinc (b := nI (i + 1)) dX8_loseWhatIsOver_49 rfl (nI_1 i) rfl ?_
            refine G_goto (tgt := 2) dX8_loseWhatIsOver_52 (by decide) ?_
            first | exact ih (i + 1) _ _ rfl hC9 hY (by omega) (hs.trans (congrArg (ls_r m (i + 1)) (cif_f (fun q => c30 q.1)))) | exact ih (i + 1) _ _ rfl hC9 hY (by omega) (hs.trans (congrArg (ls_r m (i + 1)) (cif_f (fun q => absurd q.2 (Int32.not_lt.mpr c41))))) | exact ih (i + 1) _ _ rfl (c_inv_st hC9 (by decide) (by decide)) (hY.same rfl rfl rfl rfl rfl) (by show _ = mA c; omega) (hs.trans (congrArg (ls_r m (i + 1)) (cif_t ⟨c30, Int32.not_le.mp c41⟩)))
          · skip
            refine G_aload_n dX8_loseWhatIsOver_44 rfl rfl ?_
            refine G_iconst (v := 5) dX8_loseWhatIsOver_45 rfl ?_
            refine GC_state dX8_loseWhatIsOver_46 fp_X8_162 hY hi ?_
            refine G_iinc (b := nI (i + 1)) dX8_loseWhatIsOver_49 rfl (nI_1 i) rfl ?_
            refine G_goto (tgt := 2) dX8_loseWhatIsOver_52 (by decide) ?_
            first | exact ih (i + 1) _ _ rfl hC9 hY (by omega) (hs.trans (congrArg (ls_r m (i + 1)) (cif_f (fun q => c30 q.1)))) | exact ih (i + 1) _ _ rfl hC9 hY (by omega) (hs.trans (congrArg (ls_r m (i + 1)) (cif_f (fun q => absurd q.2 (Int32.not_lt.mpr c41))))) | exact ih (i + 1) _ _ rfl (c_inv_st hC9 (by decide) (by decide)) (hY.same rfl rfl rfl rfl rfl) (by show _ = mA c; omega) (hs.trans (congrArg (ls_r m (i + 1)) (cif_t ⟨c30, Int32.not_le.mp c41⟩)))
  have h0 := loop (mA c) 0 c (.retAddr 0) rfl hC9 hY (by omega) (he.trans (by rw [show ls_r (mA c) 0 c = ls_l c (0 + mA c) from ls_r_eq c (mA c) 0, Nat.zero_add]))
  refine G_iconst (v := 0) dX8_loseWhatIsOver_0 rfl ?_
  refine G_istore_n dX8_loseWhatIsOver_1 rfl (Nat.le_of_ble_eq_true rfl) rfl ?_
  exact h0
def c_must (c : mS) (a : Nat) : Prop := c 24 a = 1 ∧ ¬ c 25 a = -1 ∧ c_late c (ix (c 25 a)) ∧ ¬ s_free c (nI (ix (c 25 a))) (c 30 a) (c 31 a) (nI a)
set_option maxHeartbeats 4000000 in
set_option maxRecDepth 100000 in
theorem cx_must {g : gT} {nq_ n9 : Nat} {sm : mS} {Y : cY} {c : mS} (a : Nat) (hY : Yok Y c n9) (hC9 : c_inv c) (ha : a < mA c) : M g 5 0 0 kX8_mustMove [.ref 8, .ref (y_a Y 0 a)] nq_ (hh sm Y c) (m_Q (.int (b1 (c_must c a))) nq_ (hh sm Y c)) := by
  refine M_of_G (by decide +kernel) (Nat.le_of_ble_eq_true rfl) ?_
  obtain ⟨hI, hG, hgv, hov, hrw, hps⟩ := id hC9
  obtain ⟨hK, hT, hB, hP9, hA, hkf, haf, hbf⟩ := id hI
  have hA2 := hA.2
  have hT2 := hT.2
  have hK2 := hK.2
  have hB2 := hB.2
  have hG2 := hG.2
  have hP2 := hP9.2
  refine G_aload_n dX8_mustMove_0 rfl rfl ?_
  refine G_get dX8_mustMove_1 fg_X8_162 (hx_A hY ha) rfl ?_
  refine G_iconst (v := 1) dX8_mustMove_4 rfl ?_
  refine G_icmp_ne (tgt := 45) dX8_mustMove_5 (by decide) (fun c5 => ?_) (fun c5 => ?_)
  · skip
    refine G_iconst (v := 0) dX8_mustMove_45 rfl ?_
    refine G_zret dX8_mustMove_46 rfl rfl ?_
    first | exact q_t ⟨c5, e12, b1_1 c26, b1_0.mp c38⟩ | exact q_f (fun q => c5 q.1) | exact q_f (fun q => q.2.1 e12) | exact q_f (fun q => b1_0.mp c26 q.2.2.1) | exact q_f (fun q => q.2.2.2 (b1_1 c38))
  · skip
    refine G_aload_n dX8_mustMove_8 rfl rfl ?_
    refine G_get dX8_mustMove_9 fg_X8_183 (hx_A hY ha) rfl ?_
    refine G_ifnullR (o := (oR (y_a Y 7) (c 25 a))) (tgt := 45) dX8_mustMove_12 (by decide) (fun c12 => ?_) (fun i12 c12 => ?_)
    · skip
      have e12 := oR_no.mp c12
      refine G_iconst (v := 0) dX8_mustMove_45 rfl ?_
      refine G_zret dX8_mustMove_46 rfl rfl ?_
      first | exact q_t ⟨c5, e12, b1_1 c26, b1_0.mp c38⟩ | exact q_f (fun q => c5 q.1) | exact q_f (fun q => q.2.1 e12) | exact q_f (fun q => b1_0.mp c26 q.2.2.1) | exact q_f (fun q => q.2.2.2 (b1_1 c38))
    · skip
      obtain ⟨e12, rfl⟩ := oR_so c12
      refine G_aload_n dX8_mustMove_15 rfl rfl ?_
      refine G_get dX8_mustMove_16 fg_X8_183 (hx_A hY ha) rfl ?_
      refine G_top (w := .ref (y_a Y 7 (ix (c 25 a)))) (congrArg va_rf (oR_at e12)) ?_
      refine G_aload_n dX8_mustMove_19 rfl rfl ?_
      refine G_get dX8_mustMove_20 fg_X8_56 (hx_8 _ _ _) rfl ?_
      refine G_callV (cx_late _ hY hC9 ((haf _ ha).2.2.resolve_left e12).2) dX8_mustMove_23 (mc_X8_265 rfl) tw_761 tw_762 (hx_T hY ((haf _ ha).2.2.resolve_left e12).2) rfl rfl rfl (Nat.le_of_ble_eq_true rfl) (Nat.le_of_ble_eq_true rfl) (Nat.le_of_ble_eq_true rfl) (Nat.le_of_ble_eq_true rfl) ?_
      rintro _ n9_ _ ⟨rfl, e9_, rfl⟩
      obtain rfl := e9_.symm
      refine G_if_eq (tgt := 45) dX8_mustMove_26 (by decide) (fun c26 => ?_) (fun c26 => ?_)
      · skip
        refine G_iconst (v := 0) dX8_mustMove_45 rfl ?_
        refine G_zret dX8_mustMove_46 rfl rfl ?_
        first | exact q_t ⟨c5, e12, b1_1 c26, b1_0.mp c38⟩ | exact q_f (fun q => c5 q.1) | exact q_f (fun q => q.2.1 e12) | exact q_f (fun q => b1_0.mp c26 q.2.2.1) | exact q_f (fun q => q.2.2.2 (b1_1 c38))
      · skip
        refine G_aload_n dX8_mustMove_29 rfl rfl ?_
        refine G_aload_n dX8_mustMove_30 rfl rfl ?_
        refine G_aload_n dX8_mustMove_31 rfl rfl ?_
        refine G_get dX8_mustMove_32 fg_X8_183 (hx_A hY ha) rfl ?_
        refine G_top (w := .ref (y_a Y 7 (ix (c 25 a)))) (congrArg va_rf (oR_at e12)) ?_
        refine G_callV (cx_freeFor a _ hY hC9 ha ((haf _ ha).2.2.resolve_left e12).2) dX8_mustMove_35 (mc_X8_299 rfl) tw_642 tw_13 (hx_8 _ _ _) rfl rfl rfl (Nat.le_of_ble_eq_true rfl) (Nat.le_of_ble_eq_true rfl) (Nat.le_of_ble_eq_true rfl) (Nat.le_of_ble_eq_true rfl) ?_
        rintro _ n9_ _ ⟨rfl, e9_, rfl⟩
        obtain rfl := e9_.symm
        refine G_if_ne (tgt := 45) dX8_mustMove_38 (by decide) (fun c38 => ?_) (fun c38 => ?_)
        · skip
          refine G_iconst (v := 0) dX8_mustMove_45 rfl ?_
          refine G_zret dX8_mustMove_46 rfl rfl ?_
          first | exact q_t ⟨c5, e12, b1_1 c26, b1_0.mp c38⟩ | exact q_f (fun q => c5 q.1) | exact q_f (fun q => q.2.1 e12) | exact q_f (fun q => b1_0.mp c26 q.2.2.1) | exact q_f (fun q => q.2.2.2 (b1_1 c38))
        · skip
          refine G_iconst (v := 1) dX8_mustMove_41 rfl ?_
          refine G_goto (tgt := 46) dX8_mustMove_42 (by decide) ?_
          refine G_zret dX8_mustMove_46 rfl rfl ?_
          first | exact q_t ⟨c5, e12, b1_1 c26, b1_0.mp c38⟩ | exact q_f (fun q => c5 q.1) | exact q_f (fun q => q.2.1 e12) | exact q_f (fun q => b1_0.mp c26 q.2.2.1) | exact q_f (fun q => q.2.2.2 (b1_1 c38))
noncomputable def c_nx (c : mS) : Nat → Option Nat
  | 0 => none
  | i + 1 => match c_nx c i with
    | none => cif (c_must c i) (some i) none
    | some b => cif (c_must c i ∧ c_ahead c i b) (some i) (some b)
theorem c_nx_n {c : mS} {i : Nat} (h : c_nx c i = none) : c_nx c (i + 1) = cif (c_must c i) (some i) none := by
  show (match c_nx c i with | none => cif (c_must c i) (some i) none | some b => cif (c_must c i ∧ c_ahead c i b) (some i) (some b)) = _
  rw [h]
theorem c_nx_s {c : mS} {i b : Nat} (h : c_nx c i = some b) : c_nx c (i + 1) = cif (c_must c i ∧ c_ahead c i b) (some i) (some b) := by
  show (match c_nx c i with | none => cif (c_must c i) (some i) none | some b => cif (c_must c i ∧ c_ahead c i b) (some i) (some b)) = _
  rw [h]
theorem c_nx_lt {c : mS} : ∀ {i b : Nat}, c_nx c i = some b → b < i ∧ c_must c b
  | 0, b, h => by cases h
  | i + 1, b, h => by
    cases e : c_nx c i with
    | none =>
      rw [c_nx_n e] at h
      by_cases z : c_must c i
      · rw [cif_t z] at h; cases h; exact ⟨by omega, z⟩
      · rw [cif_f z] at h; cases h
    | some a =>
      have ih := c_nx_lt e
      rw [c_nx_s e] at h
      by_cases z : c_must c i ∧ c_ahead c i a
      · rw [cif_t z] at h; cases h; exact ⟨by omega, z.1⟩
      · rw [cif_f z] at h; cases h; exact ⟨by omega, ih.2⟩
set_option maxHeartbeats 4000000 in
set_option maxRecDepth 100000 in
theorem cx_next {g : gT} {nq_ n9 : Nat} {sm : mS} {Y : cY} {c : mS}  (hY : Yok Y c n9) (hC9 : c_inv c) : M g 6 0 0 kX8_nextToMove [.ref 8] nq_ (hh sm Y c) (m_Q (va_rf ((c_nx c (mA c)).map (y_a Y 0))) nq_ (hh sm Y c)) := by
  refine M_of_G (by decide +kernel) (Nat.le_of_ble_eq_true rfl) ?_
  obtain ⟨hI, hG, hgv, hov, hrw, hps⟩ := id hC9
  obtain ⟨hK, hT, hB, hP9, hA, hkf, haf, hbf⟩ := id hI
  have hA2 := hA.2
  have hT2 := hT.2
  have hK2 := hK.2
  have hB2 := hB.2
  have hG2 := hG.2
  have hP2 := hP9.2
  have loop : ∀ m i (o : Option Nat) (w9 : Value), w9.category = 1 → i + m = mA c → c_nx c i = o → G g 6 0 0 kX8_nextToMove 4 [.ref 8, va_rf (o.map (y_a Y 0)), .int (nI i), w9] [] nq_ (hh sm Y c) (m_Q (va_rf ((c_nx c (mA c)).map (y_a Y 0))) nq_ (hh sm Y c)) := by
    intro m
    induction m with
    | zero =>
      intro i o w9 hw9 hi0 hs
      rw [Nat.add_zero] at hi0
      have hs2 : c_nx c (mA c) = o := by rw [← hi0]; exact hs
      refine G_iload_n dX8_nextToMove_4 rfl rfl ?_
      refine G_aload_n dX8_nextToMove_5 rfl rfl ?_
      refine G_get dX8_nextToMove_6 fg_X8_22 (hx_8 _ _ _) rfl ?_
      refine GL_size3 dX8_nextToMove_9 (mc_X8_60 rfl) (Nat.le_of_ble_eq_true rfl) (Nat.le_of_ble_eq_true rfl) ?_
      refine G_icmp_ge (tgt := 55) dX8_nextToMove_12 (by decide) (fun c12 => ?_) (fun c12 => ?_)
      · skip
        refine G_aload_nR dX8_nextToMove_55 rfl rfl ?_
        refine G_aret (o := _) dX8_nextToMove_56 rfl (Or.inl ⟨_, rfl⟩) ?_
        exact ⟨by rw [hs2], rfl, rfl⟩
      · skip
        exact absurd (by rw [hA.1]; exact nI_le (by omega) (by omega)) c12
    | succ m ih =>
      intro i o w9 hw9 hi0 hs
      have hi : i < mA c := by omega
      cases o with
      | none =>
        refine G_iload_n dX8_nextToMove_4 rfl rfl ?_
        refine G_aload_n dX8_nextToMove_5 rfl rfl ?_
        refine G_get dX8_nextToMove_6 fg_X8_22 (hx_8 _ _ _) rfl ?_
        refine GL_size3 dX8_nextToMove_9 (mc_X8_60 rfl) (Nat.le_of_ble_eq_true rfl) (Nat.le_of_ble_eq_true rfl) ?_
        refine G_icmp_ge (tgt := 55) dX8_nextToMove_12 (by decide) (fun c12 => ?_) (fun c12 => ?_)
        · skip
          exact absurd c12 (by rw [hA.1, nI_leI (by omega) (by omega)]; omega)
        · skip
          refine G_aload_n dX8_nextToMove_15 rfl rfl ?_
          refine G_get dX8_nextToMove_16 fg_X8_22 (hx_8 _ _ _) rfl ?_
          refine G_iload_n dX8_nextToMove_19 rfl rfl ?_
          refine GL_get3 (i := i) (sz := mA c) dX8_nextToMove_20 (mc_X8_158 rfl) hY hA.1 hi (Nat.le_trans hA.2 (by decide)) (Nat.le_of_ble_eq_true rfl) (Nat.le_of_ble_eq_true rfl) ?_
          refine G_cast (ci := 0) dX8_nextToMove_23 rfl tw_558 (hx_A hY hi) ?_
          refine G_astore_n dX8_nextToMove_26 rfl (Nat.le_of_ble_eq_true rfl) rfl ?_
          refine G_aload_n dX8_nextToMove_27 rfl rfl ?_
          refine G_aload_n dX8_nextToMove_28 rfl rfl ?_
          refine G_callV (cx_must i hY hC9 hi) dX8_nextToMove_29 (mc_X8_323 rfl) tw_758 tw_26 (hx_8 _ _ _) rfl rfl rfl (Nat.le_of_ble_eq_true rfl) (Nat.le_of_ble_eq_true rfl) (Nat.le_of_ble_eq_true rfl) (Nat.le_of_ble_eq_true rfl) ?_
          rintro _ n9_ _ ⟨rfl, e9_, rfl⟩
          obtain rfl := e9_.symm
          refine G_if_eq (tgt := 49) dX8_nextToMove_32 (by decide) (fun c32 => ?_) (fun c32 => ?_)
          · skip
            refine G_iinc (b := nI (i + 1)) dX8_nextToMove_49 rfl (nI_1 i) rfl ?_
            refine G_goto (tgt := 4) dX8_nextToMove_52 (by decide) ?_
            first | exact ih (i + 1) none _ rfl (by omega) ((c_nx_n hs).trans (cif_f (b1_0.mp c32))) | exact ih (i + 1) (some i) _ rfl (by omega) ((c_nx_n hs).trans (cif_t (b1_1 c32)))
          · skip
            refine G_aload_nN dX8_nextToMove_35 rfl rfl ?_
            refine G_ifnullN (tgt := 47) dX8_nextToMove_36 (by decide) ?_
            refine G_aload_n dX8_nextToMove_47 rfl rfl ?_
            refine G_astore_n dX8_nextToMove_48 rfl (Nat.le_of_ble_eq_true rfl) rfl ?_
            refine G_iinc (b := nI (i + 1)) dX8_nextToMove_49 rfl (nI_1 i) rfl ?_
            refine G_goto (tgt := 4) dX8_nextToMove_52 (by decide) ?_
            first | exact ih (i + 1) none _ rfl (by omega) ((c_nx_n hs).trans (cif_f (b1_0.mp c32))) | exact ih (i + 1) (some i) _ rfl (by omega) ((c_nx_n hs).trans (cif_t (b1_1 c32)))
      | some b =>
        have hb := (c_nx_lt hs).1
        have hbA : b < mA c := by omega
        refine G_iload_n dX8_nextToMove_4 rfl rfl ?_
        refine G_aload_n dX8_nextToMove_5 rfl rfl ?_
        refine G_get dX8_nextToMove_6 fg_X8_22 (hx_8 _ _ _) rfl ?_
        refine GL_size3 dX8_nextToMove_9 (mc_X8_60 rfl) (Nat.le_of_ble_eq_true rfl) (Nat.le_of_ble_eq_true rfl) ?_
        refine G_icmp_ge (tgt := 55) dX8_nextToMove_12 (by decide) (fun c12 => ?_) (fun c12 => ?_)
        · skip
          exact absurd c12 (by rw [hA.1, nI_leI (by omega) (by omega)]; omega)
        · skip
          refine G_aload_n dX8_nextToMove_15 rfl rfl ?_
          refine G_get dX8_nextToMove_16 fg_X8_22 (hx_8 _ _ _) rfl ?_
          refine G_iload_n dX8_nextToMove_19 rfl rfl ?_
          refine GL_get3 (i := i) (sz := mA c) dX8_nextToMove_20 (mc_X8_158 rfl) hY hA.1 hi (Nat.le_trans hA.2 (by decide)) (Nat.le_of_ble_eq_true rfl) (Nat.le_of_ble_eq_true rfl) ?_
          refine G_cast (ci := 0) dX8_nextToMove_23 rfl tw_558 (hx_A hY hi) ?_
          refine G_astore_n dX8_nextToMove_26 rfl (Nat.le_of_ble_eq_true rfl) rfl ?_
          refine G_aload_n dX8_nextToMove_27 rfl rfl ?_
          refine G_aload_n dX8_nextToMove_28 rfl rfl ?_
          refine G_callV (cx_must i hY hC9 hi) dX8_nextToMove_29 (mc_X8_323 rfl) tw_758 tw_26 (hx_8 _ _ _) rfl rfl rfl (Nat.le_of_ble_eq_true rfl) (Nat.le_of_ble_eq_true rfl) (Nat.le_of_ble_eq_true rfl) (Nat.le_of_ble_eq_true rfl) ?_
          rintro _ n9_ _ ⟨rfl, e9_, rfl⟩
          obtain rfl := e9_.symm
          refine G_if_eq (tgt := 49) dX8_nextToMove_32 (by decide) (fun c32 => ?_) (fun c32 => ?_)
          · skip
            refine G_iinc (b := nI (i + 1)) dX8_nextToMove_49 rfl (nI_1 i) rfl ?_
            refine G_goto (tgt := 4) dX8_nextToMove_52 (by decide) ?_
            first | exact ih (i + 1) (some b) _ rfl (by omega) ((c_nx_s hs).trans (cif_f (fun q => b1_0.mp c32 q.1))) | exact ih (i + 1) (some b) _ rfl (by omega) ((c_nx_s hs).trans (cif_f (fun q => b1_0.mp c44 q.2))) | exact ih (i + 1) (some i) _ rfl (by omega) ((c_nx_s hs).trans (cif_t ⟨b1_1 c32, b1_1 c44⟩))
          · skip
            refine G_aload_n dX8_nextToMove_35 rfl rfl ?_
            refine G_ifnull dX8_nextToMove_36 ?_
            refine G_aload_n dX8_nextToMove_39 rfl rfl ?_
            refine G_aload_n dX8_nextToMove_40 rfl rfl ?_
            refine G_callV (cx_ahead i b hY hC9 hi hbA) dX8_nextToMove_41 (mc_X8_326 rfl) tw_765 tw_766 (hx_A hY hi) rfl rfl rfl (Nat.le_of_ble_eq_true rfl) (Nat.le_of_ble_eq_true rfl) (Nat.le_of_ble_eq_true rfl) (Nat.le_of_ble_eq_true rfl) ?_
            rintro _ n9_ _ ⟨rfl, e9_, rfl⟩
            obtain rfl := e9_.symm
            refine G_if_eq (tgt := 49) dX8_nextToMove_44 (by decide) (fun c44 => ?_) (fun c44 => ?_)
            · skip
              refine G_iinc (b := nI (i + 1)) dX8_nextToMove_49 rfl (nI_1 i) rfl ?_
              refine G_goto (tgt := 4) dX8_nextToMove_52 (by decide) ?_
              first | exact ih (i + 1) (some b) _ rfl (by omega) ((c_nx_s hs).trans (cif_f (fun q => b1_0.mp c32 q.1))) | exact ih (i + 1) (some b) _ rfl (by omega) ((c_nx_s hs).trans (cif_f (fun q => b1_0.mp c44 q.2))) | exact ih (i + 1) (some i) _ rfl (by omega) ((c_nx_s hs).trans (cif_t ⟨b1_1 c32, b1_1 c44⟩))
            · skip
              refine G_aload_n dX8_nextToMove_47 rfl rfl ?_
              refine G_astore_n dX8_nextToMove_48 rfl (Nat.le_of_ble_eq_true rfl) rfl ?_
              refine G_iinc (b := nI (i + 1)) dX8_nextToMove_49 rfl (nI_1 i) rfl ?_
              refine G_goto (tgt := 4) dX8_nextToMove_52 (by decide) ?_
              first | exact ih (i + 1) (some b) _ rfl (by omega) ((c_nx_s hs).trans (cif_f (fun q => b1_0.mp c32 q.1))) | exact ih (i + 1) (some b) _ rfl (by omega) ((c_nx_s hs).trans (cif_f (fun q => b1_0.mp c44 q.2))) | exact ih (i + 1) (some i) _ rfl (by omega) ((c_nx_s hs).trans (cif_t ⟨b1_1 c32, b1_1 c44⟩))
  refine G_null dX8_nextToMove_0 ?_
  refine G_astore_nN dX8_nextToMove_1 rfl (Nat.le_of_ble_eq_true rfl) rfl ?_
  refine G_iconst (v := 0) dX8_nextToMove_2 rfl ?_
  refine G_istore_n dX8_nextToMove_3 rfl (Nat.le_of_ble_eq_true rfl) rfl ?_
  exact loop (mA c) 0 none (.retAddr 0) rfl (by omega) rfl
def c_mok (c : mS) (a t : Nat) : Prop := ¬ c 25 a = nI t ∧ ¬ c_late c t ∧ s_fits c (ix (c 6 t)) a ∧ s_free c (nI t) (c 30 a) (c 31 a) (nI a)
set_option maxHeartbeats 4000000 in
set_option maxRecDepth 100000 in
theorem cx_other {g : gT} {nq_ n9 : Nat} {sm : mS} {Y : cY} {c : mS} (a : Nat) (hY : Yok Y c n9) (hC9 : c_inv c) (ha : a < mA c) : M g 6 0 0 kX8_firstOtherThingFor [.ref 8, .ref (y_a Y 0 a)] nq_ (hh sm Y c) (m_Q (va_rf ((fnd (c_mok c a) (mT c)).map (y_a Y 7))) nq_ (hh sm Y c)) := by
  refine M_of_G (by decide +kernel) (Nat.le_of_ble_eq_true rfl) ?_
  obtain ⟨hI, hG, hgv, hov, hrw, hps⟩ := id hC9
  obtain ⟨hK, hT, hB, hP9, hA, hkf, haf, hbf⟩ := id hI
  have hA2 := hA.2
  have hT2 := hT.2
  have hK2 := hK.2
  have hB2 := hB.2
  have hG2 := hG.2
  have hP2 := hP9.2
  have loop : ∀ m i, i + m = mT c → ∀ w9 : Value, w9.category = 1 → (∀ j, j < i → ¬ c_mok c a j) → G g 6 0 0 kX8_firstOtherThingFor 2 [.ref 8, .ref (y_a Y 0 a), .int (nI i), w9] [] nq_ (hh sm Y c) (m_Q (va_rf ((fnd (c_mok c a) (mT c)).map (y_a Y 7))) nq_ (hh sm Y c)) := by
    intro m
    induction m with
    | zero =>
      intro i hi0 w9 hw9 hn
      rw [Nat.add_zero] at hi0
      refine G_iload_n dX8_firstOtherThingFor_2 rfl rfl ?_
      refine G_aload_n dX8_firstOtherThingFor_3 rfl rfl ?_
      refine G_get dX8_firstOtherThingFor_4 fg_X8_16 (hx_8 _ _ _) rfl ?_
      refine GL_size1 dX8_firstOtherThingFor_7 (mc_X8_60 rfl) (Nat.le_of_ble_eq_true rfl) (Nat.le_of_ble_eq_true rfl) ?_
      refine G_icmp_ge (tgt := 72) dX8_firstOtherThingFor_10 (by decide) (fun c10 => ?_) (fun c10 => ?_)
      · skip
        refine G_null dX8_firstOtherThingFor_72 ?_
        refine G_aret (o := none) dX8_firstOtherThingFor_73 rfl (Or.inl ⟨_, rfl⟩) ?_
        exact ⟨by rw [fnd_none (fun j hj => hn j (by omega))]; rfl, rfl, rfl⟩
      · skip
        exact absurd (by rw [hT.1]; exact nI_le (by omega) (by omega)) c10
    | succ m ih =>
      intro i hi0 w9 hw9 hn
      have hi : i < mT c := by omega
      refine G_iload_n dX8_firstOtherThingFor_2 rfl rfl ?_
      refine G_aload_n dX8_firstOtherThingFor_3 rfl rfl ?_
      refine G_get dX8_firstOtherThingFor_4 fg_X8_16 (hx_8 _ _ _) rfl ?_
      refine GL_size1 dX8_firstOtherThingFor_7 (mc_X8_60 rfl) (Nat.le_of_ble_eq_true rfl) (Nat.le_of_ble_eq_true rfl) ?_
      refine G_icmp_ge (tgt := 72) dX8_firstOtherThingFor_10 (by decide) (fun c10 => ?_) (fun c10 => ?_)
      · skip
        exact absurd c10 (by rw [hT.1, nI_leI (by omega) (by omega)]; omega)
      · skip
        refine G_aload_n dX8_firstOtherThingFor_13 rfl rfl ?_
        refine G_get dX8_firstOtherThingFor_14 fg_X8_16 (hx_8 _ _ _) rfl ?_
        refine G_iload_n dX8_firstOtherThingFor_17 rfl rfl ?_
        refine GL_get1 (i := i) (sz := mT c) dX8_firstOtherThingFor_18 (mc_X8_158 rfl) hY hT.1 hi (Nat.le_trans hT.2 (by decide)) (Nat.le_of_ble_eq_true rfl) (Nat.le_of_ble_eq_true rfl) ?_
        refine G_cast (ci := 7) dX8_firstOtherThingFor_21 rfl tw_344 (hx_T hY hi) ?_
        refine G_astore_n dX8_firstOtherThingFor_24 rfl (Nat.le_of_ble_eq_true rfl) rfl ?_
        refine G_aload_n dX8_firstOtherThingFor_25 rfl rfl ?_
        refine G_aload_n dX8_firstOtherThingFor_26 rfl rfl ?_
        refine G_get dX8_firstOtherThingFor_27 fg_X8_183 (hx_A hY ha) rfl ?_
        refine G_acmp_eq (a := (some (y_a Y 7 i))) (b := (oR (y_a Y 7) (c 25 a))) (tgt := 66) dX8_firstOtherThingFor_30 (by decide) (ap_oo (na_T hY hi) (na_oT hY (haf _ ha).2.2)) (fun c30 => ?_) (fun c30 => ?_)
        · skip
          refine G_iinc (b := nI (i + 1)) dX8_firstOtherThingFor_66 rfl (nI_1 i) rfl ?_
          refine G_goto (tgt := 2) dX8_firstOtherThingFor_69 (by decide) ?_
          first | exact ih (i + 1) (by omega) _ rfl (lt_s hn (fun q => q.1 ((oe_T hY hi (Nat.le_trans hT.2 (by decide)) (haf a ha).2.2).mp c30.symm))) | exact ih (i + 1) (by omega) _ rfl (lt_s hn (fun q => q.2.1 (b1_1 c41))) | exact ih (i + 1) (by omega) _ rfl (lt_s hn (fun q => b1_0.mp c52 q.2.2.1)) | exact ih (i + 1) (by omega) _ rfl (lt_s hn (fun q => b1_0.mp c61 q.2.2.2))
        · skip
          refine G_aload_n dX8_firstOtherThingFor_33 rfl rfl ?_
          refine G_aload_n dX8_firstOtherThingFor_34 rfl rfl ?_
          refine G_get dX8_firstOtherThingFor_35 fg_X8_56 (hx_8 _ _ _) rfl ?_
          refine G_callV (cx_late i hY hC9 hi) dX8_firstOtherThingFor_38 (mc_X8_265 rfl) tw_761 tw_762 (hx_T hY hi) rfl rfl rfl (Nat.le_of_ble_eq_true rfl) (Nat.le_of_ble_eq_true rfl) (Nat.le_of_ble_eq_true rfl) (Nat.le_of_ble_eq_true rfl) ?_
          rintro _ n9_ _ ⟨rfl, e9_, rfl⟩
          obtain rfl := e9_.symm
          refine G_if_ne (tgt := 66) dX8_firstOtherThingFor_41 (by decide) (fun c41 => ?_) (fun c41 => ?_)
          · skip
            refine G_iinc (b := nI (i + 1)) dX8_firstOtherThingFor_66 rfl (nI_1 i) rfl ?_
            refine G_goto (tgt := 2) dX8_firstOtherThingFor_69 (by decide) ?_
            first | exact ih (i + 1) (by omega) _ rfl (lt_s hn (fun q => q.1 ((oe_T hY hi (Nat.le_trans hT.2 (by decide)) (haf a ha).2.2).mp c30.symm))) | exact ih (i + 1) (by omega) _ rfl (lt_s hn (fun q => q.2.1 (b1_1 c41))) | exact ih (i + 1) (by omega) _ rfl (lt_s hn (fun q => b1_0.mp c52 q.2.2.1)) | exact ih (i + 1) (by omega) _ rfl (lt_s hn (fun q => b1_0.mp c61 q.2.2.2))
          · skip
            refine G_aload_n dX8_firstOtherThingFor_44 rfl rfl ?_
            refine G_get dX8_firstOtherThingFor_45 fg_X8_210 (hx_T hY hi) rfl ?_
            refine G_aload_n dX8_firstOtherThingFor_48 rfl rfl ?_
            refine G_callV (cx_fits (ix (c 6 i)) a hY hC9 (hkf i hi).2 ha) dX8_firstOtherThingFor_49 (mc_X8_236 rfl) tw_637 tw_638 (hx_K hY (hkf _ hi).2) rfl rfl rfl (Nat.le_of_ble_eq_true rfl) (Nat.le_of_ble_eq_true rfl) (Nat.le_of_ble_eq_true rfl) (Nat.le_of_ble_eq_true rfl) ?_
            rintro _ n9_ _ ⟨rfl, e9_, rfl⟩
            obtain rfl := e9_.symm
            refine G_if_eq (tgt := 66) dX8_firstOtherThingFor_52 (by decide) (fun c52 => ?_) (fun c52 => ?_)
            · skip
              refine G_iinc (b := nI (i + 1)) dX8_firstOtherThingFor_66 rfl (nI_1 i) rfl ?_
              refine G_goto (tgt := 2) dX8_firstOtherThingFor_69 (by decide) ?_
              first | exact ih (i + 1) (by omega) _ rfl (lt_s hn (fun q => q.1 ((oe_T hY hi (Nat.le_trans hT.2 (by decide)) (haf a ha).2.2).mp c30.symm))) | exact ih (i + 1) (by omega) _ rfl (lt_s hn (fun q => q.2.1 (b1_1 c41))) | exact ih (i + 1) (by omega) _ rfl (lt_s hn (fun q => b1_0.mp c52 q.2.2.1)) | exact ih (i + 1) (by omega) _ rfl (lt_s hn (fun q => b1_0.mp c61 q.2.2.2))
            · skip
              refine G_aload_n dX8_firstOtherThingFor_55 rfl rfl ?_
              refine G_aload_n dX8_firstOtherThingFor_56 rfl rfl ?_
              refine G_aload_n dX8_firstOtherThingFor_57 rfl rfl ?_
              refine G_callV (cx_freeFor a i hY hC9 ha hi) dX8_firstOtherThingFor_58 (mc_X8_299 rfl) tw_642 tw_13 (hx_8 _ _ _) rfl rfl rfl (Nat.le_of_ble_eq_true rfl) (Nat.le_of_ble_eq_true rfl) (Nat.le_of_ble_eq_true rfl) (Nat.le_of_ble_eq_true rfl) ?_
              rintro _ n9_ _ ⟨rfl, e9_, rfl⟩
              obtain rfl := e9_.symm
              refine G_if_eq (tgt := 66) dX8_firstOtherThingFor_61 (by decide) (fun c61 => ?_) (fun c61 => ?_)
              · skip
                refine G_iinc (b := nI (i + 1)) dX8_firstOtherThingFor_66 rfl (nI_1 i) rfl ?_
                refine G_goto (tgt := 2) dX8_firstOtherThingFor_69 (by decide) ?_
                first | exact ih (i + 1) (by omega) _ rfl (lt_s hn (fun q => q.1 ((oe_T hY hi (Nat.le_trans hT.2 (by decide)) (haf a ha).2.2).mp c30.symm))) | exact ih (i + 1) (by omega) _ rfl (lt_s hn (fun q => q.2.1 (b1_1 c41))) | exact ih (i + 1) (by omega) _ rfl (lt_s hn (fun q => b1_0.mp c52 q.2.2.1)) | exact ih (i + 1) (by omega) _ rfl (lt_s hn (fun q => b1_0.mp c61 q.2.2.2))
              · skip
                refine G_aload_n dX8_firstOtherThingFor_64 rfl rfl ?_
                refine G_aret (o := (some (y_a Y 7 i))) dX8_firstOtherThingFor_65 rfl (Or.inl ⟨_, rfl⟩) ?_
                exact ⟨by rw [fnd_at hn ⟨fun z => c30 ((oe_T hY hi (Nat.le_trans hT.2 (by decide)) (haf a ha).2.2).mpr z).symm, b1_0.mp c41, b1_1 c52, b1_1 c61⟩ hi]; rfl, rfl, rfl⟩
  refine G_iconst (v := 0) dX8_firstOtherThingFor_0 rfl ?_
  refine G_istore_n dX8_firstOtherThingFor_1 rfl (Nat.le_of_ble_eq_true rfl) rfl ?_
  exact loop (mT c) 0 (by omega) (.retAddr 0) rfl (fun j hj => absurd hj (Nat.not_lt_zero j))
noncomputable def c_mv1 (c : mS) (a : Nat) : mS := match fnd (c_mok c a) (mT c) with
  | none => m_set c 24 a 5
  | some t => m_set (m_set c 25 a (nI t)) 26 a (c 26 a + 1)
noncomputable def c_mv : Nat → mS → mS
  | 0, c => c
  | m + 1, c => match c_nx c (mA c) with
    | none => c
    | some a => c_mv m (c_mv1 c a)
theorem c_mv_n {m : Nat} {c : mS} (h : c_nx c (mA c) = none) : c_mv (m + 1) c = c := by
  show (match c_nx c (mA c) with | none => c | some a => c_mv m (c_mv1 c a)) = _
  rw [h]
theorem c_mv_s {m a : Nat} {c : mS} (h : c_nx c (mA c) = some a) : c_mv (m + 1) c = c_mv m (c_mv1 c a) := by
  show (match c_nx c (mA c) with | none => c | some a => c_mv m (c_mv1 c a)) = _
  rw [h]
theorem c_mv1_n {a : Nat} {c : mS} (h : fnd (c_mok c a) (mT c) = none) : c_mv1 c a = m_set c 24 a 5 := by unfold c_mv1; rw [h]
theorem c_mv1_s {a t : Nat} {c : mS} (h : fnd (c_mok c a) (mT c) = some t) : c_mv1 c a = m_set (m_set c 25 a (nI t)) 26 a (c 26 a + 1) := by unfold c_mv1; rw [h]
set_option maxHeartbeats 4000000 in
set_option maxRecDepth 100000 in
theorem cx_moves {g : gT} {nq_ n9 : Nat} {sm : mS} {Y : cY} {c fin : mS} (hY : Yok Y c n9) (hC9 : c_inv c) (he : fin = c_mv (mA c) c) : M g 7 0 0 kX8_moveFromLateThings [.ref 8] nq_ (hh sm Y c) (c_V nq_ sm Y fin) := by
  refine M_of_G (by decide +kernel) (Nat.le_of_ble_eq_true rfl) ?_
  have loop : ∀ m i (c : mS) (w8 w9 : Value), w8.category = 1 → w9.category = 1 → c_inv c → Yok Y c n9 → i + m = mA c → fin = c_mv m c → G g 7 0 0 kX8_moveFromLateThings 2 [.ref 8, .int (nI i), w8, w9] [] nq_ (hh sm Y c) (c_V nq_ sm Y fin) := by
    intro m
    induction m with
    | zero =>
      intro i c w8 w9 hw8 hw9 hC9 hY hi0 hs
      obtain ⟨hI, hG, hgv, hov, hrw, hps⟩ := id hC9
      obtain ⟨hK, hT, hB, hP9, hA, hkf, haf, hbf⟩ := id hI
      have hA2 := hA.2
      have hT2 := hT.2
      have hK2 := hK.2
      have hB2 := hB.2
      have hG2 := hG.2
      have hP2 := hP9.2
      refine G_iload_n dX8_moveFromLateThings_2 rfl rfl ?_
      refine G_aload_n dX8_moveFromLateThings_3 rfl rfl ?_
      refine G_get dX8_moveFromLateThings_4 fg_X8_22 (hx_8 _ _ _) rfl ?_
      refine GL_size3 dX8_moveFromLateThings_7 (mc_X8_60 rfl) (Nat.le_of_ble_eq_true rfl) (Nat.le_of_ble_eq_true rfl) ?_
      refine G_icmp_ge (tgt := 62) dX8_moveFromLateThings_10 (by decide) (fun c10 => ?_) (fun c10 => ?_)
      · skip
        refine G_vret dX8_moveFromLateThings_62 rfl ?_
        exact v_cc hs
      · skip
        exact absurd (by rw [hA.1]; exact nI_le (by omega) (by omega)) c10
    | succ m ih =>
      intro i c w8 w9 hw8 hw9 hC9 hY hi0 hs
      obtain ⟨hI, hG, hgv, hov, hrw, hps⟩ := id hC9
      obtain ⟨hK, hT, hB, hP9, hA, hkf, haf, hbf⟩ := id hI
      have hA2 := hA.2
      have hT2 := hT.2
      have hK2 := hK.2
      have hB2 := hB.2
      have hG2 := hG.2
      have hP2 := hP9.2
      refine G_iload_n dX8_moveFromLateThings_2 rfl rfl ?_
      refine G_aload_n dX8_moveFromLateThings_3 rfl rfl ?_
      refine G_get dX8_moveFromLateThings_4 fg_X8_22 (hx_8 _ _ _) rfl ?_
      refine GL_size3 dX8_moveFromLateThings_7 (mc_X8_60 rfl) (Nat.le_of_ble_eq_true rfl) (Nat.le_of_ble_eq_true rfl) ?_
      refine G_icmp_ge (tgt := 62) dX8_moveFromLateThings_10 (by decide) (fun c10 => ?_) (fun c10 => ?_)
      · skip
        exact absurd c10 (by rw [hA.1, nI_leI (by omega) (by omega)]; omega)
      · skip
        refine G_aload_n dX8_moveFromLateThings_13 rfl rfl ?_
        refine G_callV (cx_next hY hC9) dX8_moveFromLateThings_14 (mc_X8_315 rfl) tw_754 tw_25 (hx_8 _ _ _) rfl rfl rfl (Nat.le_of_ble_eq_true rfl) (Nat.le_of_ble_eq_true rfl) (Nat.le_of_ble_eq_true rfl) (Nat.le_of_ble_eq_true rfl) ?_
        rintro _ n9_ _ ⟨rfl, e9_, rfl⟩
        obtain rfl := e9_.symm
        cases e14 : c_nx c (mA c) with
        | none =>
          refine G_top (w := .null) rfl ?_
          refine G_astore_nN dX8_moveFromLateThings_17 rfl (Nat.le_of_ble_eq_true rfl) rfl ?_
          refine G_aload_nN dX8_moveFromLateThings_18 rfl rfl ?_
          refine G_ifnonnullN dX8_moveFromLateThings_19 ?_
          refine G_vret dX8_moveFromLateThings_22 rfl ?_
          exact v_cc (hs.trans (c_mv_n e14))
        | some a =>
          have ha := (c_nx_lt e14).1
          refine G_top (w := .ref (y_a Y 0 a)) rfl ?_
          refine G_astore_n dX8_moveFromLateThings_17 rfl (Nat.le_of_ble_eq_true rfl) rfl ?_
          refine G_aload_n dX8_moveFromLateThings_18 rfl rfl ?_
          refine G_ifnonnull (tgt := 23) dX8_moveFromLateThings_19 (by decide) ?_
          refine G_aload_n dX8_moveFromLateThings_23 rfl rfl ?_
          refine G_aload_n dX8_moveFromLateThings_24 rfl rfl ?_
          refine G_callV (cx_other a hY hC9 ha) dX8_moveFromLateThings_25 (mc_X8_319 rfl) tw_770 tw_27 (hx_8 _ _ _) rfl rfl rfl (Nat.le_of_ble_eq_true rfl) (Nat.le_of_ble_eq_true rfl) (Nat.le_of_ble_eq_true rfl) (Nat.le_of_ble_eq_true rfl) ?_
          rintro _ n9_ _ ⟨rfl, e9_, rfl⟩
          obtain rfl := e9_.symm
          cases e25 : fnd (c_mok c a) (mT c) with
          | none =>
            refine G_top (w := .null) rfl ?_
            refine G_astore_nN dX8_moveFromLateThings_28 rfl (Nat.le_of_ble_eq_true rfl) rfl ?_
            refine G_aload_nN dX8_moveFromLateThings_29 rfl rfl ?_
            refine G_ifnonnullN dX8_moveFromLateThings_30 ?_
            refine G_aload_n dX8_moveFromLateThings_33 rfl rfl ?_
            refine G_iconst (v := 5) dX8_moveFromLateThings_34 rfl ?_
            refine GC_state dX8_moveFromLateThings_35 fp_X8_162 hY ha ?_
            refine G_goto (tgt := 56) dX8_moveFromLateThings_38 (by decide) ?_
            refine G_iinc (b := nI (i + 1)) dX8_moveFromLateThings_56 rfl (nI_1 i) rfl ?_
            refine G_goto (tgt := 2) dX8_moveFromLateThings_59 (by decide) ?_
            first | exact ih (i + 1) _ _ _ rfl rfl (c_inv_st hC9 (by decide) (by decide)) (hY.same rfl rfl rfl rfl rfl) (by show _ = mA c; omega) (hs.trans ((c_mv_s e14).trans (by rw [c_mv1_n e25]))) | exact ih (i + 1) _ _ _ rfl rfl (c_inv_26 (c_inv_on hC9 ht)) (hY.same rfl rfl rfl rfl rfl) (by show _ = mA c; omega) (hs.trans ((c_mv_s e14).trans (by rw [c_mv1_s e25]; rfl)))
          | some t =>
            have ht := (fnd_spec e25).1
            refine G_top (w := .ref (y_a Y 7 t)) rfl ?_
            refine G_astore_n dX8_moveFromLateThings_28 rfl (Nat.le_of_ble_eq_true rfl) rfl ?_
            refine G_aload_n dX8_moveFromLateThings_29 rfl rfl ?_
            refine G_ifnonnull (tgt := 41) dX8_moveFromLateThings_30 (by decide) ?_
            refine G_aload_n dX8_moveFromLateThings_41 rfl rfl ?_
            refine G_aload_n dX8_moveFromLateThings_42 rfl rfl ?_
            refine G_top (w := va_rf (oR (y_a Y 7) (nI t))) (by rw [oR_nI (by omega)]; rfl) ?_
            refine GC_athing dX8_moveFromLateThings_43 fp_X8_183 (hY.same rfl rfl rfl rfl rfl) ha ?_
            refine G_aload_n dX8_moveFromLateThings_46 rfl rfl ?_
            refine G_dup dX8_moveFromLateThings_47 rfl ?_
            refine G_get dX8_moveFromLateThings_48 fg_X8_253 (hx_A (hY.same rfl rfl rfl rfl rfl) ha) rfl ?_
            refine G_iconst (v := 1) dX8_moveFromLateThings_51 rfl ?_
            refine G_iadd dX8_moveFromLateThings_52 ?_
            refine GC_moves dX8_moveFromLateThings_53 fp_X8_253 (hY.same rfl rfl rfl rfl rfl) ha ?_
            refine G_iinc (b := nI (i + 1)) dX8_moveFromLateThings_56 rfl (nI_1 i) rfl ?_
            refine G_goto (tgt := 2) dX8_moveFromLateThings_59 (by decide) ?_
            first | exact ih (i + 1) _ _ _ rfl rfl (c_inv_st hC9 (by decide) (by decide)) (hY.same rfl rfl rfl rfl rfl) (by show _ = mA c; omega) (hs.trans ((c_mv_s e14).trans (by rw [c_mv1_n e25]))) | exact ih (i + 1) _ _ _ rfl rfl (c_inv_26 (c_inv_on hC9 ht)) (hY.same rfl rfl rfl rfl rfl) (by show _ = mA c; omega) (hs.trans ((c_mv_s e14).trans (by rw [c_mv1_s e25]; rfl)))
  refine G_iconst (v := 0) dX8_moveFromLateThings_0 rfl ?_
  refine G_istore_n dX8_moveFromLateThings_1 rfl (Nat.le_of_ble_eq_true rfl) rfl ?_
  exact loop (mA c) 0 c (.retAddr 0) (.retAddr 0) rfl rfl hC9 hY (by omega) he
theorem c_mv1_inv {c : mS} {a : Nat} (h : c_inv c) : c_inv (c_mv1 c a) ∧ mA (c_mv1 c a) = mA c ∧ c_mv1 c a 11 = c 11 ∧ ∀ {Y : cY} {n9 : Nat}, Yok Y c n9 → Yok Y (c_mv1 c a) n9 := by
  cases e : fnd (c_mok c a) (mT c) with
  | none => rw [c_mv1_n e]; exact ⟨c_inv_st h (by decide) (by decide), rfl, rfl, fun hY => hY.same rfl rfl rfl rfl rfl⟩
  | some t => rw [c_mv1_s e]; exact ⟨c_inv_26 (c_inv_on h (fnd_spec e).1), rfl, rfl, fun hY => hY.same rfl rfl rfl rfl rfl⟩
theorem c_mv_inv : ∀ (m : Nat) {c : mS}, c_inv c → c_inv (c_mv m c) ∧ mA (c_mv m c) = mA c ∧ c_mv m c 11 = c 11 ∧ ∀ {Y : cY} {n9 : Nat}, Yok Y c n9 → Yok Y (c_mv m c) n9
  | 0, c, h => ⟨h, rfl, rfl, fun hY => hY⟩
  | m + 1, c, h => by
    cases e : c_nx c (mA c) with
    | none => rw [c_mv_n e]; exact ⟨h, rfl, rfl, fun hY => hY⟩
    | some a =>
      rw [c_mv_s e]
      have h1 := c_mv1_inv (a := a) h
      have ih := c_mv_inv m h1.1
      exact ⟨ih.1, ih.2.1.trans h1.2.1, ih.2.2.1.trans h1.2.2.1, fun hY => ih.2.2.2 (h1.2.2.2 hY)⟩
theorem c_ls_inv {c : mS} (h : c_inv c) : ∀ i, c_inv (ls_l c i)
  | 0 => h
  | i + 1 => by
    show c_inv (cif _ _ _)
    by_cases z : c 24 i = 1 ∧ c 31 i < c 11 0
    · rw [cif_t z]; exact c_inv_st (c_ls_inv h i) (by decide) (by decide)
    · rw [cif_f z]; exact c_ls_inv h i
theorem c_ls_Y {c : mS} {Y : cY} {n9 : Nat} (hY : Yok Y c n9) (i : Nat) : Yok Y (ls_l c i) n9 := hY.same (congrFun (ls_l_o c (by decide) i) 0) (congrFun (ls_l_o c (by decide) i) 0) (congrFun (ls_l_o c (by decide) i) 0) (congrFun (ls_l_o c (by decide) i) 0) (congrFun (ls_l_o c (by decide) i) 0)
noncomputable def c_day (c : mS) : mS := c_mv (mA c) (ls_l (m_set c 11 0 (c 11 0 + 1)) (mA c))
noncomputable def c_dys (c : mS) : Nat → mS
  | 0 => c
  | i + 1 => c_day (c_dys c i)
theorem c_day_inv {c : mS} (h : c_inv c) : c_inv (c_day c) ∧ mA (c_day c) = mA c ∧ c_day c 11 0 = c 11 0 + 1 ∧ ∀ {Y : cY} {n9 : Nat}, Yok Y c n9 → Yok Y (c_day c) n9 := by
  have h1 := c_ls_inv (c_inv_11 (v := c 11 0 + 1) h) (mA c)
  have h2 := c_mv_inv (mA c) h1
  refine ⟨h2.1, h2.2.1.trans (ls_l_A _ _), ?_, fun hY => h2.2.2.2 (c_ls_Y (c := m_set c 11 0 (c 11 0 + 1)) (hY.same rfl rfl rfl rfl rfl) _)⟩
  show c_mv (mA c) _ 11 0 = _
  rw [h2.2.2.1, ls_l_o _ (by decide)]
  rfl
theorem c_dys_inv {c : mS} (h : c_inv c) : ∀ i, c_inv (c_dys c i) ∧ mA (c_dys c i) = mA c ∧ ∀ {Y : cY} {n9 : Nat}, Yok Y c n9 → Yok Y (c_dys c i) n9
  | 0 => ⟨h, rfl, fun hY => hY⟩
  | i + 1 => by
    have ih := c_dys_inv h i
    have := c_day_inv ih.1
    exact ⟨this.1, this.2.1.trans ih.2.1, fun hY => this.2.2.2 (ih.2.2 hY)⟩
noncomputable def cp_days (c : mS) (v : Int32) : mS × Int32 := cif (wi v 1 60 ∧ c 11 0 + v ≤ 5000) (c_dys c (ix v), c_dys c (ix v) 11 0) (c, -1)
set_option maxHeartbeats 4000000 in
set_option maxRecDepth 100000 in
theorem cp9_days {g : gT} {nq_ n9 : Nat} {sm : mS} {Y : cY} {c : mS} (v : Int32) (hY : Yok Y c n9) (hC9 : c_inv c) : M g 8 0 0 kX8_days [.ref 8, .int v] nq_ (hh sm Y c) (c_S (.int (cp_days c v).2) nq_ sm Y (cp_days c v).1) := by
  refine M_of_G (by decide +kernel) (Nat.le_of_ble_eq_true rfl) ?_
  obtain ⟨hI, hG, hgv, hov, hrw, hps⟩ := id hC9
  obtain ⟨hK, hT, hB, hP9, hA, hkf, haf, hbf⟩ := id hI
  have hA2 := hA.2
  have hT2 := hT.2
  have hK2 := hK.2
  have hB2 := hB.2
  have hG2 := hG.2
  have hP2 := hP9.2
  have loop : wi v 1 60 ∧ c 11 0 + v ≤ 5000 → ∀ N, N ≤ 60 → v = nI N → ∀ m i, i + m = N → G g 8 0 0 kX8_days 26 [.ref 8, .int v, .int (nI i)] [] nq_ (hh sm Y (c_dys c i)) (c_S (.int (cp_days c v).2) nq_ sm Y (cp_days c v).1) := by
    intro hq N hN hv m
    have eN : ix v = N := by rw [hv]; exact nI_clamp (by omega)
    induction m with
    | zero =>
      intro i hi0
      rw [Nat.add_zero] at hi0
      refine G_iload_n dX8_days_26 rfl rfl ?_
      refine G_iload_n dX8_days_27 rfl rfl ?_
      refine G_icmp_ge (tgt := 55) dX8_days_28 (by decide) (fun c28 => ?_) (fun c28 => ?_)
      · skip
        refine G_aload_n dX8_days_55 rfl rfl ?_
        refine G_get dX8_days_56 fg_X8_56 (hx_8 _ _ _) rfl ?_
        refine G_iret dX8_days_59 rfl ?_
        refine c_close ?_; unfold cp_days; rw [cif_t hq, eN, hi0]
      · skip
        exact absurd (by rw [hv, hi0]; exact Int32.le_refl _) c28
    | succ m ih =>
      intro i hi0
      have hci := c_dys_inv hC9 i
      have hYi := hci.2.2 hY
      have hl := c_ls_inv (c_inv_11 (v := (c_dys c i) 11 0 + 1) hci.1) (mA (c_dys c i))
      have hYl := c_ls_Y (hYi.same (c' := m_set (c_dys c i) 11 0 ((c_dys c i) 11 0 + 1)) rfl rfl rfl rfl rfl) (mA (c_dys c i))
      refine G_iload_n dX8_days_26 rfl rfl ?_
      refine G_iload_n dX8_days_27 rfl rfl ?_
      refine G_icmp_ge (tgt := 55) dX8_days_28 (by decide) (fun c28 => ?_) (fun c28 => ?_)
      · skip
        exact absurd c28 (by rw [hv, nI_leI (by omega) (by omega)]; omega)
      · skip
        refine G_aload_n dX8_days_31 rfl rfl ?_
        refine G_dup dX8_days_32 rfl ?_
        refine G_get dX8_days_33 fg_X8_56 (hx_8 _ _ _) rfl ?_
        refine G_iconst (v := 1) dX8_days_36 rfl ?_
        refine G_iadd dX8_days_37 ?_
        refine GC_day dX8_days_38 fp_X8_56 ?_
        refine G_aload_n dX8_days_41 rfl rfl ?_
        refine G_callV (cx_lose (c := m_set (c_dys c i) 11 0 ((c_dys c i) 11 0 + 1)) (hYi.same rfl rfl rfl rfl rfl) (c_inv_11 hci.1) rfl) dX8_days_42 (mc_X8_230 rfl) tw_746 tw_23 (hx_8 _ _ _) rfl rfl rfl (Nat.le_of_ble_eq_true rfl) (Nat.le_of_ble_eq_true rfl) (Nat.le_of_ble_eq_true rfl) (Nat.le_of_ble_eq_true rfl) ?_
        rintro _ n9_ _ ⟨rfl, e9_, rfl⟩
        obtain rfl := e9_.symm
        refine G_aload_n dX8_days_45 rfl rfl ?_
        refine G_callV (cx_moves hYl hl rfl) dX8_days_46 (mc_X8_233 rfl) tw_750 tw_24 (hx_8 _ _ _) rfl rfl rfl (Nat.le_of_ble_eq_true rfl) (Nat.le_of_ble_eq_true rfl) (Nat.le_of_ble_eq_true rfl) (Nat.le_of_ble_eq_true rfl) ?_
        rintro _ n9_ _ ⟨rfl, e9_, rfl⟩
        obtain rfl := e9_.symm
        refine G_hc (c' := c_dys c (i + 1)) ?_ ?_
        · show c_mv (mA (ls_l _ _)) _ = c_mv (mA _) _
          rw [ls_l_A]
          rfl
        refine G_iinc (b := nI (i + 1)) dX8_days_49 rfl (nI_1 i) rfl ?_
        refine G_goto (tgt := 26) dX8_days_52 (by decide) ?_
        exact ih (i + 1) (by omega)
  refine G_iload_n dX8_days_0 rfl rfl ?_
  refine G_iconst (v := 1) dX8_days_1 rfl ?_
  refine G_bipush (v := 60) dX8_days_2 rfl ?_
  refine G_callS (cx_within _ _ _) dX8_days_4 (mc_X8_64 rfl) tw_236 rfl rfl (Nat.le_of_ble_eq_true rfl) (Nat.le_of_ble_eq_true rfl) (Nat.le_of_ble_eq_true rfl) (Nat.le_of_ble_eq_true rfl) ?_
  rintro _ n9_ _ ⟨rfl, e9_, rfl⟩
  obtain rfl := e9_.symm
  refine G_if_eq (tgt := 22) dX8_days_7 (by decide) (fun c7 => ?_) (fun c7 => ?_)
  · skip
    refine G_iconst (v := -1) dX8_days_22 rfl ?_
    refine G_iret dX8_days_23 rfl ?_
    first | exact c_close (cif_f (fun q => b1_0.mp c7 q.1)) | exact c_close (cif_f (fun q => c19 q.2))
  · skip
    refine G_aload_n dX8_days_10 rfl rfl ?_
    refine G_get dX8_days_11 fg_X8_56 (hx_8 _ _ _) rfl ?_
    refine G_iload_n dX8_days_14 rfl rfl ?_
    refine G_iadd dX8_days_15 ?_
    refine G_sipush (v := 5000) dX8_days_16 rfl ?_
    refine G_icmp_le (tgt := 24) dX8_days_19 (by decide) (fun c19 => ?_) (fun c19 => ?_)
    · skip
      refine G_iconst (v := 0) dX8_days_24 rfl ?_
      refine G_istore_n dX8_days_25 rfl (Nat.le_of_ble_eq_true rfl) rfl ?_
      obtain ⟨N, hN, hv⟩ := nI_of2 (x := v) (M := 60) (n := 60) rfl (fun q => absurd (Int32.lt_of_le_of_lt (b1_1 c7).1 q) (by decide)) (b1_1 c7).2
      exact loop ⟨b1_1 c7, c19⟩ N hN hv N 0 (by omega)
    · skip
      refine G_iconst (v := -1) dX8_days_22 rfl ?_
      refine G_iret dX8_days_23 rfl ?_
      first | exact c_close (cif_f (fun q => b1_0.mp c7 q.1)) | exact c_close (cif_f (fun q => c19 q.2))
