theorem nI_dec (n : Nat) : nI (n + 1) + Int32.ofInt (-1) = nI n := by
  rw [show Int32.ofInt (-1) = -1 from by decide, ← Int32.sub_eq_add_neg]
  exact nI_pred n
theorem bt_sh : ∀ i, i < 5 → ((1 : Int32) <<< (nI i &&& 31)) = nI (2 ^ i) := by decide +kernel
theorem bt_or : ∀ i, i < 5 → ∀ r, r < 2 ^ i → nI r ||| nI (2 ^ i) = nI (r + 2 ^ i) := by decide +kernel
theorem bt_ro : ∀ i, i < 5 → ∀ r, r < 2 ^ i → nI (2 ^ i) ||| nI r = nI (2 ^ i + r) := by decide +kernel
theorem bt_and : ∀ a, a < 32 → ∀ b, b < 32 → nI a &&& nI b = nI (a &&& b) := by decide +kernel
theorem bt_xor : ∀ a, a < 32 → ∀ b, b < 32 → nI a ^^^ nI b = nI (a ^^^ b) := by decide +kernel
theorem bt_dec : ∀ a, a < 32 → ∀ b, b < 32 → (nI a - 1) &&& nI b = nI (if a = 0 then b else (a - 1) &&& b) := by decide +kernel
theorem bt_xlt : ∀ a, a < 32 → ∀ b, b < 32 → a ^^^ b < 32 := by decide +kernel
theorem bt_2i {i : Nat} (h : i < 5) : 2 ^ i ≤ 16 := Nat.pow_le_pow_right (by decide) (show i ≤ 4 by omega)
theorem bt_z : ∀ z, z < 6 → ((1 : Int32) <<< (nI z &&& 31)) - 1 = nI (2 ^ z - 1) ∧ 2 ^ z - 1 < 32 := by decide +kernel
theorem nI_z0 {a : Nat} (h : a < 2 ^ 31) : nI a = 0 ↔ a = 0 := nI_eq (b := 0) h (by decide)
/-- the planner's row -/
def p_ok (c : mS) (z : Nat) : Prop := c 71 0 = nI z ∧ z ≤ 5 ∧ ∀ i, i < z → c 70 i = nI (ix (c 70 i)) ∧ ix (c 70 i) < mA c
theorem hw_prow {sm : mS} {Y : cY} {c : mS} {i a : Nat} (ha : a < 2 ^ 31) : va_up (hh sm Y c) 21 (some (.inl (5, 5, rfs (va_up (fun i => oR (y_a Y 0) (c 70 i)) i (some (y_a Y 0 a)))))) = hh sm Y (m_set c 70 i (nI a)) := by
  refine hw_gen (sm := sm) (Y := Y) (c := c) (c' := m_set c 70 i (nI a)) (a0 := 21) (Or.inl (by decide)) ((hx_21 _ _ _).trans ?_) (fun b hb hn => by unfold c_fx; split <;> first | rfl | exact absurd rfl hn) (fun b _ => cd_c (fun _ _ => rfl) (fun _ _ => rfl) (fun _ _ => rfl) (fun _ _ => rfl) (fun _ _ => far rfl rfl rfl rfl rfl rfl _))
  have e : (fun j => oR (y_a Y 0) (m_set c 70 i (nI a) 70 j)) = va_up (fun i => oR (y_a Y 0) (c 70 i)) i (some (y_a Y 0 a)) := by
    funext j
    by_cases h : j = i
    · subst h; rw [va_up_self, m_set_at, oR_nI ha]
    · rw [va_up_ne _ _ h, ms_ne h]
  rw [e]
theorem c_inv_row {c : mS} {i a : Nat} (h : c_inv c) (ha : a < mA c) : c_inv (m_set c 70 i (nI a)) := by
  obtain ⟨h1, h2, h3, h4, h5, h6⟩ := h
  refine ⟨h1, h2, h3, h4, fun j => ?_, h6⟩
  by_cases e : j = i
  · subst e
    rw [m_set_at]
    have := h1.2.2.2.2.1.2
    exact Or.inr ⟨by rw [show ix (nI a) = a from nI_clamp (by omega)], by rw [show ix (nI a) = a from nI_clamp (by omega)]; exact ha⟩
  · rw [ms_ne e]; exact h5 j
theorem c_inv_psz {c : mS} {z : Nat} (h : c_inv c) (hz : z ≤ 5) : c_inv (m_set c 71 0 (nI z)) := by
  obtain ⟨h1, h2, h3, h4, h5, h6⟩ := h
  refine ⟨h1, h2, h3, h4, h5, ?_⟩
  rw [m_set_at, show ix (nI z) = z from nI_clamp (by omega)]
  exact ⟨rfl, hz⟩
def c_beg (c : mS) : mS := m_row (m_set c 71 0 0) 72 (fl (c 72) 0 32)
set_option maxHeartbeats 4000000 in
set_option maxRecDepth 100000 in
theorem cx_begin {g : gT} {nq_ : Nat} {sm : mS} {Y : cY} {c : mS} : M g 1 0 0 kX5_begin [.ref 20] nq_ (hh sm Y c) (c_V nq_ sm Y (c_beg c)) := by
  refine M_of_G (by decide +kernel) (Nat.le_of_ble_eq_true rfl) ?_
  refine G_aload_n dX5_begin_0 rfl rfl ?_
  refine G_iconst (v := 0) dX5_begin_1 rfl ?_
  refine GC_psz dX5_begin_2 fp_X5_17 ?_
  refine G_aload_n dX5_begin_5 rfl rfl ?_
  refine G_get dX5_begin_6 fg_X5_21 (hx_20 _ _ _) rfl ?_
  refine G_iconst (v := 0) dX5_begin_9 rfl ?_
  refine G_callS (cj_fill _ (hx_22 _ _ _) (by decide)) dX5_begin_10 (mc_X5_28 rfl) tw_161 rfl rfl (Nat.le_of_ble_eq_true rfl) (Nat.le_of_ble_eq_true rfl) (Nat.le_of_ble_eq_true rfl) (Nat.le_of_ble_eq_true rfl) ?_
  rintro _ n9_ _ ⟨rfl, e9_, rfl⟩
  obtain rfl := e9_.symm
  rw [hw_row22]
  refine G_vret dX5_begin_13 rfl ?_
  exact ⟨rfl, rfl, rfl⟩
set_option maxHeartbeats 4000000 in
set_option maxRecDepth 100000 in
theorem cx_add {g : gT} {nq_ n9 : Nat} {sm : mS} {Y : cY} {c : mS} (a z : Nat) (hY : Yok Y c n9) (hC9 : c_inv c) (ha : a < mA c) (hz : c 71 0 = nI z) (hz5 : z < 5) : M g 0 0 0 kX5_add [.ref 20, .ref (y_a Y 0 a)] nq_ (hh sm Y c) (c_V nq_ sm Y (m_set (m_set c 70 z (nI a)) 71 0 (nI (z + 1)))) := by
  refine M_of_G (by decide +kernel) (Nat.le_of_ble_eq_true rfl) ?_
  obtain ⟨hI, hG, hgv, hov, hrw, hps⟩ := id hC9
  obtain ⟨hK, hT, hB, hP9, hA, hkf, haf, hbf⟩ := id hI
  have hA2 := hA.2
  have hT2 := hT.2
  have hK2 := hK.2
  have hB2 := hB.2
  have hG2 := hG.2
  have hP2 := hP9.2
  refine G_aload_n dX5_add_0 rfl rfl ?_
  refine G_get dX5_add_1 fg_X5_17 (hx_20 _ _ _) rfl ?_
  refine G_iconst (v := 5) dX5_add_4 rfl ?_
  refine G_icmp_ge (tgt := 28) dX5_add_5 (by decide) (fun c5 => ?_) (fun c5 => ?_)
  · skip
    exact absurd c5 (by rw [hz, show (5 : Int32) = nI 5 from rfl, nI_leI (by decide) (by omega)]; omega)
  · skip
    refine G_aload_n dX5_add_8 rfl rfl ?_
    refine G_get dX5_add_9 fg_X5_13 (hx_20 _ _ _) rfl ?_
    refine G_aload_n dX5_add_12 rfl rfl ?_
    refine G_get dX5_add_13 fg_X5_17 (hx_20 _ _ _) rfl ?_
    refine G_aload_n dX5_add_16 rfl rfl ?_
    refine G_aast (ci := 0) dX5_add_17 (fun _ => rfl) rfl rfl (Or.inl rfl) (hx_21 _ _ _) (hx_A hY ha) (by rw [hz]; exact vp_in_nI hz5 (by decide)) ?_
    rw [hz, nI_clamp (by omega), hw_prow (by omega)]
    refine G_aload_n dX5_add_18 rfl rfl ?_
    refine G_dup dX5_add_19 rfl ?_
    refine G_get dX5_add_20 fg_X5_17 (hx_20 _ _ _) rfl ?_
    refine G_iconst (v := 1) dX5_add_23 rfl ?_
    refine G_iadd dX5_add_24 ?_
    refine G_top (w := .int (nI (z + 1))) (congrArg Value.int (show c 71 0 + 1 = _ by rw [hz, nI_1])) ?_
    refine GC_psz dX5_add_25 fp_X5_17 ?_
    refine G_vret dX5_add_28 rfl ?_
    exact ⟨rfl, rfl, rfl⟩
set_option maxHeartbeats 4000000 in
set_option maxRecDepth 100000 in
theorem cx_rowS {g : gT} {nq_ n9 : Nat} {sm : mS} {Y : cY} {c : mS} (z i : Nat) (hY : Yok Y c n9) (hC9 : c_inv c) (hp : p_ok c z) (hi : i < z) : M g 0 0 0 kX5_askAtRow [.ref 20, .int (nI i)] nq_ (hh sm Y c) (m_Q (.ref (y_a Y 0 (ix (c 70 i)))) nq_ (hh sm Y c)) := by
  refine M_of_G (by decide +kernel) (Nat.le_of_ble_eq_true rfl) ?_
  obtain ⟨hI, hG, hgv, hov, hrw, hps⟩ := id hC9
  obtain ⟨hK, hT, hB, hP9, hA, hkf, haf, hbf⟩ := id hI
  have hA2 := hA.2
  have hT2 := hT.2
  have hK2 := hK.2
  have hB2 := hB.2
  have hG2 := hG.2
  have hP2 := hP9.2
  have hz5 := hp.2.1
  refine G_iload_n dX5_askAtRow_0 rfl rfl ?_
  refine G_if_lt (tgt := 26) dX5_askAtRow_1 (by decide) (fun c1 => ?_) (fun c1 => ?_)
  · skip
    exact absurd c1 (nI_pos (by omega))
  · skip
    refine G_iload_n dX5_askAtRow_4 rfl rfl ?_
    refine G_aload_n dX5_askAtRow_5 rfl rfl ?_
    refine G_get dX5_askAtRow_6 fg_X5_17 (hx_20 _ _ _) rfl ?_
    refine G_icmp_ge (tgt := 26) dX5_askAtRow_9 (by decide) (fun c9 => ?_) (fun c9 => ?_)
    · skip
      exact absurd c9 (by rw [hp.1, nI_leI (by omega) (by omega)]; omega)
    · skip
      refine G_iload_n dX5_askAtRow_12 rfl rfl ?_
      refine G_iconst (v := 5) dX5_askAtRow_13 rfl ?_
      refine G_icmp_ge (tgt := 26) dX5_askAtRow_14 (by decide) (fun c14 => ?_) (fun c14 => ?_)
      · skip
        exact absurd c14 (by rw [show (5 : Int32) = nI 5 from rfl, nI_leI (by decide) (by omega)]; omega)
      · skip
        refine G_aload_n dX5_askAtRow_17 rfl rfl ?_
        refine G_get dX5_askAtRow_18 fg_X5_13 (hx_20 _ _ _) rfl ?_
        refine G_iload_n dX5_askAtRow_21 rfl rfl ?_
        refine G_aald dX5_askAtRow_22 (fun _ => rfl) (hx_21 _ _ _) (vp_in_nI (N := 5) (by omega) (by decide)) ?_
        rw [nI_clamp (by omega)]
        refine G_goto (tgt := 27) dX5_askAtRow_23 (by decide) ?_
        refine G_aret dX5_askAtRow_27 rfl (Or.inl ⟨_, rfl⟩) ?_
        have e := hp.2.2 i hi
        exact ⟨congrArg (fun z => some (va_rf z)) (show oR (y_a Y 0) (c 70 i) = some (y_a Y 0 (ix (c 70 i))) from oR_at (fun q => oI_ne (by omega) (e.1.symm.trans q))), rfl, rfl⟩
set_option maxHeartbeats 4000000 in
set_option maxRecDepth 100000 in
theorem cx_rowN {g : gT} {nq_ n9 : Nat} {sm : mS} {Y : cY} {c : mS} (z i : Nat) (hY : Yok Y c n9) (hC9 : c_inv c) (hp : p_ok c z) (hi : z ≤ i) (hi5 : i < 2 ^ 31) : M g 0 0 0 kX5_askAtRow [.ref 20, .int (nI i)] nq_ (hh sm Y c) (m_Q (.null) nq_ (hh sm Y c)) := by
  refine M_of_G (by decide +kernel) (Nat.le_of_ble_eq_true rfl) ?_
  obtain ⟨hI, hG, hgv, hov, hrw, hps⟩ := id hC9
  obtain ⟨hK, hT, hB, hP9, hA, hkf, haf, hbf⟩ := id hI
  have hA2 := hA.2
  have hT2 := hT.2
  have hK2 := hK.2
  have hB2 := hB.2
  have hG2 := hG.2
  have hP2 := hP9.2
  have hz5 := hp.2.1
  refine G_iload_n dX5_askAtRow_0 rfl rfl ?_
  refine G_if_lt (tgt := 26) dX5_askAtRow_1 (by decide) (fun c1 => ?_) (fun c1 => ?_)
  · skip
    exact absurd c1 (nI_pos (by omega))
  · skip
    refine G_iload_n dX5_askAtRow_4 rfl rfl ?_
    refine G_aload_n dX5_askAtRow_5 rfl rfl ?_
    refine G_get dX5_askAtRow_6 fg_X5_17 (hx_20 _ _ _) rfl ?_
    refine G_icmp_ge (tgt := 26) dX5_askAtRow_9 (by decide) (fun c9 => ?_) (fun c9 => ?_)
    · skip
      refine G_null dX5_askAtRow_26 ?_
      refine G_aret (o := none) dX5_askAtRow_27 rfl (Or.inl ⟨_, rfl⟩) ?_
      exact ⟨rfl, rfl, rfl⟩
    · skip
      exact absurd (by rw [hp.1]; exact nI_le hi hi5) c9
set_option maxHeartbeats 4000000 in
set_option maxRecDepth 100000 in
theorem cx_whole {g : gT} {nq_ : Nat} {sm : mS} {Y : cY} {c : mS} (z : Nat) (hz : c 71 0 = nI z) (hz5 : z ≤ 5) : M g 0 0 0 kX5_wholeRow [.ref 20] nq_ (hh sm Y c) (m_Q (.int (nI (2 ^ z - 1))) nq_ (hh sm Y c)) := by
  refine M_of_G (by decide +kernel) (Nat.le_of_ble_eq_true rfl) ?_
  refine G_aload_n dX5_wholeRow_0 rfl rfl ?_
  refine G_get dX5_wholeRow_1 fg_X5_17 (hx_20 _ _ _) rfl ?_
  refine G_if_lt (tgt := 26) dX5_wholeRow_4 (by decide) (fun c4 => ?_) (fun c4 => ?_)
  · skip
    exact absurd c4 (by rw [hz]; exact nI_pos (by omega))
  · skip
    refine G_aload_n dX5_wholeRow_7 rfl rfl ?_
    refine G_get dX5_wholeRow_8 fg_X5_17 (hx_20 _ _ _) rfl ?_
    refine G_iconst (v := 5) dX5_wholeRow_11 rfl ?_
    refine G_icmp_gt (tgt := 26) dX5_wholeRow_12 (by decide) (fun c12 => ?_) (fun c12 => ?_)
    · skip
      exact absurd c12 (by rw [hz]; exact nI_nlt (b := z) (a := 5) hz5 (by decide))
    · skip
      refine G_iconst (v := 1) dX5_wholeRow_15 rfl ?_
      refine G_aload_n dX5_wholeRow_16 rfl rfl ?_
      refine G_get dX5_wholeRow_17 fg_X5_17 (hx_20 _ _ _) rfl ?_
      refine G_ishl dX5_wholeRow_20 ?_
      refine G_iconst (v := 1) dX5_wholeRow_21 rfl ?_
      refine G_isub dX5_wholeRow_22 ?_
      refine G_goto (tgt := 27) dX5_wholeRow_23 (by decide) ?_
      refine G_iret dX5_wholeRow_27 rfl ?_
      exact ⟨by rw [hz, (bt_z z (by omega)).1], rfl, rfl⟩
def c_wd (t : Nat) : Nat → Int32
  | 0 => 12 - nI t
  | m + 1 => c_wd t m * 13
noncomputable def c_kp (c : mS) (a : Nat) : Int32 := cif (c 32 a = 2) 80199288 (cif (c 32 a = 1) 13366548 2227758)
noncomputable def c_wo (c : mS) (a t i : Nat) : Int32 := cif (ix (c 6 t) = ix (c 28 a)) (c_kp c a + c_wd t (4 - i)) (c_kp c a - 371293 + c_wd t (4 - i))
set_option maxHeartbeats 4000000 in
set_option maxRecDepth 100000 in
theorem cx_worthOf {g : gT} {nq_ n9 : Nat} {sm : mS} {Y : cY} {c : mS} (a t i : Nat) (hY : Yok Y c n9) (hC9 : c_inv c) (ha : a < mA c) (ht : t < mT c) (hi4 : i ≤ 4) : M g 0 0 0 kX5_worthOf [.ref (y_a Y 0 a), .ref (y_a Y 7 t), .int (nI i)] nq_ (hh sm Y c) (m_Q (.int (c_wo c a t i)) nq_ (hh sm Y c)) := by
  refine M_of_G (by decide +kernel) (Nat.le_of_ble_eq_true rfl) ?_
  obtain ⟨hI, hG, hgv, hov, hrw, hps⟩ := id hC9
  obtain ⟨hK, hT, hB, hP9, hA, hkf, haf, hbf⟩ := id hI
  have hA2 := hA.2
  have hT2 := hT.2
  have hK2 := hK.2
  have hB2 := hB.2
  have hG2 := hG.2
  have hP2 := hP9.2
  have loop : ∀ m j, j + m = 4 - i → G g 0 0 0 kX5_worthOf 11 [.ref (y_a Y 0 a), .ref (y_a Y 7 t), .int (nI i), .int (c_wd t j), .int (nI (i + j))] [] nq_ (hh sm Y c) (m_Q (.int (c_wo c a t i)) nq_ (hh sm Y c)) := by
    intro m
    induction m with
    | zero =>
      intro j hj
      rw [Nat.add_zero] at hj
      subst hj
      refine G_iload dX5_worthOf_11 rfl ?_
      refine G_iconst (v := 4) dX5_worthOf_13 rfl ?_
      refine G_icmp_ge (tgt := 28) dX5_worthOf_14 (by decide) (fun c14 => ?_) (fun c14 => ?_)
      · skip
        refine G_aload_n dX5_worthOf_28 rfl rfl ?_
        refine G_get dX5_worthOf_29 fg_X5_74 (hx_A hY ha) rfl ?_
        refine G_iconst (v := 2) dX5_worthOf_32 rfl ?_
        refine G_icmp_ne (tgt := 41) dX5_worthOf_33 (by decide) (fun c33 => ?_) (fun c33 => ?_)
        · skip
          refine G_aload_n dX5_worthOf_41 rfl rfl ?_
          refine G_get dX5_worthOf_42 fg_X5_74 (hx_A hY ha) rfl ?_
          refine G_iconst (v := 1) dX5_worthOf_45 rfl ?_
          refine G_icmp_ne (tgt := 54) dX5_worthOf_46 (by decide) (fun c46 => ?_) (fun c46 => ?_)
          · skip
            refine G_ldc dX5_worthOf_54 tw_674 ?_
            refine G_istore dX5_worthOf_56 (Nat.le_of_ble_eq_true rfl) rfl ?_
            refine G_aload_n dX5_worthOf_58 rfl rfl ?_
            refine G_get dX5_worthOf_59 fg_X5_56 (hx_T hY ht) rfl ?_
            refine G_aload_n dX5_worthOf_62 rfl rfl ?_
            refine G_get dX5_worthOf_63 fg_X5_80 (hx_A hY ha) rfl ?_
            refine G_acmp_ne (a := (some (y_a Y 1 (ix (c 6 t))))) (b := (some (y_a Y 1 (ix (c 28 a))))) (tgt := 76) dX5_worthOf_66 (by decide) (ap_oo (na_K hY (hkf t ht).2) (na_K hY (haf _ ha).1.2)) (fun c66 => ?_) (fun c66 => ?_)
            · skip
              refine G_iload dX5_worthOf_76 rfl ?_
              refine G_ldc dX5_worthOf_78 tw_675 ?_
              refine G_isub dX5_worthOf_80 ?_
              refine G_iload_n dX5_worthOf_81 rfl rfl ?_
              refine G_iadd dX5_worthOf_82 ?_
              refine G_iret dX5_worthOf_83 rfl ?_
              first | exact q_e ((cif_t ((oe_K hY (hkf t ht).2 (haf a ha).1.2).mp c66)).trans (congrArg (fun z => z + c_wd t (4 - i)) (show c_kp c a = _ from (cif_t c33)))) | exact q_e ((cif_f (fun z => c66 ((oe_K hY (hkf t ht).2 (haf a ha).1.2).mpr z))).trans (congrArg (fun z => z - 371293 + c_wd t (4 - i)) (show c_kp c a = _ from (cif_t c33)))) | exact q_e ((cif_t ((oe_K hY (hkf t ht).2 (haf a ha).1.2).mp c66)).trans (congrArg (fun z => z + c_wd t (4 - i)) (show c_kp c a = _ from ((cif_f c33).trans (cif_t c46))))) | exact q_e ((cif_f (fun z => c66 ((oe_K hY (hkf t ht).2 (haf a ha).1.2).mpr z))).trans (congrArg (fun z => z - 371293 + c_wd t (4 - i)) (show c_kp c a = _ from ((cif_f c33).trans (cif_t c46))))) | exact q_e ((cif_t ((oe_K hY (hkf t ht).2 (haf a ha).1.2).mp c66)).trans (congrArg (fun z => z + c_wd t (4 - i)) (show c_kp c a = _ from ((cif_f c33).trans (cif_f c46))))) | exact q_e ((cif_f (fun z => c66 ((oe_K hY (hkf t ht).2 (haf a ha).1.2).mpr z))).trans (congrArg (fun z => z - 371293 + c_wd t (4 - i)) (show c_kp c a = _ from ((cif_f c33).trans (cif_f c46)))))
            · skip
              refine G_iload dX5_worthOf_69 rfl ?_
              refine G_iload_n dX5_worthOf_71 rfl rfl ?_
              refine G_iadd dX5_worthOf_72 ?_
              refine G_goto (tgt := 83) dX5_worthOf_73 (by decide) ?_
              refine G_iret dX5_worthOf_83 rfl ?_
              first | exact q_e ((cif_t ((oe_K hY (hkf t ht).2 (haf a ha).1.2).mp c66)).trans (congrArg (fun z => z + c_wd t (4 - i)) (show c_kp c a = _ from (cif_t c33)))) | exact q_e ((cif_f (fun z => c66 ((oe_K hY (hkf t ht).2 (haf a ha).1.2).mpr z))).trans (congrArg (fun z => z - 371293 + c_wd t (4 - i)) (show c_kp c a = _ from (cif_t c33)))) | exact q_e ((cif_t ((oe_K hY (hkf t ht).2 (haf a ha).1.2).mp c66)).trans (congrArg (fun z => z + c_wd t (4 - i)) (show c_kp c a = _ from ((cif_f c33).trans (cif_t c46))))) | exact q_e ((cif_f (fun z => c66 ((oe_K hY (hkf t ht).2 (haf a ha).1.2).mpr z))).trans (congrArg (fun z => z - 371293 + c_wd t (4 - i)) (show c_kp c a = _ from ((cif_f c33).trans (cif_t c46))))) | exact q_e ((cif_t ((oe_K hY (hkf t ht).2 (haf a ha).1.2).mp c66)).trans (congrArg (fun z => z + c_wd t (4 - i)) (show c_kp c a = _ from ((cif_f c33).trans (cif_f c46))))) | exact q_e ((cif_f (fun z => c66 ((oe_K hY (hkf t ht).2 (haf a ha).1.2).mpr z))).trans (congrArg (fun z => z - 371293 + c_wd t (4 - i)) (show c_kp c a = _ from ((cif_f c33).trans (cif_f c46)))))
          · skip
            refine G_ldc dX5_worthOf_49 tw_673 ?_
            refine G_goto (tgt := 56) dX5_worthOf_51 (by decide) ?_
            refine G_istore dX5_worthOf_56 (Nat.le_of_ble_eq_true rfl) rfl ?_
            refine G_aload_n dX5_worthOf_58 rfl rfl ?_
            refine G_get dX5_worthOf_59 fg_X5_56 (hx_T hY ht) rfl ?_
            refine G_aload_n dX5_worthOf_62 rfl rfl ?_
            refine G_get dX5_worthOf_63 fg_X5_80 (hx_A hY ha) rfl ?_
            refine G_acmp_ne (a := (some (y_a Y 1 (ix (c 6 t))))) (b := (some (y_a Y 1 (ix (c 28 a))))) (tgt := 76) dX5_worthOf_66 (by decide) (ap_oo (na_K hY (hkf t ht).2) (na_K hY (haf _ ha).1.2)) (fun c66 => ?_) (fun c66 => ?_)
            · skip
              refine G_iload dX5_worthOf_76 rfl ?_
              refine G_ldc dX5_worthOf_78 tw_675 ?_
              refine G_isub dX5_worthOf_80 ?_
              refine G_iload_n dX5_worthOf_81 rfl rfl ?_
              refine G_iadd dX5_worthOf_82 ?_
              refine G_iret dX5_worthOf_83 rfl ?_
              first | exact q_e ((cif_t ((oe_K hY (hkf t ht).2 (haf a ha).1.2).mp c66)).trans (congrArg (fun z => z + c_wd t (4 - i)) (show c_kp c a = _ from (cif_t c33)))) | exact q_e ((cif_f (fun z => c66 ((oe_K hY (hkf t ht).2 (haf a ha).1.2).mpr z))).trans (congrArg (fun z => z - 371293 + c_wd t (4 - i)) (show c_kp c a = _ from (cif_t c33)))) | exact q_e ((cif_t ((oe_K hY (hkf t ht).2 (haf a ha).1.2).mp c66)).trans (congrArg (fun z => z + c_wd t (4 - i)) (show c_kp c a = _ from ((cif_f c33).trans (cif_t c46))))) | exact q_e ((cif_f (fun z => c66 ((oe_K hY (hkf t ht).2 (haf a ha).1.2).mpr z))).trans (congrArg (fun z => z - 371293 + c_wd t (4 - i)) (show c_kp c a = _ from ((cif_f c33).trans (cif_t c46))))) | exact q_e ((cif_t ((oe_K hY (hkf t ht).2 (haf a ha).1.2).mp c66)).trans (congrArg (fun z => z + c_wd t (4 - i)) (show c_kp c a = _ from ((cif_f c33).trans (cif_f c46))))) | exact q_e ((cif_f (fun z => c66 ((oe_K hY (hkf t ht).2 (haf a ha).1.2).mpr z))).trans (congrArg (fun z => z - 371293 + c_wd t (4 - i)) (show c_kp c a = _ from ((cif_f c33).trans (cif_f c46)))))
            · skip
              refine G_iload dX5_worthOf_69 rfl ?_
              refine G_iload_n dX5_worthOf_71 rfl rfl ?_
              refine G_iadd dX5_worthOf_72 ?_
              refine G_goto (tgt := 83) dX5_worthOf_73 (by decide) ?_
              refine G_iret dX5_worthOf_83 rfl ?_
              first | exact q_e ((cif_t ((oe_K hY (hkf t ht).2 (haf a ha).1.2).mp c66)).trans (congrArg (fun z => z + c_wd t (4 - i)) (show c_kp c a = _ from (cif_t c33)))) | exact q_e ((cif_f (fun z => c66 ((oe_K hY (hkf t ht).2 (haf a ha).1.2).mpr z))).trans (congrArg (fun z => z - 371293 + c_wd t (4 - i)) (show c_kp c a = _ from (cif_t c33)))) | exact q_e ((cif_t ((oe_K hY (hkf t ht).2 (haf a ha).1.2).mp c66)).trans (congrArg (fun z => z + c_wd t (4 - i)) (show c_kp c a = _ from ((cif_f c33).trans (cif_t c46))))) | exact q_e ((cif_f (fun z => c66 ((oe_K hY (hkf t ht).2 (haf a ha).1.2).mpr z))).trans (congrArg (fun z => z - 371293 + c_wd t (4 - i)) (show c_kp c a = _ from ((cif_f c33).trans (cif_t c46))))) | exact q_e ((cif_t ((oe_K hY (hkf t ht).2 (haf a ha).1.2).mp c66)).trans (congrArg (fun z => z + c_wd t (4 - i)) (show c_kp c a = _ from ((cif_f c33).trans (cif_f c46))))) | exact q_e ((cif_f (fun z => c66 ((oe_K hY (hkf t ht).2 (haf a ha).1.2).mpr z))).trans (congrArg (fun z => z - 371293 + c_wd t (4 - i)) (show c_kp c a = _ from ((cif_f c33).trans (cif_f c46)))))
        · skip
          refine G_ldc dX5_worthOf_36 tw_672 ?_
          refine G_goto (tgt := 56) dX5_worthOf_38 (by decide) ?_
          refine G_istore dX5_worthOf_56 (Nat.le_of_ble_eq_true rfl) rfl ?_
          refine G_aload_n dX5_worthOf_58 rfl rfl ?_
          refine G_get dX5_worthOf_59 fg_X5_56 (hx_T hY ht) rfl ?_
          refine G_aload_n dX5_worthOf_62 rfl rfl ?_
          refine G_get dX5_worthOf_63 fg_X5_80 (hx_A hY ha) rfl ?_
          refine G_acmp_ne (a := (some (y_a Y 1 (ix (c 6 t))))) (b := (some (y_a Y 1 (ix (c 28 a))))) (tgt := 76) dX5_worthOf_66 (by decide) (ap_oo (na_K hY (hkf t ht).2) (na_K hY (haf _ ha).1.2)) (fun c66 => ?_) (fun c66 => ?_)
          · skip
            refine G_iload dX5_worthOf_76 rfl ?_
            refine G_ldc dX5_worthOf_78 tw_675 ?_
            refine G_isub dX5_worthOf_80 ?_
            refine G_iload_n dX5_worthOf_81 rfl rfl ?_
            refine G_iadd dX5_worthOf_82 ?_
            refine G_iret dX5_worthOf_83 rfl ?_
            first | exact q_e ((cif_t ((oe_K hY (hkf t ht).2 (haf a ha).1.2).mp c66)).trans (congrArg (fun z => z + c_wd t (4 - i)) (show c_kp c a = _ from (cif_t c33)))) | exact q_e ((cif_f (fun z => c66 ((oe_K hY (hkf t ht).2 (haf a ha).1.2).mpr z))).trans (congrArg (fun z => z - 371293 + c_wd t (4 - i)) (show c_kp c a = _ from (cif_t c33)))) | exact q_e ((cif_t ((oe_K hY (hkf t ht).2 (haf a ha).1.2).mp c66)).trans (congrArg (fun z => z + c_wd t (4 - i)) (show c_kp c a = _ from ((cif_f c33).trans (cif_t c46))))) | exact q_e ((cif_f (fun z => c66 ((oe_K hY (hkf t ht).2 (haf a ha).1.2).mpr z))).trans (congrArg (fun z => z - 371293 + c_wd t (4 - i)) (show c_kp c a = _ from ((cif_f c33).trans (cif_t c46))))) | exact q_e ((cif_t ((oe_K hY (hkf t ht).2 (haf a ha).1.2).mp c66)).trans (congrArg (fun z => z + c_wd t (4 - i)) (show c_kp c a = _ from ((cif_f c33).trans (cif_f c46))))) | exact q_e ((cif_f (fun z => c66 ((oe_K hY (hkf t ht).2 (haf a ha).1.2).mpr z))).trans (congrArg (fun z => z - 371293 + c_wd t (4 - i)) (show c_kp c a = _ from ((cif_f c33).trans (cif_f c46)))))
          · skip
            refine G_iload dX5_worthOf_69 rfl ?_
            refine G_iload_n dX5_worthOf_71 rfl rfl ?_
            refine G_iadd dX5_worthOf_72 ?_
            refine G_goto (tgt := 83) dX5_worthOf_73 (by decide) ?_
            refine G_iret dX5_worthOf_83 rfl ?_
            first | exact q_e ((cif_t ((oe_K hY (hkf t ht).2 (haf a ha).1.2).mp c66)).trans (congrArg (fun z => z + c_wd t (4 - i)) (show c_kp c a = _ from (cif_t c33)))) | exact q_e ((cif_f (fun z => c66 ((oe_K hY (hkf t ht).2 (haf a ha).1.2).mpr z))).trans (congrArg (fun z => z - 371293 + c_wd t (4 - i)) (show c_kp c a = _ from (cif_t c33)))) | exact q_e ((cif_t ((oe_K hY (hkf t ht).2 (haf a ha).1.2).mp c66)).trans (congrArg (fun z => z + c_wd t (4 - i)) (show c_kp c a = _ from ((cif_f c33).trans (cif_t c46))))) | exact q_e ((cif_f (fun z => c66 ((oe_K hY (hkf t ht).2 (haf a ha).1.2).mpr z))).trans (congrArg (fun z => z - 371293 + c_wd t (4 - i)) (show c_kp c a = _ from ((cif_f c33).trans (cif_t c46))))) | exact q_e ((cif_t ((oe_K hY (hkf t ht).2 (haf a ha).1.2).mp c66)).trans (congrArg (fun z => z + c_wd t (4 - i)) (show c_kp c a = _ from ((cif_f c33).trans (cif_f c46))))) | exact q_e ((cif_f (fun z => c66 ((oe_K hY (hkf t ht).2 (haf a ha).1.2).mpr z))).trans (congrArg (fun z => z - 371293 + c_wd t (4 - i)) (show c_kp c a = _ from ((cif_f c33).trans (cif_f c46)))))
      · skip
        exact absurd (by rw [show (4 : Int32) = nI 4 from rfl, nI_leI (by decide) (by omega)]; omega) c14
    | succ m ih =>
      intro j hj
      refine G_iload dX5_worthOf_11 rfl ?_
      refine G_iconst (v := 4) dX5_worthOf_13 rfl ?_
      refine G_icmp_ge (tgt := 28) dX5_worthOf_14 (by decide) (fun c14 => ?_) (fun c14 => ?_)
      · skip
        exact absurd c14 (by rw [show (4 : Int32) = nI 4 from rfl, nI_leI (by decide) (by omega)]; omega)
      · skip
        refine G_iload_n dX5_worthOf_17 rfl rfl ?_
        refine G_bipush (v := 13) dX5_worthOf_18 rfl ?_
        refine G_imul dX5_worthOf_20 ?_
        refine G_istore_n dX5_worthOf_21 rfl (Nat.le_of_ble_eq_true rfl) rfl ?_
        refine G_iinc (b := nI (i + (j + 1))) dX5_worthOf_22 rfl (nI_1 (i + j)) rfl ?_
        refine G_goto (tgt := 11) dX5_worthOf_25 (by decide) ?_
        exact ih (j + 1) (by omega)
  refine G_bipush (v := 12) dX5_worthOf_0 rfl ?_
  refine G_aload_n dX5_worthOf_2 rfl rfl ?_
  refine G_get dX5_worthOf_3 fg_X5_71 (hx_T hY ht) rfl ?_
  refine G_isub dX5_worthOf_6 ?_
  refine G_istore_n dX5_worthOf_7 rfl (Nat.le_of_ble_eq_true rfl) rfl ?_
  refine G_iload_n dX5_worthOf_8 rfl rfl ?_
  refine G_istore dX5_worthOf_9 (Nat.le_of_ble_eq_true rfl) rfl ?_
  exact loop (4 - i) 0 (by omega)
def c_rn (c : mS) (a b : Nat) (w : Int32) : Prop := s_near (c 30 a).toInt64 (c 31 a).toInt64 (c 30 b).toInt64 (c 31 b).toInt64 w
noncomputable def c_nr (c : mS) (a : Nat) (w : Int32) : Nat → Nat
  | 0 => 0
  | i + 1 => cif (c_rn c a (ix (c 70 i)) w) (c_nr c a w i + 2 ^ i) (c_nr c a w i)
theorem c_nr_lt (c : mS) (a : Nat) (w : Int32) : ∀ i, c_nr c a w i < 2 ^ i
  | 0 => Nat.zero_lt_one
  | i + 1 => by
    have ih := c_nr_lt c a w i
    have e : 2 ^ (i + 1) = 2 ^ i + 2 ^ i := by rw [Nat.pow_succ]; omega
    show cif _ _ _ < _
    by_cases h : c_rn c a (ix (c 70 i)) w
    · rw [cif_t h]; omega
    · rw [cif_f h]; omega
set_option maxHeartbeats 4000000 in
set_option maxRecDepth 100000 in
theorem cx_nearTo {g : gT} {nq_ n9 : Nat} {sm : mS} {Y : cY} {c : mS} (z a at9 : Nat) (w : Int32) (hY : Yok Y c n9) (hC9 : c_inv c) (hp : p_ok c z) (ha : a < mA c) (haz : at9 ≤ z) : M g 1 0 0 kX5_nearTo [.ref 20, .ref (y_a Y 0 a), .int w, .int (nI at9)] nq_ (hh sm Y c) (m_Q (.int (nI (c_nr c a w at9))) nq_ (hh sm Y c)) := by
  refine M_of_G (by decide +kernel) (Nat.le_of_ble_eq_true rfl) ?_
  obtain ⟨hI, hG, hgv, hov, hrw, hps⟩ := id hC9
  obtain ⟨hK, hT, hB, hP9, hA, hkf, haf, hbf⟩ := id hI
  have hA2 := hA.2
  have hT2 := hT.2
  have hK2 := hK.2
  have hB2 := hB.2
  have hG2 := hG.2
  have hP2 := hP9.2
  have hz5 := hp.2.1
  have loop : ∀ m i, i + m = at9 → ∀ w9 : Value, w9.category = 1 → G g 1 0 0 kX5_nearTo 6 [.ref 20, .ref (y_a Y 0 a), .int w, .int (nI at9), .int (nI (c_nr c a w i)), .int (nI i), w9] [] nq_ (hh sm Y c) (m_Q (.int (nI (c_nr c a w at9))) nq_ (hh sm Y c)) := by
    intro m
    induction m with
    | zero =>
      intro i hi0 w9 hw9
      rw [Nat.add_zero] at hi0
      refine G_iload dX5_nearTo_6 rfl ?_
      refine G_iload_n dX5_nearTo_8 rfl rfl ?_
      refine G_icmp_ge (tgt := 65) dX5_nearTo_9 (by decide) (fun c9 => ?_) (fun c9 => ?_)
      · skip
        refine G_iload dX5_nearTo_65 rfl ?_
        refine G_iret dX5_nearTo_67 rfl ?_
        exact ⟨by rw [hi0], rfl, rfl⟩
      · skip
        exact absurd (by rw [hi0]; exact Int32.le_refl _) c9
    | succ m ih =>
      intro i hi0 w9 hw9
      have hi : i < z := by omega
      have hl := c_nr_lt c a w i
      refine G_iload dX5_nearTo_6 rfl ?_
      refine G_iload_n dX5_nearTo_8 rfl rfl ?_
      refine G_icmp_ge (tgt := 65) dX5_nearTo_9 (by decide) (fun c9 => ?_) (fun c9 => ?_)
      · skip
        exact absurd c9 (by rw [nI_leI (by omega) (by omega)]; omega)
      · skip
        refine G_aload_n dX5_nearTo_12 rfl rfl ?_
        refine G_iload dX5_nearTo_13 rfl ?_
        refine G_callV (cx_rowS z i hY hC9 hp hi) dX5_nearTo_15 (mc_X5_48 rfl) tw_633 tw_634 (hx_20 _ _ _) rfl rfl rfl (Nat.le_of_ble_eq_true rfl) (Nat.le_of_ble_eq_true rfl) (Nat.le_of_ble_eq_true rfl) (Nat.le_of_ble_eq_true rfl) ?_
        rintro _ n9_ _ ⟨rfl, e9_, rfl⟩
        obtain rfl := e9_.symm
        refine G_astore dX5_nearTo_18 (Nat.le_of_ble_eq_true rfl) rfl ?_
        refine G_aload dX5_nearTo_20 rfl ?_
        refine G_ifnull dX5_nearTo_22 ?_
        refine G_aload_n dX5_nearTo_25 rfl rfl ?_
        refine G_get dX5_nearTo_26 fg_X5_82 (hx_A hY ha) rfl ?_
        refine G_aload_n dX5_nearTo_29 rfl rfl ?_
        refine G_get dX5_nearTo_30 fg_X5_85 (hx_A hY ha) rfl ?_
        refine G_aload dX5_nearTo_33 rfl ?_
        refine G_get dX5_nearTo_35 fg_X5_82 (hx_A hY (hp.2.2 i hi).2) rfl ?_
        refine G_aload dX5_nearTo_38 rfl ?_
        refine G_get dX5_nearTo_40 fg_X5_85 (hx_A hY (hp.2.2 i hi).2) rfl ?_
        refine G_iload_n dX5_nearTo_43 rfl rfl ?_
        refine G_callSN (cx_near _ _ _ _ _) dX5_nearTo_44 (mc_X5_88 rfl) tw_658 rfl rfl (Nat.le_of_ble_eq_true rfl) (Nat.le_of_ble_eq_true rfl) (Nat.le_of_ble_eq_true rfl) (Nat.le_of_ble_eq_true rfl) ?_
        rintro _ n9_ _ ⟨rfl, e9_, rfl⟩
        obtain rfl := e9_.symm
        refine G_if_eq (tgt := 59) dX5_nearTo_47 (by decide) (fun c47 => ?_) (fun c47 => ?_)
        · skip
          refine G_iinc (b := nI (i + 1)) dX5_nearTo_59 rfl (nI_1 i) rfl ?_
          refine G_goto (tgt := 6) dX5_nearTo_62 (by decide) ?_
          first | (have z9 := ih (i + 1) (by omega) (.ref (y_a Y 0 (ix (c 70 i)))) rfl; rw [show c_nr c a w (i + 1) = c_nr c a w i from cif_f (b1_0.mp c47)] at z9; exact z9) | (have z9 := ih (i + 1) (by omega) (.ref (y_a Y 0 (ix (c 70 i)))) rfl; rw [show c_nr c a w (i + 1) = c_nr c a w i + 2 ^ i from cif_t (b1_1 c47)] at z9; exact z9)
        · skip
          refine G_iload dX5_nearTo_50 rfl ?_
          refine G_iconst (v := 1) dX5_nearTo_52 rfl ?_
          refine G_iload dX5_nearTo_53 rfl ?_
          refine G_ishl dX5_nearTo_55 ?_
          refine G_ior dX5_nearTo_56 ?_
          refine G_top (w := .int (nI (c_nr c a w i + 2 ^ i))) (congrArg Value.int (by rw [bt_sh i (by omega), bt_or i (by omega) _ hl])) ?_
          refine G_istore dX5_nearTo_57 (Nat.le_of_ble_eq_true rfl) rfl ?_
          refine G_iinc (b := nI (i + 1)) dX5_nearTo_59 rfl (nI_1 i) rfl ?_
          refine G_goto (tgt := 6) dX5_nearTo_62 (by decide) ?_
          first | (have z9 := ih (i + 1) (by omega) (.ref (y_a Y 0 (ix (c 70 i)))) rfl; rw [show c_nr c a w (i + 1) = c_nr c a w i from cif_f (b1_0.mp c47)] at z9; exact z9) | (have z9 := ih (i + 1) (by omega) (.ref (y_a Y 0 (ix (c 70 i)))) rfl; rw [show c_nr c a w (i + 1) = c_nr c a w i + 2 ^ i from cif_t (b1_1 c47)] at z9; exact z9)
  refine G_iconst (v := 0) dX5_nearTo_0 rfl ?_
  refine G_istore dX5_nearTo_1 (Nat.le_of_ble_eq_true rfl) rfl ?_
  refine G_iconst (v := 0) dX5_nearTo_3 rfl ?_
  refine G_istore dX5_nearTo_4 (Nat.le_of_ble_eq_true rfl) rfl ?_
  exact loop at9 0 (by omega) (.retAddr 0) rfl
noncomputable def gI (i : Nat) (B : Prop) (W : Int32) (nr : Nat) : Nat → Nat → mS → mS
  | 0, _, c => c
  | m + 1, o, c => gI i B W nr m (o + 1) (m_set c 73 (2 ^ i + o) (cif (B ∧ ¬ c 73 o = -1 ∧ nr &&& o = 0) (c 73 o + W) (-1)))
noncomputable def gS (t mh i : Nat) (c : mS) : mS := cif (mh &&& 2 ^ i = 0) (gI i False 0 0 (2 ^ i) 0 c) (gI i True (c_wo c (ix (c 70 i)) t i) (c_nr c (ix (c 70 i)) (c 2 (ix (c 6 t))) i) (2 ^ i) 0 c)
noncomputable def gO (t mh : Nat) : Nat → Nat → mS → mS
  | 0, _, c => c
  | m + 1, i, c => gO t mh m (i + 1) (gS t mh i c)
def k73 (u c : mS) : Prop := ∀ j, j ≠ 73 → u j = c j
theorem k73.inv {u c : mS} (h : k73 u c) (hC : c_inv c) : c_inv u := c_inv_eq (fun j hj => h j (by simp only [List.mem_cons, List.not_mem_nil, or_false] at hj; omega)) hC
theorem k73.Y {u c : mS} {Y : cY} {n9 : Nat} (h : k73 u c) (hY : Yok Y c n9) : Yok Y u n9 := hY.same (congrFun (h 1 (by decide)) 0) (congrFun (h 5 (by decide)) 0) (congrFun (h 8 (by decide)) 0) (congrFun (h 23 (by decide)) 0) (congrFun (h 81 (by decide)) 0)
theorem k73.p {u c : mS} {z : Nat} (h : k73 u c) (hp : p_ok c z) : p_ok u z := by
  unfold p_ok mA at *
  rw [h 71 (by decide), h 70 (by decide), h 23 (by decide)]
  exact hp
theorem k73.A {u c : mS} (h : k73 u c) : mA u = mA c := by unfold mA; rw [h 23 (by decide)]
theorem k73.T {u c : mS} (h : k73 u c) : mT u = mT c := by unfold mT; rw [h 5 (by decide)]
theorem gI_k {i : Nat} {B : Prop} {W : Int32} {nr : Nat} : ∀ (m o : Nat) {u c : mS}, k73 u c → k73 (gI i B W nr m o u) c
  | 0, _, u, c, h => h
  | m + 1, o, u, c, h => gI_k m (o + 1) (fun j hj => (m_set_ne _ _ _ hj).trans (h j hj))
theorem gS_k {t mh i : Nat} {u c : mS} (h : k73 u c) : k73 (gS t mh i u) c := by
  unfold gS
  by_cases z : mh &&& 2 ^ i = 0
  · rw [cif_t z]; exact gI_k _ _ h
  · rw [cif_f z]; exact gI_k _ _ h
theorem gO_k {t mh : Nat} : ∀ (m i : Nat) {u c : mS}, k73 u c → k73 (gO t mh m i u) c
  | 0, _, _, _, h => h
  | m + 1, i, _, _, h => gO_k m (i + 1) (gS_k h)
noncomputable def c_wg (c : mS) (t mh z : Nat) : mS := gO t mh z 0 (m_set c 73 0 0)
set_option maxHeartbeats 4000000 in
set_option maxRecDepth 100000 in
theorem cx_winN {g : gT} {nq_ : Nat} {sm : mS} {Y : cY} {fin : mS} {t i : Nat} {M W : Int32} {nr : Nat} (hi5 : i < 5) (hnr : nr < 32) : ∀ (m o : Nat) (c : mS) (w9 : Value), w9.category = 1 → o + m = 2 ^ i → (∀ w9 : Value, w9.category = 1 → G g 2 0 0 kX5_weigh 164 [.ref 20, .ref (y_a Y 7 t), .int M, .int (nI i), .int (nI (2 ^ i)), .null, .int W, .int (nI nr), .int (nI (2 ^ i)), w9] [] nq_ (hh sm Y (gI i False W nr m o c)) (c_V nq_ sm Y fin)) → G g 2 0 0 kX5_weigh 91 [.ref 20, .ref (y_a Y 7 t), .int M, .int (nI i), .int (nI (2 ^ i)), .null, .int W, .int (nI nr), .int (nI o), w9] [] nq_ (hh sm Y c) (c_V nq_ sm Y fin) := by
  have h16 := bt_2i hi5
  intro m
  induction m with
  | zero =>
    intro o c w9 hw9 ho K
    rw [Nat.add_zero] at ho
    subst ho
    refine G_iload dX5_weigh_91 rfl ?_
    refine G_iload dX5_weigh_93 rfl ?_
    refine G_icmp_ge (tgt := 164) dX5_weigh_95 (by decide) (fun c95 => ?_) (fun c95 => ?_)
    · skip
      exact K w9 hw9
    · skip
      exact absurd (Int32.le_refl _) c95
  | succ m ih =>
    intro o c w9 hw9 ho K
    refine G_iload dX5_weigh_91 rfl ?_
    refine G_iload dX5_weigh_93 rfl ?_
    refine G_icmp_ge (tgt := 164) dX5_weigh_95 (by decide) (fun c95 => ?_) (fun c95 => ?_)
    · skip
      exact absurd c95 (by rw [nI_leI (by omega) (by omega)]; omega)
    · skip
      refine G_aloadN dX5_weigh_98 rfl ?_
      refine G_ifnullN (tgt := 126) dX5_weigh_100 (by decide) ?_
      refine G_iconst (v := 0) dX5_weigh_126 rfl ?_
      refine G_istore dX5_weigh_127 (Nat.le_of_ble_eq_true rfl) rfl ?_
      refine G_aload_n dX5_weigh_129 rfl rfl ?_
      refine G_get dX5_weigh_130 fg_X5_25 (hx_20 _ _ _) rfl ?_
      refine G_iload dX5_weigh_133 rfl ?_
      refine G_iload dX5_weigh_135 rfl ?_
      refine G_ior dX5_weigh_137 ?_
      refine G_top (w := .int (nI (2 ^ i + o))) (congrArg Value.int (bt_ro i hi5 o (by omega))) ?_
      refine G_iload dX5_weigh_138 rfl ?_
      refine G_if_eq (tgt := 156) dX5_weigh_140 (by decide) (fun _ => ?_) (fun c140 => absurd rfl c140)
      refine G_iconst (v := -1) dX5_weigh_156 rfl ?_
      refine G_top (w := .int (cif (False ∧ ¬ c 73 o = -1 ∧ nr &&& o = 0) (c 73 o + W) (-1))) (congrArg Value.int (Eq.symm (cif_f (fun q => q.1)))) ?_
      refine GC_gns dX5_weigh_157 ⟨rfl, by omega⟩ ?_
      refine G_iinc (b := nI (o + 1)) dX5_weigh_158 rfl (nI_1 o) rfl ?_
      refine G_goto (tgt := 91) dX5_weigh_161 (by decide) ?_
      exact ih (o + 1) _ _ rfl (by omega) K
set_option maxHeartbeats 4000000 in
set_option maxRecDepth 100000 in
theorem cx_winR {g : gT} {nq_ : Nat} {sm : mS} {Y : cY} {fin : mS} {t i p9 : Nat} {M W : Int32} {nr : Nat} (hi5 : i < 5) (hnr : nr < 32) : ∀ (m o : Nat) (c : mS) (w9 : Value), w9.category = 1 → o + m = 2 ^ i → (∀ w9 : Value, w9.category = 1 → G g 2 0 0 kX5_weigh 164 [.ref 20, .ref (y_a Y 7 t), .int M, .int (nI i), .int (nI (2 ^ i)), .ref p9, .int W, .int (nI nr), .int (nI (2 ^ i)), w9] [] nq_ (hh sm Y (gI i True W nr m o c)) (c_V nq_ sm Y fin)) → G g 2 0 0 kX5_weigh 91 [.ref 20, .ref (y_a Y 7 t), .int M, .int (nI i), .int (nI (2 ^ i)), .ref p9, .int W, .int (nI nr), .int (nI o), w9] [] nq_ (hh sm Y c) (c_V nq_ sm Y fin) := by
  have h16 := bt_2i hi5
  intro m
  induction m with
  | zero =>
    intro o c w9 hw9 ho K
    rw [Nat.add_zero] at ho
    subst ho
    refine G_iload dX5_weigh_91 rfl ?_
    refine G_iload dX5_weigh_93 rfl ?_
    refine G_icmp_ge (tgt := 164) dX5_weigh_95 (by decide) (fun c95 => ?_) (fun c95 => ?_)
    · skip
      exact K w9 hw9
    · skip
      exact absurd (Int32.le_refl _) c95
  | succ m ih =>
    intro o c w9 hw9 ho K
    refine G_iload dX5_weigh_91 rfl ?_
    refine G_iload dX5_weigh_93 rfl ?_
    refine G_icmp_ge (tgt := 164) dX5_weigh_95 (by decide) (fun c95 => ?_) (fun c95 => ?_)
    · skip
      exact absurd c95 (by rw [nI_leI (by omega) (by omega)]; omega)
    · skip
      refine G_aload dX5_weigh_98 rfl ?_
      refine G_ifnull dX5_weigh_100 ?_
      refine G_aload_n dX5_weigh_103 rfl rfl ?_
      refine G_get dX5_weigh_104 fg_X5_25 (hx_20 _ _ _) rfl ?_
      refine G_iload dX5_weigh_107 rfl ?_
      refine GR_gns dX5_weigh_109 ⟨rfl, by omega⟩ ?_
      refine G_iconst (v := -1) dX5_weigh_110 rfl ?_
      refine G_icmp_eq (tgt := 126) dX5_weigh_111 (by decide) (fun c111 => ?_) (fun c111 => ?_)
      · skip
        refine G_iconst (v := 0) dX5_weigh_126 rfl ?_
        refine G_istore dX5_weigh_127 (Nat.le_of_ble_eq_true rfl) rfl ?_
        refine G_aload_n dX5_weigh_129 rfl rfl ?_
        refine G_get dX5_weigh_130 fg_X5_25 (hx_20 _ _ _) rfl ?_
        refine G_iload dX5_weigh_133 rfl ?_
        refine G_iload dX5_weigh_135 rfl ?_
        refine G_ior dX5_weigh_137 ?_
        refine G_top (w := .int (nI (2 ^ i + o))) (congrArg Value.int (bt_ro i hi5 o (by omega))) ?_
        refine G_iload dX5_weigh_138 rfl ?_
        refine G_if_eq (tgt := 156) dX5_weigh_140 (by decide) (fun _ => ?_) (fun c140 => absurd rfl c140)
        refine G_iconst (v := -1) dX5_weigh_156 rfl ?_
        refine G_top (w := .int (cif (True ∧ ¬ c 73 o = -1 ∧ nr &&& o = 0) (c 73 o + W) (-1))) (congrArg Value.int (Eq.symm (cif_f (by first | exact (fun q => q.2.1 c111) | exact (fun q => hna q.2.2))))) ?_
        refine GC_gns dX5_weigh_157 ⟨rfl, by omega⟩ ?_
        refine G_iinc (b := nI (o + 1)) dX5_weigh_158 rfl (nI_1 o) rfl ?_
        refine G_goto (tgt := 91) dX5_weigh_161 (by decide) ?_
        exact ih (o + 1) _ _ rfl (by omega) K
      · skip
        refine G_iload dX5_weigh_114 rfl ?_
        refine G_iload dX5_weigh_116 rfl ?_
        refine G_iand dX5_weigh_118 ?_
        refine G_top (w := .int (nI (nr &&& o))) (congrArg Value.int (bt_and nr (by omega) o (by omega))) ?_
        refine G_if_ne (tgt := 126) dX5_weigh_119 (by decide) (fun c119 => ?_) (fun c119 => ?_)
        · skip
          have hna : ¬ nr &&& o = 0 := fun q => c119 (by rw [q]; rfl)
          refine G_iconst (v := 0) dX5_weigh_126 rfl ?_
          refine G_istore dX5_weigh_127 (Nat.le_of_ble_eq_true rfl) rfl ?_
          refine G_aload_n dX5_weigh_129 rfl rfl ?_
          refine G_get dX5_weigh_130 fg_X5_25 (hx_20 _ _ _) rfl ?_
          refine G_iload dX5_weigh_133 rfl ?_
          refine G_iload dX5_weigh_135 rfl ?_
          refine G_ior dX5_weigh_137 ?_
          refine G_top (w := .int (nI (2 ^ i + o))) (congrArg Value.int (bt_ro i hi5 o (by omega))) ?_
          refine G_iload dX5_weigh_138 rfl ?_
          refine G_if_eq (tgt := 156) dX5_weigh_140 (by decide) (fun _ => ?_) (fun c140 => absurd rfl c140)
          refine G_iconst (v := -1) dX5_weigh_156 rfl ?_
          refine G_top (w := .int (cif (True ∧ ¬ c 73 o = -1 ∧ nr &&& o = 0) (c 73 o + W) (-1))) (congrArg Value.int (Eq.symm (cif_f (by first | exact (fun q => q.2.1 c111) | exact (fun q => hna q.2.2))))) ?_
          refine GC_gns dX5_weigh_157 ⟨rfl, by omega⟩ ?_
          refine G_iinc (b := nI (o + 1)) dX5_weigh_158 rfl (nI_1 o) rfl ?_
          refine G_goto (tgt := 91) dX5_weigh_161 (by decide) ?_
          exact ih (o + 1) _ _ rfl (by omega) K
        · skip
          have hna : nr &&& o = 0 := (nI_z0 (Nat.lt_of_le_of_lt Nat.and_le_left (by omega))).mp c119
          refine G_iconst (v := 1) dX5_weigh_122 rfl ?_
          refine G_goto (tgt := 127) dX5_weigh_123 (by decide) ?_
          refine G_istore dX5_weigh_127 (Nat.le_of_ble_eq_true rfl) rfl ?_
          refine G_aload_n dX5_weigh_129 rfl rfl ?_
          refine G_get dX5_weigh_130 fg_X5_25 (hx_20 _ _ _) rfl ?_
          refine G_iload dX5_weigh_133 rfl ?_
          refine G_iload dX5_weigh_135 rfl ?_
          refine G_ior dX5_weigh_137 ?_
          refine G_top (w := .int (nI (2 ^ i + o))) (congrArg Value.int (bt_ro i hi5 o (by omega))) ?_
          refine G_iload dX5_weigh_138 rfl ?_
          refine G_if_eq (tgt := 156) dX5_weigh_140 (by decide) (fun c140 => absurd c140 (by decide)) (fun _ => ?_)
          refine G_aload_n dX5_weigh_143 rfl rfl ?_
          refine G_get dX5_weigh_144 fg_X5_25 (hx_20 _ _ _) rfl ?_
          refine G_iload dX5_weigh_147 rfl ?_
          refine GR_gns dX5_weigh_149 ⟨rfl, by omega⟩ ?_
          refine G_iload dX5_weigh_150 rfl ?_
          refine G_iadd dX5_weigh_152 ?_
          refine G_goto (tgt := 157) dX5_weigh_153 (by decide) ?_
          refine G_top (w := .int (cif (True ∧ ¬ c 73 o = -1 ∧ nr &&& o = 0) (c 73 o + W) (-1))) (congrArg Value.int (Eq.symm (cif_t ⟨trivial, c111, hna⟩))) ?_
          refine GC_gns dX5_weigh_157 ⟨rfl, by omega⟩ ?_
          refine G_iinc (b := nI (o + 1)) dX5_weigh_158 rfl (nI_1 o) rfl ?_
          refine G_goto (tgt := 91) dX5_weigh_161 (by decide) ?_
          exact ih (o + 1) _ _ rfl (by omega) K
set_option maxHeartbeats 4000000 in
set_option maxRecDepth 100000 in
theorem cx_weigh {g : gT} {nq_ n9 : Nat} {sm : mS} {Y : cY} {c fin : mS} (t mh z : Nat) (hY : Yok Y c n9) (hC9 : c_inv c) (hp : p_ok c z) (ht : t < mT c) (hmh : mh < 32) (he : fin = c_wg c t mh z) : M g 2 0 0 kX5_weigh [.ref 20, .ref (y_a Y 7 t), .int (nI mh)] nq_ (hh sm Y c) (c_V nq_ sm Y fin) := by
  refine M_of_G (by decide +kernel) (Nat.le_of_ble_eq_true rfl) ?_
  have hz5 := hp.2.1
  have loop : ∀ m i (c : mS) (w4 w5 w6 w7 w8 w9 : Value), w4.category = 1 → w5.category = 1 → w6.category = 1 → w7.category = 1 → w8.category = 1 → w9.category = 1 → c_inv c → Yok Y c n9 → p_ok c z → t < mT c → i + m = z → fin = gO t mh m i c → G g 2 0 0 kX5_weigh 9 [.ref 20, .ref (y_a Y 7 t), .int (nI mh), .int (nI i), w4, w5, w6, w7, w8, w9] [] nq_ (hh sm Y c) (c_V nq_ sm Y fin) := by
    intro m
    induction m with
    | zero =>
      intro i c w4 w5 w6 w7 w8 w9 hw4 hw5 hw6 hw7 hw8 hw9 hC9 hY hp ht hi0 hs
      obtain ⟨hI, hG, hgv, hov, hrw, hps⟩ := id hC9
      obtain ⟨hK, hT, hB, hP9, hA, hkf, haf, hbf⟩ := id hI
      have hA2 := hA.2
      have hT2 := hT.2
      have hK2 := hK.2
      have hB2 := hB.2
      have hG2 := hG.2
      have hP2 := hP9.2
      rw [Nat.add_zero] at hi0
      refine G_iload_n dX5_weigh_9 rfl rfl ?_
      refine G_aload_n dX5_weigh_10 rfl rfl ?_
      refine G_get dX5_weigh_11 fg_X5_17 (hx_20 _ _ _) rfl ?_
      refine G_icmp_ge (tgt := 170) dX5_weigh_14 (by decide) (fun c14 => ?_) (fun c14 => ?_)
      · skip
        refine G_vret dX5_weigh_170 rfl ?_
        exact v_cc hs
      · skip
        exact absurd (by rw [hp.1, hi0]; exact Int32.le_refl _) c14
    | succ m ih =>
      intro i c w4 w5 w6 w7 w8 w9 hw4 hw5 hw6 hw7 hw8 hw9 hC9 hY hp ht hi0 hs
      obtain ⟨hI, hG, hgv, hov, hrw, hps⟩ := id hC9
      obtain ⟨hK, hT, hB, hP9, hA, hkf, haf, hbf⟩ := id hI
      have hA2 := hA.2
      have hT2 := hT.2
      have hK2 := hK.2
      have hB2 := hB.2
      have hG2 := hG.2
      have hP2 := hP9.2
      have hi : i < z := by omega
      have hi5 : i < 5 := by omega
      have h16 := bt_2i hi5
      refine G_iload_n dX5_weigh_9 rfl rfl ?_
      refine G_aload_n dX5_weigh_10 rfl rfl ?_
      refine G_get dX5_weigh_11 fg_X5_17 (hx_20 _ _ _) rfl ?_
      refine G_icmp_ge (tgt := 170) dX5_weigh_14 (by decide) (fun c14 => ?_) (fun c14 => ?_)
      · skip
        exact absurd c14 (by rw [hp.1, nI_leI (by omega) (by omega)]; omega)
      · skip
        refine G_iload_n dX5_weigh_17 rfl rfl ?_
        refine G_iconst (v := 5) dX5_weigh_18 rfl ?_
        refine G_icmp_ge (tgt := 170) dX5_weigh_19 (by decide) (fun c19 => ?_) (fun c19 => ?_)
        · skip
          exact absurd c19 (by rw [show (5 : Int32) = nI 5 from rfl, nI_leI (by decide) (by omega)]; omega)
        · skip
          refine G_iconst (v := 1) dX5_weigh_22 rfl ?_
          refine G_iload_n dX5_weigh_23 rfl rfl ?_
          refine G_ishl dX5_weigh_24 ?_
          refine G_top (w := .int (nI (2 ^ i))) (congrArg Value.int (bt_sh i hi5)) ?_
          refine G_istore dX5_weigh_25 (Nat.le_of_ble_eq_true rfl) rfl ?_
          refine G_iload_n dX5_weigh_27 rfl rfl ?_
          refine G_iload dX5_weigh_28 rfl ?_
          refine G_iand dX5_weigh_30 ?_
          refine G_top (w := .int (nI (mh &&& 2 ^ i))) (congrArg Value.int (bt_and mh hmh (2 ^ i) (by omega))) ?_
          refine G_if_ne (tgt := 38) dX5_weigh_31 (by decide) (fun c31 => ?_) (fun c31 => ?_)
          · skip
            have hmz : ¬ mh &&& 2 ^ i = 0 := fun q => c31 (by rw [q]; rfl)
            refine G_aload_n dX5_weigh_38 rfl rfl ?_
            refine G_iload_n dX5_weigh_39 rfl rfl ?_
            refine G_callV (cx_rowS z i hY hC9 hp hi) dX5_weigh_40 (mc_X5_48 rfl) tw_633 tw_634 (hx_20 _ _ _) rfl rfl rfl (Nat.le_of_ble_eq_true rfl) (Nat.le_of_ble_eq_true rfl) (Nat.le_of_ble_eq_true rfl) (Nat.le_of_ble_eq_true rfl) ?_
            rintro _ n9_ _ ⟨rfl, e9_, rfl⟩
            obtain rfl := e9_.symm
            refine G_astore dX5_weigh_43 (Nat.le_of_ble_eq_true rfl) rfl ?_
            refine G_aload dX5_weigh_45 rfl ?_
            refine G_ifnonnull (tgt := 54) dX5_weigh_47 (by decide) ?_
            refine G_aload dX5_weigh_54 rfl ?_
            refine G_aload_n dX5_weigh_56 rfl rfl ?_
            refine G_iload_n dX5_weigh_57 rfl rfl ?_
            refine G_callS (cx_worthOf _ t i hY hC9 (hp.2.2 i hi).2 ht (by omega)) dX5_weigh_58 (mc_X5_52 rfl) tw_670 rfl rfl (Nat.le_of_ble_eq_true rfl) (Nat.le_of_ble_eq_true rfl) (Nat.le_of_ble_eq_true rfl) (Nat.le_of_ble_eq_true rfl) ?_
            rintro _ n9_ _ ⟨rfl, e9_, rfl⟩
            obtain rfl := e9_.symm
            refine G_istore dX5_weigh_61 (Nat.le_of_ble_eq_true rfl) rfl ?_
            refine G_aload dX5_weigh_63 rfl ?_
            refine G_ifnonnull (tgt := 72) dX5_weigh_65 (by decide) ?_
            refine G_aload_n dX5_weigh_72 rfl rfl ?_
            refine G_aload dX5_weigh_73 rfl ?_
            refine G_aload_n dX5_weigh_75 rfl rfl ?_
            refine G_get dX5_weigh_76 fg_X5_56 (hx_T hY ht) rfl ?_
            refine G_get dX5_weigh_79 fg_X5_62 (hx_K hY (hkf _ ht).2) rfl ?_
            refine G_iload_n dX5_weigh_82 rfl rfl ?_
            refine G_callV (cx_nearTo z _ i _ hY hC9 hp (hp.2.2 i hi).2 (by omega)) dX5_weigh_83 (mc_X5_67 rfl) tw_678 tw_16 (hx_20 _ _ _) rfl rfl rfl (Nat.le_of_ble_eq_true rfl) (Nat.le_of_ble_eq_true rfl) (Nat.le_of_ble_eq_true rfl) (Nat.le_of_ble_eq_true rfl) ?_
            rintro _ n9_ _ ⟨rfl, e9_, rfl⟩
            obtain rfl := e9_.symm
            refine G_istore dX5_weigh_86 (Nat.le_of_ble_eq_true rfl) rfl ?_
            refine G_iconst (v := 0) dX5_weigh_88 rfl ?_
            refine G_istore dX5_weigh_89 (Nat.le_of_ble_eq_true rfl) rfl ?_
            refine cx_winR (nr := c_nr c (ix (c 70 i)) (c 2 (ix (c 6 t))) i) hi5 (Nat.lt_of_lt_of_le (c_nr_lt _ _ _ _) (by omega)) (2 ^ i) 0 c w9 hw9 (by omega) ?_
            intro w9 hw9
            refine G_iinc (b := nI (i + 1)) dX5_weigh_164 rfl (nI_1 i) rfl ?_
            refine G_goto (tgt := 9) dX5_weigh_167 (by decide) ?_
            have hk := gS_k (t := t) (mh := mh) (i := i) (u := c) (c := c) (fun _ _ => rfl)
            have eS : gS t mh i c = _ := cif_f hmz
            refine G_hc eS.symm ?_
            exact ih (i + 1) (gS t mh i c) _ _ _ _ _ _ rfl rfl rfl rfl rfl hw9 (hk.inv hC9) (hk.Y hY) (hk.p hp) (by rw [hk.T]; exact ht) (by omega) hs
          · skip
            have hmz : mh &&& 2 ^ i = 0 := (nI_z0 (Nat.lt_of_le_of_lt Nat.and_le_left (by omega))).mp c31
            refine G_null dX5_weigh_34 ?_
            refine G_goto (tgt := 43) dX5_weigh_35 (by decide) ?_
            refine G_astoreN dX5_weigh_43 (Nat.le_of_ble_eq_true rfl) rfl ?_
            refine G_aloadN dX5_weigh_45 rfl ?_
            refine G_ifnonnullN dX5_weigh_47 ?_
            refine G_iconst (v := 0) dX5_weigh_50 rfl ?_
            refine G_goto (tgt := 61) dX5_weigh_51 (by decide) ?_
            refine G_istore dX5_weigh_61 (Nat.le_of_ble_eq_true rfl) rfl ?_
            refine G_aloadN dX5_weigh_63 rfl ?_
            refine G_ifnonnullN dX5_weigh_65 ?_
            refine G_iconst (v := 0) dX5_weigh_68 rfl ?_
            refine G_goto (tgt := 86) dX5_weigh_69 (by decide) ?_
            refine G_istore dX5_weigh_86 (Nat.le_of_ble_eq_true rfl) rfl ?_
            refine G_iconst (v := 0) dX5_weigh_88 rfl ?_
            refine G_istore dX5_weigh_89 (Nat.le_of_ble_eq_true rfl) rfl ?_
            refine cx_winN (W := 0) (nr := 0) hi5 (by decide) (2 ^ i) 0 c w9 hw9 (by omega) ?_
            intro w9 hw9
            refine G_iinc (b := nI (i + 1)) dX5_weigh_164 rfl (nI_1 i) rfl ?_
            refine G_goto (tgt := 9) dX5_weigh_167 (by decide) ?_
            have hk := gS_k (t := t) (mh := mh) (i := i) (u := c) (c := c) (fun _ _ => rfl)
            have eS : gS t mh i c = _ := cif_t hmz
            refine G_hc eS.symm ?_
            exact ih (i + 1) (gS t mh i c) _ _ _ _ _ _ rfl rfl rfl rfl rfl hw9 (hk.inv hC9) (hk.Y hY) (hk.p hp) (by rw [hk.T]; exact ht) (by omega) hs
  refine G_aload_n dX5_weigh_0 rfl rfl ?_
  refine G_get dX5_weigh_1 fg_X5_25 (hx_20 _ _ _) rfl ?_
  refine G_iconst (v := 0) dX5_weigh_4 rfl ?_
  refine G_iconst (v := 0) dX5_weigh_5 rfl ?_
  refine GC_gns dX5_weigh_6 ⟨rfl, by decide⟩ ?_
  refine G_iconst (v := 0) dX5_weigh_7 rfl ?_
  refine G_istore_n dX5_weigh_8 rfl (Nat.le_of_ble_eq_true rfl) rfl ?_
  exact loop z 0 _ (.retAddr 0) (.retAddr 0) (.retAddr 0) (.retAddr 0) (.retAddr 0) (.retAddr 0) rfl rfl rfl rfl rfl rfl hC9 (hY.same rfl rfl rfl rfl rfl) hp ht (by omega) he
noncomputable def oI2 (set parts : Nat) : Nat → Nat → mS → mS
  | 0, _, c => c
  | f + 1, p, c => cif (p = 0) c (oI2 set parts f ((p - 1) &&& parts) (cif (0 < c 73 p) (m_set c 72 set (mx (c 72 set) (c 72 (set ^^^ p) + c 73 p))) c))
noncomputable def oO2 (mh : Nat) : Nat → mS → mS
  | 0, c => c
  | s + 1, c => oO2 mh s (oI2 (s + 1) ((s + 1) &&& mh) 32 ((s + 1) &&& mh) c)
def k72 (u c : mS) : Prop := ∀ j, j ≠ 72 → u j = c j
theorem k72.inv {u c : mS} (h : k72 u c) (hC : c_inv c) : c_inv u := c_inv_eq (fun j hj => h j (by simp only [List.mem_cons, List.not_mem_nil, or_false] at hj; omega)) hC
theorem oI2_k {set parts : Nat} : ∀ (f p : Nat) {u c : mS}, k72 u c → k72 (oI2 set parts f p u) c
  | 0, _, _, _, h => h
  | f + 1, p, u, c, h => by
    show k72 (cif _ _ _) c
    by_cases z : p = 0
    · rw [cif_t z]; exact h
    rw [cif_f z]
    refine oI2_k f _ ?_
    by_cases w : 0 < u 73 p
    · rw [cif_t w]; exact fun j hj => (m_set_ne _ _ _ hj).trans (h j hj)
    · rw [cif_f w]; exact h
theorem oO2_k {mh : Nat} : ∀ (s : Nat) {u c : mS}, k72 u c → k72 (oO2 mh s u) c
  | 0, _, _, h => h
  | s + 1, _, _, h => oO2_k s (oI2_k _ _ h)
noncomputable def c_off (c : mS) (t mh z : Nat) : mS := cif (mh = 0) c (oO2 mh (2 ^ z - 1) (c_wg c t mh z))
set_option maxHeartbeats 4000000 in
set_option maxRecDepth 100000 in
theorem cx_offI {g : gT} {nq_ : Nat} {sm : mS} {Y : cY} {fin : mS} {t mh set parts : Nat} (hset : set < 32) (hpar : parts < 32) : ∀ (f p : Nat) (c : mS), p < f ∧ p < 32 → G g 3 0 0 kX5_offer 88 [.ref 20, .ref (y_a Y 7 t), .int (nI mh), .int (nI set), .int (nI parts), .int (nI 0)] [] nq_ (hh sm Y (oI2 set parts f p c)) (c_V nq_ sm Y fin) → G g 3 0 0 kX5_offer 29 [.ref 20, .ref (y_a Y 7 t), .int (nI mh), .int (nI set), .int (nI parts), .int (nI p)] [] nq_ (hh sm Y c) (c_V nq_ sm Y fin) := by
  intro f
  induction f with
  | zero => intro p c hp K; exact absurd hp.1 (Nat.not_lt_zero _)
  | succ f ih =>
    intro p c hp K
    refine G_iload dX5_offer_29 rfl ?_
    refine G_if_le (tgt := 88) dX5_offer_31 (by decide) (fun c31 => ?_) (fun c31 => ?_)
    · skip
      have hp0 : p = 0 := by
        rw [show (0 : Int32) = nI 0 from rfl, nI_leI (by omega) (by decide)] at c31
        omega
      subst hp0
      have e9 : oI2 set parts (f + 1) 0 c = c := cif_t rfl
      rw [e9] at K
      exact K
    · skip
      have hp0 : ¬ p = 0 := fun q => c31 (by rw [q]; decide)
      refine G_aload_n dX5_offer_34 rfl rfl ?_
      refine G_get dX5_offer_35 fg_X5_25 (hx_20 _ _ _) rfl ?_
      refine G_iload dX5_offer_38 rfl ?_
      refine GR_gns dX5_offer_40 ⟨rfl, by omega⟩ ?_
      refine G_if_le (tgt := 76) dX5_offer_41 (by decide) (fun c41 => ?_) (fun c41 => ?_)
      · skip
        refine G_iload dX5_offer_76 rfl ?_
        refine G_iconst (v := 1) dX5_offer_78 rfl ?_
        refine G_isub dX5_offer_79 ?_
        refine G_iload dX5_offer_80 rfl ?_
        refine G_iand dX5_offer_82 ?_
        refine G_top (w := .int (nI ((p - 1) &&& parts))) (congrArg Value.int (by rw [bt_dec p (by omega) parts (by omega), if_neg hp0])) ?_
        refine G_istore dX5_offer_83 (Nat.le_of_ble_eq_true rfl) rfl ?_
        refine G_goto (tgt := 29) dX5_offer_85 (by decide) ?_
        first | exact ih ((p - 1) &&& parts) _ (by have := Nat.and_le_left (n := p - 1) (m := parts); omega) (G_hc ((cif_f hp0).trans (congrArg (oI2 set parts f ((p - 1) &&& parts)) (cif_t (Int32.not_le.mp c41)))).symm K) | exact ih ((p - 1) &&& parts) _ (by have := Nat.and_le_left (n := p - 1) (m := parts); omega) (G_hc ((cif_f hp0).trans (congrArg (oI2 set parts f ((p - 1) &&& parts)) (cif_f (Int32.not_lt.mpr c41)))).symm K)
      · skip
        refine G_aload_n dX5_offer_44 rfl rfl ?_
        refine G_get dX5_offer_45 fg_X5_21 (hx_20 _ _ _) rfl ?_
        refine G_iload_n dX5_offer_48 rfl rfl ?_
        refine G_aload_n dX5_offer_49 rfl rfl ?_
        refine G_get dX5_offer_50 fg_X5_21 (hx_20 _ _ _) rfl ?_
        refine G_iload_n dX5_offer_53 rfl rfl ?_
        refine GR_mst dX5_offer_54 ⟨rfl, hset⟩ ?_
        refine G_aload_n dX5_offer_55 rfl rfl ?_
        refine G_get dX5_offer_56 fg_X5_21 (hx_20 _ _ _) rfl ?_
        refine G_iload_n dX5_offer_59 rfl rfl ?_
        refine G_iload dX5_offer_60 rfl ?_
        refine G_ixor dX5_offer_62 ?_
        refine G_top (w := .int (nI (set ^^^ p))) (congrArg Value.int (bt_xor set hset p (by omega))) ?_
        refine GR_mst dX5_offer_63 ⟨rfl, bt_xlt set hset p (by omega)⟩ ?_
        refine G_aload_n dX5_offer_64 rfl rfl ?_
        refine G_get dX5_offer_65 fg_X5_25 (hx_20 _ _ _) rfl ?_
        refine G_iload dX5_offer_68 rfl ?_
        refine GR_gns dX5_offer_70 ⟨rfl, by omega⟩ ?_
        refine G_iadd dX5_offer_71 ?_
        refine G_max dX5_offer_72 tw_685 (Nat.le_of_ble_eq_true rfl) (Nat.le_of_ble_eq_true rfl) ?_
        refine GC_mst dX5_offer_75 ⟨rfl, hset⟩ ?_
        refine G_iload dX5_offer_76 rfl ?_
        refine G_iconst (v := 1) dX5_offer_78 rfl ?_
        refine G_isub dX5_offer_79 ?_
        refine G_iload dX5_offer_80 rfl ?_
        refine G_iand dX5_offer_82 ?_
        refine G_top (w := .int (nI ((p - 1) &&& parts))) (congrArg Value.int (by rw [bt_dec p (by omega) parts (by omega), if_neg hp0])) ?_
        refine G_istore dX5_offer_83 (Nat.le_of_ble_eq_true rfl) rfl ?_
        refine G_goto (tgt := 29) dX5_offer_85 (by decide) ?_
        first | exact ih ((p - 1) &&& parts) _ (by have := Nat.and_le_left (n := p - 1) (m := parts); omega) (G_hc ((cif_f hp0).trans (congrArg (oI2 set parts f ((p - 1) &&& parts)) (cif_t (Int32.not_le.mp c41)))).symm K) | exact ih ((p - 1) &&& parts) _ (by have := Nat.and_le_left (n := p - 1) (m := parts); omega) (G_hc ((cif_f hp0).trans (congrArg (oI2 set parts f ((p - 1) &&& parts)) (cif_f (Int32.not_lt.mpr c41)))).symm K)
set_option maxHeartbeats 4000000 in
set_option maxRecDepth 100000 in
theorem cx_offer {g : gT} {nq_ n9 : Nat} {sm : mS} {Y : cY} {c fin : mS} (t mh z : Nat) (hY : Yok Y c n9) (hC9 : c_inv c) (hp : p_ok c z) (ht : t < mT c) (hmh : mh < 32) (he : fin = c_off c t mh z) : M g 3 0 0 kX5_offer [.ref 20, .ref (y_a Y 7 t), .int (nI mh)] nq_ (hh sm Y c) (c_V nq_ sm Y fin) := by
  refine M_of_G (by decide +kernel) (Nat.le_of_ble_eq_true rfl) ?_
  have hz5 := hp.2.1
  have hbz := (bt_z z (by omega)).2
  have hwk : k73 (c_wg c t mh z) c := gO_k z 0 (fun j hj => m_set_ne _ _ _ hj)
  have loop : ∀ set (c : mS) (w4 w5 : Value), w4.category = 1 → w5.category = 1 → set < 32 → fin = oO2 mh set c → G g 3 0 0 kX5_offer 16 [.ref 20, .ref (y_a Y 7 t), .int (nI mh), .int (nI set), w4, w5] [] nq_ (hh sm Y c) (c_V nq_ sm Y fin) := by
    intro set
    induction set with
    | zero =>
      intro c w4 w5 hw4 hw5 hs5 hs
      refine G_iload_n dX5_offer_16 rfl rfl ?_
      refine G_if_le (tgt := 94) dX5_offer_17 (by decide) (fun c17 => ?_) (fun c17 => ?_)
      · skip
        refine G_vret dX5_offer_94 rfl ?_
        exact v_cc hs
      · skip
        exact absurd (show nI 0 ≤ 0 by decide) c17
    | succ set ih =>
      intro c w4 w5 hw4 hw5 hs5 hs
      refine G_iload_n dX5_offer_16 rfl rfl ?_
      refine G_if_le (tgt := 94) dX5_offer_17 (by decide) (fun c17 => ?_) (fun c17 => ?_)
      · skip
        exact absurd c17 (nI_nle (by omega) (by omega))
      · skip
        refine G_iload_n dX5_offer_20 rfl rfl ?_
        refine G_iload_n dX5_offer_21 rfl rfl ?_
        refine G_iand dX5_offer_22 ?_
        refine G_top (w := .int (nI ((set + 1) &&& mh))) (congrArg Value.int (bt_and _ hs5 mh hmh)) ?_
        refine G_istore dX5_offer_23 (Nat.le_of_ble_eq_true rfl) rfl ?_
        refine G_iload dX5_offer_25 rfl ?_
        refine G_istore dX5_offer_27 (Nat.le_of_ble_eq_true rfl) rfl ?_
        refine cx_offI (by omega) (Nat.lt_of_le_of_lt Nat.and_le_left (by omega)) 32 ((set + 1) &&& mh) c ⟨Nat.lt_of_le_of_lt Nat.and_le_left (by omega), Nat.lt_of_le_of_lt Nat.and_le_left (by omega)⟩ ?_
        refine G_iinc (b := nI set) dX5_offer_88 rfl (nI_dec set) rfl ?_
        refine G_goto (tgt := 16) dX5_offer_91 (by decide) ?_
        exact ih _ _ _ rfl rfl (by omega) hs
  refine G_iload_n dX5_offer_0 rfl rfl ?_
  refine G_if_ne (tgt := 5) dX5_offer_1 (by decide) (fun c1 => ?_) (fun c1 => ?_)
  · skip
    have hm0 : ¬ mh = 0 := fun q => c1 (by rw [q]; rfl)
    refine G_aload_n dX5_offer_5 rfl rfl ?_
    refine G_aload_n dX5_offer_6 rfl rfl ?_
    refine G_iload_n dX5_offer_7 rfl rfl ?_
    refine G_callV (cx_weigh t mh z hY hC9 hp ht hmh rfl) dX5_offer_8 (mc_X5_34 rfl) tw_666 tw_15 (hx_20 _ _ _) rfl rfl rfl (Nat.le_of_ble_eq_true rfl) (Nat.le_of_ble_eq_true rfl) (Nat.le_of_ble_eq_true rfl) (Nat.le_of_ble_eq_true rfl) ?_
    rintro _ n9_ _ ⟨rfl, e9_, rfl⟩
    obtain rfl := e9_.symm
    refine G_aload_n dX5_offer_11 rfl rfl ?_
    refine G_callV (cx_whole z ((congrFun (hwk 71 (by decide)) 0).trans hp.1) hp.2.1) dX5_offer_12 (mc_X5_38 rfl) tw_683 tw_17 (hx_20 _ _ _) rfl rfl rfl (Nat.le_of_ble_eq_true rfl) (Nat.le_of_ble_eq_true rfl) (Nat.le_of_ble_eq_true rfl) (Nat.le_of_ble_eq_true rfl) ?_
    rintro _ n9_ _ ⟨rfl, e9_, rfl⟩
    obtain rfl := e9_.symm
    refine G_istore_n dX5_offer_15 rfl (Nat.le_of_ble_eq_true rfl) rfl ?_
    exact loop (2 ^ z - 1) _ (.retAddr 0) (.retAddr 0) rfl rfl hbz (he.trans (cif_f hm0))
  · skip
    have hm0 : mh = 0 := (nI_z0 (by omega)).mp c1
    refine G_vret dX5_offer_4 rfl ?_
    exact v_cc (he.trans (cif_t hm0))
def c_dv : Nat → Int32 → Int32
  | 0, x => x
  | m + 1, x => c_dv m (x / 13)
noncomputable def c_dig (x : Int32) : Int32 := cif (x - x / 13 * 13 = 0) (-1) (12 - (x - x / 13 * 13))
noncomputable def c_tr (c : mS) (z i : Nat) : Int32 := c_dig (c_dv (4 - i) (c 72 (2 ^ z - 1)))
set_option maxHeartbeats 4000000 in
set_option maxRecDepth 100000 in
theorem cx_tar {g : gT} {nq_ : Nat} {sm : mS} {Y : cY} {c : mS} (z i : Nat) (hz : c 71 0 = nI z) (hz5 : z ≤ 5) (hi4 : i ≤ 4) : M g 1 0 0 kX5_thingAtRow [.ref 20, .int (nI i)] nq_ (hh sm Y c) (m_Q (.int (c_tr c z i)) nq_ (hh sm Y c)) := by
  refine M_of_G (by decide +kernel) (Nat.le_of_ble_eq_true rfl) ?_
  have hbz := (bt_z z (by omega)).2
  have loop : ∀ m j x, j + m = 4 → c_tr c z i = c_dig (c_dv m x) → G g 1 0 0 kX5_thingAtRow 12 [.ref 20, .int (nI i), .int x, .int (nI j)] [] nq_ (hh sm Y c) (m_Q (.int (c_tr c z i)) nq_ (hh sm Y c)) := by
    intro m
    induction m with
    | zero =>
      intro j x hj hs
      rw [Nat.add_zero] at hj
      subst hj
      refine G_iload_n dX5_thingAtRow_12 rfl rfl ?_
      refine G_iconst (v := 4) dX5_thingAtRow_13 rfl ?_
      refine G_icmp_ge (tgt := 28) dX5_thingAtRow_14 (by decide) (fun c14 => ?_) (fun c14 => ?_)
      · skip
        refine G_iload_n dX5_thingAtRow_28 rfl rfl ?_
        refine G_bipush (v := 13) dX5_thingAtRow_29 rfl ?_
        refine G_irem dX5_thingAtRow_31 (by decide) ?_
        refine G_istore_n dX5_thingAtRow_32 rfl (Nat.le_of_ble_eq_true rfl) rfl ?_
        refine G_iload_n dX5_thingAtRow_33 rfl rfl ?_
        refine G_if_ne (tgt := 41) dX5_thingAtRow_34 (by decide) (fun c34 => ?_) (fun c34 => ?_)
        · skip
          refine G_bipush (v := 12) dX5_thingAtRow_41 rfl ?_
          refine G_iload_n dX5_thingAtRow_43 rfl rfl ?_
          refine G_isub dX5_thingAtRow_44 ?_
          refine G_iret dX5_thingAtRow_45 rfl ?_
          first | exact q_e (hs.trans (cif_t c34)) | exact q_e (hs.trans (cif_f c34))
        · skip
          refine G_iconst (v := -1) dX5_thingAtRow_37 rfl ?_
          refine G_goto (tgt := 45) dX5_thingAtRow_38 (by decide) ?_
          refine G_iret dX5_thingAtRow_45 rfl ?_
          first | exact q_e (hs.trans (cif_t c34)) | exact q_e (hs.trans (cif_f c34))
      · skip
        exact absurd (show (4 : Int32) ≤ nI 4 by decide) c14
    | succ m ih =>
      intro j x hj hs
      refine G_iload_n dX5_thingAtRow_12 rfl rfl ?_
      refine G_iconst (v := 4) dX5_thingAtRow_13 rfl ?_
      refine G_icmp_ge (tgt := 28) dX5_thingAtRow_14 (by decide) (fun c14 => ?_) (fun c14 => ?_)
      · skip
        exact absurd c14 (by rw [show (4 : Int32) = nI 4 from rfl, nI_leI (by decide) (by omega)]; omega)
      · skip
        refine G_iload_n dX5_thingAtRow_17 rfl rfl ?_
        refine G_bipush (v := 13) dX5_thingAtRow_18 rfl ?_
        refine G_idiv dX5_thingAtRow_20 (by decide) ?_
        refine G_istore_n dX5_thingAtRow_21 rfl (Nat.le_of_ble_eq_true rfl) rfl ?_
        refine G_iinc (b := nI (j + 1)) dX5_thingAtRow_22 rfl (nI_1 j) rfl ?_
        refine G_goto (tgt := 12) dX5_thingAtRow_25 (by decide) ?_
        exact ih (j + 1) _ (by omega) hs
  refine G_aload_n dX5_thingAtRow_0 rfl rfl ?_
  refine G_get dX5_thingAtRow_1 fg_X5_21 (hx_20 _ _ _) rfl ?_
  refine G_aload_n dX5_thingAtRow_4 rfl rfl ?_
  refine G_callV (cx_whole z hz hz5) dX5_thingAtRow_5 (mc_X5_38 rfl) tw_683 tw_17 (hx_20 _ _ _) rfl rfl rfl (Nat.le_of_ble_eq_true rfl) (Nat.le_of_ble_eq_true rfl) (Nat.le_of_ble_eq_true rfl) (Nat.le_of_ble_eq_true rfl) ?_
  rintro _ n9_ _ ⟨rfl, e9_, rfl⟩
  obtain rfl := e9_.symm
  refine GR_mst dX5_thingAtRow_8 ⟨rfl, hbz⟩ ?_
  refine G_istore_n dX5_thingAtRow_9 rfl (Nat.le_of_ble_eq_true rfl) rfl ?_
  refine G_iload_n dX5_thingAtRow_10 rfl rfl ?_
  refine G_istore_n dX5_thingAtRow_11 rfl (Nat.le_of_ble_eq_true rfl) rfl ?_
  exact loop (4 - i) i _ (by omega) rfl
