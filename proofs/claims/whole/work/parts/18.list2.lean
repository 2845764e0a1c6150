set_option maxHeartbeats 4000000 in
set_option maxRecDepth 100000 in
theorem cj_size {g : gT} {nq_ : Nat} {h : mH} {p9 : Nat} {mc z : Int32} {v9 : Value} (hp : h p9 = some (.inr (10, [.int mc, v9, .int z]))) : M g 0 0 0 kJx4a65c_size_8abf5 [.ref p9] nq_ h (m_Q (.int z) nq_ h) := by
  refine M_of_G (by decide +kernel) (Nat.le_of_ble_eq_true rfl) ?_
  refine G_aload_n dJx4a65c_size_8abf5_0 rfl rfl ?_
  refine G_get dJx4a65c_size_8abf5_1 fg_Jx4a65c_48 hp rfl ?_
  refine G_iret dJx4a65c_size_8abf5_4 rfl ?_
  exact ⟨rfl, rfl, rfl⟩
set_option maxHeartbeats 4000000 in
set_option maxRecDepth 100000 in
theorem cj_elem {g : gT} {nq_ : Nat} {h : mH} {p9 q N : Nat} {f : Nat → Option Nat} {mc z : Int32} (i : Nat) (hp : h p9 = (some (.inr (10, [.int mc, .ref q, .int z])))) (hq : h q = (some (.inl (4, N, rfs f)))) (hi : i < N) (hN : N ≤ 1000) : M g 0 0 0 kJx4a65c_elementData_915e3 [.ref p9, .int (nI i)] nq_ h (m_Q (va_rf (f i)) nq_ h) := by
  refine M_of_G (by decide +kernel) (Nat.le_of_ble_eq_true rfl) ?_
  refine G_aload_n dJx4a65c_elementData_915e3_0 rfl rfl ?_
  refine G_get dJx4a65c_elementData_915e3_1 fg_Jx4a65c_9 hp rfl ?_
  refine G_iload_n dJx4a65c_elementData_915e3_4 rfl rfl ?_
  refine G_aald dJx4a65c_elementData_915e3_5 (fun _ => rfl) hq (vp_in_nI hi (by omega)) ?_
  rw [nI_clamp (by omega)]
  refine G_aret dJx4a65c_elementData_915e3_6 rfl (Or.inl ⟨_, rfl⟩) ?_
  exact ⟨rfl, rfl, rfl⟩
set_option maxHeartbeats 4000000 in
set_option maxRecDepth 100000 in
theorem cj_get {g : gT} {nq_ : Nat} {h : mH} {p9 q N : Nat} {f : Nat → Option Nat} {mc : Int32} {sz : Nat} (i : Nat) (hp : h p9 = (some (.inr (10, [.int mc, .ref q, .int (nI sz)])))) (hq : h q = (some (.inl (4, N, rfs f)))) (hi : i < sz) (hsz : sz ≤ N) (hN : N ≤ 1000) : M g 2 0 0 kJx4a65c_get_915e3 [.ref p9, .int (nI i)] nq_ h (m_Q (va_rf (f i)) nq_ h) := by
  refine M_of_G (by decide +kernel) (Nat.le_of_ble_eq_true rfl) ?_
  refine G_iload_n dJx4a65c_get_915e3_0 rfl rfl ?_
  refine G_aload_n dJx4a65c_get_915e3_1 rfl rfl ?_
  refine G_get dJx4a65c_get_915e3_2 fg_Jx4a65c_48 hp rfl ?_
  refine G_callS (cj_ck i sz hi (by omega)) dJx4a65c_get_915e3_5 (mc_Jx4a65c_118 rfl) tw_335 rfl rfl (Nat.le_of_ble_eq_true rfl) (Nat.le_of_ble_eq_true rfl) (Nat.le_of_ble_eq_true rfl) (Nat.le_of_ble_eq_true rfl) ?_
  rintro _ n9_ _ ⟨rfl, e9_, rfl⟩
  obtain rfl := e9_.symm
  refine G_pop dJx4a65c_get_915e3_8 rfl ?_
  refine G_aload_n dJx4a65c_get_915e3_9 rfl rfl ?_
  refine G_iload_n dJx4a65c_get_915e3_10 rfl rfl ?_
  refine G_callV (cj_elem i hp hq (by omega) hN) dJx4a65c_get_915e3_11 (mc_Jx4a65c_123 rfl) tw_341 tw_342 hp rfl rfl rfl (Nat.le_of_ble_eq_true rfl) (Nat.le_of_ble_eq_true rfl) (Nat.le_of_ble_eq_true rfl) (Nat.le_of_ble_eq_true rfl) ?_
  rintro _ n9_ _ ⟨rfl, e9_, rfl⟩
  obtain rfl := e9_.symm
  refine G_aret dJx4a65c_get_915e3_14 rfl (Or.inl ⟨_, rfl⟩) ?_
  exact ⟨rfl, rfl, rfl⟩
def la_P (h : mH) (nq_ p9 q N sz at9 e : Nat) (f : Nat → Option Nat) (mc : Int32) : Nat → mH → Prop := fun n' h' => ∃ q' N', ((n' = nq_ ∧ q' = q ∧ N' = N ∧ sz < N) ∨ (n' = nq_ + 1 ∧ q' = nq_ ∧ sz = N ∧ N < N' ∧ N' ≤ N + N / 2 + 10)) ∧ h' = va_up (va_up h q' (some (.inl (4, N', rfs (ins f at9 sz e))))) p9 (some (.inr (10, [.int mc, .ref q', .int (nI (sz + 1))])))
theorem ins_end {f : Nat → Option Nat} {sz e : Nat} (hf : ∀ i, sz ≤ i → f i = none) : va_up f sz (some e) = ins f sz sz e := by
  funext i
  unfold va_up ins
  by_cases e1 : i = sz
  · simp [e1]
  · by_cases e2 : i < sz
    · simp [e1, e2]
    · simp [e1, e2, show ¬ i ≤ sz by omega, hf i (by omega)]
theorem cut_id {f : Nat → Option Nat} {sz : Nat} (hf : ∀ i, sz ≤ i → f i = none) : cut f sz = f := by
  funext i
  unfold cut
  by_cases e2 : i < sz
  · simp [e2]
  · simp [e2, hf i (by omega)]
theorem ins_mid {f : Nat → Option Nat} {at9 sz e : Nat} (ha : at9 ≤ sz) (hf : ∀ i, sz ≤ i → f i = none) : va_up (va_cpy f f at9 (at9 + 1) (sz - at9)) at9 (some e) = ins f at9 sz e := by
  funext i
  unfold va_up va_cpy ins
  by_cases e1 : i = at9
  · simp [e1]
  · by_cases e2 : i < at9
    · simp [e1, e2, show ¬ at9 + 1 ≤ i by omega]
    · by_cases e3 : i ≤ sz
      · rw [if_neg e1, if_pos ⟨by omega, by omega⟩, if_neg e2, if_neg e1, if_pos e3]
        congr 1
        omega
      · rw [if_neg e1, if_neg (by omega), if_neg e2, if_neg e1, if_neg e3, hf i (by omega)]
theorem l_el.up {h : mH} {p9 : Nat} {f : Nat → Option Nat} (hel : l_el h p9 f) (v : Option mE) : l_el (va_up h p9 v) p9 f := fun i y hy => by
  obtain ⟨w0, ci, fs, r, w1, w2, w3⟩ := hel i y hy
  exact ⟨w0, ci, fs, r, (va_up_ne _ _ w0).trans w1, w2, w3⟩
set_option maxHeartbeats 4000000 in
set_option maxRecDepth 100000 in
theorem cj_add3 {g : gT} {nq_ : Nat} {h : mH} {p9 q N sz e ci : Nat} {f : Nat → Option Nat} {mc : Int32} {fs : List Value} {r9 : vw_C} (hp : h p9 = (some (.inr (10, [.int mc, .ref q, .int (nI sz)])))) (hq : (q = 1 ∧ N = 0) ∨ (h q = (some (.inl (4, N, rfs f))) ∧ 1 ≤ N)) (hN : N ≤ 200) (hsz : sz ≤ N) (hf : ∀ i, sz ≤ i → f i = none) (hel : l_el h p9 f) (he : h e = some (.inr (ci, fs))) (hep : e ≠ p9) (hr : g_cl[ci]? = some r9) (hcs : Cond.castable r9.1 "java/lang/Object" ∈ NW) : M g 5 1 310 kJx4a65c_add_72be8 [.ref p9, .ref e, .ref q, .int (nI sz)] nq_ h (fun v' n' h' => v' = none ∧ la_P h nq_ p9 q N sz sz e f mc n' h') := by
  refine M_of_G (by decide +kernel) (Nat.le_of_ble_eq_true rfl) ?_
  refine G_lt hp (fun hp1 hp2 => ?_)
  refine G_lt he (fun he1 he2 => ?_)
  rcases hq with ⟨rfl, rfl⟩ | ⟨hq, hN1⟩
  · obtain rfl : sz = 0 := by omega
    refine G_iload_n dJx4a65c_add_72be8_0 rfl rfl ?_
    refine G_aload_n dJx4a65c_add_72be8_1 rfl rfl ?_
    refine G_alenE dJx4a65c_add_72be8_2 ?_
    refine G_icmp_ne (tgt := 11) dJx4a65c_add_72be8_3 (by decide) (fun c3 => ?_) (fun c3 => ?_)
    · skip
      exact absurd rfl c3
    · skip
      refine G_aload_n dJx4a65c_add_72be8_6 rfl rfl ?_
      refine G_callV (cj_grow0 (mc := mc) (f := f) hp (Or.inl ⟨rfl, rfl⟩) hN hel) dJx4a65c_add_72be8_7 (mc_Jx4a65c_129 rfl) tw_273 tw_1 hp rfl rfl rfl (Nat.le_of_ble_eq_true rfl) (Nat.le_of_ble_eq_true rfl) (Nat.le_of_ble_eq_true rfl) (Nat.le_of_ble_eq_true rfl) ?_
      rintro _ _ _ ⟨rfl, rfl, N9, z1, z2, rfl⟩
      rw [cut_id hf]
      refine G_astore_n dJx4a65c_add_72be8_10 rfl (Nat.le_of_ble_eq_true rfl) rfl ?_
      refine G_aload_n dJx4a65c_add_72be8_11 rfl rfl ?_
      refine G_iload_n dJx4a65c_add_72be8_12 rfl rfl ?_
      refine G_aload_n dJx4a65c_add_72be8_13 rfl rfl ?_
      refine G_aast (i := nq_) (N := N9) (f := f) (kd := 4) (C0 := "java/lang/Object") dJx4a65c_add_72be8_14 (fun _ => rfl) hr rfl (Or.inr hcs) ((va_up_ne _ _ (by omega)).trans (va_up_self _ _ _)) ((va_up_ne _ _ hep).trans ((va_up_ne _ _ (by omega)).trans he)) (vp_in_nI (by omega) (by omega)) ?_
      rw [nI_clamp (by omega)]
      refine G_aload_n dJx4a65c_add_72be8_15 rfl rfl ?_
      refine G_iload_n dJx4a65c_add_72be8_16 rfl rfl ?_
      refine G_iconst (v := 1) dJx4a65c_add_72be8_17 rfl ?_
      refine G_iadd dJx4a65c_add_72be8_18 ?_
      refine G_put dJx4a65c_add_72be8_19 fp_Jx4a65c_48 ((va_up_ne _ _ (show p9 ≠ nq_ by omega)).trans (va_up_self _ _ _)) (Nat.le_of_ble_eq_true rfl) g_fit_i ?_
      refine G_vret dJx4a65c_add_72be8_22 rfl ?_
      exact ⟨rfl, nq_, N9, Or.inr ⟨rfl, rfl, rfl, z1, z2⟩, by rw [ins_end hf, va_up3, va_upp, show nI (0 + 1) = nI 0 + 1 from (nI_1 0).symm]; rfl⟩
  · refine G_lt hq (fun hq1 hq2 => ?_)
    have hpq : p9 ≠ q := fun z => by subst z; rw [hp] at hq; cases hq
    rcases Nat.lt_or_ge sz N with hlt | hge
    · skip
      refine G_iload_n dJx4a65c_add_72be8_0 rfl rfl ?_
      refine G_aload_n dJx4a65c_add_72be8_1 rfl rfl ?_
      refine G_alen dJx4a65c_add_72be8_2 (fun _ => rfl) hq ?_
      refine G_icmp_ne (tgt := 11) dJx4a65c_add_72be8_3 (by decide) (fun c3 => ?_) (fun c3 => ?_)
      · skip
        refine G_aload_n dJx4a65c_add_72be8_11 rfl rfl ?_
        refine G_iload_n dJx4a65c_add_72be8_12 rfl rfl ?_
        refine G_aload_n dJx4a65c_add_72be8_13 rfl rfl ?_
        refine G_aast (i := q) (N := N) (f := f) (kd := 4) (C0 := "java/lang/Object") dJx4a65c_add_72be8_14 (fun _ => rfl) hr rfl (Or.inr hcs) hq he (vp_in_nI (by omega) (by omega)) ?_
        rw [nI_clamp (by omega)]
        refine G_aload_n dJx4a65c_add_72be8_15 rfl rfl ?_
        refine G_iload_n dJx4a65c_add_72be8_16 rfl rfl ?_
        refine G_iconst (v := 1) dJx4a65c_add_72be8_17 rfl ?_
        refine G_iadd dJx4a65c_add_72be8_18 ?_
        refine G_put dJx4a65c_add_72be8_19 fp_Jx4a65c_48 ((va_up_ne _ _ hpq).trans hp) (Nat.le_of_ble_eq_true rfl) g_fit_i ?_
        refine G_vret dJx4a65c_add_72be8_22 rfl ?_
        exact ⟨rfl, q, N, Or.inl ⟨rfl, rfl, rfl, hlt⟩, by rw [ins_end hf, show nI (sz + 1) = nI sz + 1 from (nI_1 sz).symm]; rfl⟩
      · skip
        exact absurd ((nI_eq (show sz < 2 ^ 31 by omega) (show N < 2 ^ 31 by omega)).mp c3) (by omega)
    · obtain rfl : sz = N := by omega
      refine G_iload_n dJx4a65c_add_72be8_0 rfl rfl ?_
      refine G_aload_n dJx4a65c_add_72be8_1 rfl rfl ?_
      refine G_alen dJx4a65c_add_72be8_2 (fun _ => rfl) hq ?_
      refine G_icmp_ne (tgt := 11) dJx4a65c_add_72be8_3 (by decide) (fun c3 => ?_) (fun c3 => ?_)
      · skip
        exact absurd rfl c3
      · skip
        refine G_aload_n dJx4a65c_add_72be8_6 rfl rfl ?_
        refine G_callV (cj_grow0 (mc := mc) (f := f) hp (Or.inr ⟨hq, hN1⟩) hN hel) dJx4a65c_add_72be8_7 (mc_Jx4a65c_129 rfl) tw_273 tw_1 hp rfl rfl rfl (Nat.le_of_ble_eq_true rfl) (Nat.le_of_ble_eq_true rfl) (Nat.le_of_ble_eq_true rfl) (Nat.le_of_ble_eq_true rfl) ?_
        rintro _ _ _ ⟨rfl, rfl, N9, z1, z2, rfl⟩
        rw [cut_id hf]
        refine G_astore_n dJx4a65c_add_72be8_10 rfl (Nat.le_of_ble_eq_true rfl) rfl ?_
        refine G_aload_n dJx4a65c_add_72be8_11 rfl rfl ?_
        refine G_iload_n dJx4a65c_add_72be8_12 rfl rfl ?_
        refine G_aload_n dJx4a65c_add_72be8_13 rfl rfl ?_
        refine G_aast (i := nq_) (N := N9) (f := f) (kd := 4) (C0 := "java/lang/Object") dJx4a65c_add_72be8_14 (fun _ => rfl) hr rfl (Or.inr hcs) ((va_up_ne _ _ (by omega)).trans (va_up_self _ _ _)) ((va_up_ne _ _ hep).trans ((va_up_ne _ _ (by omega)).trans he)) (vp_in_nI (by omega) (by omega)) ?_
        rw [nI_clamp (by omega)]
        refine G_aload_n dJx4a65c_add_72be8_15 rfl rfl ?_
        refine G_iload_n dJx4a65c_add_72be8_16 rfl rfl ?_
        refine G_iconst (v := 1) dJx4a65c_add_72be8_17 rfl ?_
        refine G_iadd dJx4a65c_add_72be8_18 ?_
        refine G_put dJx4a65c_add_72be8_19 fp_Jx4a65c_48 ((va_up_ne _ _ (show p9 ≠ nq_ by omega)).trans (va_up_self _ _ _)) (Nat.le_of_ble_eq_true rfl) g_fit_i ?_
        refine G_vret dJx4a65c_add_72be8_22 rfl ?_
        exact ⟨rfl, nq_, N9, Or.inr ⟨rfl, rfl, rfl, z1, z2⟩, by rw [ins_end hf, va_up3, va_upp, show nI (sz + 1) = nI sz + 1 from (nI_1 sz).symm]; rfl⟩
set_option maxHeartbeats 4000000 in
set_option maxRecDepth 100000 in
theorem cj_add {g : gT} {nq_ : Nat} {h : mH} {p9 q N sz e ci : Nat} {f : Nat → Option Nat} {mc : Int32} {fs : List Value} {r9 : vw_C} (hp : h p9 = (some (.inr (10, [.int mc, .ref q, .int (nI sz)])))) (hq : (q = 1 ∧ N = 0) ∨ (h q = (some (.inl (4, N, rfs f))) ∧ 1 ≤ N)) (hN : N ≤ 200) (hsz : sz ≤ N) (hf : ∀ i, sz ≤ i → f i = none) (hel : l_el h p9 f) (he : h e = some (.inr (ci, fs))) (hep : e ≠ p9) (hr : g_cl[ci]? = some r9) (hcs : Cond.castable r9.1 "java/lang/Object" ∈ NW) : M g 6 1 310 kJx4a65c_add_9ea2d [.ref p9, .ref e] nq_ h (fun v' n' h' => v' = some (.int 1) ∧ la_P h nq_ p9 q N sz sz e f (mc + 1) n' h') := by
  refine M_of_G (by decide +kernel) (Nat.le_of_ble_eq_true rfl) ?_
  refine G_aload_n dJx4a65c_add_9ea2d_0 rfl rfl ?_
  refine G_dup dJx4a65c_add_9ea2d_1 rfl ?_
  refine G_get dJx4a65c_add_9ea2d_2 fg_Jx4a65c_63 hp rfl ?_
  refine G_iconst (v := 1) dJx4a65c_add_9ea2d_5 rfl ?_
  refine G_iadd dJx4a65c_add_9ea2d_6 ?_
  refine G_put dJx4a65c_add_9ea2d_7 fp_Jx4a65c_63 hp (Nat.le_of_ble_eq_true rfl) g_fit_i ?_
  refine G_aload_n dJx4a65c_add_9ea2d_10 rfl rfl ?_
  refine G_aload_n dJx4a65c_add_9ea2d_11 rfl rfl ?_
  refine G_aload_n dJx4a65c_add_9ea2d_12 rfl rfl ?_
  refine G_get dJx4a65c_add_9ea2d_13 fg_Jx4a65c_9 (va_up_self _ _ _) rfl ?_
  refine G_aload_n dJx4a65c_add_9ea2d_16 rfl rfl ?_
  refine G_get dJx4a65c_add_9ea2d_17 fg_Jx4a65c_48 (va_up_self _ _ _) rfl ?_
  refine G_callV (cj_add3 (mc := mc + 1) (f := f) (va_up_self _ _ _) (hq.imp id (fun z => ⟨(va_up_ne _ _ (fun w => by subst w; rw [hp] at z; cases z.1)).trans z.1, z.2⟩)) hN hsz hf (hel.up _) ((va_up_ne _ _ hep).trans he) hep hr hcs) dJx4a65c_add_9ea2d_20 (mc_Jx4a65c_131 rfl) tw_269 tw_0 (va_up_self _ _ _) rfl rfl rfl (Nat.le_of_ble_eq_true rfl) (Nat.le_of_ble_eq_true rfl) (Nat.le_of_ble_eq_true rfl) (Nat.le_of_ble_eq_true rfl) ?_
  rintro _ n9_ _ ⟨rfl, q', N', z1, rfl⟩
  refine G_iconst (v := 1) dJx4a65c_add_9ea2d_23 rfl ?_
  refine G_zret dJx4a65c_add_9ea2d_24 rfl rfl ?_
  exact ⟨rfl, q', N', z1, va_up3 _ _ _ _ _ _⟩
set_option maxHeartbeats 4000000 in
set_option maxRecDepth 100000 in
theorem cj_rng {g : gT} {nq_ : Nat} {h : mH} {p9 : Nat} {mc : Int32} {v9 : Value} {sz : Nat} (i : Nat) (hp : h p9 = some (.inr (10, [.int mc, v9, .int (nI sz)]))) (hi : i ≤ sz) (hs : sz < 2 ^ 31) : M g 0 0 0 kJx4a65c_rangeCheckForAdd_d00df [.ref p9, .int (nI i)] nq_ h (fun v' n' h' => v' = none ∧ n' = nq_ ∧ h' = h) := by
  refine M_of_G (by decide +kernel) (Nat.le_of_ble_eq_true rfl) ?_
  refine G_iload_n dJx4a65c_rangeCheckForAdd_d00df_0 rfl rfl ?_
  refine G_aload_n dJx4a65c_rangeCheckForAdd_d00df_1 rfl rfl ?_
  refine G_get dJx4a65c_rangeCheckForAdd_d00df_2 fg_Jx4a65c_48 hp rfl ?_
  refine G_icmp_gt (tgt := 12) dJx4a65c_rangeCheckForAdd_d00df_5 (by decide) (fun c5 => ?_) (fun c5 => ?_)
  · skip
    exact absurd c5 (nI_nlt hi (by omega))
  · skip
    refine G_iload_n dJx4a65c_rangeCheckForAdd_d00df_8 rfl rfl ?_
    refine G_if_ge (tgt := 25) dJx4a65c_rangeCheckForAdd_d00df_9 (by decide) (fun c9 => ?_) (fun c9 => ?_)
    · skip
      refine G_vret dJx4a65c_rangeCheckForAdd_d00df_25 rfl ?_
      exact ⟨rfl, rfl, rfl⟩
    · skip
      exact absurd (nI_pos' (by omega)) c9
set_option maxHeartbeats 4000000 in
set_option maxRecDepth 100000 in
theorem cj_addi {g : gT} {nq_ : Nat} {h : mH} {p9 q N sz e ci : Nat} {f : Nat → Option Nat} {mc : Int32} {fs : List Value} {r9 : vw_C} (at9 : Nat) (hp : h p9 = (some (.inr (10, [.int mc, .ref q, .int (nI sz)])))) (hq : (q = 1 ∧ N = 0) ∨ (h q = (some (.inl (4, N, rfs f))) ∧ 1 ≤ N)) (hN : N ≤ 200) (hsz : sz ≤ N) (hf : ∀ i, sz ≤ i → f i = none) (hel : l_el h p9 f) (he : h e = some (.inr (ci, fs))) (hep : e ≠ p9) (hr : g_cl[ci]? = some r9) (hcs : Cond.castable r9.1 "java/lang/Object" ∈ NW) (ha : at9 ≤ sz) : M g 6 1 310 kJx4a65c_add_7a177 [.ref p9, .int (nI at9), .ref e] nq_ h (fun v' n' h' => v' = none ∧ la_P h nq_ p9 q N sz at9 e f (mc + 1) n' h') := by
  refine M_of_G (by decide +kernel) (Nat.le_of_ble_eq_true rfl) ?_
  refine G_lt hp (fun hp1 hp2 => ?_)
  refine G_lt he (fun he1 he2 => ?_)
  refine G_fresh (fun hn8 hfr => ?_)
  rcases hq with ⟨rfl, rfl⟩ | ⟨hq, hN1⟩
  · obtain rfl : sz = 0 := by omega
    refine G_aload_n dJx4a65c_add_7a177_0 rfl rfl ?_
    refine G_iload_n dJx4a65c_add_7a177_1 rfl rfl ?_
    refine G_callV (cj_rng at9 hp ha (by omega)) dJx4a65c_add_7a177_2 (mc_Jx4a65c_135 rfl) tw_704 tw_20 hp rfl rfl rfl (Nat.le_of_ble_eq_true rfl) (Nat.le_of_ble_eq_true rfl) (Nat.le_of_ble_eq_true rfl) (Nat.le_of_ble_eq_true rfl) ?_
    rintro _ n9_ _ ⟨rfl, e9_, rfl⟩
    obtain rfl := e9_.symm
    refine G_aload_n dJx4a65c_add_7a177_5 rfl rfl ?_
    refine G_dup dJx4a65c_add_7a177_6 rfl ?_
    refine G_get dJx4a65c_add_7a177_7 fg_Jx4a65c_63 hp rfl ?_
    refine G_iconst (v := 1) dJx4a65c_add_7a177_10 rfl ?_
    refine G_iadd dJx4a65c_add_7a177_11 ?_
    refine G_put dJx4a65c_add_7a177_12 fp_Jx4a65c_63 hp (Nat.le_of_ble_eq_true rfl) g_fit_i ?_
    refine G_aload_n dJx4a65c_add_7a177_15 rfl rfl ?_
    refine G_get dJx4a65c_add_7a177_16 fg_Jx4a65c_48 (va_up_self _ _ _) rfl ?_
    refine G_dup dJx4a65c_add_7a177_19 rfl ?_
    refine G_istore_n dJx4a65c_add_7a177_20 rfl (Nat.le_of_ble_eq_true rfl) rfl ?_
    refine G_aload_n dJx4a65c_add_7a177_21 rfl rfl ?_
    refine G_get dJx4a65c_add_7a177_22 fg_Jx4a65c_9 (va_up_self _ _ _) rfl ?_
    refine G_dup dJx4a65c_add_7a177_25 rfl ?_
    refine G_astore dJx4a65c_add_7a177_26 (Nat.le_of_ble_eq_true rfl) rfl ?_
    refine G_alenE dJx4a65c_add_7a177_28 ?_
    refine G_icmp_ne (tgt := 38) dJx4a65c_add_7a177_29 (by decide) (fun c29 => ?_) (fun c29 => ?_)
    · skip
      exact absurd rfl c29
    · skip
      refine G_aload_n dJx4a65c_add_7a177_32 rfl rfl ?_
      refine G_callV (cj_grow0 (mc := (mc + 1)) (f := f) (va_up_self _ _ _) (Or.inl ⟨rfl, rfl⟩) hN (hel.up _)) dJx4a65c_add_7a177_33 (mc_Jx4a65c_129 rfl) tw_273 tw_1 (va_up_self _ _ _) rfl rfl rfl (Nat.le_of_ble_eq_true rfl) (Nat.le_of_ble_eq_true rfl) (Nat.le_of_ble_eq_true rfl) (Nat.le_of_ble_eq_true rfl) ?_
      rintro _ _ _ ⟨rfl, rfl, N9, z1, z2, rfl⟩
      rw [cut_id hf]
      refine G_astore dJx4a65c_add_7a177_36 (Nat.le_of_ble_eq_true rfl) rfl ?_
      refine G_aload dJx4a65c_add_7a177_38 rfl ?_
      refine G_iload_n dJx4a65c_add_7a177_40 rfl rfl ?_
      refine G_aload dJx4a65c_add_7a177_41 rfl ?_
      refine G_iload_n dJx4a65c_add_7a177_43 rfl rfl ?_
      refine G_iconst (v := 1) dJx4a65c_add_7a177_44 rfl ?_
      refine G_iadd dJx4a65c_add_7a177_45 ?_
      refine G_iload_n dJx4a65c_add_7a177_46 rfl rfl ?_
      refine G_iload_n dJx4a65c_add_7a177_47 rfl rfl ?_
      refine G_isub dJx4a65c_add_7a177_48 ?_
      rw [nI_1, nI_sub ha]
      refine G_copy (i := nq_) (j := nq_) (N1 := N9) (N2 := N9) (f1 := f) (f2 := f) dJx4a65c_add_7a177_49 tw_706 ((va_up_ne _ _ (by omega)).trans (va_up_self _ _ _)) ((va_up_ne _ _ (by omega)).trans (va_up_self _ _ _)) (nI_pos (by omega)) (nI_pos (by omega)) (nI_pos (by omega)) (by rw [nI_clamp (by omega), nI_clamp (by omega)]; omega) (by rw [nI_clamp (by omega), nI_clamp (by omega)]; omega) (fun z _ y9 hy => by obtain ⟨w0, ci8, fs8, r8, w1, w2, w3⟩ := hel _ _ hy; exact ⟨ci8, fs8, r8, (va_up_ne _ _ w0).trans ((va_up_ne _ _ (fun w => by subst w; rw [hfr _ (Nat.le_refl _)] at w1; cases w1)).trans ((va_up_ne _ _ w0).trans w1)), w2, w3⟩) (Nat.le_of_ble_eq_true rfl) (Nat.le_of_ble_eq_true rfl) ?_
      rw [nI_clamp (show at9 < 2 ^ 31 by omega), nI_clamp (show at9 + 1 < 2 ^ 31 by omega), nI_clamp (show 0 - at9 < 2 ^ 31 by omega)]
      refine G_aload dJx4a65c_add_7a177_52 rfl ?_
      refine G_iload_n dJx4a65c_add_7a177_54 rfl rfl ?_
      refine G_aload_n dJx4a65c_add_7a177_55 rfl rfl ?_
      refine G_aast (i := nq_) (N := N9) (kd := 4) (C0 := "java/lang/Object") dJx4a65c_add_7a177_56 (fun _ => rfl) hr rfl (Or.inr hcs) (va_up_self _ _ _) ((va_up_ne _ _ (by omega)).trans ((va_up_ne _ _ hep).trans ((va_up_ne _ _ (by omega)).trans ((va_up_ne _ _ hep).trans he)))) (vp_in_nI (by omega) (by omega)) ?_
      rw [nI_clamp (by omega), va_upp, ins_mid ha hf]
      refine G_aload_n dJx4a65c_add_7a177_57 rfl rfl ?_
      refine G_iload_n dJx4a65c_add_7a177_58 rfl rfl ?_
      refine G_iconst (v := 1) dJx4a65c_add_7a177_59 rfl ?_
      refine G_iadd dJx4a65c_add_7a177_60 ?_
      refine G_put dJx4a65c_add_7a177_61 fp_Jx4a65c_48 ((va_up_ne _ _ (show p9 ≠ nq_ by omega)).trans (va_up_self _ _ _)) (Nat.le_of_ble_eq_true rfl) g_fit_i ?_
      refine G_vret dJx4a65c_add_7a177_64 rfl ?_
      exact ⟨rfl, nq_, N9, Or.inr ⟨rfl, rfl, rfl, z1, z2⟩, by rw [va_up3, va_upp, va_up3, show nI (0 + 1) = nI 0 + 1 from (nI_1 0).symm]; rfl⟩
  · refine G_lt hq (fun hq1 hq2 => ?_)
    have hpq : p9 ≠ q := fun z => by subst z; rw [hp] at hq; cases hq
    have hqu : va_up h p9 (some (.inr (10, [.int (mc + 1), .ref q, .int (nI sz)]))) q = (some (.inl (4, N, rfs f))) := (va_up_ne _ _ hpq.symm).trans hq
    rcases Nat.lt_or_ge sz N with hlt | hge
    · skip
      refine G_aload_n dJx4a65c_add_7a177_0 rfl rfl ?_
      refine G_iload_n dJx4a65c_add_7a177_1 rfl rfl ?_
      refine G_callV (cj_rng at9 hp ha (by omega)) dJx4a65c_add_7a177_2 (mc_Jx4a65c_135 rfl) tw_704 tw_20 hp rfl rfl rfl (Nat.le_of_ble_eq_true rfl) (Nat.le_of_ble_eq_true rfl) (Nat.le_of_ble_eq_true rfl) (Nat.le_of_ble_eq_true rfl) ?_
      rintro _ n9_ _ ⟨rfl, e9_, rfl⟩
      obtain rfl := e9_.symm
      refine G_aload_n dJx4a65c_add_7a177_5 rfl rfl ?_
      refine G_dup dJx4a65c_add_7a177_6 rfl ?_
      refine G_get dJx4a65c_add_7a177_7 fg_Jx4a65c_63 hp rfl ?_
      refine G_iconst (v := 1) dJx4a65c_add_7a177_10 rfl ?_
      refine G_iadd dJx4a65c_add_7a177_11 ?_
      refine G_put dJx4a65c_add_7a177_12 fp_Jx4a65c_63 hp (Nat.le_of_ble_eq_true rfl) g_fit_i ?_
      refine G_aload_n dJx4a65c_add_7a177_15 rfl rfl ?_
      refine G_get dJx4a65c_add_7a177_16 fg_Jx4a65c_48 (va_up_self _ _ _) rfl ?_
      refine G_dup dJx4a65c_add_7a177_19 rfl ?_
      refine G_istore_n dJx4a65c_add_7a177_20 rfl (Nat.le_of_ble_eq_true rfl) rfl ?_
      refine G_aload_n dJx4a65c_add_7a177_21 rfl rfl ?_
      refine G_get dJx4a65c_add_7a177_22 fg_Jx4a65c_9 (va_up_self _ _ _) rfl ?_
      refine G_dup dJx4a65c_add_7a177_25 rfl ?_
      refine G_astore dJx4a65c_add_7a177_26 (Nat.le_of_ble_eq_true rfl) rfl ?_
      refine G_alen dJx4a65c_add_7a177_28 (fun _ => rfl) hqu ?_
      refine G_icmp_ne (tgt := 38) dJx4a65c_add_7a177_29 (by decide) (fun c29 => ?_) (fun c29 => ?_)
      · skip
        refine G_aload dJx4a65c_add_7a177_38 rfl ?_
        refine G_iload_n dJx4a65c_add_7a177_40 rfl rfl ?_
        refine G_aload dJx4a65c_add_7a177_41 rfl ?_
        refine G_iload_n dJx4a65c_add_7a177_43 rfl rfl ?_
        refine G_iconst (v := 1) dJx4a65c_add_7a177_44 rfl ?_
        refine G_iadd dJx4a65c_add_7a177_45 ?_
        refine G_iload_n dJx4a65c_add_7a177_46 rfl rfl ?_
        refine G_iload_n dJx4a65c_add_7a177_47 rfl rfl ?_
        refine G_isub dJx4a65c_add_7a177_48 ?_
        rw [nI_1, nI_sub ha]
        refine G_copy (i := q) (j := q) (N1 := N) (N2 := N) (f1 := f) (f2 := f) dJx4a65c_add_7a177_49 tw_706 hqu hqu (nI_pos (by omega)) (nI_pos (by omega)) (nI_pos (by omega)) (by rw [nI_clamp (by omega), nI_clamp (by omega)]; omega) (by rw [nI_clamp (by omega), nI_clamp (by omega)]; omega) (fun z _ y9 hy => by obtain ⟨w0, ci8, fs8, r8, w1, w2, w3⟩ := hel _ _ hy; exact ⟨ci8, fs8, r8, (va_up_ne _ _ w0).trans w1, w2, w3⟩) (Nat.le_of_ble_eq_true rfl) (Nat.le_of_ble_eq_true rfl) ?_
        rw [nI_clamp (show at9 < 2 ^ 31 by omega), nI_clamp (show at9 + 1 < 2 ^ 31 by omega), nI_clamp (show sz - at9 < 2 ^ 31 by omega)]
        refine G_aload dJx4a65c_add_7a177_52 rfl ?_
        refine G_iload_n dJx4a65c_add_7a177_54 rfl rfl ?_
        refine G_aload_n dJx4a65c_add_7a177_55 rfl rfl ?_
        refine G_aast (i := q) (N := N) (kd := 4) (C0 := "java/lang/Object") dJx4a65c_add_7a177_56 (fun _ => rfl) hr rfl (Or.inr hcs) (va_up_self _ _ _) ((va_up_ne _ _ (fun w => by subst w; rw [he] at hq; cases hq)).trans ((va_up_ne _ _ hep).trans he)) (vp_in_nI (by omega) (by omega)) ?_
        rw [nI_clamp (by omega), va_upp, ins_mid ha hf]
        refine G_aload_n dJx4a65c_add_7a177_57 rfl rfl ?_
        refine G_iload_n dJx4a65c_add_7a177_58 rfl rfl ?_
        refine G_iconst (v := 1) dJx4a65c_add_7a177_59 rfl ?_
        refine G_iadd dJx4a65c_add_7a177_60 ?_
        refine G_put dJx4a65c_add_7a177_61 fp_Jx4a65c_48 ((va_up_ne _ _ hpq).trans (va_up_self _ _ _)) (Nat.le_of_ble_eq_true rfl) g_fit_i ?_
        refine G_vret dJx4a65c_add_7a177_64 rfl ?_
        exact ⟨rfl, q, N, Or.inl ⟨rfl, rfl, rfl, hlt⟩, by rw [va_up3, show nI (sz + 1) = nI sz + 1 from (nI_1 sz).symm]; rfl⟩
      · skip
        exact absurd ((nI_eq (show sz < 2 ^ 31 by omega) (show N < 2 ^ 31 by omega)).mp c29) (by omega)
    · obtain rfl : sz = N := by omega
      refine G_aload_n dJx4a65c_add_7a177_0 rfl rfl ?_
      refine G_iload_n dJx4a65c_add_7a177_1 rfl rfl ?_
      refine G_callV (cj_rng at9 hp ha (by omega)) dJx4a65c_add_7a177_2 (mc_Jx4a65c_135 rfl) tw_704 tw_20 hp rfl rfl rfl (Nat.le_of_ble_eq_true rfl) (Nat.le_of_ble_eq_true rfl) (Nat.le_of_ble_eq_true rfl) (Nat.le_of_ble_eq_true rfl) ?_
      rintro _ n9_ _ ⟨rfl, e9_, rfl⟩
      obtain rfl := e9_.symm
      refine G_aload_n dJx4a65c_add_7a177_5 rfl rfl ?_
      refine G_dup dJx4a65c_add_7a177_6 rfl ?_
      refine G_get dJx4a65c_add_7a177_7 fg_Jx4a65c_63 hp rfl ?_
      refine G_iconst (v := 1) dJx4a65c_add_7a177_10 rfl ?_
      refine G_iadd dJx4a65c_add_7a177_11 ?_
      refine G_put dJx4a65c_add_7a177_12 fp_Jx4a65c_63 hp (Nat.le_of_ble_eq_true rfl) g_fit_i ?_
      refine G_aload_n dJx4a65c_add_7a177_15 rfl rfl ?_
      refine G_get dJx4a65c_add_7a177_16 fg_Jx4a65c_48 (va_up_self _ _ _) rfl ?_
      refine G_dup dJx4a65c_add_7a177_19 rfl ?_
      refine G_istore_n dJx4a65c_add_7a177_20 rfl (Nat.le_of_ble_eq_true rfl) rfl ?_
      refine G_aload_n dJx4a65c_add_7a177_21 rfl rfl ?_
      refine G_get dJx4a65c_add_7a177_22 fg_Jx4a65c_9 (va_up_self _ _ _) rfl ?_
      refine G_dup dJx4a65c_add_7a177_25 rfl ?_
      refine G_astore dJx4a65c_add_7a177_26 (Nat.le_of_ble_eq_true rfl) rfl ?_
      refine G_alen dJx4a65c_add_7a177_28 (fun _ => rfl) hqu ?_
      refine G_icmp_ne (tgt := 38) dJx4a65c_add_7a177_29 (by decide) (fun c29 => ?_) (fun c29 => ?_)
      · skip
        exact absurd rfl c29
      · skip
        refine G_aload_n dJx4a65c_add_7a177_32 rfl rfl ?_
        refine G_callV (cj_grow0 (mc := (mc + 1)) (f := f) (va_up_self _ _ _) (Or.inr ⟨hqu, hN1⟩) hN (hel.up _)) dJx4a65c_add_7a177_33 (mc_Jx4a65c_129 rfl) tw_273 tw_1 (va_up_self _ _ _) rfl rfl rfl (Nat.le_of_ble_eq_true rfl) (Nat.le_of_ble_eq_true rfl) (Nat.le_of_ble_eq_true rfl) (Nat.le_of_ble_eq_true rfl) ?_
        rintro _ _ _ ⟨rfl, rfl, N9, z1, z2, rfl⟩
        rw [cut_id hf]
        refine G_astore dJx4a65c_add_7a177_36 (Nat.le_of_ble_eq_true rfl) rfl ?_
        refine G_aload dJx4a65c_add_7a177_38 rfl ?_
        refine G_iload_n dJx4a65c_add_7a177_40 rfl rfl ?_
        refine G_aload dJx4a65c_add_7a177_41 rfl ?_
        refine G_iload_n dJx4a65c_add_7a177_43 rfl rfl ?_
        refine G_iconst (v := 1) dJx4a65c_add_7a177_44 rfl ?_
        refine G_iadd dJx4a65c_add_7a177_45 ?_
        refine G_iload_n dJx4a65c_add_7a177_46 rfl rfl ?_
        refine G_iload_n dJx4a65c_add_7a177_47 rfl rfl ?_
        refine G_isub dJx4a65c_add_7a177_48 ?_
        rw [nI_1, nI_sub ha]
        refine G_copy (i := nq_) (j := nq_) (N1 := N9) (N2 := N9) (f1 := f) (f2 := f) dJx4a65c_add_7a177_49 tw_706 ((va_up_ne _ _ (by omega)).trans (va_up_self _ _ _)) ((va_up_ne _ _ (by omega)).trans (va_up_self _ _ _)) (nI_pos (by omega)) (nI_pos (by omega)) (nI_pos (by omega)) (by rw [nI_clamp (by omega), nI_clamp (by omega)]; omega) (by rw [nI_clamp (by omega), nI_clamp (by omega)]; omega) (fun z _ y9 hy => by obtain ⟨w0, ci8, fs8, r8, w1, w2, w3⟩ := hel _ _ hy; exact ⟨ci8, fs8, r8, (va_up_ne _ _ w0).trans ((va_up_ne _ _ (fun w => by subst w; rw [hfr _ (Nat.le_refl _)] at w1; cases w1)).trans ((va_up_ne _ _ w0).trans w1)), w2, w3⟩) (Nat.le_of_ble_eq_true rfl) (Nat.le_of_ble_eq_true rfl) ?_
        rw [nI_clamp (show at9 < 2 ^ 31 by omega), nI_clamp (show at9 + 1 < 2 ^ 31 by omega), nI_clamp (show sz - at9 < 2 ^ 31 by omega)]
        refine G_aload dJx4a65c_add_7a177_52 rfl ?_
        refine G_iload_n dJx4a65c_add_7a177_54 rfl rfl ?_
        refine G_aload_n dJx4a65c_add_7a177_55 rfl rfl ?_
        refine G_aast (i := nq_) (N := N9) (kd := 4) (C0 := "java/lang/Object") dJx4a65c_add_7a177_56 (fun _ => rfl) hr rfl (Or.inr hcs) (va_up_self _ _ _) ((va_up_ne _ _ (by omega)).trans ((va_up_ne _ _ hep).trans ((va_up_ne _ _ (by omega)).trans ((va_up_ne _ _ hep).trans he)))) (vp_in_nI (by omega) (by omega)) ?_
        rw [nI_clamp (by omega), va_upp, ins_mid ha hf]
        refine G_aload_n dJx4a65c_add_7a177_57 rfl rfl ?_
        refine G_iload_n dJx4a65c_add_7a177_58 rfl rfl ?_
        refine G_iconst (v := 1) dJx4a65c_add_7a177_59 rfl ?_
        refine G_iadd dJx4a65c_add_7a177_60 ?_
        refine G_put dJx4a65c_add_7a177_61 fp_Jx4a65c_48 ((va_up_ne _ _ (show p9 ≠ nq_ by omega)).trans (va_up_self _ _ _)) (Nat.le_of_ble_eq_true rfl) g_fit_i ?_
        refine G_vret dJx4a65c_add_7a177_64 rfl ?_
        exact ⟨rfl, nq_, N9, Or.inr ⟨rfl, rfl, rfl, z1, z2⟩, by rw [va_up3, va_upp, va_up3, show nI (sz + 1) = nI sz + 1 from (nI_1 sz).symm]; rfl⟩
