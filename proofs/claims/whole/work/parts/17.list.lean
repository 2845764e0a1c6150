noncomputable def mx (a b : Int32) : Int32 := cif (a < b) b a
noncomputable def mn (a b : Int32) : Int32 := cif (b < a) b a
theorem mx_if (a b : Int32) : (if a < b then b else a) = mx a b := by
  unfold mx
  by_cases q : a < b
  · rw [if_pos q, cif_t q]
  · rw [if_neg q, cif_f q]
theorem G_max {g : gT} {d x y : Nat} {k : mM} {pc : Nat} {L st : List Value} {n : Nat} {h : mH} {P : Option Value → Nat → mH → Prop} {index : Nat} {a b : Int32} (hd : decode k.2.1 pc = .ok (.invokestatic index, 3)) (hl : Cond.methodLink k.1.cls index Lib.Math.max.name ∈ TB) (hs : (st.map fun v => v.category).sum ≤ 20) (hd1 : 1 ≤ d) (K : G g d x y k (pc + 3) L (.int (mx a b) :: st) n h P) : G g d x y k pc L (.int b :: .int a :: st) n h P := by
  intro p e R s m args below meth c H locs cells slots ls S B C F E
  obtain ⟨hx, hb, hml, -, -, hnm, hown, hts, hK, hO⟩ := id S
  refine va_mmax hx hb (by rw [hml]; exact E.2.1.symm) hown (hts _ hl) (hts _ tw_283) (hts _ tw_65) (hts _ tw_284) (Nat.le_trans hd1 B.1) (by rw [g_cats]; have := B.2.1; omega) (by have := B.2.2.1; omega) (by have := B.2.2.2; omega) hd ?_
  rw [mx_if]
  exact K p e R s m args below meth c H locs cells slots ls S B C F E
theorem mn_if (a b : Int32) : (if b < a then b else a) = mn a b := by
  unfold mn
  by_cases q : b < a
  · rw [if_pos q, cif_t q]
  · rw [if_neg q, cif_f q]
theorem G_min {g : gT} {d x y : Nat} {k : mM} {pc : Nat} {L st : List Value} {n : Nat} {h : mH} {P : Option Value → Nat → mH → Prop} {index : Nat} {a b : Int32} (hd : decode k.2.1 pc = .ok (.invokestatic index, 3)) (hl : Cond.methodLink k.1.cls index Lib.Math.min.name ∈ TB) (hs : (st.map fun v => v.category).sum ≤ 20) (hd1 : 1 ≤ d) (K : G g d x y k (pc + 3) L (.int (mn a b) :: st) n h P) : G g d x y k pc L (.int b :: .int a :: st) n h P := by
  intro p e R s m args below meth c H locs cells slots ls S B C F E
  obtain ⟨hx, hb, hml, -, -, hnm, hown, hts, hK, hO⟩ := id S
  refine va_mmin hx hb (by rw [hml]; exact E.2.1.symm) hown (hts _ hl) (hts _ tw_315) (hts _ tw_65) (hts _ tw_316) (Nat.le_trans hd1 B.1) (by rw [g_cats]; have := B.2.1; omega) (by have := B.2.2.1; omega) (by have := B.2.2.2; omega) hd ?_
  rw [mn_if]
  exact K p e R s m args below meth c H locs cells slots ls S B C F E
set_option maxHeartbeats 4000000 in
set_option maxRecDepth 100000 in
theorem cj_ck3 {g : gT} {nq_ : Nat} {h : mH} {o : Option Nat} (i n9 : Nat) (hi : i < n9) (hn : n9 < 2 ^ 31) : M g 0 0 0 kJ3_checkIndex_8e157 [.int (nI i), .int (nI n9), va_rf o] nq_ h (m_Q (.int (nI i)) nq_ h) := by
  rcases o with _ | o9_
  · refine M_of_G (by decide +kernel) (Nat.le_of_ble_eq_true rfl) ?_
    refine G_iload_n dJ3_checkIndex_8e157_0 rfl rfl ?_
    refine G_if_lt (tgt := 9) dJ3_checkIndex_8e157_1 (by decide) (fun c1 => ?_) (fun c1 => ?_)
    · skip
      exact absurd c1 (nI_pos (by omega))
    · skip
      refine G_iload_n dJ3_checkIndex_8e157_4 rfl rfl ?_
      refine G_iload_n dJ3_checkIndex_8e157_5 rfl rfl ?_
      refine G_icmp_lt (tgt := 16) dJ3_checkIndex_8e157_6 (by decide) (fun c6 => ?_) (fun c6 => ?_)
      · skip
        refine G_iload_n dJ3_checkIndex_8e157_16 rfl rfl ?_
        refine G_iret dJ3_checkIndex_8e157_17 rfl ?_
        exact ⟨rfl, rfl, rfl⟩
      · skip
        exact absurd (nI_lt hi hn) c6
  · refine M_of_G (by decide +kernel) (Nat.le_of_ble_eq_true rfl) ?_
    refine G_iload_n dJ3_checkIndex_8e157_0 rfl rfl ?_
    refine G_if_lt (tgt := 9) dJ3_checkIndex_8e157_1 (by decide) (fun c1 => ?_) (fun c1 => ?_)
    · skip
      exact absurd c1 (nI_pos (by omega))
    · skip
      refine G_iload_n dJ3_checkIndex_8e157_4 rfl rfl ?_
      refine G_iload_n dJ3_checkIndex_8e157_5 rfl rfl ?_
      refine G_icmp_lt (tgt := 16) dJ3_checkIndex_8e157_6 (by decide) (fun c6 => ?_) (fun c6 => ?_)
      · skip
        refine G_iload_n dJ3_checkIndex_8e157_16 rfl rfl ?_
        refine G_iret dJ3_checkIndex_8e157_17 rfl ?_
        exact ⟨rfl, rfl, rfl⟩
      · skip
        exact absurd (nI_lt hi hn) c6
set_option maxHeartbeats 4000000 in
set_option maxRecDepth 100000 in
theorem cj_ck {g : gT} {nq_ : Nat} {h : mH} (i n9 : Nat) (hi : i < n9) (hn : n9 < 2 ^ 31) : M g 1 0 0 kJ15_checkIndex_7cf53 [.int (nI i), .int (nI n9)] nq_ h (m_Q (.int (nI i)) nq_ h) := by
  refine M_of_G (by decide +kernel) (Nat.le_of_ble_eq_true rfl) ?_
  refine G_iload_n dJ15_checkIndex_7cf53_0 rfl rfl ?_
  refine G_iload_n dJ15_checkIndex_7cf53_1 rfl rfl ?_
  refine G_null dJ15_checkIndex_7cf53_2 ?_
  refine G_callS (cj_ck3 (o := none) i n9 hi hn) dJ15_checkIndex_7cf53_3 (mc_J15_105 rfl) tw_338 rfl rfl (Nat.le_of_ble_eq_true rfl) (Nat.le_of_ble_eq_true rfl) (Nat.le_of_ble_eq_true rfl) (Nat.le_of_ble_eq_true rfl) ?_
  rintro _ n9_ _ ⟨rfl, e9_, rfl⟩
  obtain rfl := e9_.symm
  refine G_iret dJ15_checkIndex_7cf53_6 rfl ?_
  exact ⟨rfl, rfl, rfl⟩
def fl (f : Nat → Int32) (v : Int32) (N : Nat) : Nat → Int32 := fun i => if i < N then v else f i
theorem fl_0 (f : Nat → Int32) (v : Int32) : fl f v 0 = f := by funext i; simp [fl]
theorem fl_s (f : Nat → Int32) (v : Int32) (N : Nat) : upd (fl f v N) N v = fl f v (N + 1) := by
  funext i
  by_cases e : i = N
  · subst e; simp [upd, fl]
  · by_cases e2 : i < N
    · simp [upd, fl, e, e2, show i < N + 1 by omega]
    · simp [upd, fl, e, e2, show ¬ i < N + 1 by omega]
set_option maxHeartbeats 4000000 in
set_option maxRecDepth 100000 in
theorem cj_fill {g : gT} {nq_ : Nat} {h : mH} {p9 N : Nat} {f : Nat → Int32} (v : Int32) (hp : h p9 = some (.inl (0, N, .inl f))) (hN : N < 2 ^ 31) : M g 0 0 0 kJ7_fill_53178 [.ref p9, .int v] nq_ h (fun v' n' h' => v' = none ∧ n' = nq_ ∧ h' = (va_up h p9 (some (.inl (0, N, .inl (fl f v N)))))) := by
  refine M_of_G (by decide +kernel) (Nat.le_of_ble_eq_true rfl) ?_
  have loop : ∀ m i, i + m = N → G g 0 0 0 kJ7_fill_53178 5 [.ref p9, .int v, .int (nI i), .int (nI N)] [] nq_ (va_up h p9 (some (.inl (0, N, .inl (fl f v i))))) (fun v' n' h' => v' = none ∧ n' = nq_ ∧ h' = (va_up h p9 (some (.inl (0, N, .inl (fl f v N)))))) := by
    intro m
    induction m with
    | zero =>
      intro i hi0
      rw [Nat.add_zero] at hi0
      refine G_iload_n dJ7_fill_53178_5 rfl rfl ?_
      refine G_iload_n dJ7_fill_53178_6 rfl rfl ?_
      refine G_icmp_ge (tgt := 20) dJ7_fill_53178_7 (by decide) (fun c7 => ?_) (fun c7 => ?_)
      · skip
        refine G_vret dJ7_fill_53178_20 rfl ?_
        exact ⟨rfl, rfl, by rw [hi0]⟩
      · skip
        exact absurd (nI_le (Nat.le_of_eq hi0.symm) (by omega)) c7
    | succ m ih =>
      intro i hi0
      refine G_iload_n dJ7_fill_53178_5 rfl rfl ?_
      refine G_iload_n dJ7_fill_53178_6 rfl rfl ?_
      refine G_icmp_ge (tgt := 20) dJ7_fill_53178_7 (by decide) (fun c7 => ?_) (fun c7 => ?_)
      · skip
        exact absurd c7 (by rw [nI_leI (by omega) (by omega)]; omega)
      · skip
        refine G_aload_n dJ7_fill_53178_10 rfl rfl ?_
        refine G_iload_n dJ7_fill_53178_11 rfl rfl ?_
        refine G_iload_n dJ7_fill_53178_12 rfl rfl ?_
        refine G_iast dJ7_fill_53178_13 (va_up_self h p9 _) (vp_in_nI (by omega) (by omega)) ?_
        rw [nI_clamp (by omega), va_upp, fl_s]
        refine G_iinc (b := nI (i + 1)) dJ7_fill_53178_14 rfl (nI_1 i) rfl ?_
        refine G_goto (tgt := 5) dJ7_fill_53178_17 (by decide) ?_
        exact ih (i + 1) (by omega)
  refine G_iconst (v := 0) dJ7_fill_53178_0 rfl ?_
  refine G_istore_n dJ7_fill_53178_1 rfl (Nat.le_of_ble_eq_true rfl) rfl ?_
  refine G_aload_n dJ7_fill_53178_2 rfl rfl ?_
  refine G_alen dJ7_fill_53178_3 (fun _ => rfl) hp ?_
  refine G_istore_n dJ7_fill_53178_4 rfl (Nat.le_of_ble_eq_true rfl) rfl ?_
  have z := loop N 0 (by omega)
  rw [fl_0, va_up_id hp] at z
  exact z
set_option maxHeartbeats 4000000 in
set_option maxRecDepth 100000 in
theorem cj_newLength {g : gT} {nq_ : Nat} {h : mH} (a b c : Int32) (h1 : ¬ a + mx b c ≤ 0) (h2 : ¬ 2147483639 < a + mx b c) : M g 1 0 0 kJ8_newLength_cabcc [.int a, .int b, .int c] nq_ h (m_Q (.int (a + mx b c)) nq_ h) := by
  refine M_of_G (by decide +kernel) (Nat.le_of_ble_eq_true rfl) ?_
  refine G_iload_n dJ8_newLength_cabcc_0 rfl rfl ?_
  refine G_iload_n dJ8_newLength_cabcc_1 rfl rfl ?_
  refine G_iload_n dJ8_newLength_cabcc_2 rfl rfl ?_
  refine G_max dJ8_newLength_cabcc_3 tw_282 (Nat.le_of_ble_eq_true rfl) (Nat.le_of_ble_eq_true rfl) ?_
  refine G_iadd dJ8_newLength_cabcc_6 ?_
  refine G_istore_n dJ8_newLength_cabcc_7 rfl (Nat.le_of_ble_eq_true rfl) rfl ?_
  refine G_iconst (v := 0) dJ8_newLength_cabcc_8 rfl ?_
  refine G_iload_n dJ8_newLength_cabcc_9 rfl rfl ?_
  refine G_icmp_ge (tgt := 21) dJ8_newLength_cabcc_10 (by decide) (fun c10 => ?_) (fun c10 => ?_)
  · skip
    exact absurd c10 h1
  · skip
    refine G_iload_n dJ8_newLength_cabcc_13 rfl rfl ?_
    refine G_ldc dJ8_newLength_cabcc_14 tw_285 ?_
    refine G_icmp_gt (tgt := 21) dJ8_newLength_cabcc_16 (by decide) (fun c16 => ?_) (fun c16 => ?_)
    · skip
      exact absurd c16 h2
    · skip
      refine G_iload_n dJ8_newLength_cabcc_19 rfl rfl ?_
      refine G_iret dJ8_newLength_cabcc_20 rfl ?_
      exact ⟨rfl, rfl, rfl⟩
/-- the list's array grows: its new length -/
def gw (N : Nat) : Nat := N + (if N / 2 ≤ 1 then 1 else N / 2)
theorem gw_b {N : Nat} (h1 : 1 ≤ N) : N < gw N ∧ gw N ≤ N + N / 2 + 1 := by unfold gw; split <;> omega
theorem nI_half (N : Nat) (h : N ≤ 300) : nI N >>> ((1 : Int32) &&& 31) = nI (N / 2) := by
  have : ∀ z, z < 301 → nI z >>> ((1 : Int32) &&& 31) = nI (z / 2) := by decide +kernel
  exact this N (by omega)
theorem nI_sub {a b : Nat} (h : b ≤ a) : nI a - nI b = nI (a - b) := by
  obtain ⟨c, rfl⟩ : ∃ c, a = b + c := ⟨a - b, by omega⟩
  rw [← nI_add, Nat.add_sub_cancel_left, Int32.add_comm, Int32.add_sub_cancel]
theorem gw_mx (N : Nat) (h1 : 1 ≤ N) (h : N ≤ 300) : nI N + mx (nI (N + 1) - nI N) (nI N >>> ((1 : Int32) &&& 31)) = nI (gw N) := by
  rw [nI_half N h, nI_sub (by omega), show N + 1 - N = 1 by omega]
  unfold mx gw
  by_cases e : N / 2 ≤ 1
  · rw [if_pos e, cif_f (nI_nlt e (by omega)), nI_add]
  · rw [if_neg e, cif_t (nI_lt (by omega) (by omega)), nI_add]
abbrev rfs (f : Nat → Option Nat) : (Nat → Int32) ⊕ (Nat → Int64) ⊕ (Nat → UInt32) ⊕ (Nat → UInt64) ⊕ (Nat → Option Nat) := .inr (.inr (.inr (.inr f)))
/-- elements are objects of classes whose objects are Objects -/
def l_el (h : mH) (p9 : Nat) (f : Nat → Option Nat) : Prop := ∀ i y, f i = some y → y ≠ p9 ∧ ∃ ci fs r, h y = some (.inr (ci, fs)) ∧ g_cl[ci]? = some r ∧ Cond.castable r.1 "java/lang/Object" ∈ NW
def cut (f : Nat → Option Nat) (N : Nat) : Nat → Option Nat := fun i => if i < N then f i else none
theorem cut_cpy (f : Nat → Option Nat) (N : Nat) : va_cpy f (fun _ => none) 0 0 N = cut f N := by
  funext i
  unfold va_cpy cut
  simp
def ins (f : Nat → Option Nat) (at9 sz e : Nat) : Nat → Option Nat := fun i => if i < at9 then f i else if i = at9 then some e else if i ≤ sz then f (i - 1) else none
set_option maxHeartbeats 4000000 in
set_option maxRecDepth 100000 in
theorem cj_copy2 {g : gT} {nq_ : Nat} {h : mH} {q N N9 : Nat} {f : Nat → Option Nat} (hq : h q = (some (.inl (4, N, rfs f)))) (hN : N < N9) (h9 : N9 ≤ 1000) (hel : ∀ i y, f i = some y → ∃ ci fs r, h y = some (.inr (ci, fs)) ∧ g_cl[ci]? = some r ∧ Cond.castable r.1 "java/lang/Object" ∈ NW) : M g 1 1 N9 kJ7_copyOf_6403c [.ref q, .int (nI N9), .ref 6] nq_ h (fun v' n' h' => v' = some (va_rf (some nq_)) ∧ n' = nq_ + 1 ∧ h' = va_up h nq_ (some (.inl (4, N9, rfs (cut f N))))) := by
  refine M_of_G (by decide +kernel) (Nat.le_of_ble_eq_true rfl) ?_
  refine G_lt hq (fun hq1 hq2 => ?_)
  have hqn : va_up h nq_ (some (.inl (4, N9, rfs (fun _ => none)))) q = (some (.inl (4, N, rfs f))) := (va_up_ne _ _ (by omega)).trans hq
  refine G_fresh (fun hn1 hn2 => ?_)
  refine G_aload_n dJ7_copyOf_6403c_0 rfl rfl ?_
  refine G_ldcM dJ7_copyOf_6403c_1 tw_311 ?_
  refine G_acmp_ne (a := some 6) (b := some 6) (tgt := 13) dJ7_copyOf_6403c_3 (by decide) (fun i j a b => Or.inl (by cases a; cases b; rfl)) (fun c3 => absurd rfl c3) (fun c3 => ?_)
  refine G_iload_n dJ7_copyOf_6403c_6 rfl rfl ?_
  refine G_anew (kd := 4) (N := N9) (C0 := "java/lang/Object") dJ7_copyOf_6403c_7 tw_313 (fun _ => rfl) (Or.inl rfl) (nI_pos (by omega)) (nI_clamp (by omega)) (by omega) (Nat.le_refl 1) (Nat.le_refl _) ?_
  refine G_goto (tgt := 24) dJ7_copyOf_6403c_10 (by decide) ?_
  refine G_astore_n dJ7_copyOf_6403c_24 rfl (Nat.le_of_ble_eq_true rfl) rfl ?_
  refine G_aload_n dJ7_copyOf_6403c_25 rfl rfl ?_
  refine G_iconst (v := 0) dJ7_copyOf_6403c_26 rfl ?_
  refine G_aload_n dJ7_copyOf_6403c_27 rfl rfl ?_
  refine G_iconst (v := 0) dJ7_copyOf_6403c_28 rfl ?_
  refine G_aload_n dJ7_copyOf_6403c_29 rfl rfl ?_
  refine G_alen dJ7_copyOf_6403c_30 (fun _ => rfl) hqn ?_
  refine G_iload_n dJ7_copyOf_6403c_31 rfl rfl ?_
  refine G_min dJ7_copyOf_6403c_32 tw_314 (Nat.le_of_ble_eq_true rfl) (Nat.le_of_ble_eq_true rfl) ?_
  refine G_top (congrArg Value.int (cif_f (nI_nlt (Nat.le_of_lt hN) (by omega)) : mn (nI N) (nI N9) = nI N)) ?_
  refine G_copy (N1 := N) (N2 := N9) (f1 := f) (f2 := fun _ => none) dJ7_copyOf_6403c_35 tw_317 hqn (va_up_self h nq_ _) (by decide) (by decide) (nI_pos (by omega)) (by rw [nI_clamp (by omega)]; show 0 + N ≤ N; omega) (by rw [nI_clamp (by omega)]; show 0 + N ≤ N9; omega) (fun z _ y9 hy => ?_) (Nat.le_of_ble_eq_true rfl) (Nat.le_of_ble_eq_true rfl) ?_
  · obtain ⟨ci, fs, r, w1, w2, w3⟩ := hel _ _ hy
    exact ⟨ci, fs, r, (va_up_ne _ _ (fun q9 => by rw [hn2 y9 (by omega)] at w1; cases w1)).trans w1, w2, w3⟩
  rw [va_upp, nI_clamp (show N < 2 ^ 31 by omega), show (0 : Int32).toNatClampNeg = 0 from rfl, cut_cpy]
  refine G_aload_n dJ7_copyOf_6403c_38 rfl rfl ?_
  refine G_aret (o := some nq_) dJ7_copyOf_6403c_39 rfl (Or.inr ⟨_, rfl⟩) ?_
  exact ⟨rfl, rfl, rfl⟩
set_option maxHeartbeats 4000000 in
set_option maxRecDepth 100000 in
theorem cj_copy {g : gT} {nq_ : Nat} {h : mH} {q N N9 : Nat} {f : Nat → Option Nat} (hq : h q = (some (.inl (4, N, rfs f)))) (hN : N < N9) (h9 : N9 ≤ 1000) (hel : ∀ i y, f i = some y → ∃ ci fs r, h y = some (.inr (ci, fs)) ∧ g_cl[ci]? = some r ∧ Cond.castable r.1 "java/lang/Object" ∈ NW) : M g 2 1 N9 kJ7_copyOf_1904c [.ref q, .int (nI N9)] nq_ h (fun v' n' h' => v' = some (va_rf (some nq_)) ∧ n' = nq_ + 1 ∧ h' = va_up h nq_ (some (.inl (4, N9, rfs (cut f N))))) := by
  refine M_of_G (by decide +kernel) (Nat.le_of_ble_eq_true rfl) ?_
  refine G_aload_n dJ7_copyOf_1904c_0 rfl rfl ?_
  refine G_iload_n dJ7_copyOf_1904c_1 rfl rfl ?_
  refine G_aload_n dJ7_copyOf_1904c_2 rfl rfl ?_
  refine G_getC dJ7_copyOf_1904c_3 tw_292 hq (Nat.le_of_ble_eq_true rfl) (Nat.le_of_ble_eq_true rfl) ?_
  refine G_callS (cj_copy2 hq hN h9 hel) dJ7_copyOf_1904c_6 (mc_J7_300 rfl) tw_309 rfl rfl (Nat.le_of_ble_eq_true rfl) (Nat.le_of_ble_eq_true rfl) (Nat.le_refl _) (Nat.le_refl _) ?_
  rintro _ _ _ ⟨rfl, rfl, rfl⟩
  refine G_aret (o := some nq_) dJ7_copyOf_1904c_9 rfl (Or.inr ⟨_, rfl⟩) ?_
  exact ⟨rfl, rfl, rfl⟩
set_option maxHeartbeats 4000000 in
set_option maxRecDepth 100000 in
theorem cj_grow {g : gT} {nq_ : Nat} {h : mH} {p9 q N : Nat} {f : Nat → Option Nat} {mc : Int32} (hp : h p9 = (some (.inr (10, [.int mc, .ref q, .int (nI N)])))) (hq : (q = 1 ∧ N = 0) ∨ (h q = (some (.inl (4, N, rfs f))) ∧ 1 ≤ N)) (hN : N ≤ 200) (hel : l_el h p9 f) : M g 3 1 310 kJx4a65c_grow_92f84 [.ref p9, .int (nI (N + 1))] nq_ h (fun v' n' h' => v' = some (va_rf (some nq_)) ∧ n' = nq_ + 1 ∧ ∃ N9, N < N9 ∧ N9 ≤ N + N / 2 + 10 ∧ h' = va_up (va_up h nq_ (some (.inl (4, N9, rfs (cut f N))))) p9 (some (.inr (10, [.int mc, .ref nq_, .int (nI N)])))) := by
  refine M_of_G (by decide +kernel) (Nat.le_of_ble_eq_true rfl) ?_
  refine G_lt hp (fun hp1 hp2 => ?_)
  rcases hq with ⟨rfl, rfl⟩ | ⟨hq, hN1⟩
  · skip
    refine G_aload_n dJx4a65c_grow_92f84_0 rfl rfl ?_
    refine G_get dJx4a65c_grow_92f84_1 fg_Jx4a65c_9 hp rfl ?_
    refine G_alenE dJx4a65c_grow_92f84_4 ?_
    refine G_istore_n dJx4a65c_grow_92f84_5 rfl (Nat.le_of_ble_eq_true rfl) rfl ?_
    refine G_iload_n dJx4a65c_grow_92f84_6 rfl rfl ?_
    refine G_if_gt (tgt := 20) dJx4a65c_grow_92f84_7 (by decide) (fun c7 => ?_) (fun c7 => ?_)
    · skip
      exact absurd c7 (by decide)
    · skip
      refine G_aload_n dJx4a65c_grow_92f84_10 rfl rfl ?_
      refine G_get dJx4a65c_grow_92f84_11 fg_Jx4a65c_9 hp rfl ?_
      refine G_getsE dJx4a65c_grow_92f84_14 tw_99 ?_
      refine G_acmp_eq (a := some 1) (b := some 1) (tgt := 45) dJx4a65c_grow_92f84_17 (by decide) (fun i j a b => Or.inl (by cases a; cases b; rfl)) (fun c17 => ?_) (fun c17 => absurd rfl c17)
      refine G_aload_n dJx4a65c_grow_92f84_45 rfl rfl ?_
      refine G_bipush (v := 10) dJx4a65c_grow_92f84_46 rfl ?_
      refine G_iload_n dJx4a65c_grow_92f84_48 rfl rfl ?_
      refine G_max dJx4a65c_grow_92f84_49 tw_320 (Nat.le_of_ble_eq_true rfl) (Nat.le_of_ble_eq_true rfl) ?_
      refine G_top (w := .int (nI 10)) (congrArg Value.int (cif_f (by decide) : mx 10 (nI (0 + 1)) = nI 10)) ?_
      refine G_anew (kd := 4) (N := 10) (C0 := "java/lang/Object") dJx4a65c_grow_92f84_52 tw_321 (fun _ => rfl) (Or.inl rfl) (by decide) (by decide) (by decide) (Nat.le_of_ble_eq_true rfl) (Nat.le_of_ble_eq_true rfl) ?_
      refine G_dup_x1 dJx4a65c_grow_92f84_55 rfl rfl ?_
      refine G_put dJx4a65c_grow_92f84_56 fp_Jx4a65c_9 ((va_up_ne _ _ (by omega)).trans hp) (Nat.le_of_ble_eq_true rfl) g_fit_a ?_
      refine G_aret (o := some nq_) dJx4a65c_grow_92f84_59 rfl (Or.inr ⟨_, rfl⟩) ?_
      exact ⟨rfl, rfl, 10, by omega, by omega, rfl⟩
  · have hgw := gw_b hN1
    refine G_aload_n dJx4a65c_grow_92f84_0 rfl rfl ?_
    refine G_get dJx4a65c_grow_92f84_1 fg_Jx4a65c_9 hp rfl ?_
    refine G_alen dJx4a65c_grow_92f84_4 (fun _ => rfl) hq ?_
    refine G_istore_n dJx4a65c_grow_92f84_5 rfl (Nat.le_of_ble_eq_true rfl) rfl ?_
    refine G_iload_n dJx4a65c_grow_92f84_6 rfl rfl ?_
    refine G_if_gt (tgt := 20) dJx4a65c_grow_92f84_7 (by decide) (fun c7 => ?_) (fun c7 => ?_)
    · skip
      refine G_iload_n dJx4a65c_grow_92f84_20 rfl rfl ?_
      refine G_iload_n dJx4a65c_grow_92f84_21 rfl rfl ?_
      refine G_iload_n dJx4a65c_grow_92f84_22 rfl rfl ?_
      refine G_isub dJx4a65c_grow_92f84_23 ?_
      refine G_iload_n dJx4a65c_grow_92f84_24 rfl rfl ?_
      refine G_iconst (v := 1) dJx4a65c_grow_92f84_25 rfl ?_
      refine G_ishr dJx4a65c_grow_92f84_26 ?_
      refine G_callS (cj_newLength _ _ _ (by rw [gw_mx N hN1 (by omega)]; exact nI_nle (by omega) (by omega)) (by rw [gw_mx N hN1 (by omega)]; exact Int32.not_lt.mpr (nI_le (b := 2147483639) (by omega) (by omega)))) dJx4a65c_grow_92f84_27 (mc_Jx4a65c_73 rfl) tw_280 rfl rfl (Nat.le_of_ble_eq_true rfl) (Nat.le_of_ble_eq_true rfl) (Nat.zero_le _) (Nat.zero_le _) ?_
      rintro _ n9_ _ ⟨rfl, e9_, rfl⟩
      obtain rfl := e9_.symm
      refine G_top (congrArg Value.int (gw_mx N hN1 (by omega))) ?_
      refine G_istore_n dJx4a65c_grow_92f84_30 rfl (Nat.le_of_ble_eq_true rfl) rfl ?_
      refine G_aload_n dJx4a65c_grow_92f84_31 rfl rfl ?_
      refine G_aload_n dJx4a65c_grow_92f84_32 rfl rfl ?_
      refine G_get dJx4a65c_grow_92f84_33 fg_Jx4a65c_9 hp rfl ?_
      refine G_iload_n dJx4a65c_grow_92f84_36 rfl rfl ?_
      refine G_callS (cj_copy (N9 := gw N) hq hgw.1 (by omega) (fun i y hy => (hel i y hy).2)) dJx4a65c_grow_92f84_37 (mc_Jx4a65c_66 rfl) tw_290 rfl rfl (Nat.le_of_ble_eq_true rfl) (Nat.le_of_ble_eq_true rfl) (Nat.le_refl _) (by omega) ?_
      rintro _ _ _ ⟨rfl, rfl, rfl⟩
      refine G_dup_x1 dJx4a65c_grow_92f84_40 rfl rfl ?_
      refine G_put dJx4a65c_grow_92f84_41 fp_Jx4a65c_9 ((va_up_ne _ _ (by omega)).trans hp) (Nat.le_of_ble_eq_true rfl) g_fit_a ?_
      refine G_aret (o := some nq_) dJx4a65c_grow_92f84_44 rfl (Or.inr ⟨_, rfl⟩) ?_
      exact ⟨rfl, rfl, gw N, hgw.1, by omega, rfl⟩
    · skip
      exact absurd (Int32.not_le.mp (nI_nle hN1 (by omega))) c7
set_option maxHeartbeats 4000000 in
set_option maxRecDepth 100000 in
theorem cj_grow0 {g : gT} {nq_ : Nat} {h : mH} {p9 q N : Nat} {f : Nat → Option Nat} {mc : Int32} (hp : h p9 = (some (.inr (10, [.int mc, .ref q, .int (nI N)])))) (hq : (q = 1 ∧ N = 0) ∨ (h q = (some (.inl (4, N, rfs f))) ∧ 1 ≤ N)) (hN : N ≤ 200) (hel : l_el h p9 f) : M g 4 1 310 kJx4a65c_grow_d5877 [.ref p9] nq_ h (fun v' n' h' => v' = some (va_rf (some nq_)) ∧ n' = nq_ + 1 ∧ ∃ N9, N < N9 ∧ N9 ≤ N + N / 2 + 10 ∧ h' = va_up (va_up h nq_ (some (.inl (4, N9, rfs (cut f N))))) p9 (some (.inr (10, [.int mc, .ref nq_, .int (nI N)])))) := by
  refine M_of_G (by decide +kernel) (Nat.le_of_ble_eq_true rfl) ?_
  refine G_aload_n dJx4a65c_grow_d5877_0 rfl rfl ?_
  refine G_aload_n dJx4a65c_grow_d5877_1 rfl rfl ?_
  refine G_get dJx4a65c_grow_d5877_2 fg_Jx4a65c_48 hp rfl ?_
  refine G_iconst (v := 1) dJx4a65c_grow_d5877_5 rfl ?_
  refine G_iadd dJx4a65c_grow_d5877_6 ?_
  refine G_top (congrArg Value.int (nI_1 N)) ?_
  refine G_callV (cj_grow hp hq hN hel) dJx4a65c_grow_d5877_7 (mc_Jx4a65c_69 rfl) tw_277 tw_2 hp rfl rfl rfl (Nat.le_of_ble_eq_true rfl) (Nat.le_of_ble_eq_true rfl) (Nat.le_of_ble_eq_true rfl) (Nat.le_of_ble_eq_true rfl) ?_
  rintro _ _ _ ⟨rfl, rfl, hz⟩
  refine G_aret (o := some nq_) dJx4a65c_grow_d5877_10 rfl (Or.inr ⟨_, rfl⟩) ?_
  exact ⟨rfl, rfl, hz⟩
