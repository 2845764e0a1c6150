def mK (s : mS) : Nat := (s 1 0).toNatClampNeg
def mT (s : mS) : Nat := (s 5 0).toNatClampNeg
def mB (s : mS) : Nat := (s 8 0).toNatClampNeg
def mP (s : mS) : Nat := (s 13 0).toNatClampNeg
def mA (s : mS) : Nat := (s 23 0).toNatClampNeg
/-- the reference's numbers are in their ranges -/
def m_inv (s : mS) : Prop :=
  (s 1 0 = nI (mK s) ∧ mK s ≤ 8) ∧ (s 5 0 = nI (mT s) ∧ mT s ≤ 12) ∧ (s 8 0 = nI (mB s) ∧ mB s ≤ 10) ∧ (s 13 0 = nI (mP s) ∧ mP s ≤ 200) ∧ (s 23 0 = nI (mA s) ∧ mA s ≤ 120) ∧
  (∀ t, t < mT s → s 6 t = nI (s 6 t).toNatClampNeg ∧ (s 6 t).toNatClampNeg < mK s) ∧
  (∀ a, a < mA s → (s 28 a = nI (s 28 a).toNatClampNeg ∧ (s 28 a).toNatClampNeg < mK s) ∧ (s 27 a = nI (s 27 a).toNatClampNeg ∧ (s 27 a).toNatClampNeg < mB s) ∧ (s 25 a = -1 ∨ (s 25 a = nI (s 25 a).toNatClampNeg ∧ (s 25 a).toNatClampNeg < mT s)))
def b1 (p : Prop) [Decidable p] : Int32 := if p then 1 else 0
theorem b1_t {p : Prop} [Decidable p] (h : p) : b1 p = 1 := if_pos h
theorem b1_f {p : Prop} [Decidable p] (h : ¬ p) : b1 p = 0 := if_neg h
theorem b1_0 {p : Prop} [Decidable p] : b1 p = 0 ↔ ¬ p := by unfold b1; by_cases h : p <;> simp [h]
theorem b1_n {p : Prop} [Decidable p] : narrow .boolean (.int (b1 p)) = .int (b1 p) := by unfold b1; by_cases h : p <;> simp [h] <;> rfl
abbrev wi (v lo hi : Int32) : Prop := lo ≤ v ∧ v ≤ hi
def m_S (v : Value) (n : Nat) (s : mS) (r : mH) : Option Value → Nat → mH → Prop := fun v' n' h' => v' = some v ∧ n' = n ∧ h' = hm s r
set_option maxHeartbeats 4000000 in
set_option maxRecDepth 100000 in
theorem c9_within {g : gT} {n : Nat} {h : mH} (v lo hi : Int32) : M g 0 0 0 kX9_within [.int v, .int lo, .int hi] n h (m_Q (.int (b1 (wi v lo hi))) n h) := by
  refine M_of_G (by decide +kernel) (Nat.le_of_ble_eq_true rfl) ?_
  refine G_iload_n dX9_within_0 rfl rfl ?_
  refine G_iload_n dX9_within_1 rfl rfl ?_
  refine G_icmp_lt (tgt := 14) dX9_within_2 (by decide) (fun c2 => ?_) (fun c2 => ?_)
  · skip
    refine G_iconst (v := 0) dX9_within_14 rfl ?_
    refine G_zret dX9_within_15 rfl rfl ?_
    refine ⟨?_, rfl, rfl⟩; first | rw [b1_t ⟨Int32.not_lt.mp c2, Int32.not_lt.mp c7⟩] | rw [b1_f (fun q => absurd q.1 (Int32.not_le.mpr c2))] | rw [b1_f (fun q => absurd q.2 (Int32.not_le.mpr c7))]
  · skip
    refine G_iload_n dX9_within_5 rfl rfl ?_
    refine G_iload_n dX9_within_6 rfl rfl ?_
    refine G_icmp_gt (tgt := 14) dX9_within_7 (by decide) (fun c7 => ?_) (fun c7 => ?_)
    · skip
      refine G_iconst (v := 0) dX9_within_14 rfl ?_
      refine G_zret dX9_within_15 rfl rfl ?_
      refine ⟨?_, rfl, rfl⟩; first | rw [b1_t ⟨Int32.not_lt.mp c2, Int32.not_lt.mp c7⟩] | rw [b1_f (fun q => absurd q.1 (Int32.not_le.mpr c2))] | rw [b1_f (fun q => absurd q.2 (Int32.not_le.mpr c7))]
    · skip
      refine G_iconst (v := 1) dX9_within_10 rfl ?_
      refine G_goto (tgt := 15) dX9_within_11 (by decide) ?_
      refine G_zret dX9_within_15 rfl rfl ?_
      refine ⟨?_, rfl, rfl⟩; first | rw [b1_t ⟨Int32.not_lt.mp c2, Int32.not_lt.mp c7⟩] | rw [b1_f (fun q => absurd q.1 (Int32.not_le.mpr c2))] | rw [b1_f (fun q => absurd q.2 (Int32.not_le.mpr c7))]
set_option maxHeartbeats 4000000 in
set_option maxRecDepth 100000 in
theorem c9_isKind {g : gT} {n : Nat} {s : mS} {r : mH} (v : Int32) : M g 1 0 0 kX9_isKind [.ref 24, .int v] n (hm s r) (m_Q (.int (b1 (wi v 0 (s 1 0 - 1)))) n (hm s r)) := by
  refine M_of_G (by decide +kernel) (Nat.le_of_ble_eq_true rfl) ?_
  refine G_iload_n dX9_isKind_0 rfl rfl ?_
  refine G_iconst (v := 0) dX9_isKind_1 rfl ?_
  refine G_aload_n dX9_isKind_2 rfl rfl ?_
  refine GM_get dX9_isKind_3 fg_X9_104 ms_1 ?_
  refine G_iconst (v := 1) dX9_isKind_6 rfl ?_
  refine G_isub dX9_isKind_7 ?_
  refine GM_calls (c9_within _ _ _) dX9_isKind_8 (mc_X9_100 rfl) tw_1020 rfl rfl (Nat.le_of_ble_eq_true rfl) (Nat.le_of_ble_eq_true rfl) ?_
  rintro _ _ _ ⟨rfl, rfl, rfl⟩
  refine G_zret dX9_isKind_11 rfl b1_n ?_
  exact ⟨rfl, rfl, rfl⟩
set_option maxHeartbeats 4000000 in
set_option maxRecDepth 100000 in
theorem c9_isThing {g : gT} {n : Nat} {s : mS} {r : mH} (v : Int32) : M g 1 0 0 kX9_isThing [.ref 24, .int v] n (hm s r) (m_Q (.int (b1 (wi v 0 (s 5 0 - 1)))) n (hm s r)) := by
  refine M_of_G (by decide +kernel) (Nat.le_of_ble_eq_true rfl) ?_
  refine G_iload_n dX9_isThing_0 rfl rfl ?_
  refine G_iconst (v := 0) dX9_isThing_1 rfl ?_
  refine G_aload_n dX9_isThing_2 rfl rfl ?_
  refine GM_get dX9_isThing_3 fg_X9_107 ms_5 ?_
  refine G_iconst (v := 1) dX9_isThing_6 rfl ?_
  refine G_isub dX9_isThing_7 ?_
  refine GM_calls (c9_within _ _ _) dX9_isThing_8 (mc_X9_100 rfl) tw_1020 rfl rfl (Nat.le_of_ble_eq_true rfl) (Nat.le_of_ble_eq_true rfl) ?_
  rintro _ _ _ ⟨rfl, rfl, rfl⟩
  refine G_zret dX9_isThing_11 rfl b1_n ?_
  exact ⟨rfl, rfl, rfl⟩
set_option maxHeartbeats 4000000 in
set_option maxRecDepth 100000 in
theorem c9_isMember {g : gT} {n : Nat} {s : mS} {r : mH} (v : Int32) : M g 1 0 0 kX9_isMember [.ref 24, .int v] n (hm s r) (m_Q (.int (b1 (wi v 0 (s 8 0 - 1)))) n (hm s r)) := by
  refine M_of_G (by decide +kernel) (Nat.le_of_ble_eq_true rfl) ?_
  refine G_iload_n dX9_isMember_0 rfl rfl ?_
  refine G_iconst (v := 0) dX9_isMember_1 rfl ?_
  refine G_aload_n dX9_isMember_2 rfl rfl ?_
  refine GM_get dX9_isMember_3 fg_X9_110 ms_8 ?_
  refine G_iconst (v := 1) dX9_isMember_6 rfl ?_
  refine G_isub dX9_isMember_7 ?_
  refine GM_calls (c9_within _ _ _) dX9_isMember_8 (mc_X9_100 rfl) tw_1020 rfl rfl (Nat.le_of_ble_eq_true rfl) (Nat.le_of_ble_eq_true rfl) ?_
  rintro _ _ _ ⟨rfl, rfl, rfl⟩
  refine G_zret dX9_isMember_11 rfl b1_n ?_
  exact ⟨rfl, rfl, rfl⟩
def ct (p : Nat → Bool) : Nat → Nat
  | 0 => 0
  | n + 1 => ct p n + (if p n then 1 else 0)
theorem ct_le (p : Nat → Bool) : ∀ n, ct p n ≤ n
  | 0 => Nat.le_refl 0
  | n + 1 => by have := ct_le p n; show ct p n + _ ≤ _; split <;> omega
set_option maxHeartbeats 4000000 in
set_option maxRecDepth 100000 in
theorem c9_counted {g : gT} {n : Nat} {s : mS} {r : mH} (q : Int32) (hI : m_inv s) : M g 0 0 0 kX9_counted [.ref 24, .int q] n (hm s r) (m_Q (.int (nI (ct (fun a => s 24 a == q) (mA s)))) n (hm s r)) := by
  refine M_of_G (by decide +kernel) (Nat.le_of_ble_eq_true rfl) ?_
  obtain ⟨hK, hT, hB, hP9, ⟨hx, hA⟩, hkf, haf⟩ := id hI
  have loop : ∀ m i, i + m = mA s → G g 0 0 0 kX9_counted 4 [.ref 24, .int q, .int (nI (ct (fun a => s 24 a == q) i)), .int (nI i)] [] n (hm s r) (m_Q (.int (nI (ct (fun a => s 24 a == q) (mA s)))) n (hm s r)) := by
    intro m
    induction m with
    | zero =>
      intro i hi0
      refine G_iload_n dX9_counted_4 rfl rfl ?_
      refine G_aload_n dX9_counted_5 rfl rfl ?_
      refine GM_get dX9_counted_6 fg_X9_171 ms_23 ?_
      refine G_icmp_ge (tgt := 36) dX9_counted_9 (by decide) (fun c9 => ?_) (fun c9 => ?_)
      · skip
        skip
        refine G_iload_n dX9_counted_36 rfl rfl ?_
        refine G_iret dX9_counted_37 rfl ?_
        exact ⟨by rw [show i = mA s by omega], rfl, rfl⟩
      · skip
        exact absurd (hx ▸ nI_le (Nat.le_of_eq hi0.symm) (by omega)) c9
    | succ m ih =>
      intro i hi0
      refine G_iload_n dX9_counted_4 rfl rfl ?_
      refine G_aload_n dX9_counted_5 rfl rfl ?_
      refine GM_get dX9_counted_6 fg_X9_171 ms_23 ?_
      refine G_icmp_ge (tgt := 36) dX9_counted_9 (by decide) (fun c9 => ?_) (fun c9 => ?_)
      · skip
        exact absurd c9 (by rw [hx, nI_leI (by omega) (by omega)]; omega)
      · skip
        refine G_iload_n dX9_counted_12 rfl rfl ?_
        refine G_aload_n dX9_counted_13 rfl rfl ?_
        refine GM_ref dX9_counted_14 fg_X9_45 (fun _ => rfl) ?_
        refine G_iload_n dX9_counted_17 rfl rfl ?_
        refine GM_ld dX9_counted_18 mt_24 (by decide) ?_ ?_
        · first | exact ⟨rfl, by omega⟩ | exact ⟨by assumption, by omega⟩ | assumption
        refine G_iload_n dX9_counted_19 rfl rfl ?_
        refine G_icmp_ne (tgt := 27) dX9_counted_20 (by decide) (fun c20 => ?_) (fun c20 => ?_)
        · skip
          refine G_iconst (v := 0) dX9_counted_27 rfl ?_
          refine G_iadd dX9_counted_28 ?_
          rw [show nI (ct (fun a => s 24 a == q) i) + _ = nI (ct (fun a => s 24 a == q) (i + 1)) from by rw [ct]; first | rw [if_pos (by simpa using c20), ← nI_1] | rw [if_neg (by simpa using c20)]; first | rfl | exact Int32.add_zero _]
          refine G_istore_n dX9_counted_29 rfl (Nat.le_of_ble_eq_true rfl) rfl ?_
          refine G_iinc (b := nI (i + 1)) dX9_counted_30 rfl (nI_1 i) rfl ?_
          refine G_goto (tgt := 4) dX9_counted_33 (by decide) ?_
          exact ih (i + 1) (by omega)
        · skip
          refine G_iconst (v := 1) dX9_counted_23 rfl ?_
          refine G_goto (tgt := 28) dX9_counted_24 (by decide) ?_
          refine G_iadd dX9_counted_28 ?_
          rw [show nI (ct (fun a => s 24 a == q) i) + _ = nI (ct (fun a => s 24 a == q) (i + 1)) from by rw [ct]; first | rw [if_pos (by simpa using c20), ← nI_1] | rw [if_neg (by simpa using c20)]; first | rfl | exact Int32.add_zero _]
          refine G_istore_n dX9_counted_29 rfl (Nat.le_of_ble_eq_true rfl) rfl ?_
          refine G_iinc (b := nI (i + 1)) dX9_counted_30 rfl (nI_1 i) rfl ?_
          refine G_goto (tgt := 4) dX9_counted_33 (by decide) ?_
          exact ih (i + 1) (by omega)
  refine G_iconst (v := 0) dX9_counted_0 rfl ?_
  refine G_istore_n dX9_counted_1 rfl (Nat.le_of_ble_eq_true rfl) rfl ?_
  refine G_iconst (v := 0) dX9_counted_2 rfl ?_
  refine G_istore_n dX9_counted_3 rfl (Nat.le_of_ble_eq_true rfl) rfl ?_
  exact loop (mA s) 0 (by omega)
