abbrev cY : Type := (Nat → Option (Nat × Nat)) × (Nat → Nat → Nat) × (Nat → Nat) × mH
abbrev y_l (Y : cY) : Nat → Option (Nat × Nat) := Y.1
abbrev y_a (Y : cY) : Nat → Nat → Nat := Y.2.1
abbrev y_c (Y : cY) : Nat → Nat := Y.2.2.1
abbrev y_j (Y : cY) : mH := Y.2.2.2
def oR (f : Nat → Nat) (x : Int32) : Option Nat := if x = -1 then none else some (f (ix x))
def f_ask (Y : cY) (c : mS) (a : Nat) : List Value := [.int (nI a), .ref (y_a Y 4 (ix (c 27 a))), .ref (y_a Y 1 (ix (c 28 a))), .int (c 29 a), .int (c 30 a), .int (c 31 a), .int (c 32 a), .int (c 24 a), va_rf (oR (y_a Y 7) (c 25 a)), .int (c 26 a), .int (c 33 a)]
def f_kind (c : mS) (k : Nat) : List Value := [.int (nI k), .int (c 2 k), .int (c 3 k), .int (c 4 k)]
def f_thing (Y : cY) (c : mS) (t : Nat) : List Value := [.int (nI t), .ref (y_a Y 1 (ix (c 6 t))), .int (c 7 t), .int (c 50 t), va_rf (oR (y_a Y 0) (c 51 t))]
def f_mem (c : mS) (m : Nat) : List Value := [.int (nI m), .int (c 9 m), .int (c 10 m), .int (c 52 m)]
def c_sz (c : mS) (l : Nat) : Int32 := match l with
  | 0 => c 1 0
  | 1 => c 5 0
  | 2 => c 8 0
  | 3 => c 23 0
  | _ => c 81 0
def c_el (Y : cY) (c : mS) (l i : Nat) : Nat := match l with
  | 0 => y_a Y 1 i
  | 1 => y_a Y 7 i
  | 2 => y_a Y 4 i
  | 3 => y_a Y 0 i
  | _ => y_a Y 0 (ix (c 80 i))
def f_arr (Y : cY) (c : mS) (l : Nat) : Nat → Option Nat := fun i => if i < ix (c_sz c l) then some (c_el Y c l i) else none
def f_lst (Y : cY) (c : mS) (l : Nat) : List Value := [.int (c 90 l), .ref (y_a Y 20 l), .int (c_sz c l)]
def c_fx (Y : cY) (c : mS) (a : Nat) : Option mE := match a with
  | 8 => some (.inr (8, [.ref 9, .ref 10, .ref 11, .ref 12, .ref 13, .ref 14, .ref 16, .ref 18, .ref 20, .int (c 11 0)]))
  | 9 => some (.inr (10, f_lst Y c 0))
  | 10 => some (.inr (10, f_lst Y c 1))
  | 11 => some (.inr (10, f_lst Y c 2))
  | 12 => some (.inr (10, f_lst Y c 3))
  | 13 => some (.inr (10, f_lst Y c 4))
  | 14 => some (.inr (6, [.ref 15, .int (c 13 0)]))
  | 15 => some (.inl (0, 200, .inl (c 12)))
  | 16 => some (.inr (3, [.ref 17, .int (c 61 0), .int (c 62 0), .int (c 63 0), .int (c 64 0)]))
  | 17 => some (.inl (0, 8, .inl (c 60)))
  | 18 => some (.inr (2, [.int (c 14 0), .int (c 18 0), .ref 19]))
  | 19 => some (.inl (0, 8, .inl (c 15)))
  | 20 => some (.inr (5, [.ref 21, .int (c 71 0), .ref 22, .ref 23]))
  | 21 => some (.inl (5, 5, rfs (fun i => oR (y_a Y 0) (c 70 i))))
  | 22 => some (.inl (0, 32, .inl (c 72)))
  | 23 => some (.inl (0, 32, .inl (c 73)))
  | _ => none
def c_dy (Y : cY) (c : mS) (a : Nat) : Option mE := match y_l Y a with
  | some (0, i) => some (.inr (0, f_ask Y c i))
  | some (1, i) => some (.inr (1, f_kind c i))
  | some (4, i) => some (.inr (4, f_mem c i))
  | some (7, i) => some (.inr (7, f_thing Y c i))
  | some (20, l) => some (.inl (4, y_c Y l, rfs (f_arr Y c l)))
  | _ => y_j Y a
def hC (Y : cY) (c : mS) : mH := fun a => if a < 24 then c_fx Y c a else c_dy Y c a
def hh (sm : mS) (Y : cY) (c : mS) : mH := hm sm (hC Y c)
def mL (c : mS) : Nat := (c 81 0).toNatClampNeg
def y_ix (c : mS) (tag i : Nat) : Prop := (tag = 0 ∧ i < mA c) ∨ (tag = 1 ∧ i < mK c) ∨ (tag = 4 ∧ i < mB c) ∨ (tag = 7 ∧ i < mT c) ∨ (tag = 20 ∧ i < 5)
/-- the law's own long[1] -/
def yJ (Y : cY) : Prop := ∃ f, y_j Y 52 = some (.inl (3, 1, .inr (.inl f)))
/-- the layout is right for these numbers, below n9 -/
def Yok (Y : cY) (c : mS) (n9 : Nat) : Prop :=
  (∀ a tag i, y_l Y a = some (tag, i) → 53 ≤ a ∧ a < n9 ∧ a = y_a Y tag i ∧ y_ix c tag i) ∧
  (∀ i, i < mA c → y_l Y (y_a Y 0 i) = some (0, i)) ∧ (∀ i, i < mK c → y_l Y (y_a Y 1 i) = some (1, i)) ∧ (∀ i, i < mB c → y_l Y (y_a Y 4 i) = some (4, i)) ∧ (∀ i, i < mT c → y_l Y (y_a Y 7 i) = some (7, i)) ∧
  (∀ l, l < 5 → ix (c_sz c l) ≤ y_c Y l ∧ y_c Y l ≤ 200 ∧ ((y_a Y 20 l = 1 ∧ y_c Y l = 0) ∨ (y_l Y (y_a Y 20 l) = some (20, l) ∧ 1 ≤ y_c Y l))) ∧ yJ Y
theorem hh_lo (sm : mS) (Y : cY) (c : mS) {a : Nat} (h : a < 24) : hh sm Y c a = c_fx Y c a := by
  unfold hh
  rw [hm_r _ _ (Or.inl h)]
  exact if_pos h
theorem hh_hi (sm : mS) (Y : cY) (c : mS) {a : Nat} (h : 52 ≤ a) : hh sm Y c a = c_dy Y c a := by
  unfold hh
  rw [hm_r _ _ (Or.inr h)]
  exact if_neg (by omega)
theorem c_dy_0 {Y : cY} {c : mS} {a i : Nat} (h : y_l Y a = some (0, i)) : c_dy Y c a = some (.inr (0, f_ask Y c i)) := by unfold c_dy; rw [h]; rfl
theorem c_dy_1 {Y : cY} {c : mS} {a i : Nat} (h : y_l Y a = some (1, i)) : c_dy Y c a = some (.inr (1, f_kind c i)) := by unfold c_dy; rw [h]; rfl
theorem c_dy_4 {Y : cY} {c : mS} {a i : Nat} (h : y_l Y a = some (4, i)) : c_dy Y c a = some (.inr (4, f_mem c i)) := by unfold c_dy; rw [h]; rfl
theorem c_dy_7 {Y : cY} {c : mS} {a i : Nat} (h : y_l Y a = some (7, i)) : c_dy Y c a = some (.inr (7, f_thing Y c i)) := by unfold c_dy; rw [h]; rfl
theorem c_dy_20 {Y : cY} {c : mS} {a i : Nat} (h : y_l Y a = some (20, i)) : c_dy Y c a = some (.inl (4, y_c Y i, rfs (f_arr Y c i))) := by unfold c_dy; rw [h]; rfl
theorem hx_A {sm : mS} {Y : cY} {c : mS} {n9 i : Nat} (hY : Yok Y c n9) (hi : i < mA c) : hh sm Y c (y_a Y 0 i) = some (.inr (0, f_ask Y c i)) := by
  have h1 := hY.2.1 i hi
  rw [hh_hi _ _ _ (by have := (hY.1 _ _ _ h1).1; omega), c_dy_0 h1]
theorem ya_A {Y : cY} {c : mS} {n9 i : Nat} (hY : Yok Y c n9) (hi : i < mA c) : 53 ≤ y_a Y 0 i ∧ y_a Y 0 i < n9 := ⟨(hY.1 _ _ _ (hY.2.1 i hi)).1, (hY.1 _ _ _ (hY.2.1 i hi)).2.1⟩
theorem yi_A {Y : cY} {c : mS} {n9 i j : Nat} (hY : Yok Y c n9) (hi : i < mA c) (hj : j < mA c) (e : y_a Y 0 i = y_a Y 0 j) : i = j := by
  have h1 := hY.2.1 i hi
  have h2 := hY.2.1 j hj
  rw [e, h2] at h1
  cases h1
  rfl
theorem hx_K {sm : mS} {Y : cY} {c : mS} {n9 i : Nat} (hY : Yok Y c n9) (hi : i < mK c) : hh sm Y c (y_a Y 1 i) = some (.inr (1, f_kind c i)) := by
  have h1 := hY.2.2.1 i hi
  rw [hh_hi _ _ _ (by have := (hY.1 _ _ _ h1).1; omega), c_dy_1 h1]
theorem ya_K {Y : cY} {c : mS} {n9 i : Nat} (hY : Yok Y c n9) (hi : i < mK c) : 53 ≤ y_a Y 1 i ∧ y_a Y 1 i < n9 := ⟨(hY.1 _ _ _ (hY.2.2.1 i hi)).1, (hY.1 _ _ _ (hY.2.2.1 i hi)).2.1⟩
theorem yi_K {Y : cY} {c : mS} {n9 i j : Nat} (hY : Yok Y c n9) (hi : i < mK c) (hj : j < mK c) (e : y_a Y 1 i = y_a Y 1 j) : i = j := by
  have h1 := hY.2.2.1 i hi
  have h2 := hY.2.2.1 j hj
  rw [e, h2] at h1
  cases h1
  rfl
theorem hx_B {sm : mS} {Y : cY} {c : mS} {n9 i : Nat} (hY : Yok Y c n9) (hi : i < mB c) : hh sm Y c (y_a Y 4 i) = some (.inr (4, f_mem c i)) := by
  have h1 := hY.2.2.2.1 i hi
  rw [hh_hi _ _ _ (by have := (hY.1 _ _ _ h1).1; omega), c_dy_4 h1]
theorem ya_B {Y : cY} {c : mS} {n9 i : Nat} (hY : Yok Y c n9) (hi : i < mB c) : 53 ≤ y_a Y 4 i ∧ y_a Y 4 i < n9 := ⟨(hY.1 _ _ _ (hY.2.2.2.1 i hi)).1, (hY.1 _ _ _ (hY.2.2.2.1 i hi)).2.1⟩
theorem yi_B {Y : cY} {c : mS} {n9 i j : Nat} (hY : Yok Y c n9) (hi : i < mB c) (hj : j < mB c) (e : y_a Y 4 i = y_a Y 4 j) : i = j := by
  have h1 := hY.2.2.2.1 i hi
  have h2 := hY.2.2.2.1 j hj
  rw [e, h2] at h1
  cases h1
  rfl
theorem hx_T {sm : mS} {Y : cY} {c : mS} {n9 i : Nat} (hY : Yok Y c n9) (hi : i < mT c) : hh sm Y c (y_a Y 7 i) = some (.inr (7, f_thing Y c i)) := by
  have h1 := hY.2.2.2.2.1 i hi
  rw [hh_hi _ _ _ (by have := (hY.1 _ _ _ h1).1; omega), c_dy_7 h1]
theorem ya_T {Y : cY} {c : mS} {n9 i : Nat} (hY : Yok Y c n9) (hi : i < mT c) : 53 ≤ y_a Y 7 i ∧ y_a Y 7 i < n9 := ⟨(hY.1 _ _ _ (hY.2.2.2.2.1 i hi)).1, (hY.1 _ _ _ (hY.2.2.2.2.1 i hi)).2.1⟩
theorem yi_T {Y : cY} {c : mS} {n9 i j : Nat} (hY : Yok Y c n9) (hi : i < mT c) (hj : j < mT c) (e : y_a Y 7 i = y_a Y 7 j) : i = j := by
  have h1 := hY.2.2.2.2.1 i hi
  have h2 := hY.2.2.2.2.1 j hj
  rw [e, h2] at h1
  cases h1
  rfl
theorem hx_8 (sm : mS) (Y : cY) (c : mS) : hh sm Y c 8 = some (.inr (8, [.ref 9, .ref 10, .ref 11, .ref 12, .ref 13, .ref 14, .ref 16, .ref 18, .ref 20, .int (c 11 0)])) := hh_lo sm Y c (by decide)
theorem hx_14 (sm : mS) (Y : cY) (c : mS) : hh sm Y c 14 = some (.inr (6, [.ref 15, .int (c 13 0)])) := hh_lo sm Y c (by decide)
theorem hx_16 (sm : mS) (Y : cY) (c : mS) : hh sm Y c 16 = some (.inr (3, [.ref 17, .int (c 61 0), .int (c 62 0), .int (c 63 0), .int (c 64 0)])) := hh_lo sm Y c (by decide)
theorem hx_18 (sm : mS) (Y : cY) (c : mS) : hh sm Y c 18 = some (.inr (2, [.int (c 14 0), .int (c 18 0), .ref 19])) := hh_lo sm Y c (by decide)
theorem hx_20 (sm : mS) (Y : cY) (c : mS) : hh sm Y c 20 = some (.inr (5, [.ref 21, .int (c 71 0), .ref 22, .ref 23])) := hh_lo sm Y c (by decide)
theorem hx_15 (sm : mS) (Y : cY) (c : mS) : hh sm Y c 15 = some (.inl (0, 200, .inl (c 12))) := hh_lo sm Y c (by decide)
theorem hx_17 (sm : mS) (Y : cY) (c : mS) : hh sm Y c 17 = some (.inl (0, 8, .inl (c 60))) := hh_lo sm Y c (by decide)
theorem hx_19 (sm : mS) (Y : cY) (c : mS) : hh sm Y c 19 = some (.inl (0, 8, .inl (c 15))) := hh_lo sm Y c (by decide)
theorem hx_22 (sm : mS) (Y : cY) (c : mS) : hh sm Y c 22 = some (.inl (0, 32, .inl (c 72))) := hh_lo sm Y c (by decide)
theorem hx_23 (sm : mS) (Y : cY) (c : mS) : hh sm Y c 23 = some (.inl (0, 32, .inl (c 73))) := hh_lo sm Y c (by decide)
theorem hx_21 (sm : mS) (Y : cY) (c : mS) : hh sm Y c 21 = some (.inl (5, 5, rfs (fun i => oR (y_a Y 0) (c 70 i)))) := hh_lo sm Y c (by decide)
theorem hx_9 (sm : mS) (Y : cY) (c : mS) : hh sm Y c 9 = some (.inr (10, [.int (c 90 0), .ref (y_a Y 20 0), .int (c 1 0)])) := hh_lo sm Y c (by decide)
theorem hx_10 (sm : mS) (Y : cY) (c : mS) : hh sm Y c 10 = some (.inr (10, [.int (c 90 1), .ref (y_a Y 20 1), .int (c 5 0)])) := hh_lo sm Y c (by decide)
theorem hx_11 (sm : mS) (Y : cY) (c : mS) : hh sm Y c 11 = some (.inr (10, [.int (c 90 2), .ref (y_a Y 20 2), .int (c 8 0)])) := hh_lo sm Y c (by decide)
theorem hx_12 (sm : mS) (Y : cY) (c : mS) : hh sm Y c 12 = some (.inr (10, [.int (c 90 3), .ref (y_a Y 20 3), .int (c 23 0)])) := hh_lo sm Y c (by decide)
theorem hx_13 (sm : mS) (Y : cY) (c : mS) : hh sm Y c 13 = some (.inr (10, [.int (c 90 4), .ref (y_a Y 20 4), .int (c 81 0)])) := hh_lo sm Y c (by decide)
theorem hx_L {sm : mS} {Y : cY} {c : mS} {n9 l : Nat} (hY : Yok Y c n9) (hl : l < 5) (h0 : 1 ≤ y_c Y l) : hh sm Y c (y_a Y 20 l) = some (.inl (4, y_c Y l, rfs (f_arr Y c l))) := by
  obtain ⟨h1, h2, h3⟩ := hY.2.2.2.2.2.1 l hl
  rcases h3 with h3 | h3
  · omega
  · rw [hh_hi _ _ _ (by have := (hY.1 _ _ _ h3.1).1; omega), c_dy_20 h3.1]
theorem Yok.same {Y : cY} {c c' : mS} {n9 : Nat} (hY : Yok Y c n9) (h1 : c' 1 0 = c 1 0) (h2 : c' 5 0 = c 5 0) (h3 : c' 8 0 = c 8 0) (h4 : c' 23 0 = c 23 0) (h5 : c' 81 0 = c 81 0) : Yok Y c' n9 := by
  obtain ⟨a1, a2, a3, a4, a5, a6, a7⟩ := hY
  refine ⟨fun a t i z => ?_, ?_, ?_, ?_, ?_, ?_, a7⟩
  · obtain ⟨z1, z2, z3, z4⟩ := a1 a t i z
    refine ⟨z1, z2, z3, ?_⟩
    unfold y_ix mA mK mB mT at z4 ⊢
    rw [h1, h2, h3, h4]
    exact z4
  · unfold mA at a2 ⊢; rw [h4]; exact a2
  · unfold mK at a3 ⊢; rw [h1]; exact a3
  · unfold mB at a4 ⊢; rw [h3]; exact a4
  · unfold mT at a5 ⊢; rw [h2]; exact a5
  · intro l hl
    have := a6 l hl
    have e : c_sz c' l = c_sz c l := by
      unfold c_sz
      split
      · exact h1
      · exact h2
      · exact h3
      · exact h4
      · exact h5
    rw [e]
    exact this
theorem Yok.up {Y : cY} {c : mS} {n9 n8 : Nat} (hY : Yok Y c n9) (h : n9 ≤ n8) : Yok Y c n8 := ⟨fun a t i z => ⟨(hY.1 a t i z).1, Nat.lt_of_lt_of_le (hY.1 a t i z).2.1 h, (hY.1 a t i z).2.2⟩, hY.2⟩
theorem hw_gen {sm : mS} {Y : cY} {c c' : mS} {a0 : Nat} {X : Option mE} (h0 : a0 < 24 ∨ 52 ≤ a0) (h1 : hh sm Y c' a0 = X) (hf : ∀ b, b < 24 → b ≠ a0 → c_fx Y c' b = c_fx Y c b) (hd : ∀ b, b ≠ a0 → c_dy Y c' b = c_dy Y c b) : va_up (hh sm Y c) a0 X = hh sm Y c' := by
  funext b
  by_cases e : b = a0
  · subst e; rw [va_up_self, h1]
  · rw [va_up_ne _ _ e]
    unfold hh hm
    by_cases e24 : b = 24
    · rw [if_pos e24, if_pos e24]
    · rw [if_neg e24, if_neg e24]
      cases m_t b with
      | some w => rfl
      | none =>
        show hC Y c b = hC Y c' b
        unfold hC
        by_cases e2 : b < 24
        · rw [if_pos e2, if_pos e2, hf b e2 e]
        · rw [if_neg e2, if_neg e2, hd b e]
theorem cd_c {Y : cY} {c c' : mS} {b : Nat} (h0 : ∀ i, y_l Y b = some (0, i) → f_ask Y c' i = f_ask Y c i) (h1 : ∀ i, y_l Y b = some (1, i) → f_kind c' i = f_kind c i) (h4 : ∀ i, y_l Y b = some (4, i) → f_mem c' i = f_mem c i) (h7 : ∀ i, y_l Y b = some (7, i) → f_thing Y c' i = f_thing Y c i) (h20 : ∀ i, y_l Y b = some (20, i) → f_arr Y c' i = f_arr Y c i) : c_dy Y c' b = c_dy Y c b := by
  cases hl : y_l Y b with
  | none => unfold c_dy; rw [hl]
  | some w =>
    obtain ⟨tg, i⟩ := w
    by_cases e0 : tg = 0
    · subst e0; rw [c_dy_0 hl, c_dy_0 hl, h0 i hl]
    · by_cases e1 : tg = 1
      · subst e1; rw [c_dy_1 hl, c_dy_1 hl, h1 i hl]
      · by_cases e4 : tg = 4
        · subst e4; rw [c_dy_4 hl, c_dy_4 hl, h4 i hl]
        · by_cases e7 : tg = 7
          · subst e7; rw [c_dy_7 hl, c_dy_7 hl, h7 i hl]
          · by_cases e20 : tg = 20
            · subst e20; rw [c_dy_20 hl, c_dy_20 hl, h20 i hl]
            · unfold c_dy
              rw [hl]
              split <;> simp_all
theorem far {Y : cY} {c c' : mS} (h1 : c' 1 0 = c 1 0) (h2 : c' 5 0 = c 5 0) (h3 : c' 8 0 = c 8 0) (h4 : c' 23 0 = c 23 0) (h5 : c' 81 0 = c 81 0) (h6 : c' 80 = c 80) (l : Nat) : f_arr Y c' l = f_arr Y c l := by
  have e : c_sz c' l = c_sz c l := by
    unfold c_sz
    split
    · exact h1
    · exact h2
    · exact h3
    · exact h4
    · exact h5
  have e2 : ∀ i, c_el Y c' l i = c_el Y c l i := by
    intro i
    unfold c_el
    split
    · rfl
    · rfl
    · rfl
    · rfl
    · rw [h6]
  funext i
  unfold f_arr
  rw [e, e2 i]
theorem hw_day (sm : mS) (Y : cY) (c : mS) (v : Int32) : hh sm Y (m_set c 11 0 v) = va_up (hh sm Y c) 8 (hh sm Y (m_set c 11 0 v) 8) := (hw_gen (sm := sm) (Y := Y) (c := c) (c' := m_set c 11 0 v) (a0 := 8) (Or.inl (by decide)) rfl (fun b hb hn => by unfold c_fx; split <;> first | rfl | exact absurd rfl hn) (fun b _ => cd_c (fun _ _ => rfl) (fun _ _ => rfl) (fun _ _ => rfl) (fun _ _ => rfl) (fun _ _ => far rfl rfl rfl rfl rfl rfl _))).symm
theorem GC_day {g : gT} {d x y : Nat} {k : mM} {pc : Nat} {L st : List Value} {n : Nat} {P : Option Value → Nat → mH → Prop} {sm : mS} {Y : cY} {c : mS} {index : Nat} {v : Int32} (hd : decode k.2.1 pc = .ok (.putfield index, 3)) (hf : g_fp k.1.cls index 8 9 .int false) (K : G g d x y k (pc + 3) L st n (hh sm Y (m_set c 11 0 v)) P) : G g d x y k pc L (.int v :: .ref 8 :: st) n (hh sm Y c) P := by
  refine G_put hd hf (hx_8 sm Y c) (Nat.le_of_ble_eq_true rfl) g_fit_i ?_
  rw [hw_day] at K
  exact K
theorem hw_len (sm : mS) (Y : cY) (c : mS) (v : Int32) : hh sm Y (m_set c 13 0 v) = va_up (hh sm Y c) 14 (hh sm Y (m_set c 13 0 v) 14) := (hw_gen (sm := sm) (Y := Y) (c := c) (c' := m_set c 13 0 v) (a0 := 14) (Or.inl (by decide)) rfl (fun b hb hn => by unfold c_fx; split <;> first | rfl | exact absurd rfl hn) (fun b _ => cd_c (fun _ _ => rfl) (fun _ _ => rfl) (fun _ _ => rfl) (fun _ _ => rfl) (fun _ _ => far rfl rfl rfl rfl rfl rfl _))).symm
theorem GC_len {g : gT} {d x y : Nat} {k : mM} {pc : Nat} {L st : List Value} {n : Nat} {P : Option Value → Nat → mH → Prop} {sm : mS} {Y : cY} {c : mS} {index : Nat} {v : Int32} (hd : decode k.2.1 pc = .ok (.putfield index, 3)) (hf : g_fp k.1.cls index 6 1 .int false) (K : G g d x y k (pc + 3) L st n (hh sm Y (m_set c 13 0 v)) P) : G g d x y k pc L (.int v :: .ref 14 :: st) n (hh sm Y c) P := by
  refine G_put hd hf (hx_14 sm Y c) (Nat.le_of_ble_eq_true rfl) g_fit_i ?_
  rw [hw_len] at K
  exact K
theorem hw_flt (sm : mS) (Y : cY) (c : mS) (v : Int32) : hh sm Y (m_set c 61 0 v) = va_up (hh sm Y c) 16 (hh sm Y (m_set c 61 0 v) 16) := (hw_gen (sm := sm) (Y := Y) (c := c) (c' := m_set c 61 0 v) (a0 := 16) (Or.inl (by decide)) rfl (fun b hb hn => by unfold c_fx; split <;> first | rfl | exact absurd rfl hn) (fun b _ => cd_c (fun _ _ => rfl) (fun _ _ => rfl) (fun _ _ => rfl) (fun _ _ => rfl) (fun _ _ => far rfl rfl rfl rfl rfl rfl _))).symm
theorem GC_flt {g : gT} {d x y : Nat} {k : mM} {pc : Nat} {L st : List Value} {n : Nat} {P : Option Value → Nat → mH → Prop} {sm : mS} {Y : cY} {c : mS} {index : Nat} {v : Int32} (hd : decode k.2.1 pc = .ok (.putfield index, 3)) (hf : g_fp k.1.cls index 3 1 .int false) (K : G g d x y k (pc + 3) L st n (hh sm Y (m_set c 61 0 v)) P) : G g d x y k pc L (.int v :: .ref 16 :: st) n (hh sm Y c) P := by
  refine G_put hd hf (hx_16 sm Y c) (Nat.le_of_ble_eq_true rfl) g_fit_i ?_
  rw [hw_flt] at K
  exact K
theorem hw_rpl (sm : mS) (Y : cY) (c : mS) (v : Int32) : hh sm Y (m_set c 62 0 v) = va_up (hh sm Y c) 16 (hh sm Y (m_set c 62 0 v) 16) := (hw_gen (sm := sm) (Y := Y) (c := c) (c' := m_set c 62 0 v) (a0 := 16) (Or.inl (by decide)) rfl (fun b hb hn => by unfold c_fx; split <;> first | rfl | exact absurd rfl hn) (fun b _ => cd_c (fun _ _ => rfl) (fun _ _ => rfl) (fun _ _ => rfl) (fun _ _ => rfl) (fun _ _ => far rfl rfl rfl rfl rfl rfl _))).symm
theorem GC_rpl {g : gT} {d x y : Nat} {k : mM} {pc : Nat} {L st : List Value} {n : Nat} {P : Option Value → Nat → mH → Prop} {sm : mS} {Y : cY} {c : mS} {index : Nat} {v : Int32} (hd : decode k.2.1 pc = .ok (.putfield index, 3)) (hf : g_fp k.1.cls index 3 2 .int false) (K : G g d x y k (pc + 3) L st n (hh sm Y (m_set c 62 0 v)) P) : G g d x y k pc L (.int v :: .ref 16 :: st) n (hh sm Y c) P := by
  refine G_put hd hf (hx_16 sm Y c) (Nat.le_of_ble_eq_true rfl) g_fit_i ?_
  rw [hw_rpl] at K
  exact K
theorem hw_due (sm : mS) (Y : cY) (c : mS) (v : Int32) : hh sm Y (m_set c 63 0 v) = va_up (hh sm Y c) 16 (hh sm Y (m_set c 63 0 v) 16) := (hw_gen (sm := sm) (Y := Y) (c := c) (c' := m_set c 63 0 v) (a0 := 16) (Or.inl (by decide)) rfl (fun b hb hn => by unfold c_fx; split <;> first | rfl | exact absurd rfl hn) (fun b _ => cd_c (fun _ _ => rfl) (fun _ _ => rfl) (fun _ _ => rfl) (fun _ _ => rfl) (fun _ _ => far rfl rfl rfl rfl rfl rfl _))).symm
theorem GC_due {g : gT} {d x y : Nat} {k : mM} {pc : Nat} {L st : List Value} {n : Nat} {P : Option Value → Nat → mH → Prop} {sm : mS} {Y : cY} {c : mS} {index : Nat} {v : Int32} (hd : decode k.2.1 pc = .ok (.putfield index, 3)) (hf : g_fp k.1.cls index 3 3 .int false) (K : G g d x y k (pc + 3) L st n (hh sm Y (m_set c 63 0 v)) P) : G g d x y k pc L (.int v :: .ref 16 :: st) n (hh sm Y c) P := by
  refine G_put hd hf (hx_16 sm Y c) (Nat.le_of_ble_eq_true rfl) g_fit_i ?_
  rw [hw_due] at K
  exact K
theorem hw_ktd (sm : mS) (Y : cY) (c : mS) (v : Int32) : hh sm Y (m_set c 64 0 v) = va_up (hh sm Y c) 16 (hh sm Y (m_set c 64 0 v) 16) := (hw_gen (sm := sm) (Y := Y) (c := c) (c' := m_set c 64 0 v) (a0 := 16) (Or.inl (by decide)) rfl (fun b hb hn => by unfold c_fx; split <;> first | rfl | exact absurd rfl hn) (fun b _ => cd_c (fun _ _ => rfl) (fun _ _ => rfl) (fun _ _ => rfl) (fun _ _ => rfl) (fun _ _ => far rfl rfl rfl rfl rfl rfl _))).symm
theorem GC_ktd {g : gT} {d x y : Nat} {k : mM} {pc : Nat} {L st : List Value} {n : Nat} {P : Option Value → Nat → mH → Prop} {sm : mS} {Y : cY} {c : mS} {index : Nat} {v : Int32} (hd : decode k.2.1 pc = .ok (.putfield index, 3)) (hf : g_fp k.1.cls index 3 4 .int false) (K : G g d x y k (pc + 3) L st n (hh sm Y (m_set c 64 0 v)) P) : G g d x y k pc L (.int v :: .ref 16 :: st) n (hh sm Y c) P := by
  refine G_put hd hf (hx_16 sm Y c) (Nat.le_of_ble_eq_true rfl) g_fit_i ?_
  rw [hw_ktd] at K
  exact K
theorem hw_told (sm : mS) (Y : cY) (c : mS) (v : Int32) : hh sm Y (m_set c 14 0 v) = va_up (hh sm Y c) 18 (hh sm Y (m_set c 14 0 v) 18) := (hw_gen (sm := sm) (Y := Y) (c := c) (c' := m_set c 14 0 v) (a0 := 18) (Or.inl (by decide)) rfl (fun b hb hn => by unfold c_fx; split <;> first | rfl | exact absurd rfl hn) (fun b _ => cd_c (fun _ _ => rfl) (fun _ _ => rfl) (fun _ _ => rfl) (fun _ _ => rfl) (fun _ _ => far rfl rfl rfl rfl rfl rfl _))).symm
theorem GC_told {g : gT} {d x y : Nat} {k : mM} {pc : Nat} {L st : List Value} {n : Nat} {P : Option Value → Nat → mH → Prop} {sm : mS} {Y : cY} {c : mS} {index : Nat} {v : Int32} (hd : decode k.2.1 pc = .ok (.putfield index, 3)) (hf : g_fp k.1.cls index 2 0 .int false) (K : G g d x y k (pc + 3) L st n (hh sm Y (m_set c 14 0 v)) P) : G g d x y k pc L (.int v :: .ref 18 :: st) n (hh sm Y c) P := by
  refine G_put hd hf (hx_18 sm Y c) (Nat.le_of_ble_eq_true rfl) g_fit_i ?_
  rw [hw_told] at K
  exact K
theorem hw_place (sm : mS) (Y : cY) (c : mS) (v : Int32) : hh sm Y (m_set c 18 0 v) = va_up (hh sm Y c) 18 (hh sm Y (m_set c 18 0 v) 18) := (hw_gen (sm := sm) (Y := Y) (c := c) (c' := m_set c 18 0 v) (a0 := 18) (Or.inl (by decide)) rfl (fun b hb hn => by unfold c_fx; split <;> first | rfl | exact absurd rfl hn) (fun b _ => cd_c (fun _ _ => rfl) (fun _ _ => rfl) (fun _ _ => rfl) (fun _ _ => rfl) (fun _ _ => far rfl rfl rfl rfl rfl rfl _))).symm
theorem GC_place {g : gT} {d x y : Nat} {k : mM} {pc : Nat} {L st : List Value} {n : Nat} {P : Option Value → Nat → mH → Prop} {sm : mS} {Y : cY} {c : mS} {index : Nat} {v : Int32} (hd : decode k.2.1 pc = .ok (.putfield index, 3)) (hf : g_fp k.1.cls index 2 1 .int false) (K : G g d x y k (pc + 3) L st n (hh sm Y (m_set c 18 0 v)) P) : G g d x y k pc L (.int v :: .ref 18 :: st) n (hh sm Y c) P := by
  refine G_put hd hf (hx_18 sm Y c) (Nat.le_of_ble_eq_true rfl) g_fit_i ?_
  rw [hw_place] at K
  exact K
theorem hw_psz (sm : mS) (Y : cY) (c : mS) (v : Int32) : hh sm Y (m_set c 71 0 v) = va_up (hh sm Y c) 20 (hh sm Y (m_set c 71 0 v) 20) := (hw_gen (sm := sm) (Y := Y) (c := c) (c' := m_set c 71 0 v) (a0 := 20) (Or.inl (by decide)) rfl (fun b hb hn => by unfold c_fx; split <;> first | rfl | exact absurd rfl hn) (fun b _ => cd_c (fun _ _ => rfl) (fun _ _ => rfl) (fun _ _ => rfl) (fun _ _ => rfl) (fun _ _ => far rfl rfl rfl rfl rfl rfl _))).symm
theorem GC_psz {g : gT} {d x y : Nat} {k : mM} {pc : Nat} {L st : List Value} {n : Nat} {P : Option Value → Nat → mH → Prop} {sm : mS} {Y : cY} {c : mS} {index : Nat} {v : Int32} (hd : decode k.2.1 pc = .ok (.putfield index, 3)) (hf : g_fp k.1.cls index 5 1 .int false) (K : G g d x y k (pc + 3) L st n (hh sm Y (m_set c 71 0 v)) P) : G g d x y k pc L (.int v :: .ref 20 :: st) n (hh sm Y c) P := by
  refine G_put hd hf (hx_20 sm Y c) (Nat.le_of_ble_eq_true rfl) g_fit_i ?_
  rw [hw_psz] at K
  exact K
theorem GC_byt {g : gT} {d x y : Nat} {k : mM} {pc : Nat} {L st : List Value} {n : Nat} {P : Option Value → Nat → mH → Prop} {sm : mS} {Y : cY} {c : mS} {i : Nat} {b v : Int32} (hd : decode k.2.1 pc = .ok (.iastore, 1)) (hi : b = nI i ∧ i < 200) (K : G g d x y k (pc + 1) L st n (hh sm Y (m_set c 12 i v)) P) : G g d x y k pc L (.int v :: .int b :: .ref 15 :: st) n (hh sm Y c) P := by
  obtain ⟨rfl, h1⟩ := hi
  refine G_iast hd (hx_15 sm Y c) (vp_in_nI h1 (by decide)) ?_
  rw [nI_clamp (by omega), ← m_set_eq]
  have e : hh sm Y (m_set c 12 i v) = va_up (hh sm Y c) 15 (hh sm Y (m_set c 12 i v) 15) := (hw_gen (sm := sm) (Y := Y) (c := c) (c' := m_set c 12 i v) (a0 := 15) (Or.inl (by decide)) rfl (fun b hb hn => by unfold c_fx; split <;> first | rfl | exact absurd rfl hn) (fun b _ => cd_c (fun _ _ => rfl) (fun _ _ => rfl) (fun _ _ => rfl) (fun _ _ => rfl) (fun _ _ => far rfl rfl rfl rfl rfl rfl _))).symm
  rw [e] at K
  exact K
theorem GR_byt {g : gT} {d x y : Nat} {k : mM} {pc : Nat} {L st : List Value} {n : Nat} {P : Option Value → Nat → mH → Prop} {sm : mS} {Y : cY} {c : mS} {i : Nat} {b : Int32} (hd : decode k.2.1 pc = .ok (.iaload, 1)) (hi : b = nI i ∧ i < 200) (K : G g d x y k (pc + 1) L (.int (c 12 i) :: st) n (hh sm Y c) P) : G g d x y k pc L (.int b :: .ref 15 :: st) n (hh sm Y c) P := by
  obtain ⟨rfl, h1⟩ := hi
  refine G_iald hd (hx_15 sm Y c) (vp_in_nI h1 (by decide)) ?_
  rw [nI_clamp (by omega)]
  exact K
theorem GC_rwt {g : gT} {d x y : Nat} {k : mM} {pc : Nat} {L st : List Value} {n : Nat} {P : Option Value → Nat → mH → Prop} {sm : mS} {Y : cY} {c : mS} {i : Nat} {b v : Int32} (hd : decode k.2.1 pc = .ok (.iastore, 1)) (hi : b = nI i ∧ i < 8) (K : G g d x y k (pc + 1) L st n (hh sm Y (m_set c 60 i v)) P) : G g d x y k pc L (.int v :: .int b :: .ref 17 :: st) n (hh sm Y c) P := by
  obtain ⟨rfl, h1⟩ := hi
  refine G_iast hd (hx_17 sm Y c) (vp_in_nI h1 (by decide)) ?_
  rw [nI_clamp (by omega), ← m_set_eq]
  have e : hh sm Y (m_set c 60 i v) = va_up (hh sm Y c) 17 (hh sm Y (m_set c 60 i v) 17) := (hw_gen (sm := sm) (Y := Y) (c := c) (c' := m_set c 60 i v) (a0 := 17) (Or.inl (by decide)) rfl (fun b hb hn => by unfold c_fx; split <;> first | rfl | exact absurd rfl hn) (fun b _ => cd_c (fun _ _ => rfl) (fun _ _ => rfl) (fun _ _ => rfl) (fun _ _ => rfl) (fun _ _ => far rfl rfl rfl rfl rfl rfl _))).symm
  rw [e] at K
  exact K
theorem GR_rwt {g : gT} {d x y : Nat} {k : mM} {pc : Nat} {L st : List Value} {n : Nat} {P : Option Value → Nat → mH → Prop} {sm : mS} {Y : cY} {c : mS} {i : Nat} {b : Int32} (hd : decode k.2.1 pc = .ok (.iaload, 1)) (hi : b = nI i ∧ i < 8) (K : G g d x y k (pc + 1) L (.int (c 60 i) :: st) n (hh sm Y c) P) : G g d x y k pc L (.int b :: .ref 17 :: st) n (hh sm Y c) P := by
  obtain ⟨rfl, h1⟩ := hi
  refine G_iald hd (hx_17 sm Y c) (vp_in_nI h1 (by decide)) ?_
  rw [nI_clamp (by omega)]
  exact K
theorem GC_lwt {g : gT} {d x y : Nat} {k : mM} {pc : Nat} {L st : List Value} {n : Nat} {P : Option Value → Nat → mH → Prop} {sm : mS} {Y : cY} {c : mS} {i : Nat} {b v : Int32} (hd : decode k.2.1 pc = .ok (.iastore, 1)) (hi : b = nI i ∧ i < 8) (K : G g d x y k (pc + 1) L st n (hh sm Y (m_set c 15 i v)) P) : G g d x y k pc L (.int v :: .int b :: .ref 19 :: st) n (hh sm Y c) P := by
  obtain ⟨rfl, h1⟩ := hi
  refine G_iast hd (hx_19 sm Y c) (vp_in_nI h1 (by decide)) ?_
  rw [nI_clamp (by omega), ← m_set_eq]
  have e : hh sm Y (m_set c 15 i v) = va_up (hh sm Y c) 19 (hh sm Y (m_set c 15 i v) 19) := (hw_gen (sm := sm) (Y := Y) (c := c) (c' := m_set c 15 i v) (a0 := 19) (Or.inl (by decide)) rfl (fun b hb hn => by unfold c_fx; split <;> first | rfl | exact absurd rfl hn) (fun b _ => cd_c (fun _ _ => rfl) (fun _ _ => rfl) (fun _ _ => rfl) (fun _ _ => rfl) (fun _ _ => far rfl rfl rfl rfl rfl rfl _))).symm
  rw [e] at K
  exact K
theorem GR_lwt {g : gT} {d x y : Nat} {k : mM} {pc : Nat} {L st : List Value} {n : Nat} {P : Option Value → Nat → mH → Prop} {sm : mS} {Y : cY} {c : mS} {i : Nat} {b : Int32} (hd : decode k.2.1 pc = .ok (.iaload, 1)) (hi : b = nI i ∧ i < 8) (K : G g d x y k (pc + 1) L (.int (c 15 i) :: st) n (hh sm Y c) P) : G g d x y k pc L (.int b :: .ref 19 :: st) n (hh sm Y c) P := by
  obtain ⟨rfl, h1⟩ := hi
  refine G_iald hd (hx_19 sm Y c) (vp_in_nI h1 (by decide)) ?_
  rw [nI_clamp (by omega)]
  exact K
theorem GC_mst {g : gT} {d x y : Nat} {k : mM} {pc : Nat} {L st : List Value} {n : Nat} {P : Option Value → Nat → mH → Prop} {sm : mS} {Y : cY} {c : mS} {i : Nat} {b v : Int32} (hd : decode k.2.1 pc = .ok (.iastore, 1)) (hi : b = nI i ∧ i < 32) (K : G g d x y k (pc + 1) L st n (hh sm Y (m_set c 72 i v)) P) : G g d x y k pc L (.int v :: .int b :: .ref 22 :: st) n (hh sm Y c) P := by
  obtain ⟨rfl, h1⟩ := hi
  refine G_iast hd (hx_22 sm Y c) (vp_in_nI h1 (by decide)) ?_
  rw [nI_clamp (by omega), ← m_set_eq]
  have e : hh sm Y (m_set c 72 i v) = va_up (hh sm Y c) 22 (hh sm Y (m_set c 72 i v) 22) := (hw_gen (sm := sm) (Y := Y) (c := c) (c' := m_set c 72 i v) (a0 := 22) (Or.inl (by decide)) rfl (fun b hb hn => by unfold c_fx; split <;> first | rfl | exact absurd rfl hn) (fun b _ => cd_c (fun _ _ => rfl) (fun _ _ => rfl) (fun _ _ => rfl) (fun _ _ => rfl) (fun _ _ => far rfl rfl rfl rfl rfl rfl _))).symm
  rw [e] at K
  exact K
theorem GR_mst {g : gT} {d x y : Nat} {k : mM} {pc : Nat} {L st : List Value} {n : Nat} {P : Option Value → Nat → mH → Prop} {sm : mS} {Y : cY} {c : mS} {i : Nat} {b : Int32} (hd : decode k.2.1 pc = .ok (.iaload, 1)) (hi : b = nI i ∧ i < 32) (K : G g d x y k (pc + 1) L (.int (c 72 i) :: st) n (hh sm Y c) P) : G g d x y k pc L (.int b :: .ref 22 :: st) n (hh sm Y c) P := by
  obtain ⟨rfl, h1⟩ := hi
  refine G_iald hd (hx_22 sm Y c) (vp_in_nI h1 (by decide)) ?_
  rw [nI_clamp (by omega)]
  exact K
theorem GC_gns {g : gT} {d x y : Nat} {k : mM} {pc : Nat} {L st : List Value} {n : Nat} {P : Option Value → Nat → mH → Prop} {sm : mS} {Y : cY} {c : mS} {i : Nat} {b v : Int32} (hd : decode k.2.1 pc = .ok (.iastore, 1)) (hi : b = nI i ∧ i < 32) (K : G g d x y k (pc + 1) L st n (hh sm Y (m_set c 73 i v)) P) : G g d x y k pc L (.int v :: .int b :: .ref 23 :: st) n (hh sm Y c) P := by
  obtain ⟨rfl, h1⟩ := hi
  refine G_iast hd (hx_23 sm Y c) (vp_in_nI h1 (by decide)) ?_
  rw [nI_clamp (by omega), ← m_set_eq]
  have e : hh sm Y (m_set c 73 i v) = va_up (hh sm Y c) 23 (hh sm Y (m_set c 73 i v) 23) := (hw_gen (sm := sm) (Y := Y) (c := c) (c' := m_set c 73 i v) (a0 := 23) (Or.inl (by decide)) rfl (fun b hb hn => by unfold c_fx; split <;> first | rfl | exact absurd rfl hn) (fun b _ => cd_c (fun _ _ => rfl) (fun _ _ => rfl) (fun _ _ => rfl) (fun _ _ => rfl) (fun _ _ => far rfl rfl rfl rfl rfl rfl _))).symm
  rw [e] at K
  exact K
theorem GR_gns {g : gT} {d x y : Nat} {k : mM} {pc : Nat} {L st : List Value} {n : Nat} {P : Option Value → Nat → mH → Prop} {sm : mS} {Y : cY} {c : mS} {i : Nat} {b : Int32} (hd : decode k.2.1 pc = .ok (.iaload, 1)) (hi : b = nI i ∧ i < 32) (K : G g d x y k (pc + 1) L (.int (c 73 i) :: st) n (hh sm Y c) P) : G g d x y k pc L (.int b :: .ref 23 :: st) n (hh sm Y c) P := by
  obtain ⟨rfl, h1⟩ := hi
  refine G_iald hd (hx_23 sm Y c) (vp_in_nI h1 (by decide)) ?_
  rw [nI_clamp (by omega)]
  exact K
theorem GC_state {g : gT} {d x y : Nat} {k : mM} {pc : Nat} {L st : List Value} {n : Nat} {P : Option Value → Nat → mH → Prop} {sm : mS} {Y : cY} {c : mS} {index a n9 : Nat} {v : Int32} (hd : decode k.2.1 pc = .ok (.putfield index, 3)) (hf : g_fp k.1.cls index 0 7 .int false) (hY : Yok Y c n9) (ha : a < mA c) (K : G g d x y k (pc + 3) L st n (hh sm Y (m_set c 24 a v)) P) : G g d x y k pc L (.int v :: .ref (y_a Y 0 a) :: st) n (hh sm Y c) P := by
  refine G_put hd hf (hx_A hY ha) (Nat.le_of_ble_eq_true rfl) g_fit_i ?_
  have h1 := hx_A (sm := sm) (c := m_set c 24 a v) (i := a) (hY.same rfl rfl rfl rfl rfl) ha
  have e : hh sm Y (m_set c 24 a v) = va_up (hh sm Y c) (y_a Y 0 a) (some (.inr (0, f_ask Y (m_set c 24 a v) a))) := (hw_gen (sm := sm) (Y := Y) (c := c) (c' := m_set c 24 a v) (a0 := y_a Y 0 a) (Or.inr (by have := (ya_A hY ha).1; omega)) h1 (fun b hb hn => by unfold c_fx; split <;> rfl) (fun b hb => cd_c (fun i hi => by have hne : ¬ i = a := fun q => hb (by rw [(hY.1 _ _ _ hi).2.2.1, q]); simp [f_ask, m_set, hne]) (fun _ _ => rfl) (fun _ _ => rfl) (fun _ _ => rfl) (fun _ _ => far rfl rfl rfl rfl rfl rfl _))).symm
  have e2 : f_ask Y (m_set c 24 a v) a = (f_ask Y c a).set 7 (.int v) := by
    simp [f_ask, m_set]
  rw [e, e2] at K
  exact K
theorem GC_athing {g : gT} {d x y : Nat} {k : mM} {pc : Nat} {L st : List Value} {n : Nat} {P : Option Value → Nat → mH → Prop} {sm : mS} {Y : cY} {c : mS} {index a n9 : Nat} {v : Int32} (hd : decode k.2.1 pc = .ok (.putfield index, 3)) (hf : g_fp k.1.cls index 0 8 (.object "ToolHouse$Thing") false) (hY : Yok Y c n9) (ha : a < mA c) (K : G g d x y k (pc + 3) L st n (hh sm Y (m_set c 25 a v)) P) : G g d x y k pc L (va_rf (oR (y_a Y 7) v) :: .ref (y_a Y 0 a) :: st) n (hh sm Y c) P := by
  refine G_put hd hf (hx_A hY ha) (Nat.le_of_ble_eq_true rfl) g_fit_r ?_
  have h1 := hx_A (sm := sm) (c := m_set c 25 a v) (i := a) (hY.same rfl rfl rfl rfl rfl) ha
  have e : hh sm Y (m_set c 25 a v) = va_up (hh sm Y c) (y_a Y 0 a) (some (.inr (0, f_ask Y (m_set c 25 a v) a))) := (hw_gen (sm := sm) (Y := Y) (c := c) (c' := m_set c 25 a v) (a0 := y_a Y 0 a) (Or.inr (by have := (ya_A hY ha).1; omega)) h1 (fun b hb hn => by unfold c_fx; split <;> rfl) (fun b hb => cd_c (fun i hi => by have hne : ¬ i = a := fun q => hb (by rw [(hY.1 _ _ _ hi).2.2.1, q]); simp [f_ask, m_set, hne]) (fun _ _ => rfl) (fun _ _ => rfl) (fun _ _ => rfl) (fun _ _ => far rfl rfl rfl rfl rfl rfl _))).symm
  have e2 : f_ask Y (m_set c 25 a v) a = (f_ask Y c a).set 8 (va_rf (oR (y_a Y 7) v)) := by
    simp [f_ask, m_set]
  rw [e, e2] at K
  exact K
theorem GC_moves {g : gT} {d x y : Nat} {k : mM} {pc : Nat} {L st : List Value} {n : Nat} {P : Option Value → Nat → mH → Prop} {sm : mS} {Y : cY} {c : mS} {index a n9 : Nat} {v : Int32} (hd : decode k.2.1 pc = .ok (.putfield index, 3)) (hf : g_fp k.1.cls index 0 9 .int false) (hY : Yok Y c n9) (ha : a < mA c) (K : G g d x y k (pc + 3) L st n (hh sm Y (m_set c 26 a v)) P) : G g d x y k pc L (.int v :: .ref (y_a Y 0 a) :: st) n (hh sm Y c) P := by
  refine G_put hd hf (hx_A hY ha) (Nat.le_of_ble_eq_true rfl) g_fit_i ?_
  have h1 := hx_A (sm := sm) (c := m_set c 26 a v) (i := a) (hY.same rfl rfl rfl rfl rfl) ha
  have e : hh sm Y (m_set c 26 a v) = va_up (hh sm Y c) (y_a Y 0 a) (some (.inr (0, f_ask Y (m_set c 26 a v) a))) := (hw_gen (sm := sm) (Y := Y) (c := c) (c' := m_set c 26 a v) (a0 := y_a Y 0 a) (Or.inr (by have := (ya_A hY ha).1; omega)) h1 (fun b hb hn => by unfold c_fx; split <;> rfl) (fun b hb => cd_c (fun i hi => by have hne : ¬ i = a := fun q => hb (by rw [(hY.1 _ _ _ hi).2.2.1, q]); simp [f_ask, m_set, hne]) (fun _ _ => rfl) (fun _ _ => rfl) (fun _ _ => rfl) (fun _ _ => far rfl rfl rfl rfl rfl rfl _))).symm
  have e2 : f_ask Y (m_set c 26 a v) a = (f_ask Y c a).set 9 (.int v) := by
    simp [f_ask, m_set]
  rw [e, e2] at K
  exact K
theorem GC_bday {g : gT} {d x y : Nat} {k : mM} {pc : Nat} {L st : List Value} {n : Nat} {P : Option Value → Nat → mH → Prop} {sm : mS} {Y : cY} {c : mS} {index a n9 : Nat} {v : Int32} (hd : decode k.2.1 pc = .ok (.putfield index, 3)) (hf : g_fp k.1.cls index 0 10 .int false) (hY : Yok Y c n9) (ha : a < mA c) (K : G g d x y k (pc + 3) L st n (hh sm Y (m_set c 33 a v)) P) : G g d x y k pc L (.int v :: .ref (y_a Y 0 a) :: st) n (hh sm Y c) P := by
  refine G_put hd hf (hx_A hY ha) (Nat.le_of_ble_eq_true rfl) g_fit_i ?_
  have h1 := hx_A (sm := sm) (c := m_set c 33 a v) (i := a) (hY.same rfl rfl rfl rfl rfl) ha
  have e : hh sm Y (m_set c 33 a v) = va_up (hh sm Y c) (y_a Y 0 a) (some (.inr (0, f_ask Y (m_set c 33 a v) a))) := (hw_gen (sm := sm) (Y := Y) (c := c) (c' := m_set c 33 a v) (a0 := y_a Y 0 a) (Or.inr (by have := (ya_A hY ha).1; omega)) h1 (fun b hb hn => by unfold c_fx; split <;> rfl) (fun b hb => cd_c (fun i hi => by have hne : ¬ i = a := fun q => hb (by rw [(hY.1 _ _ _ hi).2.2.1, q]); simp [f_ask, m_set, hne]) (fun _ _ => rfl) (fun _ _ => rfl) (fun _ _ => rfl) (fun _ _ => far rfl rfl rfl rfl rfl rfl _))).symm
  have e2 : f_ask Y (m_set c 33 a v) a = (f_ask Y c a).set 10 (.int v) := by
    simp [f_ask, m_set]
  rw [e, e2] at K
  exact K
theorem GC_look {g : gT} {d x y : Nat} {k : mM} {pc : Nat} {L st : List Value} {n : Nat} {P : Option Value → Nat → mH → Prop} {sm : mS} {Y : cY} {c : mS} {index a n9 : Nat} {v : Int32} (hd : decode k.2.1 pc = .ok (.putfield index, 3)) (hf : g_fp k.1.cls index 7 2 .int false) (hY : Yok Y c n9) (ha : a < mT c) (K : G g d x y k (pc + 3) L st n (hh sm Y (m_set c 7 a v)) P) : G g d x y k pc L (.int v :: .ref (y_a Y 7 a) :: st) n (hh sm Y c) P := by
  refine G_put hd hf (hx_T hY ha) (Nat.le_of_ble_eq_true rfl) g_fit_i ?_
  have h1 := hx_T (sm := sm) (c := m_set c 7 a v) (i := a) (hY.same rfl rfl rfl rfl rfl) ha
  have e : hh sm Y (m_set c 7 a v) = va_up (hh sm Y c) (y_a Y 7 a) (some (.inr (7, f_thing Y (m_set c 7 a v) a))) := (hw_gen (sm := sm) (Y := Y) (c := c) (c' := m_set c 7 a v) (a0 := y_a Y 7 a) (Or.inr (by have := (ya_T hY ha).1; omega)) h1 (fun b hb hn => by unfold c_fx; split <;> rfl) (fun b hb => cd_c (fun _ _ => rfl) (fun _ _ => rfl) (fun _ _ => rfl) (fun i hi => by have hne : ¬ i = a := fun q => hb (by rw [(hY.1 _ _ _ hi).2.2.1, q]); simp [f_thing, m_set, hne]) (fun _ _ => far rfl rfl rfl rfl rfl rfl _))).symm
  have e2 : f_thing Y (m_set c 7 a v) a = (f_thing Y c a).set 2 (.int v) := by
    simp [f_thing, m_set]
  rw [e, e2] at K
  exact K
theorem GC_lback {g : gT} {d x y : Nat} {k : mM} {pc : Nat} {L st : List Value} {n : Nat} {P : Option Value → Nat → mH → Prop} {sm : mS} {Y : cY} {c : mS} {index a n9 : Nat} {v : Int32} (hd : decode k.2.1 pc = .ok (.putfield index, 3)) (hf : g_fp k.1.cls index 7 3 .int false) (hY : Yok Y c n9) (ha : a < mT c) (K : G g d x y k (pc + 3) L st n (hh sm Y (m_set c 50 a v)) P) : G g d x y k pc L (.int v :: .ref (y_a Y 7 a) :: st) n (hh sm Y c) P := by
  refine G_put hd hf (hx_T hY ha) (Nat.le_of_ble_eq_true rfl) g_fit_i ?_
  have h1 := hx_T (sm := sm) (c := m_set c 50 a v) (i := a) (hY.same rfl rfl rfl rfl rfl) ha
  have e : hh sm Y (m_set c 50 a v) = va_up (hh sm Y c) (y_a Y 7 a) (some (.inr (7, f_thing Y (m_set c 50 a v) a))) := (hw_gen (sm := sm) (Y := Y) (c := c) (c' := m_set c 50 a v) (a0 := y_a Y 7 a) (Or.inr (by have := (ya_T hY ha).1; omega)) h1 (fun b hb hn => by unfold c_fx; split <;> rfl) (fun b hb => cd_c (fun _ _ => rfl) (fun _ _ => rfl) (fun _ _ => rfl) (fun i hi => by have hne : ¬ i = a := fun q => hb (by rw [(hY.1 _ _ _ hi).2.2.1, q]); simp [f_thing, m_set, hne]) (fun _ _ => far rfl rfl rfl rfl rfl rfl _))).symm
  have e2 : f_thing Y (m_set c 50 a v) a = (f_thing Y c a).set 3 (.int v) := by
    simp [f_thing, m_set]
  rw [e, e2] at K
  exact K
theorem GC_outw {g : gT} {d x y : Nat} {k : mM} {pc : Nat} {L st : List Value} {n : Nat} {P : Option Value → Nat → mH → Prop} {sm : mS} {Y : cY} {c : mS} {index a n9 : Nat} {v : Int32} (hd : decode k.2.1 pc = .ok (.putfield index, 3)) (hf : g_fp k.1.cls index 7 4 (.object "ToolHouse$Ask") false) (hY : Yok Y c n9) (ha : a < mT c) (K : G g d x y k (pc + 3) L st n (hh sm Y (m_set c 51 a v)) P) : G g d x y k pc L (va_rf (oR (y_a Y 0) v) :: .ref (y_a Y 7 a) :: st) n (hh sm Y c) P := by
  refine G_put hd hf (hx_T hY ha) (Nat.le_of_ble_eq_true rfl) g_fit_r ?_
  have h1 := hx_T (sm := sm) (c := m_set c 51 a v) (i := a) (hY.same rfl rfl rfl rfl rfl) ha
  have e : hh sm Y (m_set c 51 a v) = va_up (hh sm Y c) (y_a Y 7 a) (some (.inr (7, f_thing Y (m_set c 51 a v) a))) := (hw_gen (sm := sm) (Y := Y) (c := c) (c' := m_set c 51 a v) (a0 := y_a Y 7 a) (Or.inr (by have := (ya_T hY ha).1; omega)) h1 (fun b hb hn => by unfold c_fx; split <;> rfl) (fun b hb => cd_c (fun _ _ => rfl) (fun _ _ => rfl) (fun _ _ => rfl) (fun i hi => by have hne : ¬ i = a := fun q => hb (by rw [(hY.1 _ _ _ hi).2.2.1, q]); simp [f_thing, m_set, hne]) (fun _ _ => far rfl rfl rfl rfl rfl rfl _))).symm
  have e2 : f_thing Y (m_set c 51 a v) a = (f_thing Y c a).set 4 (va_rf (oR (y_a Y 0) v)) := by
    simp [f_thing, m_set]
  rw [e, e2] at K
  exact K
theorem GC_hours {g : gT} {d x y : Nat} {k : mM} {pc : Nat} {L st : List Value} {n : Nat} {P : Option Value → Nat → mH → Prop} {sm : mS} {Y : cY} {c : mS} {index a n9 : Nat} {v : Int32} (hd : decode k.2.1 pc = .ok (.putfield index, 3)) (hf : g_fp k.1.cls index 4 1 .int false) (hY : Yok Y c n9) (ha : a < mB c) (K : G g d x y k (pc + 3) L st n (hh sm Y (m_set c 9 a v)) P) : G g d x y k pc L (.int v :: .ref (y_a Y 4 a) :: st) n (hh sm Y c) P := by
  refine G_put hd hf (hx_B hY ha) (Nat.le_of_ble_eq_true rfl) g_fit_i ?_
  have h1 := hx_B (sm := sm) (c := m_set c 9 a v) (i := a) (hY.same rfl rfl rfl rfl rfl) ha
  have e : hh sm Y (m_set c 9 a v) = va_up (hh sm Y c) (y_a Y 4 a) (some (.inr (4, f_mem (m_set c 9 a v) a))) := (hw_gen (sm := sm) (Y := Y) (c := c) (c' := m_set c 9 a v) (a0 := y_a Y 4 a) (Or.inr (by have := (ya_B hY ha).1; omega)) h1 (fun b hb hn => by unfold c_fx; split <;> rfl) (fun b hb => cd_c (fun _ _ => rfl) (fun _ _ => rfl) (fun i hi => by have hne : ¬ i = a := fun q => hb (by rw [(hY.1 _ _ _ hi).2.2.1, q]); simp [f_mem, m_set, hne]) (fun _ _ => rfl) (fun _ _ => far rfl rfl rfl rfl rfl rfl _))).symm
  have e2 : f_mem (m_set c 9 a v) a = (f_mem c a).set 1 (.int v) := by
    simp [f_mem, m_set]
  rw [e, e2] at K
  exact K
theorem GC_fees {g : gT} {d x y : Nat} {k : mM} {pc : Nat} {L st : List Value} {n : Nat} {P : Option Value → Nat → mH → Prop} {sm : mS} {Y : cY} {c : mS} {index a n9 : Nat} {v : Int32} (hd : decode k.2.1 pc = .ok (.putfield index, 3)) (hf : g_fp k.1.cls index 4 2 .int false) (hY : Yok Y c n9) (ha : a < mB c) (K : G g d x y k (pc + 3) L st n (hh sm Y (m_set c 10 a v)) P) : G g d x y k pc L (.int v :: .ref (y_a Y 4 a) :: st) n (hh sm Y c) P := by
  refine G_put hd hf (hx_B hY ha) (Nat.le_of_ble_eq_true rfl) g_fit_i ?_
  have h1 := hx_B (sm := sm) (c := m_set c 10 a v) (i := a) (hY.same rfl rfl rfl rfl rfl) ha
  have e : hh sm Y (m_set c 10 a v) = va_up (hh sm Y c) (y_a Y 4 a) (some (.inr (4, f_mem (m_set c 10 a v) a))) := (hw_gen (sm := sm) (Y := Y) (c := c) (c' := m_set c 10 a v) (a0 := y_a Y 4 a) (Or.inr (by have := (ya_B hY ha).1; omega)) h1 (fun b hb hn => by unfold c_fx; split <;> rfl) (fun b hb => cd_c (fun _ _ => rfl) (fun _ _ => rfl) (fun i hi => by have hne : ¬ i = a := fun q => hb (by rw [(hY.1 _ _ _ hi).2.2.1, q]); simp [f_mem, m_set, hne]) (fun _ _ => rfl) (fun _ _ => far rfl rfl rfl rfl rfl rfl _))).symm
  have e2 : f_mem (m_set c 10 a v) a = (f_mem c a).set 2 (.int v) := by
    simp [f_mem, m_set]
  rw [e, e2] at K
  exact K
theorem GC_aout {g : gT} {d x y : Nat} {k : mM} {pc : Nat} {L st : List Value} {n : Nat} {P : Option Value → Nat → mH → Prop} {sm : mS} {Y : cY} {c : mS} {index a n9 : Nat} {v : Int32} (hd : decode k.2.1 pc = .ok (.putfield index, 3)) (hf : g_fp k.1.cls index 4 3 .int false) (hY : Yok Y c n9) (ha : a < mB c) (K : G g d x y k (pc + 3) L st n (hh sm Y (m_set c 52 a v)) P) : G g d x y k pc L (.int v :: .ref (y_a Y 4 a) :: st) n (hh sm Y c) P := by
  refine G_put hd hf (hx_B hY ha) (Nat.le_of_ble_eq_true rfl) g_fit_i ?_
  have h1 := hx_B (sm := sm) (c := m_set c 52 a v) (i := a) (hY.same rfl rfl rfl rfl rfl) ha
  have e : hh sm Y (m_set c 52 a v) = va_up (hh sm Y c) (y_a Y 4 a) (some (.inr (4, f_mem (m_set c 52 a v) a))) := (hw_gen (sm := sm) (Y := Y) (c := c) (c' := m_set c 52 a v) (a0 := y_a Y 4 a) (Or.inr (by have := (ya_B hY ha).1; omega)) h1 (fun b hb hn => by unfold c_fx; split <;> rfl) (fun b hb => cd_c (fun _ _ => rfl) (fun _ _ => rfl) (fun i hi => by have hne : ¬ i = a := fun q => hb (by rw [(hY.1 _ _ _ hi).2.2.1, q]); simp [f_mem, m_set, hne]) (fun _ _ => rfl) (fun _ _ => far rfl rfl rfl rfl rfl rfl _))).symm
  have e2 : f_mem (m_set c 52 a v) a = (f_mem c a).set 3 (.int v) := by
    simp [f_mem, m_set]
  rw [e, e2] at K
  exact K
theorem GL_get0 {g : gT} {d x y : Nat} {k : mM} {pc : Nat} {L st : List Value} {n : Nat} {P : Option Value → Nat → mH → Prop} {sm : mS} {Y : cY} {c : mS} {index i sz n9 : Nat} (hd : decode k.2.1 pc = .ok (.invokevirtual index, 3)) (hc : g_cm k kJx4a65c_get_915e3 index 1) (hY : Yok Y c n9) (hs : c 1 0 = nI sz) (hi : i < sz) (hz : sz ≤ 1000) (hw : (st.map fun v => v.category).sum ≤ 8) (hd9 : 3 ≤ d) (K : G g d x y k (pc + 3) L (.ref (y_a Y 1 i) :: st) n (hh sm Y c) P) : G g d x y k pc L (.int (nI i) :: .ref 9 :: st) n (hh sm Y c) P := by
  have h1 := hx_9 sm Y c
  rw [hs] at h1
  obtain ⟨a1, a2, a3⟩ := hY.2.2.2.2.2.1 0 (by decide)
  have e0 : ix (c_sz c 0) = sz := by show ix (c 1 0) = sz; rw [hs]; exact nI_clamp (by omega)
  rw [e0] at a1
  have h2 := hx_L (sm := sm) hY (show 0 < 5 by decide) (by omega)
  have e1 : f_arr Y c 0 i = some (y_a Y 1 i) := by
    unfold f_arr
    rw [e0, if_pos hi]
    rfl
  refine G_callV (cj_get i h1 h2 hi a1 (by omega)) hd hc tw_331 tw_332 h1 rfl rfl rfl hw hd9 (Nat.zero_le _) (Nat.zero_le _) ?_
  rintro _ n9_ _ ⟨rfl, e9_, rfl⟩
  obtain rfl := e9_.symm
  rw [e1]
  exact K
theorem GL_size0 {g : gT} {d x y : Nat} {k : mM} {pc : Nat} {L st : List Value} {n : Nat} {P : Option Value → Nat → mH → Prop} {sm : mS} {Y : cY} {c : mS} {index : Nat} (hd : decode k.2.1 pc = .ok (.invokevirtual index, 3)) (hc : g_cm k kJx4a65c_size_8abf5 index 0) (hw : (st.map fun v => v.category).sum ≤ 8) (hd9 : 1 ≤ d) (K : G g d x y k (pc + 3) L (.int (c 1 0) :: st) n (hh sm Y c) P) : G g d x y k pc L (.ref 9 :: st) n (hh sm Y c) P := by
  refine G_callV (cj_size (hx_9 sm Y c)) hd hc tw_232 tw_233 (hx_9 sm Y c) rfl rfl rfl hw hd9 (Nat.zero_le _) (Nat.zero_le _) ?_
  rintro _ n9_ _ ⟨rfl, e9_, rfl⟩
  obtain rfl := e9_.symm
  exact K
theorem GL_get1 {g : gT} {d x y : Nat} {k : mM} {pc : Nat} {L st : List Value} {n : Nat} {P : Option Value → Nat → mH → Prop} {sm : mS} {Y : cY} {c : mS} {index i sz n9 : Nat} (hd : decode k.2.1 pc = .ok (.invokevirtual index, 3)) (hc : g_cm k kJx4a65c_get_915e3 index 1) (hY : Yok Y c n9) (hs : c 5 0 = nI sz) (hi : i < sz) (hz : sz ≤ 1000) (hw : (st.map fun v => v.category).sum ≤ 8) (hd9 : 3 ≤ d) (K : G g d x y k (pc + 3) L (.ref (y_a Y 7 i) :: st) n (hh sm Y c) P) : G g d x y k pc L (.int (nI i) :: .ref 10 :: st) n (hh sm Y c) P := by
  have h1 := hx_10 sm Y c
  rw [hs] at h1
  obtain ⟨a1, a2, a3⟩ := hY.2.2.2.2.2.1 1 (by decide)
  have e0 : ix (c_sz c 1) = sz := by show ix (c 5 0) = sz; rw [hs]; exact nI_clamp (by omega)
  rw [e0] at a1
  have h2 := hx_L (sm := sm) hY (show 1 < 5 by decide) (by omega)
  have e1 : f_arr Y c 1 i = some (y_a Y 7 i) := by
    unfold f_arr
    rw [e0, if_pos hi]
    rfl
  refine G_callV (cj_get i h1 h2 hi a1 (by omega)) hd hc tw_331 tw_332 h1 rfl rfl rfl hw hd9 (Nat.zero_le _) (Nat.zero_le _) ?_
  rintro _ n9_ _ ⟨rfl, e9_, rfl⟩
  obtain rfl := e9_.symm
  rw [e1]
  exact K
theorem GL_size1 {g : gT} {d x y : Nat} {k : mM} {pc : Nat} {L st : List Value} {n : Nat} {P : Option Value → Nat → mH → Prop} {sm : mS} {Y : cY} {c : mS} {index : Nat} (hd : decode k.2.1 pc = .ok (.invokevirtual index, 3)) (hc : g_cm k kJx4a65c_size_8abf5 index 0) (hw : (st.map fun v => v.category).sum ≤ 8) (hd9 : 1 ≤ d) (K : G g d x y k (pc + 3) L (.int (c 5 0) :: st) n (hh sm Y c) P) : G g d x y k pc L (.ref 10 :: st) n (hh sm Y c) P := by
  refine G_callV (cj_size (hx_10 sm Y c)) hd hc tw_232 tw_233 (hx_10 sm Y c) rfl rfl rfl hw hd9 (Nat.zero_le _) (Nat.zero_le _) ?_
  rintro _ n9_ _ ⟨rfl, e9_, rfl⟩
  obtain rfl := e9_.symm
  exact K
theorem GL_get2 {g : gT} {d x y : Nat} {k : mM} {pc : Nat} {L st : List Value} {n : Nat} {P : Option Value → Nat → mH → Prop} {sm : mS} {Y : cY} {c : mS} {index i sz n9 : Nat} (hd : decode k.2.1 pc = .ok (.invokevirtual index, 3)) (hc : g_cm k kJx4a65c_get_915e3 index 1) (hY : Yok Y c n9) (hs : c 8 0 = nI sz) (hi : i < sz) (hz : sz ≤ 1000) (hw : (st.map fun v => v.category).sum ≤ 8) (hd9 : 3 ≤ d) (K : G g d x y k (pc + 3) L (.ref (y_a Y 4 i) :: st) n (hh sm Y c) P) : G g d x y k pc L (.int (nI i) :: .ref 11 :: st) n (hh sm Y c) P := by
  have h1 := hx_11 sm Y c
  rw [hs] at h1
  obtain ⟨a1, a2, a3⟩ := hY.2.2.2.2.2.1 2 (by decide)
  have e0 : ix (c_sz c 2) = sz := by show ix (c 8 0) = sz; rw [hs]; exact nI_clamp (by omega)
  rw [e0] at a1
  have h2 := hx_L (sm := sm) hY (show 2 < 5 by decide) (by omega)
  have e1 : f_arr Y c 2 i = some (y_a Y 4 i) := by
    unfold f_arr
    rw [e0, if_pos hi]
    rfl
  refine G_callV (cj_get i h1 h2 hi a1 (by omega)) hd hc tw_331 tw_332 h1 rfl rfl rfl hw hd9 (Nat.zero_le _) (Nat.zero_le _) ?_
  rintro _ n9_ _ ⟨rfl, e9_, rfl⟩
  obtain rfl := e9_.symm
  rw [e1]
  exact K
theorem GL_size2 {g : gT} {d x y : Nat} {k : mM} {pc : Nat} {L st : List Value} {n : Nat} {P : Option Value → Nat → mH → Prop} {sm : mS} {Y : cY} {c : mS} {index : Nat} (hd : decode k.2.1 pc = .ok (.invokevirtual index, 3)) (hc : g_cm k kJx4a65c_size_8abf5 index 0) (hw : (st.map fun v => v.category).sum ≤ 8) (hd9 : 1 ≤ d) (K : G g d x y k (pc + 3) L (.int (c 8 0) :: st) n (hh sm Y c) P) : G g d x y k pc L (.ref 11 :: st) n (hh sm Y c) P := by
  refine G_callV (cj_size (hx_11 sm Y c)) hd hc tw_232 tw_233 (hx_11 sm Y c) rfl rfl rfl hw hd9 (Nat.zero_le _) (Nat.zero_le _) ?_
  rintro _ n9_ _ ⟨rfl, e9_, rfl⟩
  obtain rfl := e9_.symm
  exact K
theorem GL_get3 {g : gT} {d x y : Nat} {k : mM} {pc : Nat} {L st : List Value} {n : Nat} {P : Option Value → Nat → mH → Prop} {sm : mS} {Y : cY} {c : mS} {index i sz n9 : Nat} (hd : decode k.2.1 pc = .ok (.invokevirtual index, 3)) (hc : g_cm k kJx4a65c_get_915e3 index 1) (hY : Yok Y c n9) (hs : c 23 0 = nI sz) (hi : i < sz) (hz : sz ≤ 1000) (hw : (st.map fun v => v.category).sum ≤ 8) (hd9 : 3 ≤ d) (K : G g d x y k (pc + 3) L (.ref (y_a Y 0 i) :: st) n (hh sm Y c) P) : G g d x y k pc L (.int (nI i) :: .ref 12 :: st) n (hh sm Y c) P := by
  have h1 := hx_12 sm Y c
  rw [hs] at h1
  obtain ⟨a1, a2, a3⟩ := hY.2.2.2.2.2.1 3 (by decide)
  have e0 : ix (c_sz c 3) = sz := by show ix (c 23 0) = sz; rw [hs]; exact nI_clamp (by omega)
  rw [e0] at a1
  have h2 := hx_L (sm := sm) hY (show 3 < 5 by decide) (by omega)
  have e1 : f_arr Y c 3 i = some (y_a Y 0 i) := by
    unfold f_arr
    rw [e0, if_pos hi]
    rfl
  refine G_callV (cj_get i h1 h2 hi a1 (by omega)) hd hc tw_331 tw_332 h1 rfl rfl rfl hw hd9 (Nat.zero_le _) (Nat.zero_le _) ?_
  rintro _ n9_ _ ⟨rfl, e9_, rfl⟩
  obtain rfl := e9_.symm
  rw [e1]
  exact K
theorem GL_size3 {g : gT} {d x y : Nat} {k : mM} {pc : Nat} {L st : List Value} {n : Nat} {P : Option Value → Nat → mH → Prop} {sm : mS} {Y : cY} {c : mS} {index : Nat} (hd : decode k.2.1 pc = .ok (.invokevirtual index, 3)) (hc : g_cm k kJx4a65c_size_8abf5 index 0) (hw : (st.map fun v => v.category).sum ≤ 8) (hd9 : 1 ≤ d) (K : G g d x y k (pc + 3) L (.int (c 23 0) :: st) n (hh sm Y c) P) : G g d x y k pc L (.ref 12 :: st) n (hh sm Y c) P := by
  refine G_callV (cj_size (hx_12 sm Y c)) hd hc tw_232 tw_233 (hx_12 sm Y c) rfl rfl rfl hw hd9 (Nat.zero_le _) (Nat.zero_le _) ?_
  rintro _ n9_ _ ⟨rfl, e9_, rfl⟩
  obtain rfl := e9_.symm
  exact K
theorem GL_get4 {g : gT} {d x y : Nat} {k : mM} {pc : Nat} {L st : List Value} {n : Nat} {P : Option Value → Nat → mH → Prop} {sm : mS} {Y : cY} {c : mS} {index i sz n9 : Nat} (hd : decode k.2.1 pc = .ok (.invokevirtual index, 3)) (hc : g_cm k kJx4a65c_get_915e3 index 1) (hY : Yok Y c n9) (hs : c 81 0 = nI sz) (hi : i < sz) (hz : sz ≤ 1000) (hw : (st.map fun v => v.category).sum ≤ 8) (hd9 : 3 ≤ d) (K : G g d x y k (pc + 3) L (.ref (y_a Y 0 (ix (c 80 i))) :: st) n (hh sm Y c) P) : G g d x y k pc L (.int (nI i) :: .ref 13 :: st) n (hh sm Y c) P := by
  have h1 := hx_13 sm Y c
  rw [hs] at h1
  obtain ⟨a1, a2, a3⟩ := hY.2.2.2.2.2.1 4 (by decide)
  have e0 : ix (c_sz c 4) = sz := by show ix (c 81 0) = sz; rw [hs]; exact nI_clamp (by omega)
  rw [e0] at a1
  have h2 := hx_L (sm := sm) hY (show 4 < 5 by decide) (by omega)
  have e1 : f_arr Y c 4 i = some (y_a Y 0 (ix (c 80 i))) := by
    unfold f_arr
    rw [e0, if_pos hi]
    rfl
  refine G_callV (cj_get i h1 h2 hi a1 (by omega)) hd hc tw_331 tw_332 h1 rfl rfl rfl hw hd9 (Nat.zero_le _) (Nat.zero_le _) ?_
  rintro _ n9_ _ ⟨rfl, e9_, rfl⟩
  obtain rfl := e9_.symm
  rw [e1]
  exact K
theorem GL_size4 {g : gT} {d x y : Nat} {k : mM} {pc : Nat} {L st : List Value} {n : Nat} {P : Option Value → Nat → mH → Prop} {sm : mS} {Y : cY} {c : mS} {index : Nat} (hd : decode k.2.1 pc = .ok (.invokevirtual index, 3)) (hc : g_cm k kJx4a65c_size_8abf5 index 0) (hw : (st.map fun v => v.category).sum ≤ 8) (hd9 : 1 ≤ d) (K : G g d x y k (pc + 3) L (.int (c 81 0) :: st) n (hh sm Y c) P) : G g d x y k pc L (.ref 13 :: st) n (hh sm Y c) P := by
  refine G_callV (cj_size (hx_13 sm Y c)) hd hc tw_232 tw_233 (hx_13 sm Y c) rfl rfl rfl hw hd9 (Nat.zero_le _) (Nat.zero_le _) ?_
  rintro _ n9_ _ ⟨rfl, e9_, rfl⟩
  obtain rfl := e9_.symm
  exact K
theorem oR_no {f : Nat → Nat} {x : Int32} : oR f x = none ↔ x = -1 := by
  unfold oR
  by_cases h : x = -1
  · simp [h]
  · simp [h]
theorem oR_so {f : Nat → Nat} {x : Int32} {p9 : Nat} (h : oR f x = some p9) : ¬ x = -1 ∧ p9 = f (ix x) := by
  unfold oR at h
  by_cases e : x = -1
  · simp [e] at h
  · simp [e] at h; exact ⟨e, h.symm⟩
theorem oR_at {f : Nat → Nat} {x : Int32} (h : ¬ x = -1) : oR f x = some (f (ix x)) := by unfold oR; rw [if_neg h]
theorem oR_nI {f : Nat → Nat} {i : Nat} (h : i < 2 ^ 31) : oR f (nI i) = some (f i) := by rw [oR_at (oI_ne h), show ix (nI i) = i from nI_clamp h]
theorem oe_A {Y : cY} {c : mS} {n9 i : Nat} {x : Int32} (hY : Yok Y c n9) (hi : i < mA c) (hn : mA c ≤ 1000) (hx : x = -1 ∨ (x = nI (ix x) ∧ ix x < mA c)) : oR (y_a Y 0) x = some (y_a Y 0 i) ↔ x = nI i := by
  constructor
  · intro h
    obtain ⟨h1, h2⟩ := oR_so h
    rcases hx with hx | hx
    · exact absurd hx h1
    · have e := yi_A hY hi hx.2 h2
      rw [e]
      exact hx.1
  · intro h
    rw [h]
    exact oR_nI (by omega)
theorem oe_T {Y : cY} {c : mS} {n9 i : Nat} {x : Int32} (hY : Yok Y c n9) (hi : i < mT c) (hn : mT c ≤ 1000) (hx : x = -1 ∨ (x = nI (ix x) ∧ ix x < mT c)) : oR (y_a Y 7) x = some (y_a Y 7 i) ↔ x = nI i := by
  constructor
  · intro h
    obtain ⟨h1, h2⟩ := oR_so h
    rcases hx with hx | hx
    · exact absurd hx h1
    · have e := yi_T hY hi hx.2 h2
      rw [e]
      exact hx.1
  · intro h
    rw [h]
    exact oR_nI (by omega)
theorem oe_K {Y : cY} {c : mS} {n9 i j : Nat} (hY : Yok Y c n9) (hi : i < mK c) (hj : j < mK c) : some (y_a Y 1 i) = some (y_a Y 1 j) ↔ i = j := ⟨fun h => yi_K hY hi hj (Option.some.inj h), fun h => by rw [h]⟩
theorem ap_oo {a b : Option Nat} (ha : ∀ i1, a = some i1 → 8 ≤ i1) (hb : ∀ i1, b = some i1 → 8 ≤ i1) : g_ap a b := fun i1 j1 h1 h2 => Or.inr (Or.inl ⟨ha i1 h1, Or.inl (hb j1 h2)⟩)
theorem na_A {Y : cY} {c : mS} {n9 i : Nat} (hY : Yok Y c n9) (hi : i < mA c) : ∀ i1, some (y_a Y 0 i) = some i1 → 8 ≤ i1 := fun i1 h => by cases h; have := (ya_A hY hi).1; omega
theorem na_T {Y : cY} {c : mS} {n9 i : Nat} (hY : Yok Y c n9) (hi : i < mT c) : ∀ i1, some (y_a Y 7 i) = some i1 → 8 ≤ i1 := fun i1 h => by cases h; have := (ya_T hY hi).1; omega
theorem na_K {Y : cY} {c : mS} {n9 i : Nat} (hY : Yok Y c n9) (hi : i < mK c) : ∀ i1, some (y_a Y 1 i) = some i1 → 8 ≤ i1 := fun i1 h => by cases h; have := (ya_K hY hi).1; omega
theorem na_oT {Y : cY} {c : mS} {n9 : Nat} {x : Int32} (hY : Yok Y c n9) (hx : x = -1 ∨ (x = nI (ix x) ∧ ix x < mT c)) : ∀ i1, oR (y_a Y 7) x = some i1 → 8 ≤ i1 := fun i1 h => by
  obtain ⟨h1, h2⟩ := oR_so h
  rw [h2]
  have := (ya_T hY (hx.resolve_left h1).2).1
  omega
/-- what a method of the class leaves: an answer, its numbers changed -/
def c_S (v : Value) (n : Nat) (sm : mS) (Y : cY) (c : mS) : Option Value → Nat → mH → Prop := fun v' n' h' => v' = some v ∧ n' = n ∧ h' = hh sm Y c
def c_V (n : Nat) (sm : mS) (Y : cY) (c : mS) : Option Value → Nat → mH → Prop := fun v' n' h' => v' = none ∧ n' = n ∧ h' = hh sm Y c
theorem c_close {nq_ : Nat} {sm : mS} {Y : cY} {c' : mS} {v : Int32} {X : mS × Int32} (e : X = (c', v)) : c_S (.int X.2) nq_ sm Y X.1 (some (.int v)) nq_ (hh sm Y c') := by subst e; exact ⟨rfl, rfl, rfl⟩
/-- more that the class's numbers keep to -/
def c_inv (c : mS) : Prop := m_inv c ∧ (c 81 0 = nI (mL c) ∧ mL c ≤ 120) ∧ (∀ i, i < mL c → c 80 i = nI (ix (c 80 i)) ∧ ix (c 80 i) < mA c) ∧ (∀ t, t < mT c → c 51 t = -1 ∨ (c 51 t = nI (ix (c 51 t)) ∧ ix (c 51 t) < mA c)) ∧ (∀ i, c 70 i = -1 ∨ (c 70 i = nI (ix (c 70 i)) ∧ ix (c 70 i) < mA c)) ∧ (c 71 0 = nI (ix (c 71 0)) ∧ ix (c 71 0) ≤ 5)
