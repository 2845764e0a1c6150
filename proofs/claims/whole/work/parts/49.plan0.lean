/-! plans: to each of five places a thing's number, or 12 for none -/
def sm5 (f : Nat → Nat) : Nat := f 0 + f 1 + f 2 + f 3 + f 4
theorem sm5_congr {f g : Nat → Nat} (h : ∀ i, i < 5 → f i = g i) : sm5 f = sm5 g := by
  unfold sm5
  rw [h 0 (by decide), h 1 (by decide), h 2 (by decide), h 3 (by decide), h 4 (by decide)]
theorem sm5_add (f g : Nat → Nat) : sm5 f + sm5 g = sm5 (fun i => f i + g i) := by
  show f 0 + f 1 + f 2 + f 3 + f 4 + (g 0 + g 1 + g 2 + g 3 + g 4) = (f 0 + g 0) + (f 1 + g 1) + (f 2 + g 2) + (f 3 + g 3) + (f 4 + g 4)
  omega
def pOK (my : Nat → Nat → Prop) (nr : Nat → Nat → Nat → Prop) (t : Nat) (p : Nat → Nat) : Prop := ∀ i, i < 5 → p i = 12 ∨ (p i < t ∧ my i (p i) ∧ ∀ j, j < i → p j = p i → ¬ nr i j (p i))
def pW (w : Nat → Nat → Nat) (p : Nat → Nat) : Nat := sm5 (fun i => w i (p i))
def gS5 (w : Nat → Nat → Nat) (t q : Nat) : Nat := sm5 (fun i => if q.testBit i = true then w i t else 0)
def gOK (my : Nat → Nat → Prop) (nr : Nat → Nat → Nat → Prop) (t q : Nat) : Prop := ∀ i, i < 5 → q.testBit i = true → my i t ∧ ∀ j, j < i → q.testBit j = true → ¬ nr i j t
def sub5 (q m : Nat) : Prop := ∀ i, i < 5 → q.testBit i = true → m.testBit i = true
def isB (my : Nat → Nat → Prop) (nr : Nat → Nat → Nat → Prop) (w : Nat → Nat → Nat) (t : Nat) (f : Nat → Nat) (m : Nat) : Prop := (∃ p, pOK my nr t p ∧ (∀ i, i < 5 → p i ≠ 12 → m.testBit i = true) ∧ f m = pW w p) ∧ ∀ p, pOK my nr t p → (∀ i, i < 5 → p i ≠ 12 → m.testBit i = true) → pW w p ≤ f m
noncomputable def mkm (P : Nat → Prop) : Nat → Nat
  | 0 => 0
  | i + 1 => cif (P i) (mkm P i + 2 ^ i) (mkm P i)
theorem mkm_lt (P : Nat → Prop) : ∀ i, mkm P i < 2 ^ i
  | 0 => Nat.le_refl _
  | i + 1 => by
    have ih := mkm_lt P i
    have e : 2 ^ (i + 1) = 2 ^ i + 2 ^ i := by rw [Nat.pow_succ]; omega
    show cif _ _ _ < _
    by_cases h : P i
    · rw [cif_t h]; omega
    · rw [cif_f h]; omega
theorem bb_add : ∀ i, i < 5 → ∀ x, x < 2 ^ i → ∀ j, j < 5 → (x + 2 ^ i).testBit j = (x.testBit j || decide (j = i)) := by decide +kernel
theorem bb_z : ∀ j, j < 5 → Nat.testBit 0 j = false := by decide +kernel
theorem bb_hi : ∀ i, i < 6 → ∀ x, x < 2 ^ i → ∀ j, j < 5 → i ≤ j → x.testBit j = false := by decide +kernel
theorem bb_xle : ∀ m, m < 32 → ∀ q, q < 32 → q &&& m = q → m ^^^ q ≤ m := by decide +kernel
theorem bb_sa : ∀ q, q < 32 → ∀ m, m < 32 → (∀ i, i < 5 → (q.testBit i = true → m.testBit i = true)) → q &&& m = q := by decide +kernel
theorem bb_p : ∀ z, z < 6 → 2 ^ z ≤ 32 := by decide +kernel
theorem bb_xlt (z : Nat) (hz : z < 6) (m : Nat) (hm : m < 2 ^ z) (q : Nat) (hq : q < 32) (h : ∀ i, i < 5 → q.testBit i = true → m.testBit i = true) : m ^^^ q < 2 ^ z := by
  have := bb_p z hz
  have := bb_xle m (by omega) q hq (bb_sa q hq m (by omega) h)
  omega
theorem bb_nz : ∀ q, q < 32 → q ≠ 0 → ∃ i, i < 5 ∧ q.testBit i = true := by decide +kernel
theorem mkm_bit (P : Nat → Prop) {j : Nat} (hj : j < 5) : ∀ i, i ≤ 5 → ((mkm P i).testBit j = true ↔ j < i ∧ P j)
  | 0, _ => by
    show Nat.testBit 0 j = true ↔ _
    rw [bb_z j hj]
    exact ⟨fun h => absurd h (by decide), fun h => absurd h.1 (Nat.not_lt_zero _)⟩
  | i + 1, hi => by
    have ih := mkm_bit P hj i (by omega)
    show (cif _ _ _ : Nat).testBit j = true ↔ _
    by_cases h : P i
    · rw [cif_t h, bb_add i (by omega) _ (mkm_lt P i) j hj, Bool.or_eq_true, ih, decide_eq_true_eq]
      refine ⟨fun q => ?_, fun q => ?_⟩
      · rcases q with q | q
        · exact ⟨by omega, q.2⟩
        · exact ⟨by omega, by rw [q]; exact h⟩
      · by_cases e : j = i
        · exact Or.inr e
        · exact Or.inl ⟨by omega, q.2⟩
    · rw [cif_f h, ih]
      refine ⟨fun q => ⟨by omega, q.2⟩, fun q => ⟨?_, q.2⟩⟩
      have : j ≠ i := fun e => h (by rw [← e]; exact q.2)
      omega
def ov (q t : Nat) (p : Nat → Nat) : Nat → Nat := fun i => if q.testBit i = true then t else p i
theorem ov_t {q t : Nat} {p : Nat → Nat} {i : Nat} (h : q.testBit i = true) : ov q t p i = t := if_pos h
theorem ov_f {q t : Nat} {p : Nat → Nat} {i : Nat} (h : ¬ q.testBit i = true) : ov q t p i = p i := if_neg h
theorem pOK_mono {my : Nat → Nat → Prop} {nr : Nat → Nat → Nat → Prop} {t u : Nat} {p : Nat → Nat} (h : pOK my nr t p) (ht : t ≤ u) : pOK my nr u p := fun i hi => (h i hi).imp id (fun q => ⟨by omega, q.2⟩)
set_option maxHeartbeats 1000000 in
theorem dp_step {my : Nat → Nat → Prop} {nr : Nat → Nat → Nat → Prop} {w : Nat → Nat → Nat} {t z : Nat} {f f' : Nat → Nat} (ht : t < 12) (hz : z < 6) (hw : ∀ i, w i 12 = 0) (hb : ∀ m, m < 2 ^ z → isB my nr w t f m) (h1 : ∀ m, m < 2 ^ z → f m ≤ f' m) (h2 : ∀ m q, m < 2 ^ z → q < 32 → q ≠ 0 → sub5 q m → gOK my nr t q → f (m ^^^ q) + gS5 w t q ≤ f' m) (h3 : ∀ m, m < 2 ^ z → f' m = f m ∨ ∃ q, q < 32 ∧ sub5 q m ∧ gOK my nr t q ∧ f' m = f (m ^^^ q) + gS5 w t q) : ∀ m, m < 2 ^ z → isB my nr w (t + 1) f' m := by
  intro m hm
  refine ⟨?_, fun p hp hs => ?_⟩
  · rcases h3 m hm with e | ⟨q, q1, q2, q3, e⟩
    · obtain ⟨p, a1, a2, a3⟩ := (hb m hm).1
      exact ⟨p, pOK_mono a1 (by omega), a2, by rw [e]; exact a3⟩
    · obtain ⟨p, a1, a2, a3⟩ := (hb (m ^^^ q) (bb_xlt z hz m hm q q1 q2)).1
      have a4 : ∀ i, i < 5 → q.testBit i = true → p i = 12 := fun i hi hq => Classical.byContradiction fun n => by
        have := a2 i hi n
        rw [Nat.testBit_xor, hq, q2 i hi hq] at this
        exact absurd this (by decide)
      refine ⟨ov q t p, fun i hi => ?_, fun i hi hn => ?_, ?_⟩
      · by_cases hq : q.testBit i = true
        · rw [ov_t hq]
          refine Or.inr ⟨by omega, (q3 i hi hq).1, fun j hj ej => (q3 i hi hq).2 j hj ?_⟩
          by_cases hqj : q.testBit j = true
          · exact hqj
          · rw [ov_f hqj] at ej
            rcases a1 j (by omega) with z1 | z1 <;> omega
        · rw [ov_f hq]
          rcases a1 i hi with z1 | ⟨z1, z2, z3⟩
          · exact Or.inl z1
          · refine Or.inr ⟨by omega, z2, fun j hj ej => z3 j hj ?_⟩
            by_cases hqj : q.testBit j = true
            · rw [ov_t hqj] at ej; omega
            · rw [ov_f hqj] at ej; exact ej
      · by_cases hq : q.testBit i = true
        · exact q2 i hi hq
        · rw [ov_f hq] at hn
          have := a2 i hi hn
          have hq : q.testBit i = false := by
            cases hh : q.testBit i
            · rfl
            · exact absurd hh hq
          rw [Nat.testBit_xor, hq, Bool.xor_false] at this
          exact this
      · rw [e, a3]
        unfold pW gS5
        rw [sm5_add]
        refine sm5_congr (fun i hi => ?_)
        by_cases hq : q.testBit i = true
        · rw [ov_t hq, if_pos hq, a4 i hi hq, hw]; omega
        · rw [ov_f hq, if_neg hq]; omega
  · have hqb : ∀ i, i < 5 → ((mkm (fun i => p i = t) 5).testBit i = true ↔ p i = t) := fun i hi => by
      rw [mkm_bit (fun i => p i = t) hi 5 (by decide)]
      exact ⟨fun z => z.2, fun z => ⟨hi, z⟩⟩
    have hql : mkm (fun i => p i = t) 5 < 32 := mkm_lt _ 5
    revert hqb hql
    generalize mkm (fun i => p i = t) 5 = q
    intro hqb hql
    by_cases e0 : q = 0
    · have : pOK my nr t p := fun i hi => (hp i hi).imp id (fun y => ⟨by
        have e : p i ≠ t := fun e => by
          have := (hqb i hi).mpr e
          rw [e0, bb_z i hi] at this
          exact absurd this (by decide)
        omega, y.2⟩)
      exact Nat.le_trans ((hb m hm).2 p this hs) (h1 m hm)
    · have hsub : sub5 q m := fun i hi hq => hs i hi (by have := (hqb i hi).mp hq; omega)
      have hg : gOK my nr t q := fun i hi hq => by
        have e := (hqb i hi).mp hq
        rcases hp i hi with z1 | ⟨z1, z2, z3⟩
        · omega
        · rw [e] at z2 z3
          exact ⟨z2, fun j hj hqj => z3 j hj ((hqb j (by omega)).mp hqj)⟩
      have hp0 : pOK my nr t (ov q 12 p) := fun i hi => by
        by_cases hq : q.testBit i = true
        · exact Or.inl (ov_t hq)
        · rw [ov_f hq]
          have e : p i ≠ t := fun e => hq ((hqb i hi).mpr e)
          rcases hp i hi with z1 | ⟨z1, z2, z3⟩
          · exact Or.inl z1
          · refine Or.inr ⟨by omega, z2, fun j hj ej => z3 j hj ?_⟩
            by_cases hqj : q.testBit j = true
            · rw [ov_t hqj] at ej; omega
            · rw [ov_f hqj] at ej; exact ej
      have hs0 : ∀ i, i < 5 → ov q 12 p i ≠ 12 → (m ^^^ q).testBit i = true := fun i hi hn => by
        by_cases hq : q.testBit i = true
        · exact absurd (ov_t hq) hn
        · rw [ov_f hq] at hn
          have hq : q.testBit i = false := by
            cases hh : q.testBit i
            · rfl
            · exact absurd hh hq
          rw [Nat.testBit_xor, hq, hs i hi hn, Bool.xor_false]
      have b1 := (hb (m ^^^ q) (bb_xlt z hz m hm q hql hsub)).2 _ hp0 hs0
      have b2 := h2 m q hm hql e0 hsub hg
      have b3 : pW w p = pW w (ov q 12 p) + gS5 w t q := by
        unfold pW gS5
        rw [sm5_add]
        refine sm5_congr (fun i hi => ?_)
        by_cases hq : q.testBit i = true
        · rw [ov_t hq, if_pos hq, hw, (hqb i hi).mp hq]; omega
        · rw [ov_f hq, if_neg hq]; omega
      omega
/-! the worths -/
def kc (r : Nat) : Nat := if r = 2 then 216 else if r = 1 then 36 else 6
def kr (r : Nat) : Nat := if r = 2 then 10000 else if r = 1 then 1000 else 100
def vc (r : Nat → Nat) (sb : Nat → Nat → Nat) (i t : Nat) : Nat := if t < 12 then kc (r i) - sb i t else 0
def vr (r : Nat → Nat) (sb : Nat → Nat → Nat) (i t : Nat) : Nat := if t < 12 then kr (r i) - sb i t else 0
def dg (i t : Nat) : Nat := (12 - t) * 13 ^ (4 - i)
def wc (r : Nat → Nat) (sb : Nat → Nat → Nat) (i t : Nat) : Nat := 371293 * vc r sb i t + dg i t
theorem wc_12 {r : Nat → Nat} {sb : Nat → Nat → Nat} (i : Nat) : wc r sb i 12 = 0 := by
  unfold wc vc dg
  rw [if_neg (by decide)]
  omega
theorem pW_wc {r : Nat → Nat} {sb : Nat → Nat → Nat} (p : Nat → Nat) : pW (wc r sb) p = 371293 * pW (vc r sb) p + pW dg p := by
  show (371293 * vc r sb 0 (p 0) + dg 0 (p 0)) + (371293 * vc r sb 1 (p 1) + dg 1 (p 1)) + (371293 * vc r sb 2 (p 2) + dg 2 (p 2)) + (371293 * vc r sb 3 (p 3) + dg 3 (p 3)) + (371293 * vc r sb 4 (p 4) + dg 4 (p 4)) = 371293 * (vc r sb 0 (p 0) + vc r sb 1 (p 1) + vc r sb 2 (p 2) + vc r sb 3 (p 3) + vc r sb 4 (p 4)) + (dg 0 (p 0) + dg 1 (p 1) + dg 2 (p 2) + dg 3 (p 3) + dg 4 (p 4))
  omega
theorem v_one {r : Nat → Nat} {sb : Nat → Nat → Nat} {i t : Nat} (hs : sb i t ≤ 1) : ∃ a b c u : Nat, a + b + c ≤ 1 ∧ u ≤ a + b + c ∧ vc r sb i t + u = 216 * a + 36 * b + 6 * c ∧ vr r sb i t + u = 10000 * a + 1000 * b + 100 * c := by
  unfold vc vr
  by_cases h : t < 12
  · rw [if_pos h, if_pos h]
    unfold kc kr
    by_cases h2 : r i = 2
    · rw [if_pos h2, if_pos h2]
      exact ⟨1, 0, 0, sb i t, by omega, by omega, by omega, by omega⟩
    · rw [if_neg h2, if_neg h2]
      by_cases h3 : r i = 1
      · rw [if_pos h3, if_pos h3]
        exact ⟨0, 1, 0, sb i t, by omega, by omega, by omega, by omega⟩
      · rw [if_neg h3, if_neg h3]
        exact ⟨0, 0, 1, sb i t, by omega, by omega, by omega, by omega⟩
  · rw [if_neg h, if_neg h]
    exact ⟨0, 0, 0, 0, by omega, by omega, by omega, by omega⟩
theorem v_two {x x' y y' n m : Nat} (h : ∃ a b c u : Nat, a + b + c ≤ n ∧ u ≤ a + b + c ∧ x + u = 216 * a + 36 * b + 6 * c ∧ x' + u = 10000 * a + 1000 * b + 100 * c) (g : ∃ a b c u : Nat, a + b + c ≤ m ∧ u ≤ a + b + c ∧ y + u = 216 * a + 36 * b + 6 * c ∧ y' + u = 10000 * a + 1000 * b + 100 * c) : ∃ a b c u : Nat, a + b + c ≤ n + m ∧ u ≤ a + b + c ∧ (x + y) + u = 216 * a + 36 * b + 6 * c ∧ (x' + y') + u = 10000 * a + 1000 * b + 100 * c := by
  obtain ⟨a0, b0, c0, u0, k0, l0, m0, n0⟩ := h
  obtain ⟨a1, b1, c1, u1, k1, l1, m1, n1⟩ := g
  exact ⟨a0 + a1, b0 + b1, c0 + c1, u0 + u1, by omega, by omega, by omega, by omega⟩
theorem v_all {r : Nat → Nat} {sb : Nat → Nat → Nat} (hs : ∀ i t, sb i t ≤ 1) (p : Nat → Nat) : ∃ a b c u : Nat, a + b + c ≤ 5 ∧ u ≤ a + b + c ∧ pW (vc r sb) p + u = 216 * a + 36 * b + 6 * c ∧ pW (vr r sb) p + u = 10000 * a + 1000 * b + 100 * c :=
  v_two (v_two (v_two (v_two (v_one (r := r) (hs 0 (p 0))) (v_one (r := r) (hs 1 (p 1)))) (v_one (r := r) (hs 2 (p 2)))) (v_one (r := r) (hs 3 (p 3)))) (v_one (r := r) (hs 4 (p 4)))
theorem v_lex {a b c u x d e f v y x' y' : Nat} (h1 : a + b + c ≤ 5) (h2 : u ≤ a + b + c) (h3 : x + u = 216 * a + 36 * b + 6 * c) (h4 : x' + u = 10000 * a + 1000 * b + 100 * c) (g1 : d + e + f ≤ 5) (g2 : v ≤ d + e + f) (g3 : y + v = 216 * d + 36 * e + 6 * f) (g4 : y' + v = 10000 * d + 1000 * e + 100 * f) : (x < y → x' < y') ∧ (x = y → x' = y') := by
  rcases Nat.lt_trichotomy a d with q | q | q
  · omega
  · subst q
    rcases Nat.lt_trichotomy b e with q | q | q
    · omega
    · subst q
      rcases Nat.lt_trichotomy c f with q | q | q
      · omega
      · subst q; omega
      · omega
    · omega
  · omega
theorem v_ord {r : Nat → Nat} {sb : Nat → Nat → Nat} (hs : ∀ i t, sb i t ≤ 1) (p q : Nat → Nat) : (pW (vc r sb) p < pW (vc r sb) q → pW (vr r sb) p < pW (vr r sb) q) ∧ (pW (vc r sb) p = pW (vc r sb) q → pW (vr r sb) p = pW (vr r sb) q) := by
  obtain ⟨a0, b0, c0, u0, k0, l0, m0, n0⟩ := v_all (r := r) hs p
  obtain ⟨a1, b1, c1, u1, k1, l1, m1, n1⟩ := v_all (r := r) hs q
  exact v_lex k0 l0 m0 n0 k1 l1 m1 n1
theorem dg_eq (p : Nat → Nat) : pW dg p = (12 - p 0) * 28561 + (12 - p 1) * 2197 + (12 - p 2) * 169 + (12 - p 3) * 13 + (12 - p 4) := by
  show (12 - p 0) * 13 ^ 4 + (12 - p 1) * 13 ^ 3 + (12 - p 2) * 13 ^ 2 + (12 - p 3) * 13 ^ 1 + (12 - p 4) * 13 ^ 0 = _
  omega
theorem dg_lt (p : Nat → Nat) : pW dg p < 371293 := by
  rw [dg_eq]; omega
/-- the best by sums is the best by worth and order -/
theorem best_eq {r : Nat → Nat} {sb : Nat → Nat → Nat} {P : (Nat → Nat) → Prop} {p q : Nat → Nat} (hs : ∀ i t, sb i t ≤ 1) (hP : ∀ p, P p → ∀ i, i < 5 → p i ≤ 12) (p1 : P p) (p2 : ∀ y, P y → pW (wc r sb) y ≤ pW (wc r sb) p) (q1 : P q) (q2 : ∀ y, P y → pW (vr r sb) y < pW (vr r sb) q ∨ (pW (vr r sb) y = pW (vr r sb) q ∧ pW dg y ≤ pW dg q)) : ∀ i, i < 5 → p i = q i := by
  have a1 := p2 q q1
  rw [pW_wc, pW_wc] at a1
  have a2 := q2 p p1
  have b1 := dg_lt p
  have b2 := dg_lt q
  have o1 := v_ord (r := r) hs p q
  have o2 := v_ord (r := r) hs q p
  have e1 : pW (vc r sb) p = pW (vc r sb) q := by
    rcases Nat.lt_trichotomy (pW (vc r sb) p) (pW (vc r sb) q) with z | z | z
    · omega
    · exact z
    · have := o2.1 z
      omega
  have e2 : pW dg p = pW dg q := by
    have := o1.2 e1
    omega
  rw [dg_eq, dg_eq] at e2
  have k0 := hP p p1 0 (by decide)
  have k1 := hP p p1 1 (by decide)
  have k2 := hP p p1 2 (by decide)
  have k3 := hP p p1 3 (by decide)
  have k4 := hP p p1 4 (by decide)
  have l0 := hP q q1 0 (by decide)
  have l1 := hP q q1 1 (by decide)
  have l2 := hP q q1 2 (by decide)
  have l3 := hP q q1 3 (by decide)
  have l4 := hP q q1 4 (by decide)
  have r0 : p 0 = q 0 := by omega
  have r1 : p 1 = q 1 := by omega
  have r2 : p 2 = q 2 := by omega
  have r3 : p 3 = q 3 := by omega
  have r4 : p 4 = q 4 := by omega
  intro i hi
  match i, hi with
  | 0, _ => exact r0
  | 1, _ => exact r1
  | 2, _ => exact r2
  | 3, _ => exact r3
  | 4, _ => exact r4
/-- the row's digits -/
def dv : Nat → Nat → Nat
  | 0, x => x
  | m + 1, x => dv m (x / 13)
theorem dv_at {r : Nat → Nat} {sb : Nat → Nat → Nat} {p : Nat → Nat} {i : Nat} (hi : i < 5) : dv (4 - i) (pW (wc r sb) p) % 13 = 12 - p i := by
  rw [pW_wc, dg_eq]
  match i, hi with
  | 0, _ => show (_ / 13 / 13 / 13 / 13) % 13 = _; omega
  | 1, _ => show (_ / 13 / 13 / 13) % 13 = _; omega
  | 2, _ => show (_ / 13 / 13) % 13 = _; omega
  | 3, _ => show (_ / 13) % 13 = _; omega
  | 4, _ => show (371293 * _ + _) % 13 = _; omega
theorem pW_lt {r : Nat → Nat} {sb : Nat → Nat → Nat} (hs : ∀ i t, sb i t ≤ 1) (p : Nat → Nat) : pW (wc r sb) p < 500000000 := by
  rw [pW_wc]
  obtain ⟨a0, b0, c0, u0, k0, l0, m0, n0⟩ := v_all (r := r) hs p
  have := dg_lt p
  omega
