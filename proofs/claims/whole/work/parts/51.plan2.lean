/-! the class's planner -/
theorem bb_nx : ∀ parts, parts < 32 → ∀ p, p < 32 → ∀ q, q < 32 → p &&& parts = p ∧ q &&& parts = q ∧ q < p → q ≤ (p - 1) &&& parts := by decide +kernel
theorem bb_nl : ∀ parts, parts < 32 → ∀ p, p < 32 → p ≠ 0 → (p - 1) &&& parts < p := by decide +kernel
theorem bb_ns : ∀ parts, parts < 32 → ∀ p, p < 32 → ((p - 1) &&& parts) &&& parts = (p - 1) &&& parts := by decide +kernel
theorem bb_and0 : ∀ a, a < 32 → ∀ b, b < 32 → (a &&& b = 0 ↔ ∀ j, j < 5 → ¬ (a.testBit j = true ∧ b.testBit j = true)) := by decide +kernel
theorem bb_one : ∀ a, a < 32 → ∀ i, i < 5 → (a &&& 2 ^ i = 0 ↔ ¬ a.testBit i = true) := by decide +kernel
theorem bb_full : ∀ z, z < 6 → ∀ i, i < z → (2 ^ z - 1).testBit i = true := by decide +kernel
theorem bb_xne : ∀ a, a < 32 → ∀ q, q < 32 → q ≠ 0 → a ^^^ q ≠ a := by decide +kernel
theorem bb_as : ∀ q, q < 32 → ∀ m, m < 32 → q &&& m = q → ∀ i, i < 5 → q.testBit i = true → m.testBit i = true := by decide +kernel
theorem bb_xl : ∀ m, m < 32 → ∀ q, q < 32 → q ≠ 0 → q &&& m = q → m ^^^ q < m := by decide +kernel
theorem bb_al : ∀ a, a < 32 → ∀ b, b < 32 → a &&& b < 32 := by decide +kernel
theorem bb_aa : ∀ a, a < 32 → ∀ b, b < 32 → (a &&& b) &&& (a &&& b) = a &&& b := by decide +kernel
theorem bb_ab : ∀ a, a < 32 → ∀ b, b < 32 → ∀ j, j < 5 → (a &&& b).testBit j = (a.testBit j && b.testBit j) := by decide +kernel
def rho (c : mS) (i : Nat) : Nat := ix (c 70 i)
def cY9 (c : mS) (z : Nat) (i t : Nat) : Prop := i < z ∧ s_may c (rho c i) t
def cN (c : mS) (i j t : Nat) : Prop := c_rn c (rho c i) (rho c j) (c 2 (ix (c 6 t)))
def cR (c : mS) (i : Nat) : Nat := ix (c 32 (rho c i))
noncomputable def cB (c : mS) (i t : Nat) : Nat := cif (ix (c 6 t) = ix (c 28 (rho c i))) 0 1
theorem cB_le (c : mS) (i t : Nat) : cB c i t ≤ 1 := by
  unfold cB
  by_cases h : ix (c 6 t) = ix (c 28 (rho c i))
  · rw [cif_t h]; decide
  · rw [cif_f h]; decide
theorem wd_n {t : Nat} (ht : t ≤ 12) : ∀ m, c_wd t m = nI ((12 - t) * 13 ^ m)
  | 0 => by show 12 - nI t = _; rw [show (12 : Int32) = nI 12 from rfl, nI_sub ht]; exact congrArg nI (by omega)
  | m + 1 => by
    show c_wd t m * 13 = _
    rw [wd_n ht m, show (13 : Int32) = nI 13 from rfl, pk_mul, Nat.pow_succ, Nat.mul_assoc]
theorem wo_n {c : mS} {z i t : Nat} (hr : ∃ r, r ≤ 2 ∧ c 32 (rho c i) = nI r) (ht : t < 12) : c_wo c (ix (c 70 i)) t i = nI (wc (cR c) (cB c) i t) := by
  obtain ⟨r, r2, er⟩ := hr
  have ek : c_kp c (ix (c 70 i)) = nI (371293 * kc (cR c i)) := by
    unfold c_kp cR
    have er2 : c 32 (ix (c 70 i)) = nI r := er
    rw [er2, er, ix_nI (by omega)]
    match r, r2 with
    | 0, _ => rw [cif_f (by decide), cif_f (by decide)]; decide
    | 1, _ => rw [cif_f (by decide), cif_t (by decide)]; decide
    | 2, _ => rw [cif_t (by decide)]; decide
  have ev : vc (cR c) (cB c) i t = kc (cR c i) - cB c i t := if_pos ht
  have k1 : 1 ≤ kc (cR c i) := by
    unfold kc
    split
    · decide
    · split <;> decide
  unfold c_wo
  rw [ek, wd_n (by omega)]
  show _ = nI (371293 * vc (cR c) (cB c) i t + dg i t)
  rw [ev]
  unfold cB dg rho
  by_cases h : ix (c 6 t) = ix (c 28 (ix (c 70 i)))
  · rw [cif_t h, cif_t h, nI_add]; rfl
  · rw [cif_f h, cif_f h, show (371293 : Int32) = nI 371293 from rfl, nI_sub (by omega), nI_add]
    exact congrArg nI (by omega)
theorem nr_mkm (c : mS) (a : Nat) (w : Int32) : ∀ i, c_nr c a w i = mkm (fun j => c_rn c a (ix (c 70 j)) w) i
  | 0 => rfl
  | i + 1 => by show cif _ _ _ = cif _ _ _; rw [nr_mkm c a w i]
theorem rm_mkm (c : mS) (z t : Nat) : ∀ i, c_rm c z t i = mkm (fun i => i < z ∧ s_may c (ix (c 70 i)) t) i
  | 0 => rfl
  | i + 1 => by show cif _ _ _ = cif _ _ _; rw [rm_mkm c z t i]
theorem rm_bit (c : mS) (z t : Nat) {j : Nat} (hj : j < 5) : (c_rm c z t 5).testBit j = true ↔ cY9 c z j t := by
  rw [rm_mkm, mkm_bit _ hj 5 (by decide)]
  exact ⟨fun q => q.2, fun q => ⟨hj, q⟩⟩
theorem gOK_add {my : Nat → Nat → Prop} {nr : Nat → Nat → Nat → Prop} {t i y : Nat} (hi : i < 5) (hy : y < 2 ^ i) : gOK my nr t (2 ^ i + y) ↔ (gOK my nr t y ∧ my i t ∧ ∀ j, j < i → y.testBit j = true → ¬ nr i j t) := by
  have e : ∀ j, j < 5 → ((2 ^ i + y).testBit j = true ↔ (y.testBit j = true ∨ j = i)) := fun j hj => by
    rw [Nat.add_comm, bb_add i hi y hy j hj, Bool.or_eq_true, decide_eq_true_eq]
  have hh : ∀ j, j < 5 → y.testBit j = true → j < i := fun j hj q => by
    rcases Nat.lt_or_ge j i with z | z
    · exact z
    · rw [bb_hi i (by omega) y hy j hj z] at q; exact absurd q (by decide)
  refine ⟨fun h => ⟨fun j hj q => ?_, ?_, fun j hj q => ?_⟩, fun h j hj q => ?_⟩
  · have := h j hj ((e j hj).mpr (Or.inl q))
    exact ⟨this.1, fun l hl ql => this.2 l hl ((e l (by omega)).mpr (Or.inl ql))⟩
  · exact (h i hi ((e i hi).mpr (Or.inr rfl))).1
  · exact (h i hi ((e i hi).mpr (Or.inr rfl))).2 j hj ((e j (by omega)).mpr (Or.inl q))
  · rcases (e j hj).mp q with q | q
    · have k := h.1 j hj q
      refine ⟨k.1, fun l hl ql => k.2 l hl ?_⟩
      have := hh j hj q
      rcases (e l (by omega)).mp ql with z | z
      · exact z
      · omega
    · subst q
      refine ⟨h.2.1, fun l hl ql => h.2.2 l hl ?_⟩
      rcases (e l (by omega)).mp ql with z | z
      · exact z
      · omega
theorem sm5_one {i : Nat} (hi : i < 5) (v : Nat) : sm5 (fun j => if j = i then v else 0) = v := by
  unfold sm5
  match i, hi with
  | 0, _ => simp
  | 1, _ => simp
  | 2, _ => simp
  | 3, _ => simp
  | 4, _ => simp
theorem gS5_add {w : Nat → Nat → Nat} {t i y : Nat} (hi : i < 5) (hy : y < 2 ^ i) : gS5 w t (2 ^ i + y) = gS5 w t y + w i t := by
  rw [← sm5_one hi (w i t)]
  unfold gS5
  rw [sm5_add]
  refine sm5_congr (fun j hj => ?_)
  rw [Nat.add_comm (2 ^ i) y, bb_add i hi y hy j hj]
  by_cases e : j = i
  · subst e
    rw [bb_hi j (by omega) y hy j hj (Nat.le_refl _)]
    simp
  · simp [e]
theorem gS5_lt {r : Nat → Nat} {sb : Nat → Nat → Nat} (hs : ∀ i t, sb i t ≤ 1) (t q : Nat) : gS5 (wc r sb) t q < 500000000 := by
  have := pW_lt (r := r) hs (ov q t (fun _ => 12))
  have e : gS5 (wc r sb) t q = pW (wc r sb) (ov q t (fun _ => 12)) := by
    unfold gS5 pW
    refine sm5_congr (fun i hi => ?_)
    by_cases h : q.testBit i = true
    · rw [if_pos h, ov_t h]
    · rw [if_neg h, ov_f h, wc_12]
  omega
theorem gI_sp {i : Nat} {B : Prop} {W : Int32} {nr : Nat} : ∀ (m o : Nat) (c : mS), o + m = 2 ^ i → (∀ x, x < 2 ^ i + o → gI i B W nr m o c 73 x = c 73 x) ∧ ∀ y, o ≤ y → y < 2 ^ i → gI i B W nr m o c 73 (2 ^ i + y) = cif (B ∧ ¬ c 73 y = -1 ∧ nr &&& y = 0) (c 73 y + W) (-1)
  | 0, o, c, h => ⟨fun x hx => rfl, fun y h1 h2 => by omega⟩
  | m + 1, o, c, h => by
    have ih := gI_sp (i := i) (B := B) (W := W) (nr := nr) m (o + 1) (m_set c 73 (2 ^ i + o) (cif (B ∧ ¬ c 73 o = -1 ∧ nr &&& o = 0) (c 73 o + W) (-1))) (by omega)
    refine ⟨fun x hx => ?_, fun y h1 h2 => ?_⟩
    · exact (ih.1 x (by omega)).trans (ms_ne (by omega))
    · by_cases e : y = o
      · subst e
        exact (ih.1 _ (by omega)).trans (m_set_at _ _ _ _)
      · have e2 : ∀ v, m_set c 73 (2 ^ i + o) v 73 y = c 73 y := fun v => ms_ne (by omega)
        exact (ih.2 y (by omega) h2).trans (by rw [e2])
def gv (c : mS) (z t m : Nat) (v : Int32) : Prop := (gOK (cY9 c z) (cN c) t m → v = nI (gS5 (wc (cR c) (cB c)) t m)) ∧ (¬ gOK (cY9 c z) (cN c) t m → v = -1)
theorem wo_k {u c : mS} (h : k73 u c) (i t : Nat) : c_wo u (ix (u 70 i)) t i = c_wo c (ix (c 70 i)) t i := by
  unfold c_wo c_kp
  rw [h 70 (by decide), h 6 (by decide), h 28 (by decide), h 32 (by decide)]
theorem nr_k {u c : mS} (h : k73 u c) (i t : Nat) : c_nr u (ix (u 70 i)) (u 2 (ix (u 6 t))) i = c_nr c (ix (c 70 i)) (c 2 (ix (c 6 t))) i := by
  rw [nr_mkm, nr_mkm]
  unfold c_rn
  rw [h 70 (by decide), h 6 (by decide), h 2 (by decide), h 30 (by decide), h 31 (by decide)]
def rkd (c : mS) (z : Nat) : Prop := z ≤ 5 ∧ ∀ i, i < z → ∃ r, r ≤ 2 ∧ c 32 (rho c i) = nI r
set_option maxHeartbeats 1000000 in
theorem gS_sp {u c : mS} {z t i : Nat} (hk : k73 u c) (hc : rkd c z) (ht : t < 12) (hi : i < z) (h : ∀ m, m < 2 ^ i → gv c z t m (u 73 m)) : ∀ m, m < 2 ^ (i + 1) → gv c z t m (gS t (c_rm c z t 5) i u 73 m) := by
  intro m hm
  have h5 := hc.1
  have hp : 2 ^ (i + 1) = 2 ^ i + 2 ^ i := by rw [Nat.pow_succ]; omega
  have hrl : c_rm c z t 5 < 32 := c_rm_lt c z t 5
  have h32 : 2 ^ i ≤ 16 := bt_2i (by omega)
  unfold gS
  by_cases hb : c_rm c z t 5 &&& 2 ^ i = 0
  · rw [cif_t hb]
    have sp := gI_sp (i := i) (B := False) (W := 0) (nr := 0) (2 ^ i) 0 u (by omega)
    rcases Nat.lt_or_ge m (2 ^ i) with q | q
    · rw [sp.1 m (by omega)]; exact h m q
    · have e := sp.2 (m - 2 ^ i) (by omega) (by omega)
      rw [show 2 ^ i + (m - 2 ^ i) = m by omega, cif_f (fun y => y.1)] at e
      rw [e]
      refine ⟨fun g => ?_, fun _ => rfl⟩
      have g := (gOK_add (my := cY9 c z) (nr := cN c) (t := t) (show i < 5 by omega) (show m - 2 ^ i < 2 ^ i by omega)).mp (by rw [show 2 ^ i + (m - 2 ^ i) = m by omega]; exact g)
      exact absurd ((rm_bit c z t (by omega)).mpr g.2.1) ((bb_one _ hrl i (by omega)).mp hb)
  · rw [cif_f hb, wo_k hk, nr_k hk, wo_n (z := z) (hc.2 i hi) ht]
    have sp := gI_sp (i := i) (B := True) (W := nI (wc (cR c) (cB c) i t)) (nr := c_nr c (ix (c 70 i)) (c 2 (ix (c 6 t))) i) (2 ^ i) 0 u (by omega)
    have hmy : cY9 c z i t := (rm_bit c z t (by omega)).mp (Classical.byContradiction fun y => hb ((bb_one _ hrl i (by omega)).mpr y))
    rcases Nat.lt_or_ge m (2 ^ i) with q | q
    · rw [sp.1 m (by omega)]; exact h m q
    · have e := sp.2 (m - 2 ^ i) (by omega) (by omega)
      have e1 : 2 ^ i + (m - 2 ^ i) = m := by omega
      rw [e1] at e
      rw [e]
      have hy := h (m - 2 ^ i) (by omega)
      have ga := gOK_add (my := cY9 c z) (nr := cN c) (t := t) (show i < 5 by omega) (show m - 2 ^ i < 2 ^ i by omega)
      rw [e1] at ga
      have hn : (c_nr c (ix (c 70 i)) (c 2 (ix (c 6 t))) i &&& (m - 2 ^ i) = 0) ↔ ∀ j, j < i → (m - 2 ^ i).testBit j = true → ¬ cN c i j t := by
        have l9 := c_nr_lt c (ix (c 70 i)) (c 2 (ix (c 6 t))) i
        rw [bb_and0 _ (by omega) _ (by omega), nr_mkm]
        refine ⟨fun y j hj qj w => y j (by omega) ⟨(mkm_bit _ (by omega) i (by omega)).mpr ⟨hj, w⟩, qj⟩, fun y j hj w => ?_⟩
        have w1 := (mkm_bit _ hj i (by omega)).mp w.1
        exact y j w1.1 w.2 w1.2
      have lt := gS5_lt (r := cR c) (sb := cB c) (cB_le c) t (m - 2 ^ i)
      have ad := gS5_add (w := wc (cR c) (cB c)) (t := t) (show i < 5 by omega) (show m - 2 ^ i < 2 ^ i by omega)
      rw [e1] at ad
      refine ⟨fun g => ?_, fun g => ?_⟩
      · have g2 := ga.mp g
        have e3 := hy.1 g2.1
        rw [cif_t ⟨trivial, by rw [e3]; exact oI_ne (by omega), hn.mpr g2.2.2⟩, e3, nI_add, ad]
      · refine cif_f (fun y => g (ga.mpr ⟨?_, hmy, hn.mp y.2.2⟩))
        exact Classical.byContradiction fun w => y.2.1 (hy.2 w)
theorem gO_sp {c : mS} {z t : Nat} (hc : rkd c z) (ht : t < 12) : ∀ (m i : Nat) (u : mS), i + m = z → k73 u c → (∀ y, y < 2 ^ i → gv c z t y (u 73 y)) → ∀ y, y < 2 ^ z → gv c z t y (gO t (c_rm c z t 5) m i u 73 y)
  | 0, i, u, e, hk, h => by
    have : i = z := by omega
    subst this
    exact h
  | m + 1, i, u, e, hk, h => gO_sp hc ht m (i + 1) _ (by omega) (gS_k hk) (gS_sp hk hc ht (by omega) h)
theorem wg_sp {c : mS} {z t : Nat} (hc : rkd c z) (ht : t < 12) : ∀ y, y < 2 ^ z → gv c z t y (c_wg c t (c_rm c z t 5) z 73 y) := by
  refine gO_sp hc ht z 0 _ (by omega) (fun j hj => m_set_ne _ _ _ hj) (fun y hy => ?_)
  have : y = 0 := by have : 2 ^ 0 = 1 := rfl; omega
  subst this
  rw [m_set_at]
  refine ⟨fun _ => ?_, fun g => absurd (fun i hi q => ?_) g⟩
  · show (0 : Int32) = nI (0 + 0 + 0 + 0 + 0); decide
  · rw [bb_z i hi] at q; exact absurd q (by decide)
/-! the most of each set -/
theorem mx_n {a b : Nat} (ha : a < 2 ^ 31) (hb : b < 2 ^ 31) : mx (nI a) (nI b) = nI (max a b) := by
  unfold mx
  by_cases h : a < b
  · rw [cif_t (nI_lt h hb)]; exact congrArg nI (by omega)
  · rw [cif_f (nI_nlt (by omega) ha)]; exact congrArg nI (by omega)
set_option maxHeartbeats 1000000 in
theorem oI_sp {set parts : Nat} {val : Nat → Nat} {P : Nat → Prop} (hset : set < 32) (hpar : parts < 32) : ∀ (F p : Nat) (c : mS) (x : Nat), p < F → p < 32 → p &&& parts = p → c 72 set = nI x → x < 2 ^ 31 → (∀ q, q ≠ 0 → q < 32 → q &&& parts = q → ((0 < c 73 q ↔ P q) ∧ (P q → c 72 (set ^^^ q) + c 73 q = nI (val q) ∧ val q < 2 ^ 31))) → (∀ b, b ≠ set → oI2 set parts F p c 72 b = c 72 b) ∧ ∃ x', x' < 2 ^ 31 ∧ oI2 set parts F p c 72 set = nI x' ∧ x ≤ x' ∧ (∀ q, q ≠ 0 → q ≤ p → q &&& parts = q → P q → val q ≤ x') ∧ (x' = x ∨ ∃ q, q ≠ 0 ∧ q < 32 ∧ q &&& parts = q ∧ P q ∧ x' = val q)
  | 0, p, c, x, hF, _, _, _, _, _ => absurd hF (Nat.not_lt_zero _)
  | F + 1, p, c, x, hF, hp, hpp, hx, hx2, hv => by
    show (∀ b, b ≠ set → (cif (p = 0) c (oI2 set parts F ((p - 1) &&& parts) (cif (0 < c 73 p) (m_set c 72 set (mx (c 72 set) (c 72 (set ^^^ p) + c 73 p))) c))) 72 b = c 72 b) ∧ ∃ x', x' < 2 ^ 31 ∧ (cif (p = 0) c (oI2 set parts F ((p - 1) &&& parts) (cif (0 < c 73 p) (m_set c 72 set (mx (c 72 set) (c 72 (set ^^^ p) + c 73 p))) c))) 72 set = nI x' ∧ x ≤ x' ∧ (∀ q, q ≠ 0 → q ≤ p → q &&& parts = q → P q → val q ≤ x') ∧ (x' = x ∨ ∃ q, q ≠ 0 ∧ q < 32 ∧ q &&& parts = q ∧ P q ∧ x' = val q)
    by_cases e : p = 0
    · rw [cif_t e]
      exact ⟨fun _ _ => rfl, x, hx2, hx, Nat.le_refl _, fun q h1 h2 => by omega, Or.inl rfl⟩
    · rw [cif_f e]
      have nl := bb_nl parts hpar p hp e
      by_cases hg : 0 < c 73 p
      · rw [cif_t hg]
        have hP := (hv p e hp hpp).1.mp hg
        have hvp := (hv p e hp hpp).2 hP
        rw [hvp.1, hx, mx_n hx2 hvp.2]
        obtain ⟨k1, x', k2, k3, k4, k5, k6⟩ := oI_sp hset hpar F ((p - 1) &&& parts) (m_set c 72 set (nI (max x (val p)))) (max x (val p)) (by omega) (by omega) (bb_ns parts hpar p hp) (m_set_at _ _ _ _) (by have := hvp.2; omega) (fun q q1 q2 q3 => by
          have e1 : m_set c 72 set (nI (max x (val p))) 72 (set ^^^ q) = c 72 (set ^^^ q) := ms_ne (bb_xne set hset q q2 q1)
          have e2 : m_set c 72 set (nI (max x (val p))) 73 q = c 73 q := rfl
          rw [e1, e2]
          exact hv q q1 q2 q3)
        refine ⟨fun b hb => (k1 b hb).trans (ms_ne hb), x', k2, k3, by omega, fun q q1 q2 q3 q4 => ?_, ?_⟩
        · by_cases eq : q = p
          · subst eq; omega
          · exact k5 q q1 (bb_nx parts hpar p hp q (by omega) ⟨hpp, q3, by omega⟩) q3 q4
        · rcases k6 with k6 | k6
          · rcases Nat.le_total x (val p) with w | w
            · exact Or.inr ⟨p, e, hp, hpp, hP, by omega⟩
            · exact Or.inl (by omega)
          · exact Or.inr k6
      · rw [cif_f hg]
        obtain ⟨k1, x', k2, k3, k4, k5, k6⟩ := oI_sp hset hpar F ((p - 1) &&& parts) c x (by omega) (by omega) (bb_ns parts hpar p hp) hx hx2 hv
        refine ⟨k1, x', k2, k3, k4, fun q q1 q2 q3 q4 => ?_, k6⟩
        by_cases eq : q = p
        · subst eq; exact absurd ((hv q e hp hpp).1.mpr q4) hg
        · exact k5 q q1 (bb_nx parts hpar p hp q (by omega) ⟨hpp, q3, by omega⟩) q3 q4
theorem oI2_73 {set parts : Nat} : ∀ (F p : Nat) (c : mS), oI2 set parts F p c 73 = c 73 := fun F p c => oI2_k F p (fun _ _ => rfl) 73 (by decide)
set_option maxHeartbeats 1000000 in
theorem oO_sp {mh z : Nat} {f g : Nat → Nat} {P : Nat → Prop} (hmh : mh < 32) (hz : z < 6) : ∀ (s : Nat) (c : mS), s < 2 ^ z → (∀ m, m ≤ s → c 72 m = nI (f m) ∧ f m < 500000000) → (∀ q, q ≠ 0 → q < 2 ^ z → ((0 < c 73 q ↔ P q) ∧ (P q → c 73 q = nI (g q) ∧ g q < 500000000))) → (∀ b, s < b → oO2 mh s c 72 b = c 72 b) ∧ ∀ m, m ≤ s → ∃ x', x' < 2 ^ 31 ∧ oO2 mh s c 72 m = nI x' ∧ f m ≤ x' ∧ (∀ q, q ≠ 0 → q < 32 → q &&& (m &&& mh) = q → P q → f (m ^^^ q) + g q ≤ x') ∧ (x' = f m ∨ ∃ q, q ≠ 0 ∧ q < 32 ∧ q &&& (m &&& mh) = q ∧ P q ∧ x' = f (m ^^^ q) + g q)
  | 0, c, hs, h1, h2 => by
    refine ⟨fun _ _ => rfl, fun m hm => ⟨f m, by have := (h1 m (by omega)).2; omega, (h1 m (by omega)).1, Nat.le_refl _, fun q q1 q2 q3 => ?_, Or.inl rfl⟩⟩
    have e : m = 0 := by omega
    subst e
    rw [Nat.zero_and, Nat.and_zero] at q3
    exact absurd q3.symm q1
  | s + 1, c, hs, h1, h2 => by
    have h32 := bb_p z hz
    have ls : s + 1 < 32 := by omega
    have ta : ∀ q, q < 32 → q &&& ((s + 1) &&& mh) = q → q &&& (s + 1) = q := fun q q2 q3 => bb_sa q q2 (s + 1) ls (fun i hi qi => by
      have := bb_as q q2 _ (bb_al _ ls _ hmh) q3 i hi qi
      rw [bb_ab _ ls _ hmh i hi, Bool.and_eq_true] at this
      exact this.1)
    have xl : ∀ q, q ≠ 0 → q < 32 → q &&& ((s + 1) &&& mh) = q → (s + 1) ^^^ q < s + 1 ∧ q ≤ s + 1 := fun q q1 q2 q3 => by
      have a := ta q q2 q3
      exact ⟨bb_xl _ ls q q2 q1 a, by rw [← a]; exact Nat.and_le_right⟩
    obtain ⟨k1, x', k2, k3, k4, k5, k6⟩ := oI_sp (val := fun q => f ((s + 1) ^^^ q) + g q) (P := P) ls (bb_al _ ls _ hmh) 32 ((s + 1) &&& mh) c (f (s + 1)) (bb_al _ ls _ hmh) (bb_al _ ls _ hmh) (bb_aa _ ls _ hmh) (h1 _ (Nat.le_refl _)).1 (by have := (h1 _ (Nat.le_refl _)).2; omega) (fun q q1 q2 q3 => by
      have a := xl q q1 q2 q3
      have b := h2 q q1 (by omega)
      refine ⟨b.1, fun hP => ?_⟩
      have b2 := b.2 hP
      have b3 := h1 ((s + 1) ^^^ q) (by omega)
      rw [b3.1, b2.1, nI_add]
      exact ⟨rfl, by omega⟩)
    have e73 := oI2_73 (set := s + 1) (parts := (s + 1) &&& mh) 32 ((s + 1) &&& mh) c
    have ih := oO_sp (f := f) (g := g) (P := P) hmh hz s (oI2 (s + 1) ((s + 1) &&& mh) 32 ((s + 1) &&& mh) c) (by omega) (fun m hm => by rw [k1 m (by omega)]; exact h1 m (by omega)) (fun q q1 q2 => by rw [e73]; exact h2 q q1 q2)
    refine ⟨fun b hb => (ih.1 b (by omega)).trans (k1 b (by omega)), fun m hm => ?_⟩
    by_cases em : m = s + 1
    · subst em
      exact ⟨x', k2, (ih.1 _ (by omega)).trans k3, k4, fun q q1 q2 q3 q4 => k5 q q1 (by rw [← q3]; exact Nat.and_le_right) q3 q4, k6⟩
    · exact ih.2 m (by omega)
theorem k7_sm {u c : mS} (h : k7 u c) : s_sm u c := fun a h1 h2 => h a (by omega) (by omega)
theorem k7_rho {u c : mS} (h : k7 u c) : rho u = rho c := by funext i; unfold rho; rw [h 70 (by decide) (by decide)]
theorem k7_Y {u c : mS} (h : k7 u c) (z : Nat) : cY9 u z = cY9 c z := by
  funext i t
  unfold cY9 s_may
  rw [k7_rho h, h 6 (by decide) (by decide), h 30 (by decide) (by decide), h 31 (by decide) (by decide), sm_fits (k7_sm h), sm_free (k7_sm h)]
theorem k7_N {u c : mS} (h : k7 u c) : cN u = cN c := by
  funext i j t
  unfold cN c_rn
  rw [k7_rho h, h 6 (by decide) (by decide), h 30 (by decide) (by decide), h 31 (by decide) (by decide), h 2 (by decide) (by decide)]
theorem k7_R {u c : mS} (h : k7 u c) : cR u = cR c := by
  funext i
  unfold cR
  rw [k7_rho h, h 32 (by decide) (by decide)]
theorem k7_B {u c : mS} (h : k7 u c) : cB u = cB c := by
  funext i t
  unfold cB
  rw [k7_rho h, h 6 (by decide) (by decide), h 28 (by decide) (by decide)]
theorem k7_rkd {u c : mS} {z : Nat} (h : k7 u c) (hc : rkd c z) : rkd u z := ⟨hc.1, fun i hi => by rw [k7_rho h, h 32 (by decide) (by decide)]; exact hc.2 i hi⟩
theorem wc_pos {c : mS} {i t : Nat} (ht : t < 12) : 0 < wc (cR c) (cB c) i t := by
  unfold wc vc kc
  rw [if_pos ht]
  have := cB_le c i t
  split
  · omega
  · split <;> omega
theorem gS5_pos {c : mS} {t q : Nat} (ht : t < 12) (hq : q < 32) (h0 : q ≠ 0) : 0 < gS5 (wc (cR c) (cB c)) t q := by
  obtain ⟨i, hi, hb⟩ := bb_nz q hq h0
  have w := wc_pos (c := c) (i := i) ht
  unfold gS5 sm5
  dsimp only
  match i, hi, hb, w with
  | 0, _, hb, w => rw [if_pos hb]; omega
  | 1, _, hb, w => rw [if_pos hb]; omega
  | 2, _, hb, w => rw [if_pos hb]; omega
  | 3, _, hb, w => rw [if_pos hb]; omega
  | 4, _, hb, w => rw [if_pos hb]; omega
def tb (c0 : mS) (z t : Nat) (c : mS) : Prop := ∃ f : Nat → Nat, (∀ m, m < 2 ^ z → c 72 m = nI (f m)) ∧ ∀ m, m < 2 ^ z → isB (cY9 c0 z) (cN c0) (wc (cR c0) (cB c0)) t f m
set_option maxHeartbeats 1000000 in
theorem off_sp {c : mS} {z t : Nat} (hc : rkd c z) (ht : t < 12) (h : tb c z t c) : tb c z (t + 1) (c_off c t (c_rm c z t 5) z) := by
  obtain ⟨f, h1, h2⟩ := h
  have hz := hc.1
  have hmh : c_rm c z t 5 < 32 := c_rm_lt c z t 5
  have h32 := bb_p z (by omega)
  have p1 : 1 ≤ 2 ^ z := Nat.one_le_two_pow
  have sub_of : ∀ q m, q < 32 → m < 2 ^ z → sub5 q m → gOK (cY9 c z) (cN c) t q → q &&& (m &&& c_rm c z t 5) = q := fun q m hq hm hs hg => bb_sa q hq _ (bb_al _ (by omega) _ hmh) (fun i hi qi => by
    rw [bb_ab _ (by omega) _ hmh i hi, hs i hi qi, (rm_bit c z t hi).mpr (hg i hi qi).1]; rfl)
  have of_sub : ∀ q m, q < 32 → m < 2 ^ z → q &&& (m &&& c_rm c z t 5) = q → sub5 q m := fun q m hq hm hs i hi qi => by
    have := bb_as q hq _ (bb_al _ (by omega) _ hmh) hs i hi qi
    rw [bb_ab _ (by omega) _ hmh i hi, Bool.and_eq_true] at this
    exact this.1
  have fl9 : ∀ m, m < 2 ^ z → f m < 500000000 := fun m hm => by
    obtain ⟨p, a1, a2, a3⟩ := (h2 m hm).1
    rw [a3]; exact pW_lt (cB_le c) p
  unfold c_off
  by_cases e : c_rm c z t 5 = 0
  · rw [cif_t e]
    refine ⟨f, h1, dp_step ht (by omega) wc_12 h2 (fun _ _ => Nat.le_refl _) (fun m q hm hq q0 hs hg => ?_) (fun m hm => Or.inl rfl)⟩
    obtain ⟨i, hi, qi⟩ := bb_nz q hq q0
    have := (rm_bit c z t hi).mpr (hg i hi qi).1
    rw [e, bb_z i hi] at this
    exact absurd this (by decide)
  · rw [cif_f e]
    have hw := wg_sp hc ht
    have hk : k73 (c_wg c t (c_rm c z t 5) z) c := gO_k z 0 (fun j hj => m_set_ne _ _ _ hj)
    have sp := (oO_sp (f := f) (g := fun q => gS5 (wc (cR c) (cB c)) t q) (P := fun q => gOK (cY9 c z) (cN c) t q) hmh (show z < 6 by omega) (2 ^ z - 1) (c_wg c t (c_rm c z t 5) z) (by omega) (fun m hm => by rw [hk 72 (by decide)]; exact ⟨h1 m (by omega), fl9 m (by omega)⟩) (fun q q0 q2 => by
      have a := hw q q2
      have l := gS5_lt (r := cR c) (sb := cB c) (cB_le c) t q
      have l2 := gS5_pos (c := c) ht (show q < 32 by omega) q0
      by_cases hg : gOK (cY9 c z) (cN c) t q
      · rw [a.1 hg]
        exact ⟨⟨fun _ => hg, fun _ => nI_lt (a := 0) l2 (by omega)⟩, fun _ => ⟨rfl, l⟩⟩
      · rw [a.2 hg]
        exact ⟨⟨fun w => absurd w (by decide), fun w => absurd w hg⟩, fun w => absurd w hg⟩)).2
    refine ⟨fun m => ix (oO2 (c_rm c z t 5) (2 ^ z - 1) (c_wg c t (c_rm c z t 5) z) 72 m), fun m hm => ?_, ?_⟩
    · obtain ⟨x', x1, x2, -⟩ := sp m (by omega)
      show _ = nI (ix _)
      rw [x2, ix_nI x1]
    · refine dp_step (f := f) ht (by omega) wc_12 h2 (fun m hm => ?_) (fun m q hm hq q0 hs hg => ?_) (fun m hm => ?_)
      · obtain ⟨x', x1, x2, x3, x4, x5⟩ := sp m (by omega)
        show _ ≤ ix _
        rw [x2, ix_nI x1]; exact x3
      · obtain ⟨x', x1, x2, x3, x4, x5⟩ := sp m (by omega)
        show _ ≤ ix _
        rw [x2, ix_nI x1]
        exact x4 q q0 hq (sub_of q m hq hm hs hg) hg
      · obtain ⟨x', x1, x2, x3, x4, x5⟩ := sp m (by omega)
        show ix _ = _ ∨ ∃ q, _ ∧ _ ∧ _ ∧ ix _ = _
        rw [x2, ix_nI x1]
        rcases x5 with x5 | ⟨q, q0, q2, q3, q4, q5⟩
        · exact Or.inl x5
        · exact Or.inr ⟨q, q2, of_sub q m q2 hm q3, q4, q5⟩
theorem k7.tr {u w c : mS} (h : k7 u w) (h2 : k7 w c) : k7 u c := fun j a b => (h j a b).trans (h2 j a b)
theorem tb_k {u c : mS} {z t : Nat} {x : mS} (h : k7 u c) : tb u z t x = tb c z t x := by
  unfold tb
  rw [k7_Y h, k7_N h, k7_R h, k7_B h]
theorem po_sp {c0 : mS} {z : Nat} (hc : rkd c0 z) (hT : mT c0 ≤ 12) : ∀ (m t : Nat) (c : mS), t + m = mT c0 → k7 c c0 → tb c0 z t c → tb c0 z (mT c0) (poR z m t c) ∧ k7 (poR z m t c) c0
  | 0, t, c, e, hk, h => by
    have : t = mT c0 := by omega
    subst this
    exact ⟨h, hk⟩
  | m + 1, t, c, e, hk, h => by
    rw [← tb_k hk] at h
    have h3 := off_sp (k7_rkd hk hc) (by omega) h
    rw [tb_k hk] at h3
    exact po_sp hc hT m (t + 1) _ (by omega) (off_k.tr hk) h3
theorem po_best {c : mS} {z : Nat} (hc : rkd c z) (hT : mT c ≤ 12) (h0 : ∀ m, m < 32 → c 72 m = 0) : k7 (poR z (mT c) 0 c) c ∧ ∃ p, pOK (cY9 c z) (cN c) (mT c) p ∧ poR z (mT c) 0 c 72 (2 ^ z - 1) = nI (pW (wc (cR c) (cB c)) p) ∧ ∀ q, pOK (cY9 c z) (cN c) (mT c) q → pW (wc (cR c) (cB c)) q ≤ pW (wc (cR c) (cB c)) p := by
  have hz := hc.1
  have h32 := bb_p z (by omega)
  have p1 : 1 ≤ 2 ^ z := Nat.one_le_two_pow
  obtain ⟨⟨f, f1, f2⟩, k⟩ := po_sp hc hT (mT c) 0 c (by omega) (fun _ _ _ => rfl) ⟨fun _ => 0, fun m hm => h0 m (by omega), fun m hm => ⟨⟨fun _ => 12, fun i hi => Or.inl rfl, fun i hi w => absurd rfl w, by
    show 0 = wc (cR c) (cB c) 0 12 + wc (cR c) (cB c) 1 12 + wc (cR c) (cB c) 2 12 + wc (cR c) (cB c) 3 12 + wc (cR c) (cB c) 4 12
    simp only [wc_12]⟩, fun p hp hs => by
    have e : ∀ i, i < 5 → p i = (fun _ => 12) i := fun i hi => by
      rcases hp i hi with q | q
      · exact q
      · exact absurd q.1 (Nat.not_lt_zero _)
    rw [pW_congr e]
    show wc (cR c) (cB c) 0 12 + wc (cR c) (cB c) 1 12 + wc (cR c) (cB c) 2 12 + wc (cR c) (cB c) 3 12 + wc (cR c) (cB c) 4 12 ≤ 0
    simp only [wc_12]
    exact Nat.le_refl _⟩⟩
  obtain ⟨⟨p, a1, a2, a3⟩, b⟩ := f2 (2 ^ z - 1) (by omega)
  refine ⟨k, p, a1, by rw [f1 _ (by omega), a3], fun q hq => ?_⟩
  rw [← a3]
  refine b q hq (fun i hi hn => ?_)
  rcases hq i hi with w | w
  · exact absurd w hn
  · exact bb_full z (by omega) i w.2.1.1
theorem nI_div {x : Nat} (h : x < 2 ^ 31) : nI x / 13 = nI (x / 13) := by
  refine Int32.toInt_inj.mp ?_
  rw [Int32.toInt_div_of_ne_right _ _ (by decide), nI_toInt h, nI_toInt (by omega), show (13 : Int32).toInt = 13 from by decide]
  rfl
theorem dv_n : ∀ (m x : Nat), x < 2 ^ 31 → c_dv m (nI x) = nI (dv m x) ∧ dv m x < 2 ^ 31
  | 0, x, h => ⟨rfl, h⟩
  | m + 1, x, h => by
    show c_dv m (nI x / 13) = nI (dv m (x / 13)) ∧ dv m (x / 13) < 2 ^ 31
    rw [nI_div h]
    exact dv_n m (x / 13) (by omega)
theorem dig_n {n k : Nat} (h : n < 2 ^ 31) (hk : n % 13 = 12 - k) (hl : k ≤ 12) : c_dig (nI n) = en k := by
  unfold c_dig
  have e : nI n - nI n / 13 * 13 = nI (12 - k) := by
    rw [nI_div h, show (13 : Int32) = nI 13 from rfl, pk_mul, nI_sub (by omega)]
    exact congrArg nI (by omega)
  rw [e]
  by_cases q : k = 12
  · subst q
    rw [cif_t (by decide), en_12]
  · rw [cif_f (fun w => by rw [nI_z0 (by omega)] at w; omega), en_n (by omega), show (12 : Int32) = nI 12 from rfl, nI_sub (by omega)]
    exact congrArg nI (by omega)
theorem tr_n {u : mS} {z i : Nat} {r : Nat → Nat} {sb : Nat → Nat → Nat} {p : Nat → Nat} (hs : ∀ i t, sb i t ≤ 1) (hi : i < 5) (hl : p i ≤ 12) (h : u 72 (2 ^ z - 1) = nI (pW (wc r sb) p)) : c_tr u z i = en (p i) := by
  unfold c_tr
  rw [h]
  have l := pW_lt (r := r) hs p
  obtain ⟨d1, d2⟩ := dv_n (4 - i) (pW (wc r sb) p) (by omega)
  rw [d1]
  exact dig_n d2 (dv_at hi) hl
