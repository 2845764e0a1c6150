/-! the numbers that both hold alike -/
def SF : List Nat := [1, 2, 3, 4, 5, 6, 7, 8, 9, 10, 11, 13, 14, 18, 23, 24, 25, 26, 27, 28, 29, 30, 31, 32]
def R0 (s c : mS) : Prop := ∀ j, j ∈ SF → c j = s j
theorem R0.set {s c : mS} (h : R0 s c) (j i : Nat) (v : Int32) : R0 (m_set s j i v) (m_set c j i v) := fun a ha => by
  funext b
  show (if a = j ∧ b = i then v else c a b) = (if a = j ∧ b = i then v else s a b)
  rw [h a ha]
theorem R0.setL {s c : mS} (h : R0 s c) {j : Nat} (i : Nat) (v : Int32) (hj : j ∉ SF) : R0 (m_set s j i v) c := fun a ha => by
  have hne : a ≠ j := fun e => hj (by rw [← e]; exact ha)
  rw [m_set_ne _ _ _ hne]
  exact h a ha
theorem R0.setR {s c : mS} (h : R0 s c) {j : Nat} (i : Nat) (v : Int32) (hj : j ∉ SF) : R0 s (m_set c j i v) := fun a ha => by
  have hne : a ≠ j := fun e => hj (by rw [← e]; exact ha)
  rw [m_set_ne _ _ _ hne]
  exact h a ha
theorem R0.K {s c : mS} (h : R0 s c) : mK s = mK c := by unfold mK; rw [h 1 (by decide)]
theorem R0.T {s c : mS} (h : R0 s c) : mT s = mT c := by unfold mT; rw [h 5 (by decide)]
theorem R0.B {s c : mS} (h : R0 s c) : mB s = mB c := by unfold mB; rw [h 8 (by decide)]
theorem R0.P {s c : mS} (h : R0 s c) : mP s = mP c := by unfold mP; rw [h 13 (by decide)]
theorem R0.A {s c : mS} (h : R0 s c) : mA s = mA c := by unfold mA; rw [h 23 (by decide)]
def Lk (s c : mS) : Prop := R0 s c ∧ (∀ a, a < mA c → c 24 a = 4 → c 33 a = s 33 a) ∧ (∀ i, i < mP c → c 12 i = s 12 i &&& 255) ∧ (∀ k, k < 8 → c 15 k = s_want s k)
theorem Lk.mk {s c s' c' : mS} (h : Lk s c) (r : R0 s' c') (a1 : c' 33 = c 33) (a2 : s' 33 = s 33) (b1 : c' 12 = c 12) (b2 : s' 12 = s 12) (b3 : c' 13 = c 13) (d1 : c' 15 = c 15) (d2 : s' 15 = s 15) (d3 : s' 14 = s 14) (h24 : ∀ a, a < mA c' → c' 24 a = 4 → a < mA c ∧ c 24 a = 4) : Lk s' c' := by
  refine ⟨r, fun a ha q => ?_, fun i hi => ?_, fun k hk => ?_⟩
  · obtain ⟨q1, q2⟩ := h24 a ha q
    rw [a1, a2]
    exact h.2.1 a q1 q2
  · rw [b1, b2]
    refine h.2.2.1 i ?_
    unfold mP at hi ⊢
    rw [b3] at hi
    exact hi
  · rw [d1, h.2.2.2 k hk]
    unfold s_want
    rw [d2, d3]
theorem Lk.z {s c : mS} (h : Lk s c) : Lk (m_set s 0 0 0) c := h.mk (h.1.setL 0 0 (by decide)) rfl rfl rfl rfl rfl rfl rfl rfl (fun _ ha q => ⟨ha, q⟩)
theorem Lk.y {s c : mS} (v : Int32) (h : Lk s c) : Lk (m_set s 0 0 v) c := h.mk (h.1.setL 0 v (by decide)) rfl rfl rfl rfl rfl rfl rfl rfl (fun _ ha q => ⟨ha, q⟩)
/-! counts -/
theorem ct_congr {p q : Nat → Prop} : ∀ {n : Nat}, (∀ a, a < n → (p a ↔ q a)) → ct p n = ct q n
  | 0, _ => rfl
  | n + 1, h => by
    have ih := ct_congr (p := p) (q := q) (n := n) (fun a ha => h a (by omega))
    by_cases w : p n
    · rw [ct_t w, ct_t ((h n (by omega)).mp w), ih]
    · rw [ct_f w, ct_f (fun z => w ((h n (by omega)).mpr z)), ih]
theorem ct_up {p q : Nat → Prop} {i : Nat} (hp : ¬ p i) (hq : q i) : ∀ {n : Nat}, i < n → (∀ a, a < n → a ≠ i → (p a ↔ q a)) → ct q n = ct p n + 1
  | 0, h, _ => absurd h (Nat.not_lt_zero _)
  | n + 1, h, e => by
    by_cases w : i = n
    · subst w
      rw [ct_t hq, ct_f hp, ct_congr (p := q) (q := p) (fun a ha => (e a (by omega) (by omega)).symm)]
    · have ih := ct_up hp hq (n := n) (by omega) (fun a ha hb => e a (by omega) hb)
      by_cases z : p n
      · rw [ct_t z, ct_t ((e n (by omega) (fun y => w y.symm)).mp z), ih]
      · rw [ct_f z, ct_f (fun y => z ((e n (by omega) (fun y => w y.symm)).mpr y)), ih]
theorem ct_dis {p q : Nat → Prop} : ∀ {n : Nat}, (∀ a, a < n → p a → ¬ q a) → ct p n + ct q n ≤ n
  | 0, _ => Nat.le_refl _
  | n + 1, h => by
    have ih := ct_dis (p := p) (q := q) (n := n) (fun a ha => h a (by omega))
    by_cases w : p n
    · rw [ct_t w, ct_f (h n (by omega) w)]; omega
    · rw [ct_f w]
      by_cases z : q n
      · rw [ct_t z]; omega
      · rw [ct_f z]; omega
theorem ct_0 {p : Nat → Prop} {n : Nat} (h : ∀ a, a < n → ¬ p a) : ct p n = 0 := by
  have := ct_dis (p := p) (q := fun _ => True) (n := n) (fun a ha q _ => h a ha q)
  have e : ∀ m, ct (fun _ => True) m = m := fun m => by
    induction m with
    | zero => rfl
    | succ m ih => rw [ct_t trivial, ih]
  rw [e] at this
  omega
/-! what holds of the class's numbers all the time -/
def i_day (c : mS) : Prop := ∃ N, N ≤ 5000 ∧ c 11 0 = nI N
def i_care (c : mS) : Prop := ∀ k, k < mK c → ∃ q, q ≤ 5 ∧ c 2 k = nI q
def i_ask (c : mS) : Prop := ∀ a, a < mA c → ∃ f l r, c 30 a = nI f ∧ c 31 a = nI l ∧ c 32 a = nI r ∧ f ≤ l ∧ l ≤ f + 14 ∧ l ≤ 5060 ∧ r ≤ 2
def i_look (c : mS) : Prop := ∀ t, t < mT c → c 7 t = -1 ∨ ∃ q, c 7 t = nI q ∧ q ≤ ix (c 11 0)
def i_law (c : mS) : Prop := ∃ q, q ≤ 20 ∧ c 14 0 = nI q
def i_owe (c : mS) : Prop := ∀ m, m < mB c → ∃ o, c 9 m = nI o ∧ o ≤ 10100 * ct (fun a => c 24 a = 4) (mA c)
def i_pend (c : mS) : Prop := ct (fun a => c 24 a = 0) (mA c) ≤ 5
def i_zero (c : mS) : Prop := (∀ a, mA c ≤ a → c 26 a = 0) ∧ (∀ m, mB c ≤ m → c 9 m = 0 ∧ c 10 m = 0)
def i_nb (c : mS) : Prop := ∀ a b, a < mA c → b < mA c → a ≠ b → c 24 a = 1 → c 24 b = 1 → c 25 a = c 25 b → ¬ c_rn c a b (s_care c (c 25 a))
def i_out (c : mS) : Prop := ∀ t a, t < mT c → a < mA c → (c 51 t = nI a ↔ (c 24 a = 3 ∧ c 25 a = nI t))
def i_back (c : mS) : Prop := (∀ b, b < mA c → c 24 b = 4 → (∃ d, c 33 b = nI d ∧ d ≤ ix (c 11 0)) ∧ (c 25 b = nI (ix (c 25 b)) ∧ ix (c 25 b) < mT c)) ∧ ∀ t, t < mT c → (∀ b, b < mA c → c 24 b = 4 → c 25 b = nI t → c 33 b ≤ c 50 t) ∧ (c 50 t = -1 ∨ ∃ b, b < mA c ∧ c 24 b = 4 ∧ c 25 b = nI t ∧ c 33 b = c 50 t)
def i_aout (c : mS) : Prop := ∀ m, m < mB c → c 52 m = nI (ct (fun a => c 24 a = 3 ∧ c 27 a = nI m) (mA c))
def i_log (c : mS) : Prop := mL c = ct (fun a => c 24 a = 2) (mA c) ∧ (∀ i, i < mL c → c 24 (ix (c 80 i)) = 2) ∧ (∀ i j, i < mL c → j < mL c → c 80 i = c 80 j → i = j) ∧ (∀ b, b < mA c → c 24 b = 2 → ∃ i, i < mL c ∧ c 80 i = nI b) ∧ (∀ i j, i < j → j < mL c → c 31 (ix (c 80 i)) ≤ c 31 (ix (c 80 j)))
def i_wnt (c : mS) : Prop := ∀ k, mK c ≤ k → k < 8 → c 15 k = -1
def Inv (c : mS) : Prop := c_inv c ∧ i_day c ∧ i_care c ∧ i_ask c ∧ i_look c ∧ i_law c ∧ i_owe c ∧ i_pend c ∧ i_zero c ∧ i_nb c ∧ i_out c ∧ i_back c ∧ i_aout c ∧ i_log c ∧ i_wnt c
theorem i_day_eq {c c' : mS} (e11 : c' 11 = c 11) (h : i_day c) : i_day c' := by
  unfold i_day  at *
  simp only [e11]
  exact h
theorem i_care_eq {c c' : mS} (e1 : c' 1 = c 1) (e2 : c' 2 = c 2) (h : i_care c) : i_care c' := by
  unfold i_care mK at *
  simp only [e1, e2]
  exact h
theorem i_ask_eq {c c' : mS} (e23 : c' 23 = c 23) (e30 : c' 30 = c 30) (e31 : c' 31 = c 31) (e32 : c' 32 = c 32) (h : i_ask c) : i_ask c' := by
  unfold i_ask mA at *
  simp only [e23, e30, e31, e32]
  exact h
theorem i_look_eq {c c' : mS} (e5 : c' 5 = c 5) (e7 : c' 7 = c 7) (e11 : c' 11 = c 11) (h : i_look c) : i_look c' := by
  unfold i_look mT at *
  simp only [e5, e7, e11]
  exact h
theorem i_law_eq {c c' : mS} (e14 : c' 14 = c 14) (h : i_law c) : i_law c' := by
  unfold i_law  at *
  simp only [e14]
  exact h
theorem i_owe_eq {c c' : mS} (e8 : c' 8 = c 8) (e9 : c' 9 = c 9) (e24 : c' 24 = c 24) (e23 : c' 23 = c 23) (h : i_owe c) : i_owe c' := by
  unfold i_owe mB mA at *
  simp only [e8, e9, e24, e23]
  exact h
theorem i_pend_eq {c c' : mS} (e24 : c' 24 = c 24) (e23 : c' 23 = c 23) (h : i_pend c) : i_pend c' := by
  unfold i_pend mA at *
  simp only [e24, e23]
  exact h
theorem i_zero_eq {c c' : mS} (e23 : c' 23 = c 23) (e26 : c' 26 = c 26) (e8 : c' 8 = c 8) (e9 : c' 9 = c 9) (e10 : c' 10 = c 10) (h : i_zero c) : i_zero c' := by
  unfold i_zero mA mB at *
  simp only [e23, e26, e8, e9, e10]
  exact h
theorem i_nb_eq {c c' : mS} (e23 : c' 23 = c 23) (e24 : c' 24 = c 24) (e25 : c' 25 = c 25) (e30 : c' 30 = c 30) (e31 : c' 31 = c 31) (e6 : c' 6 = c 6) (e2 : c' 2 = c 2) (h : i_nb c) : i_nb c' := by
  unfold i_nb c_rn s_care mA at *
  simp only [e23, e24, e25, e30, e31, e6, e2]
  exact h
theorem i_out_eq {c c' : mS} (e5 : c' 5 = c 5) (e23 : c' 23 = c 23) (e24 : c' 24 = c 24) (e25 : c' 25 = c 25) (e51 : c' 51 = c 51) (h : i_out c) : i_out c' := by
  unfold i_out mT mA at *
  simp only [e5, e23, e24, e25, e51]
  exact h
theorem i_back_eq {c c' : mS} (e23 : c' 23 = c 23) (e24 : c' 24 = c 24) (e25 : c' 25 = c 25) (e33 : c' 33 = c 33) (e11 : c' 11 = c 11) (e5 : c' 5 = c 5) (e50 : c' 50 = c 50) (h : i_back c) : i_back c' := by
  unfold i_back mA mT at *
  simp only [e23, e24, e25, e33, e11, e5, e50]
  exact h
theorem i_aout_eq {c c' : mS} (e8 : c' 8 = c 8) (e23 : c' 23 = c 23) (e24 : c' 24 = c 24) (e27 : c' 27 = c 27) (e52 : c' 52 = c 52) (h : i_aout c) : i_aout c' := by
  unfold i_aout mB mA at *
  simp only [e8, e23, e24, e27, e52]
  exact h
theorem i_log_eq {c c' : mS} (e81 : c' 81 = c 81) (e24 : c' 24 = c 24) (e23 : c' 23 = c 23) (e80 : c' 80 = c 80) (e31 : c' 31 = c 31) (h : i_log c) : i_log c' := by
  unfold i_log mL mA at *
  simp only [e81, e24, e23, e80, e31]
  exact h
theorem i_wnt_eq {c c' : mS} (e1 : c' 1 = c 1) (e15 : c' 15 = c 15) (h : i_wnt c) : i_wnt c' := by
  unfold i_wnt mK at *
  simp only [e1, e15]
  exact h
