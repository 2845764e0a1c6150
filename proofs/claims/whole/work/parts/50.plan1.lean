/-! the reference's search -/
def en (n : Nat) : Int32 := if n = 12 then -1 else nI n
theorem en_12 : en 12 = -1 := if_pos rfl
theorem en_n {n : Nat} (h : n < 12) : en n = nI n := if_neg (by omega)
theorem en_eq {n t : Nat} (hn : n ≤ 12) (ht : t < 12) : en n = nI t ↔ n = t := by
  by_cases h : n = 12
  · subst h
    rw [en_12]
    exact ⟨fun q => absurd q.symm (oI_ne (by omega)), fun q => by omega⟩
  · rw [en_n (by omega)]
    exact nI_eq (by omega) (by omega)
theorem en_m1 {n : Nat} (hn : n ≤ 12) : en n = -1 ↔ n = 12 := by
  by_cases h : n = 12
  · subst h
    exact ⟨fun _ => rfl, fun _ => en_12⟩
  · rw [en_n (by omega)]
    exact ⟨fun q => absurd q (oI_ne (by omega)), fun q => absurd q h⟩
def up (p : Nat → Nat) (i t : Nat) : Nat → Nat := fun j => if j = i then t else p j
theorem up_s (p : Nat → Nat) (i t : Nat) : up p i t i = t := if_pos rfl
theorem up_n (p : Nat → Nat) {i j : Nat} (t : Nat) (h : j ≠ i) : up p i t j = p j := if_neg h
def psum (f : Nat → Nat) : Nat → Nat
  | 0 => 0
  | n + 1 => psum f n + f n
theorem psum_5 {f : Nat → Nat} {n : Nat} (hn : n ≤ 5) (h : ∀ i, n ≤ i → i < 5 → f i = 0) : psum f n = sm5 f := by
  unfold sm5
  match n, hn with
  | 0, _ => rw [h 0 (by omega) (by omega), h 1 (by omega) (by omega), h 2 (by omega) (by omega), h 3 (by omega) (by omega), h 4 (by omega) (by omega)]; rfl
  | 1, _ => rw [h 1 (by omega) (by omega), h 2 (by omega) (by omega), h 3 (by omega) (by omega), h 4 (by omega) (by omega)]; show 0 + f 0 = _; omega
  | 2, _ => rw [h 2 (by omega) (by omega), h 3 (by omega) (by omega), h 4 (by omega) (by omega)]; show 0 + f 0 + f 1 = _; omega
  | 3, _ => rw [h 3 (by omega) (by omega), h 4 (by omega) (by omega)]; show 0 + f 0 + f 1 + f 2 = _; omega
  | 4, _ => rw [h 4 (by omega) (by omega)]; show 0 + f 0 + f 1 + f 2 + f 3 = _; omega
  | 5, _ => show 0 + f 0 + f 1 + f 2 + f 3 + f 4 = _; omega
def skp (s0 s : mS) : Prop := ∀ a b, a ≠ 36 → a ≠ 37 → a ≠ 38 → s a b = s0 a b
def mY (s0 : mS) (i t : Nat) : Prop := i < mQ s0 ∧ t < mT s0 ∧ ¬ s0 39 (12 * i + t) = 0
noncomputable def rK (s0 : mS) (i : Nat) : Nat := ix (s0 32 (ix (s0 34 i)))
noncomputable def sB (s0 : mS) (i t : Nat) : Nat := cif (s0 6 t = s0 28 (ix (s0 34 i))) 0 1
theorem sB_le (s0 : mS) (i t : Nat) : sB s0 i t ≤ 1 := by
  unfold sB
  by_cases h : s0 6 t = s0 28 (ix (s0 34 i))
  · rw [cif_t h]; decide
  · rw [cif_f h]; decide
def stc (s0 : mS) : Prop := mQ s0 ≤ 5 ∧ mT s0 ≤ 12 ∧ ∀ i, i < mQ s0 → ∃ r, r ≤ 2 ∧ s0 32 (ix (s0 34 i)) = nI r
theorem pW_vr_lt {r : Nat → Nat} {sb : Nat → Nat → Nat} (hs : ∀ i t, sb i t ≤ 1) (p : Nat → Nat) : pW (vr r sb) p < 60000 := by
  obtain ⟨a0, b0, c0, u0, k0, l0, m0, n0⟩ := v_all (r := r) hs p
  omega
theorem w_rk_n {s0 s : mS} {i : Nat} (h0 : stc s0) (hs : skp s0 s) (hi : i < mQ s0) : w_rk s i = nI (kr (rK s0 i)) := by
  obtain ⟨r, r2, er⟩ := h0.2.2 i hi
  unfold w_rk rK
  rw [hs 34 i (by decide) (by decide) (by decide), hs 32 _ (by decide) (by decide) (by decide), er, ix_nI (by omega)]
  unfold kr
  match r, r2 with
  | 0, _ => rw [cif_f (by decide), cif_f (by decide)]; decide
  | 1, _ => rw [cif_f (by decide), cif_t (by decide)]; decide
  | 2, _ => rw [cif_t (by decide)]; decide
theorem w_sb_n {s0 s : mS} {i t : Nat} (hs : skp s0 s) (ht : t < 12) (e : s 36 i = nI t) : w_sb s i = nI (sB s0 i t) := by
  unfold w_sb sB
  rw [e, ix_nI (by omega), hs 34 i (by decide) (by decide) (by decide), hs 28 _ (by decide) (by decide) (by decide), hs 6 _ (by decide) (by decide) (by decide)]
  by_cases h : s0 6 t = s0 28 (ix (s0 34 i))
  · rw [cif_t h, cif_t h]; decide
  · rw [cif_f h, cif_f h]; decide
theorem wor_n {s0 s : mS} {p : Nat → Nat} (h0 : stc s0) (hs : skp s0 s) (hp : ∀ j, j < mQ s0 → s 36 j = en (p j)) (hl : ∀ j, j < mQ s0 → p j ≤ 12) : ∀ n, n ≤ mQ s0 → s_wor s n = nI (psum (fun i => vr (rK s0) (sB s0) i (p i)) n)
  | 0, _ => by show (0 : Int32) = nI 0; decide
  | n + 1, hn => by
    have ih := wor_n h0 hs hp hl n (by omega)
    show cif _ _ _ = nI (psum (fun i => vr (rK s0) (sB s0) i (p i)) n + vr (rK s0) (sB s0) n (p n))
    have e := hp n (by omega)
    have l := hl n (by omega)
    by_cases h : p n = 12
    · rw [cif_t (by rw [e, h]; exact en_12), ih, h]
      have : vr (rK s0) (sB s0) n 12 = 0 := if_neg (by decide)
      rw [this]; rfl
    · have lt : p n < 12 := by omega
      rw [cif_f (by rw [e, en_n lt]; exact oI_ne (by omega)), ih, w_rk_n h0 hs (by omega), w_sb_n hs lt (by rw [e, en_n lt])]
      have e2 : vr (rK s0) (sB s0) n (p n) = kr (rK s0 n) - sB s0 n (p n) := if_pos lt
      have b1 := sB_le s0 n (p n)
      have b2 : 1 ≤ kr (rK s0 n) := by
        unfold kr
        split
        · decide
        · split <;> decide
      rw [nI_add, nI_sub (by omega), e2]
      exact congrArg nI (by omega)
def pC (s0 : mS) (i : Nat) (p q : Nat → Nat) : Prop := (∀ j, j < i → q j = p j) ∧ pOK (mY s0) (s_rn s0) 12 q
def pvd (s0 : mS) (i : Nat) (p : Nat → Nat) : Prop := ∀ j, j < i → p j = 12 ∨ (p j < 12 ∧ mY s0 j (p j) ∧ ∀ l, l < j → p l = p j → ¬ s_rn s0 j l (p j))
def Lx (i : Nat) (q p : Nat → Nat) : Prop := ∃ j, j < i ∧ (∀ l, l < j → q l = p l) ∧ q j < p j
def Hs (s0 : mS) (X : (Nat → Nat) → Prop) (s : mS) : Prop := (s 38 0 = -1 ∧ ∀ q, ¬ X q) ∨ ∃ p, X p ∧ s 38 0 = nI (pW (vr (rK s0) (sB s0)) p) ∧ (∀ j, j < mQ s0 → s 37 j = en (p j)) ∧ ∀ q, X q → pW (vr (rK s0) (sB s0)) q < pW (vr (rK s0) (sB s0)) p ∨ (pW (vr (rK s0) (sB s0)) q = pW (vr (rK s0) (sB s0)) p ∧ pW dg q ≤ pW dg p)
theorem Hs_iff {s0 : mS} {X X' : (Nat → Nat) → Prop} {s : mS} (e : ∀ q, X q ↔ X' q) (h : Hs s0 X s) : Hs s0 X' s := by
  have : X = X' := funext fun q => propext (e q)
  rw [← this]; exact h
theorem Lx_dg {i : Nat} {q p : Nat → Nat} (hi : i ≤ 5) (hp : ∀ j, j < 5 → p j ≤ 12) (hq : ∀ j, j < 5 → q j ≤ 12) (h : Lx i q p) : pW dg p < pW dg q := by
  obtain ⟨j, h1, h2, h3⟩ := h
  rw [dg_eq, dg_eq]
  have p0 := hp 0 (by decide)
  have p1 := hp 1 (by decide)
  have p2 := hp 2 (by decide)
  have p3 := hp 3 (by decide)
  have p4 := hp 4 (by decide)
  have hj : j < 5 := by omega
  match j, hj, h2, h3 with
  | 0, _, h2, h3 => omega
  | 1, _, h2, h3 => have a0 := h2 0 (by decide); omega
  | 2, _, h2, h3 => have a0 := h2 0 (by decide); have a1 := h2 1 (by decide); omega
  | 3, _, h2, h3 => have a0 := h2 0 (by decide); have a1 := h2 1 (by decide); have a2 := h2 2 (by decide); omega
  | 4, _, h2, h3 => have a0 := h2 0 (by decide); have a1 := h2 1 (by decide); have a2 := h2 2 (by decide); have a3 := h2 3 (by decide); omega
theorem pW_congr {w : Nat → Nat → Nat} {p q : Nat → Nat} (h : ∀ j, j < 5 → p j = q j) : pW w p = pW w q := sm5_congr (fun i hi => by rw [h i hi])
theorem pOK_le {my : Nat → Nat → Prop} {nr : Nat → Nat → Nat → Prop} {p : Nat → Nat} (h : pOK my nr 12 p) : ∀ i, i < 5 → p i ≤ 12 := fun i hi => by rcases h i hi with q | q <;> omega
theorem s_cpb_at (w : mS) : ∀ n j, j < n → s_cpb w n 37 j = w 36 j
  | n + 1, j, hj => by
    show m_set (s_cpb w n) 37 n (w 36 n) 37 j = _
    by_cases e : j = n
    · subst e; exact m_set_at _ _ _ _
    · rw [ms_ne e]; exact s_cpb_at w n j (by omega)
theorem m1_lt {n : Nat} (h : n < 2 ^ 31) : (-1 : Int32) < nI n := Int32.lt_iff_toInt_lt.mpr (by rw [nI_toInt h, show (-1 : Int32).toInt = -1 from by decide]; omega)
set_option maxHeartbeats 1000000 in
theorem leaf_H {s0 s : mS} {p : Nat → Nat} {X : (Nat → Nat) → Prop} (h0 : stc s0) (hs : skp s0 s) (hp : ∀ j, j < mQ s0 → s 36 j = en (p j)) (hv : pvd s0 (mQ s0) p) (hH : Hs s0 X s) (hX : ∀ q, X q → pOK (mY s0) (s_rn s0) 12 q ∧ Lx (mQ s0) q p) : Hs s0 (fun q => X q ∨ pC s0 (mQ s0) p q) (s_leaf s) := by
  obtain ⟨pz, epz⟩ : ∃ pz : Nat → Nat, pz = fun j => if j < mQ s0 then p j else 12 := ⟨_, rfl⟩
  have z1 : ∀ j, j < mQ s0 → pz j = p j := fun j hj => by rw [epz]; exact if_pos hj
  have z2 : ∀ j, mQ s0 ≤ j → pz j = 12 := fun j hj => by rw [epz]; exact if_neg (by omega)
  have ok : pOK (mY s0) (s_rn s0) 12 pz := fun j hj => by
    by_cases e : j < mQ s0
    · rw [z1 j e]
      rcases hv j e with y | ⟨y1, y2, y3⟩
      · exact Or.inl y
      · exact Or.inr ⟨y1, y2, fun l hl el => y3 l hl (by rw [← z1 l (by omega)]; exact el)⟩
    · exact Or.inl (z2 j (by omega))
  have cz : pC s0 (mQ s0) p pz := ⟨z1, ok⟩
  have cq : ∀ q, pC s0 (mQ s0) p q → ∀ j, j < 5 → q j = pz j := fun q hq j hj => by
    by_cases e : j < mQ s0
    · rw [z1 j e]; exact hq.1 j e
    · rw [z2 j (by omega)]
      rcases hq.2 j hj with y | y
      · exact y
      · exact absurd y.2.1.1 e
  have ew : s_wor s (mQ s) = nI (pW (vr (rK s0) (sB s0)) pz) := by
    have eQ : mQ s = mQ s0 := by unfold mQ; rw [hs 35 0 (by decide) (by decide) (by decide)]
    rw [eQ, wor_n (p := pz) h0 hs (fun j hj => by rw [z1 j hj]; exact hp j hj) (fun j hj => pOK_le ok j (by have := h0.1; omega)) _ (Nat.le_refl _), psum_5 h0.1 (fun i hi h5 => by
      show vr _ _ i (pz i) = 0
      rw [z2 i hi]; exact if_neg (by decide))]
    rfl
  have eQ : mQ s = mQ s0 := by unfold mQ; rw [hs 35 0 (by decide) (by decide) (by decide)]
  have bz := pW_vr_lt (r := rK s0) (sb := sB s0) (sB_le s0) pz
  unfold s_leaf
  rw [ew]
  by_cases hc : s 38 0 < nI (pW (vr (rK s0) (sB s0)) pz)
  · rw [cif_t hc]
    refine Or.inr ⟨pz, Or.inr cz, ?_, fun j hj => ?_, fun q hq => ?_⟩
    · rw [s_cpb_o _ (by decide)]; exact m_set_at _ _ _ _
    · rw [eQ, s_cpb_at _ _ _ hj, z1 j hj]
      exact hp j hj
    · rcases hq with hq | hq
      · rcases hH with y | ⟨p9, y1, y2, y3, y4⟩
        · exact absurd hq (y.2 q)
        · have b9 := pW_vr_lt (r := rK s0) (sb := sB s0) (sB_le s0) p9
          rw [y2, nI_ltI (by omega) (by omega)] at hc
          have := y4 q hq
          exact Or.inl (by omega)
      · exact Or.inr ⟨pW_congr (cq q hq), Nat.le_of_eq (pW_congr (cq q hq))⟩
  · rw [cif_f hc]
    rcases hH with y | ⟨p9, y1, y2, y3, y4⟩
    · exact absurd (by rw [y.1]; exact m1_lt (by omega)) hc
    · have b9 := pW_vr_lt (r := rK s0) (sb := sB s0) (sB_le s0) p9
      rw [y2, nI_ltI (by omega) (by omega)] at hc
      refine Or.inr ⟨p9, Or.inl y1, y2, y3, fun q hq => ?_⟩
      rcases hq with hq | hq
      · exact y4 q hq
      · rw [pW_congr (w := vr (rK s0) (sB s0)) (cq q hq), pW_congr (w := dg) (cq q hq)]
        have k1 := hX p9 y1
        obtain ⟨j, j1, j2, j3⟩ := k1.2
        have k2 : Lx (mQ s0) p9 pz := ⟨j, j1, fun l hl => by rw [z1 l (by omega)]; exact j2 l hl, by rw [z1 j j1]; exact j3⟩
        have k3 := Lx_dg h0.1 (pOK_le ok) (pOK_le k1.1) k2
        by_cases e : pW (vr (rK s0) (sB s0)) pz = pW (vr (rK s0) (sB s0)) p9
        · exact Or.inr ⟨e, by omega⟩
        · exact Or.inl (by omega)
theorem skp_keep {s0 s u : mS} {i : Nat} (hs : skp s0 s) (hk : s_keep i s u) : skp s0 u := fun a b q1 q2 q3 => (hk.1 a b q1 q2 q3).trans (hs a b q1 q2 q3)
theorem sta_iff {s0 s : mS} {p : Nat → Nat} {i t : Nat} (hs : skp s0 s) (hp : ∀ j, j < i → s 36 j = en (p j)) (hl : ∀ j, j < i → p j ≤ 12) (ht : t < 12) : s_sta s i t ↔ (¬ s0 39 (12 * i + t) = 0 ∧ ∀ j, j < i → p j = t → ¬ s_rn s0 i j t) := by
  unfold s_sta s_rn
  have e : ∀ a b, a ≠ 36 → a ≠ 37 → a ≠ 38 → s a b = s0 a b := hs
  rw [e 39 _ (by decide) (by decide) (by decide)]
  have e34 : ∀ b, s 34 b = s0 34 b := fun b => e 34 b (by decide) (by decide) (by decide)
  have e30 : ∀ b, s 30 b = s0 30 b := fun b => e 30 b (by decide) (by decide) (by decide)
  have e31 : ∀ b, s 31 b = s0 31 b := fun b => e 31 b (by decide) (by decide) (by decide)
  have e2 : ∀ b, s 2 b = s0 2 b := fun b => e 2 b (by decide) (by decide) (by decide)
  have e6 : ∀ b, s 6 b = s0 6 b := fun b => e 6 b (by decide) (by decide) (by decide)
  simp only [e34, e30, e31, e2, e6]
  refine ⟨fun q => ⟨q.1, fun j hj ej w => q.2 j hj ⟨by rw [hp j hj]; exact (en_eq (hl j hj) ht).mpr ej, w⟩⟩, fun q => ⟨q.1, fun j hj w => q.2 j hj ((en_eq (hl j hj) ht).mp (by rw [← hp j hj]; exact w.1)) w.2⟩⟩
theorem pvd_le {s0 : mS} {i : Nat} {p : Nat → Nat} (h : pvd s0 i p) : ∀ j, j < i → p j ≤ 12 := fun j hj => by rcases h j hj with q | q <;> omega
theorem pvd_up {s0 : mS} {i t : Nat} {p : Nat → Nat} (h : pvd s0 i p) (ht : t = 12 ∨ (t < 12 ∧ mY s0 i t ∧ ∀ l, l < i → p l = t → ¬ s_rn s0 i l t)) : pvd s0 (i + 1) (up p i t) := fun j hj => by
  by_cases e : j = i
  · subst e
    rw [up_s]
    refine ht.imp id (fun q => ⟨q.1, q.2.1, fun l hl el => q.2.2 l hl (by rw [up_n _ _ (by omega)] at el; exact el)⟩)
  · rw [up_n _ _ e]
    refine (h j (by omega)).imp id (fun q => ⟨q.1, q.2.1, fun l hl el => q.2.2 l hl (by rw [up_n _ _ (by omega)] at el; exact el)⟩)
theorem pC_up {s0 : mS} {i t : Nat} {p q : Nat → Nat} : pC s0 (i + 1) (up p i t) q ↔ (pC s0 i p q ∧ q i = t) := by
  refine ⟨fun h => ⟨⟨fun j hj => ?_, h.2⟩, ?_⟩, fun h => ⟨fun j hj => ?_, h.1.2⟩⟩
  · have := h.1 j (by omega); rw [up_n _ _ (by omega)] at this; exact this
  · have := h.1 i (by omega); rw [up_s] at this; exact this
  · by_cases e : j = i
    · subst e; rw [up_s]; exact h.2
    · rw [up_n _ _ e]; exact h.1.1 j (by omega)
theorem en_up {s : mS} {p : Nat → Nat} {i t : Nat} {v : Int32} (hp : ∀ j, j < i → s 36 j = en (p j)) (hv : v = en t) : ∀ j, j < i + 1 → m_set s 36 i v 36 j = en (up p i t j) := fun j hj => by
  by_cases e : j = i
  · subst e; rw [up_s, m_set_at]; exact hv
  · rw [ms_ne e, up_n _ _ e]; exact hp j (by omega)
set_option maxHeartbeats 1000000 in
theorem tr_H {s0 : mS} (h0 : stc s0) : ∀ d i, i + d = mQ s0 → ∀ s p X, skp s0 s → (∀ j, j < i → s 36 j = en (p j)) → pvd s0 i p → Hs s0 X s → (∀ q, X q → pOK (mY s0) (s_rn s0) 12 q ∧ Lx i q p) → Hs s0 (fun q => X q ∨ pC s0 i p q) (s_tr d i s)
  | 0, i, hd, s, p, X, hs, hp, hv, hH, hX => by
    have e : i = mQ s0 := by omega
    subst e
    exact leaf_H h0 hs hp hv hH hX
  | d + 1, i, hd, s, p, X, hs, hp, hv, hH, hX => by
    have ih := tr_H h0 d (i + 1) (by omega)
    have hT := h0.2.1
    have h5 := h0.1
    have eT : mT s = mT s0 := by unfold mT; rw [hs 5 0 (by decide) (by decide) (by decide)]
    have lp : ∀ t, t ≤ mT s0 → Hs s0 (fun q => X q ∨ (pC s0 i p q ∧ q i < t)) (s_lp (s_tr d (i + 1)) i t s) := by
      intro t
      induction t with
      | zero =>
        intro _
        exact Hs_iff (fun q => ⟨Or.inl, fun y => y.elim id (fun y => absurd y.2 (Nat.not_lt_zero _))⟩) hH
      | succ t iht =>
        intro ht
        have h1 := iht (by omega)
        have hk := s_lp_keep (i := i) (s_tr_keep d (i + 1)) t s
        have hsu : skp s0 (s_lp (s_tr d (i + 1)) i t s) := skp_keep hs hk
        have hpu : ∀ j, j < i → s_lp (s_tr d (i + 1)) i t s 36 j = en (p j) := fun j hj => (hk.2 j hj).trans (hp j hj)
        have hst := sta_iff (t := t) hsu hpu (pvd_le hv) (by omega)
        show Hs s0 _ (cif (s_sta (s_lp (s_tr d (i + 1)) i t s) i t) (s_tr d (i + 1) (m_set (s_lp (s_tr d (i + 1)) i t s) 36 i (nI t))) (s_lp (s_tr d (i + 1)) i t s))
        by_cases hc : s_sta (s_lp (s_tr d (i + 1)) i t s) i t
        · rw [cif_t hc]
          have hc2 := hst.mp hc
          have h2 := ih (m_set (s_lp (s_tr d (i + 1)) i t s) 36 i (nI t)) (up p i t) _ (skp_keep hsu s_keep.st) (en_up hpu (en_n (by omega)).symm) (pvd_up hv (Or.inr ⟨by omega, ⟨by omega, by omega, hc2.1⟩, hc2.2⟩)) (show Hs s0 (fun q => X q ∨ (pC s0 i p q ∧ q i < t)) (m_set (s_lp (s_tr d (i + 1)) i t s) 36 i (nI t)) from h1) (fun q hq => by
            rcases hq with hq | hq
            · obtain ⟨y, j, j1, j2, j3⟩ := hX q hq
              exact ⟨y, j, by omega, fun l hl => by rw [up_n _ _ (by omega)]; exact j2 l hl, by rw [up_n _ _ (by omega)]; exact j3⟩
            · exact ⟨hq.1.2, i, by omega, fun l hl => by rw [up_n _ _ (by omega)]; exact hq.1.1 l hl, by rw [up_s]; exact hq.2⟩)
          refine Hs_iff (fun q => ?_) h2
          rw [pC_up]
          refine ⟨fun y => ?_, fun y => ?_⟩
          · rcases y with (y | y) | y
            · exact Or.inl y
            · exact Or.inr ⟨y.1, by omega⟩
            · exact Or.inr ⟨y.1, by omega⟩
          · rcases y with y | y
            · exact Or.inl (Or.inl y)
            · by_cases e : q i = t
              · exact Or.inr ⟨y.1, e⟩
              · exact Or.inl (Or.inr ⟨y.1, by omega⟩)
        · rw [cif_f hc]
          refine Hs_iff (fun q => ⟨fun y => y.imp id (fun y => ⟨y.1, by omega⟩), fun y => y.imp id (fun y => ⟨y.1, ?_⟩)⟩) h1
          have : q i ≠ t := fun e => hc (hst.mpr (by
            rcases y.1.2 i (by omega) with z | ⟨z1, z2, z3⟩
            · omega
            · rw [e] at z2 z3
              exact ⟨z2.2.2, fun j hj ej => z3 j hj (by rw [y.1.1 j hj]; exact ej)⟩))
          omega
    have hk := s_lp_keep (i := i) (s_tr_keep d (i + 1)) (mT s) s
    have hsu : skp s0 (s_lp (s_tr d (i + 1)) i (mT s) s) := skp_keep hs hk
    have hpu : ∀ j, j < i → s_lp (s_tr d (i + 1)) i (mT s) s 36 j = en (p j) := fun j hj => (hk.2 j hj).trans (hp j hj)
    have h1 := lp (mT s) (by omega)
    show Hs s0 _ (s_tr d (i + 1) (m_set (s_lp (s_tr d (i + 1)) i (mT s) s) 36 i (-1)))
    have h2 := ih (m_set (s_lp (s_tr d (i + 1)) i (mT s) s) 36 i (-1)) (up p i 12) _ (skp_keep hsu s_keep.st) (en_up hpu en_12.symm) (pvd_up hv (Or.inl rfl)) (show Hs s0 (fun q => X q ∨ (pC s0 i p q ∧ q i < mT s)) (m_set (s_lp (s_tr d (i + 1)) i (mT s) s) 36 i (-1)) from h1) (fun q hq => by
      rcases hq with hq | hq
      · obtain ⟨y, j, j1, j2, j3⟩ := hX q hq
        exact ⟨y, j, by omega, fun l hl => by rw [up_n _ _ (by omega)]; exact j2 l hl, by rw [up_n _ _ (by omega)]; exact j3⟩
      · exact ⟨hq.1.2, i, by omega, fun l hl => by rw [up_n _ _ (by omega)]; exact hq.1.1 l hl, by rw [up_s]; omega⟩)
    refine Hs_iff (fun q => ?_) h2
    rw [pC_up]
    refine ⟨fun y => ?_, fun y => ?_⟩
    · rcases y with (y | y) | y
      · exact Or.inl y
      · exact Or.inr y.1
      · exact Or.inr y.1
    · rcases y with y | y
      · exact Or.inl (Or.inl y)
      · rcases y.2 i (by omega) with z | z
        · exact Or.inr ⟨y, z⟩
        · exact Or.inl (Or.inr ⟨y, by have := z.2.1.2.1; omega⟩)
/-- what the search leaves -/
theorem tr_best {s : mS} (h0 : stc s) (h38 : s 38 0 = -1) : ∃ p, pOK (mY s) (s_rn s) 12 p ∧ (∀ j, j < mQ s → s_tr (mQ s) 0 s 37 j = en (p j)) ∧ ∀ q, pOK (mY s) (s_rn s) 12 q → pW (vr (rK s) (sB s)) q < pW (vr (rK s) (sB s)) p ∨ (pW (vr (rK s) (sB s)) q = pW (vr (rK s) (sB s)) p ∧ pW dg q ≤ pW dg p) := by
  have h := tr_H h0 (mQ s) 0 (by omega) s (fun _ => 12) (fun _ => False) (fun _ _ _ _ _ => rfl) (fun j hj => absurd hj (Nat.not_lt_zero _)) (fun j hj => absurd hj (Nat.not_lt_zero _)) (Or.inl ⟨h38, fun _ q => q⟩) (fun q hq => hq.elim)
  rcases h with y | ⟨p, y1, y2, y3, y4⟩
  · exact absurd (Or.inr ⟨fun j hj => absurd hj (Nat.not_lt_zero _), fun i _ => Or.inl rfl⟩) (y.2 (fun _ => 12))
  · exact ⟨p, (y1.resolve_left id).2, y3, fun q hq => y4 q (Or.inr ⟨fun j hj => absurd hj (Nat.not_lt_zero _), hq⟩)⟩
