/-! the rows of both -/
theorem pd_inj {s : mS} {a b : Nat} (ha : s 24 a = 0) (hb : s 24 b = 0) (e : s_pd s a = s_pd s b) : a = b := by
  rcases Nat.lt_trichotomy a b with q | q | q
  · have h1 : s_pd s (a + 1) = s_pd s a + 1 := ct_t ha
    have h2 := pd_le s (show a + 1 ≤ b from q)
    omega
  · exact q
  · have h1 : s_pd s (b + 1) = s_pd s b + 1 := ct_t hb
    have h2 := pd_le s (show b + 1 ≤ a from q)
    omega
theorem pd_lt {s : mS} {a b : Nat} (ha : s 24 a = 0) (h : a < b) : s_pd s a < s_pd s b := by
  have h1 : s_pd s (a + 1) = s_pd s a + 1 := ct_t ha
  have h2 := pd_le s (show a + 1 ≤ b from h)
  omega
theorem pd_nth {s : mS} : ∀ n j, j < s_pd s n → ∃ b, b < n ∧ s 24 b = 0 ∧ s_pd s b = j := fun n j h => by
  obtain ⟨b, b1, _, b3, b4⟩ := pl_r_34 s n j h
  exact ⟨b, b1, b3, b4⟩
theorem pl_r34 {s : mS} {a b : Nat} (hb : b < a) (h0 : s 24 b = 0) : pl_r s a 34 (s_pd s b) = nI b := by
  obtain ⟨b', b1, b2, b3, b4⟩ := pl_r_34 s a (s_pd s b) (pd_lt h0 hb)
  rw [b2, pd_inj b3 h0 b4]
theorem pl_c_39 {s u : mS} {a q : Nat} : ∀ n, (∀ t, t < n → pl_c s u a q n 39 (12 * q + t) = b1 (s_may s a t)) ∧ ∀ x, x < 12 * q → pl_c s u a q n 39 x = u 39 x
  | 0 => ⟨fun t h => absurd h (Nat.not_lt_zero _), fun _ _ => rfl⟩
  | n + 1 => by
    have ih := pl_c_39 (s := s) (u := u) (a := a) (q := q) n
    refine ⟨fun t ht => ?_, fun x hx => ?_⟩
    · show m_set (pl_c s u a q n) 39 (12 * q + n) _ 39 (12 * q + t) = _
      by_cases e : t = n
      · subst e; exact m_set_at _ _ _ _
      · rw [ms_ne (by omega)]; exact ih.1 t (by omega)
    · show m_set (pl_c s u a q n) 39 (12 * q + n) _ 39 x = _
      rw [ms_ne (by omega)]; exact ih.2 x hx
theorem pl_r_39 {s : mS} (hT : mT s ≤ 12) : ∀ a b t, b < a → s 24 b = 0 → t < mT s → pl_r s a 39 (12 * s_pd s b + t) = b1 (s_may s b t)
  | 0, b, t, h, _, _ => absurd h (Nat.not_lt_zero _)
  | a + 1, b, t, h, h0, ht => by
    by_cases z : s 24 a = 0
    · have e : pl_r s (a + 1) = m_set (pl_c s (m_set (pl_r s a) 34 (s_pd s a) (nI a)) a (s_pd s a) (mT s)) 35 0 (nI (s_pd s a + 1)) := cif_t z
      rw [e, m_set_ne _ _ _ (by decide)]
      have sp := pl_c_39 (s := s) (u := m_set (pl_r s a) 34 (s_pd s a) (nI a)) (a := a) (q := s_pd s a) (mT s)
      by_cases q : b = a
      · subst q; exact sp.1 t ht
      · have l := pd_lt h0 (show b < a by omega)
        rw [sp.2 _ (by omega), m_set_ne _ _ _ (by decide)]
        exact pl_r_39 hT a b t (by omega) h0 ht
    · have e : pl_r s (a + 1) = pl_r s a := cif_f z
      rw [e]
      have : b ≠ a := fun q => z (by rw [← q]; exact h0)
      exact pl_r_39 hT a b t (by omega) h0 ht
theorem pr_sp {c0 : mS} : ∀ (m a : Nat) (c : mS), c 24 = c0 24 → a + m = mA c → s_pd c0 (a + m) ≤ 5 → c_inv c → c 71 0 = nI (s_pd c0 a) → (∀ b, b < a → c0 24 b = 0 → c 70 (s_pd c0 b) = nI b) → (∀ j, j ≠ 70 → j ≠ 71 → prR m a (s_pd c0 a) c j = c j) ∧ c_inv (prR m a (s_pd c0 a) c) ∧ prR m a (s_pd c0 a) c 71 0 = nI (s_pd c0 (a + m)) ∧ ∀ b, b < a + m → c0 24 b = 0 → prR m a (s_pd c0 a) c 70 (s_pd c0 b) = nI b
  | 0, a, c, h24, hm, h5, hi, h71, h70 => ⟨fun _ _ _ => rfl, hi, h71, h70⟩
  | m + 1, a, c, h24, hm, h5, hi, h71, h70 => by
    have eq : a + 1 + m = a + (m + 1) := by omega
    by_cases z : c 24 a = 0
    · have z0 : c0 24 a = 0 := by rw [← h24]; exact z
      have e1 : s_pd c0 (a + 1) = s_pd c0 a + 1 := ct_t z0
      have le := pd_le c0 (show a + 1 ≤ a + (m + 1) by omega)
      have e : prR (m + 1) a (s_pd c0 a) c = prR m (a + 1) (s_pd c0 (a + 1)) (m_set (m_set c 70 (s_pd c0 a) (nI a)) 71 0 (nI (s_pd c0 a + 1))) := by rw [e1]; exact cif_t z
      have ih := pr_sp (c0 := c0) m (a + 1) (m_set (m_set c 70 (s_pd c0 a) (nI a)) 71 0 (nI (s_pd c0 a + 1))) h24 (by show a + 1 + m = mA c; omega) (by rw [eq]; exact h5) (c_inv_psz (c_inv_row hi (by omega)) (by omega)) (by rw [e1]; exact m_set_at _ _ _ _) (fun b hb hb0 => by
        show m_set c 70 (s_pd c0 a) (nI a) 70 (s_pd c0 b) = nI b
        by_cases q : b = a
        · subst q; exact m_set_at _ _ _ _
        · have := pd_lt hb0 (show b < a by omega)
          rw [ms_ne (by omega)]; exact h70 b (by omega) hb0)
      rw [e]
      rw [eq] at ih
      exact ⟨fun j j1 j2 => (ih.1 j j1 j2).trans ((m_set_ne _ _ _ j2).trans (m_set_ne _ _ _ j1)), ih.2⟩
    · have z0 : ¬ c0 24 a = 0 := by rw [← h24]; exact z
      have e1 : s_pd c0 (a + 1) = s_pd c0 a := ct_f z0
      have e : prR (m + 1) a (s_pd c0 a) c = prR m (a + 1) (s_pd c0 (a + 1)) c := by rw [e1]; exact cif_f z
      have ih := pr_sp (c0 := c0) m (a + 1) c h24 (by omega) (by rw [eq]; exact h5) hi (by rw [e1]; exact h71) (fun b hb hb0 => by
        have : b ≠ a := fun q => z0 (by rw [← q]; exact hb0)
        exact h70 b (by omega) hb0)
      rw [e]
      rw [eq] at ih
      exact ih
/-! what holds after one is booked or refused -/
theorem ct_pos {p : Nat → Prop} {n a : Nat} (ha : a < n) (h : p a) : 1 ≤ ct p n := by
  have := ct_lt (p := p) (q := fun _ => False) (fun _ q => q.elim) ha h (fun q => q)
  omega
theorem inv_fix {c c' : mS} {a : Nat} {v w : Int32} (h : Inv c) (ha : a < mA c) (h0 : c 24 a = 0) (hw : w = 1 ∨ w = 2) (ho : ∀ j, j ≠ 24 → j ≠ 25 → j < 70 → c' j = c j) (n24 : ∀ b, b ≠ a → c' 24 b = c 24 b) (e24 : c' 24 a = w) (n25 : ∀ b, b ≠ a → c' 25 b = c 25 b) (e25 : c' 25 a = v) (hc : c_inv c') (hl : i_log c') (hk : w = 1 → ∀ b, b < mA c → b ≠ a → c 24 b = 1 → c 25 b = v → ¬ c_rn c a b (s_care c v)) : Inv c' := by
  obtain ⟨hC, hday, hcare, hask, hlook, hlaw, howe, hpend, hzero, hnb, hout, hback, haout, hlog, hwnt⟩ := id h
  obtain ⟨hI, hG, hgv, hov, hrw, hps⟩ := id hC
  obtain ⟨hK, hT, hB, hP9, hA, hkf, haf, hbf⟩ := id hI
  have hA2 := hA.2
  have hT2 := hT.2
  have hK2 := hK.2
  have hB2 := hB.2
  have hP2 := hP9.2
  have o := fun j (h1 : j ≠ 24) (h2 : j ≠ 25) (h3 : j < 70) => ho j h1 h2 h3
  have eA : mA c' = mA c := by unfold mA; rw [o 23 (by decide) (by decide) (by decide)]
  have eT : mT c' = mT c := by unfold mT; rw [o 5 (by decide) (by decide) (by decide)]
  have eB : mB c' = mB c := by unfold mB; rw [o 8 (by decide) (by decide) (by decide)]
  have nw : ∀ x : Int32, x ≠ 0 → x ≠ 1 → x ≠ 2 → ∀ b, c' 24 b = x ↔ c 24 b = x := fun x x0 x1 x2 b => by
    by_cases e : b = a
    · rw [e, e24, h0]
      refine ⟨fun q => ?_, fun q => absurd q.symm x0⟩
      rcases hw with q2 | q2
      · exact absurd (q.symm.trans q2) x1
      · exact absurd (q.symm.trans q2) x2
    · rw [n24 b e]
  have na : ∀ x : Int32, x ≠ 0 → ∀ b, c 24 b = x → b ≠ a := fun x x0 b q e => x0 (by rw [← q, e, h0])
  have rn : ∀ x y w, c_rn c' x y w ↔ c_rn c x y w := fun x y w => by
    unfold c_rn
    rw [o 30 (by decide) (by decide) (by decide), o 31 (by decide) (by decide) (by decide)]
  have ca : ∀ t, s_care c' t = s_care c t := fun t => by
    unfold s_care
    rw [o 2 (by decide) (by decide) (by decide), o 6 (by decide) (by decide) (by decide)]
  refine ⟨hc, i_day_eq (o 11 (by decide) (by decide) (by decide)) hday, i_care_eq (o 1 (by decide) (by decide) (by decide)) (o 2 (by decide) (by decide) (by decide)) hcare, i_ask_eq (o 23 (by decide) (by decide) (by decide)) (o 30 (by decide) (by decide) (by decide)) (o 31 (by decide) (by decide) (by decide)) (o 32 (by decide) (by decide) (by decide)) hask, i_look_eq (o 5 (by decide) (by decide) (by decide)) (o 7 (by decide) (by decide) (by decide)) (o 11 (by decide) (by decide) (by decide)) hlook, i_law_eq (o 14 (by decide) (by decide) (by decide)) hlaw, fun m hm => ?_, ?_, i_zero_eq (o 23 (by decide) (by decide) (by decide)) (o 26 (by decide) (by decide) (by decide)) (o 8 (by decide) (by decide) (by decide)) (o 9 (by decide) (by decide) (by decide)) (o 10 (by decide) (by decide) (by decide)) hzero, fun x y hx hy hxy q1 q2 q3 => ?_, fun t x ht hx => ?_, ?_, fun m hm => ?_, hl, i_wnt_eq (o 1 (by decide) (by decide) (by decide)) (o 15 (by decide) (by decide) (by decide)) hwnt⟩
  · rw [eB] at hm
    rw [o 9 (by decide) (by decide) (by decide), eA, ct_congr (fun b _ => nw 4 (by decide) (by decide) (by decide) b)]
    exact howe m hm
  · show ct (fun b => c' 24 b = 0) (mA c') ≤ 5
    rw [eA]
    refine Nat.le_trans (ct_le_of (fun b hb q => ?_)) hpend
    by_cases e : b = a
    · rw [e, e24] at q
      rcases hw with z | z <;> exact absurd (q.symm.trans z) (by decide)
    · rw [n24 b e] at q; exact q
  · rw [eA] at hx hy
    rw [rn, ca]
    by_cases ex : x = a
    · have ey : y ≠ a := fun e => hxy (by rw [ex, e])
      rw [ex, e24] at q1
      rw [ex, e25, n25 y ey] at q3
      rw [n24 y ey] at q2
      rw [ex, e25]
      exact hk q1 y hy ey q2 q3.symm
    · rw [n24 x ex] at q1
      rw [n25 x ex] at q3 ⊢
      by_cases ey : y = a
      · rw [ey, e24] at q2
        rw [ey, e25] at q3
        rw [ey, q3]
        exact fun z => hk q2 x hx ex q1 q3 (rn_symm.mp z)
      · rw [n24 y ey] at q2
        rw [n25 y ey] at q3
        exact hnb x y hx hy hxy q1 q2 q3
  · rw [eT] at ht
    rw [eA] at hx
    rw [o 51 (by decide) (by decide) (by decide), nw 3 (by decide) (by decide) (by decide) x]
    by_cases ex : x = a
    · rw [ex, h0]
      refine ⟨fun z => ?_, fun z => absurd z.1 (by decide)⟩
      have := ((hout t a ht ha).mp z).1
      rw [h0] at this
      exact absurd this (by decide)
    · rw [n25 x ex]; exact hout t x ht hx
  · obtain ⟨y1, y2⟩ := hback
    refine ⟨fun b hb q4 => ?_, fun u hu => ⟨fun b hb q4 q5 => ?_, ?_⟩⟩
    · rw [eA] at hb
      rw [nw 4 (by decide) (by decide) (by decide)] at q4
      rw [o 33 (by decide) (by decide) (by decide), o 11 (by decide) (by decide) (by decide), n25 b (na 4 (by decide) b q4), eT]
      exact y1 b hb q4
    · rw [eA] at hb
      rw [eT] at hu
      rw [nw 4 (by decide) (by decide) (by decide)] at q4
      rw [n25 b (na 4 (by decide) b q4)] at q5
      rw [o 33 (by decide) (by decide) (by decide), o 50 (by decide) (by decide) (by decide)]
      exact (y2 u hu).1 b hb q4 q5
    · rw [eT] at hu
      rw [o 50 (by decide) (by decide) (by decide), eA]
      rcases (y2 u hu).2 with z | ⟨b, b1, b2, b3, b4⟩
      · exact Or.inl z
      · exact Or.inr ⟨b, b1, (nw 4 (by decide) (by decide) (by decide) b).mpr b2, by rw [n25 b (na 4 (by decide) b b2)]; exact b3, by rw [o 33 (by decide) (by decide) (by decide)]; exact b4⟩
  · rw [eB] at hm
    rw [o 52 (by decide) (by decide) (by decide), eA, o 27 (by decide) (by decide) (by decide), ct_congr (fun b _ => and_congr_left' (nw 3 (by decide) (by decide) (by decide) b))]
    exact haout m hm
theorem log_bk {c : mS} {a : Nat} {v : Int32} (hl : i_log c) (h0 : c 24 a = 0) : i_log (m_set (m_set c 25 a v) 24 a 1) := by
  obtain ⟨l1, l2, l3, l4, l5⟩ := hl
  have n24 : ∀ b, m_set (m_set c 25 a v) 24 a 1 24 b = 2 ↔ c 24 b = 2 := fun b => by
    by_cases e : b = a
    · rw [e, m_set_at, h0]; decide
    · rw [ms_ne e]; rfl
  refine ⟨?_, fun i hi => (n24 _).mpr (l2 i hi), l3, fun b hb q => l4 b hb ((n24 b).mp q), l5⟩
  show mL c = ct _ (mA c)
  rw [ct_congr (fun b _ => n24 b)]
  exact l1
theorem c_at_sp (c : mS) (a : Nat) : ∀ m i, (∀ l, i ≤ l → l < c_at c a m i → c 31 (ix (c 80 l)) ≤ c 31 a) ∧ (c_at c a m i < i + m → ¬ c 31 (ix (c 80 (c_at c a m i))) ≤ c 31 a)
  | 0, i => ⟨fun l h1 h2 => absurd h1 (by have : c_at c a 0 i = i := rfl; omega), fun h => absurd h (by have : c_at c a 0 i = i := rfl; omega)⟩
  | m + 1, i => by
    by_cases h : c 31 (ix (c 80 i)) ≤ c 31 a
    · have e : c_at c a (m + 1) i = c_at c a m (i + 1) := cif_t h
      rw [e]
      have ih := c_at_sp c a m (i + 1)
      refine ⟨fun l h1 h2 => ?_, fun q => ih.2 (by omega)⟩
      by_cases q : l = i
      · rw [q]; exact h
      · exact ih.1 l (by omega) h2
    · have e : c_at c a (m + 1) i = i := cif_f h
      rw [e]
      exact ⟨fun l h1 h2 => by omega, fun _ => h⟩
set_option maxHeartbeats 1000000 in
theorem log_ref {c : mS} {a : Nat} (hc : c_inv c) (hl : i_log c) (ha : a < mA c) (h0 : c 24 a = 0) (hL : mL c < 120) : i_log (c_ref (m_set c 25 a (-1)) a) := by
  obtain ⟨l1, l2, l3, l4, l5⟩ := hl
  obtain ⟨hI, hG, hgv, hov, hrw, hps⟩ := id hc
  have hA2 := hI.2.2.2.2.1.2
  obtain ⟨P, eP⟩ : ∃ P, P = c_at (m_set (m_set c 25 a (-1)) 24 a 2) a (mL c) 0 := ⟨_, rfl⟩
  have pb := c_at_b (m_set (m_set c 25 a (-1)) 24 a 2) a (mL c) 0
  have ps := c_at_sp (m_set (m_set c 25 a (-1)) 24 a 2) a (mL c) 0
  rw [← eP] at pb ps
  have e80 : ∀ i, c_ref (m_set c 25 a (-1)) a 80 i = if i < P then c 80 i else if i = P then nI a else c 80 (i - 1) := fun i => by
    unfold c_ref
    rw [c_lg_80, show mL (m_set c 25 a (-1)) = mL c from rfl, ← eP]
    rfl
  have x1 : ∀ i, i < P → c_ref (m_set c 25 a (-1)) a 80 i = c 80 i := fun i hi => by rw [e80, if_pos hi]
  have x2 : c_ref (m_set c 25 a (-1)) a 80 P = nI a := by rw [e80, if_neg (Nat.lt_irrefl _), if_pos rfl]
  have x3 : ∀ i, P < i → c_ref (m_set c 25 a (-1)) a 80 i = c 80 (i - 1) := fun i hi => by rw [e80, if_neg (by omega), if_neg (by omega)]
  have eo : ∀ j, j ≠ 25 → j ≠ 24 ∧ j ≠ 80 ∧ j ≠ 81 ∧ j ≠ 90 → c_ref (m_set c 25 a (-1)) a j = c j := fun j q w => (c_ref_o _ _ w).trans (m_set_ne _ _ _ q)
  have e24 : ∀ b, c_ref (m_set c 25 a (-1)) a 24 b = if b = a then 2 else c 24 b := fun b => by
    rw [c_ref_24, m_set_ne _ _ _ (by decide)]
    rfl
  have k24 : ∀ b, c 24 b = 2 → c_ref (m_set c 25 a (-1)) a 24 b = 2 := fun b q => by
    rw [e24]
    by_cases e : b = a
    · rw [if_pos e]
    · rw [if_neg e]; exact q
  have eL : mL (c_ref (m_set c 25 a (-1)) a) = mL c + 1 := (c_ref_L (c := m_set c 25 a (-1)) (a := a) hL).2
  have eA : mA (c_ref (m_set c 25 a (-1)) a) = mA c := by unfold mA; rw [eo 23 (by decide) (by decide)]
  have na : ∀ i, i < mL c → ¬ c 80 i = nI a := fun i hi q => by
    have := l2 i hi
    rw [q, ix_nI (by omega), h0] at this
    exact absurd this (by decide)
  have e31 := eo 31 (by decide) (by decide)
  have s1 : ∀ i, i < P → c 31 (ix (c 80 i)) ≤ c 31 a := fun i hi => ps.1 i (by omega) hi
  have s2 : ∀ i, P ≤ i → i < mL c → c 31 a ≤ c 31 (ix (c 80 i)) := fun i h1 h2 => by
    have q : ¬ c 31 (ix (c 80 P)) ≤ c 31 a := ps.2 (by omega)
    have q2 : c 31 (ix (c 80 P)) ≤ c 31 (ix (c 80 i)) := by
      by_cases e : i = P
      · rw [e]; exact Int32.le_iff_toInt_le.mpr (by omega)
      · exact l5 P i (by omega) h2
    rw [Int32.le_iff_toInt_le] at q q2 ⊢
    omega
  refine ⟨?_, fun i hi => ?_, fun i j hi hj q => ?_, fun b hb q => ?_, fun i j hij hj => ?_⟩
  · rw [eL, eA, l1]
    refine (ct_up (i := a) (by rw [h0]; decide) (by rw [e24, if_pos rfl]) ha (fun b hb hne => ?_)).symm
    rw [e24, if_neg hne]
  · rw [eL] at hi
    rcases Nat.lt_trichotomy i P with w | w | w
    · rw [x1 i w]; exact k24 _ (l2 i (by omega))
    · rw [w, x2, ix_nI (by omega), e24, if_pos rfl]
    · rw [x3 i w]; exact k24 _ (l2 (i - 1) (by omega))
  · rw [eL] at hi hj
    rcases Nat.lt_trichotomy i P with w | w | w
    · rw [x1 i w] at q
      rcases Nat.lt_trichotomy j P with y | y | y
      · rw [x1 j y] at q; exact l3 i j (by omega) (by omega) q
      · rw [y, x2] at q; exact absurd q (na i (by omega))
      · rw [x3 j y] at q
        have := l3 i (j - 1) (by omega) (by omega) q
        omega
    · rw [w, x2] at q
      rcases Nat.lt_trichotomy j P with y | y | y
      · rw [x1 j y] at q; exact absurd q.symm (na j (by omega))
      · omega
      · rw [x3 j y] at q; exact absurd q.symm (na (j - 1) (by omega))
    · rw [x3 i w] at q
      rcases Nat.lt_trichotomy j P with y | y | y
      · rw [x1 j y] at q
        have := l3 (i - 1) j (by omega) (by omega) q
        omega
      · rw [y, x2] at q; exact absurd q (na (i - 1) (by omega))
      · rw [x3 j y] at q
        have := l3 (i - 1) (j - 1) (by omega) (by omega) q
        omega
  · rw [eA] at hb
    rw [eL]
    by_cases e : b = a
    · exact ⟨P, by omega, by rw [x2, e]⟩
    · rw [e24, if_neg e] at q
      obtain ⟨i, i1, i2⟩ := l4 b hb q
      rcases Nat.lt_or_ge i P with w | w
      · exact ⟨i, by omega, by rw [x1 i w]; exact i2⟩
      · exact ⟨i + 1, by omega, by rw [x3 (i + 1) (by omega)]; exact i2⟩
  · rw [eL] at hj
    rw [e31]
    rcases Nat.lt_trichotomy i P with w | w | w
    · rw [x1 i w]
      rcases Nat.lt_trichotomy j P with y | y | y
      · rw [x1 j y]; exact l5 i j hij (by omega)
      · rw [y, x2, ix_nI (by omega)]; exact s1 i w
      · rw [x3 j y]
        have q1 := s1 i w
        have q2 := s2 (j - 1) (by omega) (by omega)
        rw [Int32.le_iff_toInt_le] at q1 q2 ⊢
        omega
    · rw [w, x2, ix_nI (by omega), x3 j (by omega)]
      exact s2 (j - 1) (by omega) (by omega)
    · rw [x3 i w, x3 j (by omega)]
      exact l5 (i - 1) (j - 1) (by omega) (by omega)
