/-- a chain of n asks that ends with a -/
def Ce (E : Nat → Prop) (F G : Nat → Nat) (w : Nat) : Nat → Nat → Prop
  | 0, _ => False
  | n + 1, a => E a ∧ (n = 0 ∨ ∃ b, Ce E F G w n b ∧ G b + w < F a)
theorem Ce.E {E : Nat → Prop} {F G : Nat → Nat} {w : Nat} : ∀ {n a : Nat}, Ce E F G w n a → E a
  | 0, _, h => absurd h id
  | _ + 1, _, h => h.1
/-! the reference's order -/
theorem by_pos (s : mS) (a : Nat) : ∀ p (u : mS), ∃ t, t ≤ p ∧ (∀ q, q < t → by_i s a p u 41 q = u 41 q) ∧ by_i s a p u 41 t = nI a ∧ (∀ q, t < q → q ≤ p → by_i s a p u 41 q = u 41 (q - 1)) ∧ (∀ q, p < q → by_i s a p u 41 q = u 41 q) ∧ (t = 0 ∨ ¬ s 31 a < s 31 (ix (u 41 (t - 1)))) ∧ (∀ q, t ≤ q → q < p → s 31 a < s 31 (ix (u 41 q)))
  | 0, u => ⟨0, Nat.le_refl _, fun q hq => absurd hq (Nat.not_lt_zero q), m_set_at _ _ _ _, fun q h1 h2 => by omega, fun q hq => ms_ne (c := u) (by omega), Or.inl rfl, fun q h1 h2 => by omega⟩
  | p + 1, u => by
    by_cases z : s 31 a < s 31 (ix (u 41 p))
    · have e : by_i s a (p + 1) u = by_i s a p (m_set u 41 (p + 1) (u 41 p)) := cif_t z
      obtain ⟨t, h1, h2, h3, h4, h5, h6, h7⟩ := by_pos s a p (m_set u 41 (p + 1) (u 41 p))
      rw [e]
      have g : ∀ q, q ≤ p → m_set u 41 (p + 1) (u 41 p) 41 q = u 41 q := fun q hq => ms_ne (by omega)
      refine ⟨t, by omega, fun q hq => ?_, h3, fun q a1 a2 => ?_, fun q hq => ?_, ?_, fun q a1 a2 => ?_⟩
      · rw [h2 q hq]; exact g q (by omega)
      · by_cases ee : q = p + 1
        · rw [ee, h5 (p + 1) (by omega), m_set_at]; rfl
        · rw [h4 q a1 (by omega)]; exact g (q - 1) (by omega)
      · rw [h5 q (by omega)]; exact ms_ne (by omega)
      · rcases h6 with y | y
        · exact Or.inl y
        · rw [g (t - 1) (by omega)] at y; exact Or.inr y
      · by_cases ee : q = p
        · rw [ee]; exact z
        · have := h7 q a1 (by omega)
          rw [g q (by omega)] at this
          exact this
    · have e : by_i s a (p + 1) u = m_set u 41 (p + 1) (nI a) := cif_f z
      rw [e]
      exact ⟨p + 1, Nat.le_refl _, fun q hq => ms_ne (by omega), m_set_at _ _ _ _, fun q a1 a2 => by omega, fun q hq => ms_ne (by omega), Or.inr z, fun q a1 a2 => by omega⟩
def by_srt (s u : mS) (n : Nat) : Prop := ∀ i j, i < j → j < n → s 31 (ix (u 41 i)) ≤ s 31 (ix (u 41 j))
theorem by_all (s : mS) (k : Nat) : ∀ a, a ≤ 120 → by_srt s (by_o s k a) (by_n s k a) ∧ (∀ p, p < by_n s k a → ∃ b, b < a ∧ by_o s k a 41 p = nI b ∧ by_ok s k b) ∧ (∀ b, b < a → by_ok s k b → ∃ p, p < by_n s k a ∧ by_o s k a 41 p = nI b)
  | 0, _ => ⟨fun i j _ h => absurd h (Nat.not_lt_zero j), fun p h => absurd h (Nat.not_lt_zero p), fun b h => absurd h (Nat.not_lt_zero b)⟩
  | a + 1, ha => by
    obtain ⟨i1, i2, i3⟩ := by_all s k a (by omega)
    by_cases z : by_ok s k a
    · have e1 : by_n s k (a + 1) = by_n s k a + 1 := ct_t z
      have e2 : by_o s k (a + 1) = by_i s a (by_n s k a) (by_o s k a) := cif_t z
      rw [e1, e2]
      obtain ⟨t, h1, h2, h3, h4, h5, h6, h7⟩ := by_pos s a (by_n s k a) (by_o s k a)
      obtain ⟨w, hw⟩ : ∃ w, w = by_i s a (by_n s k a) (by_o s k a) := ⟨_, rfl⟩
      rw [← hw] at h2 h3 h4 h5 ⊢
      have eix : ix (nI a) = a := nI_clamp (by omega)
      refine ⟨fun i j hij hj => ?_, fun p hp => ?_, fun b hb hbk => ?_⟩
      · by_cases c1 : i < t
        · rw [h2 i c1]
          by_cases c2 : j < t
          · rw [h2 j c2]; exact i1 i j hij (by omega)
          · by_cases c3 : j = t
            · rw [c3, h3, eix]
              rcases h6 with y | y
              · omega
              · refine Int32.le_trans ?_ (Int32.not_lt.mp y)
                by_cases c4 : i = t - 1
                · rw [c4]; exact Int32.le_refl _
                · exact i1 i (t - 1) (by omega) (by omega)
            · rw [h4 j (by omega) (by omega)]
              by_cases c4 : i = j - 1
              · rw [c4]; exact Int32.le_refl _
              · exact i1 i (j - 1) (by omega) (by omega)
        · by_cases c3 : i = t
          · rw [c3, h3, eix, h4 j (by omega) (by omega)]
            exact Int32.le_of_lt (h7 (j - 1) (by omega) (by omega))
          · rw [h4 i (by omega) (by omega), h4 j (by omega) (by omega)]
            exact i1 (i - 1) (j - 1) (by omega) (by omega)
      · by_cases c1 : p < t
        · obtain ⟨b, b1, b2, b3⟩ := i2 p (by omega)
          exact ⟨b, by omega, by rw [h2 p c1]; exact b2, b3⟩
        · by_cases c3 : p = t
          · exact ⟨a, by omega, by rw [c3]; exact h3, z⟩
          · obtain ⟨b, b1, b2, b3⟩ := i2 (p - 1) (by omega)
            exact ⟨b, by omega, by rw [h4 p (by omega) (by omega)]; exact b2, b3⟩
      · by_cases c1 : b = a
        · exact ⟨t, by omega, by rw [c1]; exact h3⟩
        · obtain ⟨p, p1, p2⟩ := i3 b (by omega) hbk
          by_cases c2 : p < t
          · exact ⟨p, by omega, by rw [h2 p c2]; exact p2⟩
          · exact ⟨p + 1, by omega, by rw [h4 (p + 1) (by omega) (by omega)]; exact p2⟩
    · have e1 : by_n s k (a + 1) = by_n s k a := ct_f z
      have e2 : by_o s k (a + 1) = by_o s k a := cif_f z
      rw [e1, e2]
      refine ⟨i1, fun p hp => ?_, fun b hb hbk => ?_⟩
      · obtain ⟨b, b1, b2, b3⟩ := i2 p hp
        exact ⟨b, by omega, b2, b3⟩
      · refine i3 b ?_ hbk
        rcases Nat.lt_or_ge b a with y | y
        · exact y
        · exact absurd (show by_ok s k a by rw [show a = b by omega]; exact hbk) z
/-! the longest chains, by the reference's way -/
theorem dpj_ne (s u : mS) (k : Nat) (w : mS) (i : Nat) {b : Nat} (hb : b ≠ i) : ∀ j, dp_j s u k w i j 42 b = w 42 b
  | 0 => ms_ne hb
  | j + 1 => by
    show (cif _ _ _ : mS) 42 b = _
    by_cases z : s 31 (ix (u 41 j)) + s 2 k < s 30 (ix (u 41 i)) ∧ dp_j s u k w i j 42 i < dp_j s u k w i j 42 j + 1
    · rw [cif_t z, ms_ne hb]; exact dpj_ne s u k w i hb j
    · rw [cif_f z]; exact dpj_ne s u k w i hb j
theorem dp_st (s u : mS) (k b : Nat) : ∀ n, b < n → dp s u k n 42 b = dp s u k (b + 1) 42 b
  | 0, h => absurd h (Nat.not_lt_zero b)
  | n + 1, h => by
    by_cases e : b = n
    · rw [e]
    · have : dp s u k (n + 1) 42 b = dp s u k n 42 b := dpj_ne s u k _ n e n
      rw [this]
      exact dp_st s u k b n (by omega)
theorem dp_spec {s u : mS} {k N : Nat} {o F G : Nat → Nat} {w : Nat} (hN : N ≤ 120) (ho : ∀ p, p < N → u 41 p = nI (o p) ∧ o p < 200) (hF : ∀ p, p < N → s 30 (o p) = nI (F (o p)) ∧ s 31 (o p) = nI (G (o p)) ∧ F (o p) ≤ G (o p) ∧ G (o p) ≤ 5060) (hw : s 2 k = nI w ∧ w ≤ 5) : ∀ i, i < N → ∃ d, dp s u k (i + 1) 42 i = nI d ∧ d ≤ i + 1 ∧ 1 ≤ d ∧ (∀ j d', j < i → dp s u k (j + 1) 42 j = nI d' → d' ≤ 120 → G (o j) + w < F (o i) → d' + 1 ≤ d) ∧ (d = 1 ∨ ∃ j d', j < i ∧ dp s u k (j + 1) 42 j = nI d' ∧ G (o j) + w < F (o i) ∧ d = d' + 1) := by
  intro i
  induction i using Nat.strongRecOn with
  | ind i ih =>
    intro hi
    have inner : ∀ j, j ≤ i → ∃ x, dp_j s u k (dp s u k i) i j 42 i = nI x ∧ x ≤ i + 1 ∧ 1 ≤ x ∧ (∀ b d', b < j → dp s u k (b + 1) 42 b = nI d' → d' ≤ 120 → G (o b) + w < F (o i) → d' + 1 ≤ x) ∧ (x = 1 ∨ ∃ b d', b < j ∧ dp s u k (b + 1) 42 b = nI d' ∧ G (o b) + w < F (o i) ∧ x = d' + 1) := by
      intro j
      induction j with
      | zero => intro _; exact ⟨1, m_set_at _ _ _ _, by omega, Nat.le_refl _, fun b d' h => absurd h (Nat.not_lt_zero b), Or.inl rfl⟩
      | succ j ihj =>
        intro hj
        obtain ⟨x, x1, x2, x3, x4, x5⟩ := ihj (by omega)
        obtain ⟨dj, q1, q2, q3, -⟩ := ih j (by omega) (by omega)
        have hv : dp_j s u k (dp s u k i) i j 42 j = nI dj := by
          rw [dpj_ne s u k _ i (by omega) j, dp_st s u k j i (by omega)]
          exact q1
        obtain ⟨o1, o2⟩ := ho j (by omega)
        obtain ⟨o3, o4⟩ := ho i hi
        obtain ⟨-, f2, -, f4⟩ := hF j (by omega)
        obtain ⟨f5, -, f7, f8⟩ := hF i hi
        have ec : (s 31 (ix (u 41 j)) + s 2 k < s 30 (ix (u 41 i))) ↔ G (o j) + w < F (o i) := by
          rw [o1, o3, ix_nI (by omega), ix_nI (by omega), f2, f5, hw.1, nI_add, nI_ltI (by omega) (by omega)]
        have ed : (dp_j s u k (dp s u k i) i j 42 i < dp_j s u k (dp s u k i) i j 42 j + 1) ↔ x < dj + 1 := by
          rw [hv, x1, nI_1, nI_ltI (by omega) (by omega)]
        by_cases z : G (o j) + w < F (o i) ∧ x < dj + 1
        · have e : dp_j s u k (dp s u k i) i (j + 1) = m_set (dp_j s u k (dp s u k i) i j) 42 i (dp_j s u k (dp s u k i) i j 42 j + 1) := cif_t ⟨ec.mpr z.1, ed.mpr z.2⟩
          refine ⟨dj + 1, ?_, by omega, by omega, fun b d' hb h1 h3 h2 => ?_, Or.inr ⟨j, dj, by omega, q1, z.1, rfl⟩⟩
          · rw [e, m_set_at, hv, nI_1]
          · by_cases eb : b = j
            · rw [eb, q1] at h1
              have := (nI_eq (by omega) (by omega)).mp h1
              omega
            · have := x4 b d' (by omega) h1 h3 h2
              omega
        · have e : dp_j s u k (dp s u k i) i (j + 1) = dp_j s u k (dp s u k i) i j := cif_f (fun y => z ⟨ec.mp y.1, ed.mp y.2⟩)
          rw [e]
          refine ⟨x, x1, x2, x3, fun b d' hb h1 h3 h2 => ?_, ?_⟩
          · by_cases eb : b = j
            · rw [eb] at h1 h2
              rw [q1] at h1
              have h4 := (nI_eq (by omega) (by omega)).mp h1
              have : ¬ x < dj + 1 := fun y => z ⟨h2, y⟩
              omega
            · exact x4 b d' (by omega) h1 h3 h2
          · rcases x5 with y | ⟨b, d', b1, b2, b3, b4⟩
            · exact Or.inl y
            · exact Or.inr ⟨b, d', by omega, b2, b3, b4⟩
    exact inner i (Nat.le_refl _)
theorem dpm_spec {s u : mS} {k N : Nat} (hd : ∀ i, i < N → ∃ d, dp s u k (i + 1) 42 i = nI d ∧ d ≤ 120) : ∀ n, n ≤ N → ∃ m, dp_m s u k n = nI m ∧ m ≤ 120 ∧ (∀ i d, i < n → dp s u k (i + 1) 42 i = nI d → d ≤ 120 → d ≤ m) ∧ (m = 0 ∨ ∃ i, i < n ∧ dp s u k (i + 1) 42 i = nI m)
  | 0, _ => ⟨0, rfl, Nat.zero_le _, fun i d h => absurd h (Nat.not_lt_zero i), Or.inl rfl⟩
  | n + 1, h => by
    obtain ⟨m, m1, m2, m3, m4⟩ := dpm_spec hd n (by omega)
    obtain ⟨d, d1, d2⟩ := hd n (by omega)
    have e : dp_m s u k (n + 1) = cif (dp_m s u k n < dp s u k (n + 1) 42 n) (dp s u k (n + 1) 42 n) (dp_m s u k n) := rfl
    rw [e, m1, d1]
    have inj : ∀ d', dp s u k (n + 1) 42 n = nI d' → d' ≤ 120 → d' = d := fun d' h1 h2 => (nI_eq (by omega) (by omega)).mp (h1.symm.trans d1)
    by_cases z : nI m < nI d
    · rw [cif_t z]
      rw [nI_ltI (by omega) (by omega)] at z
      refine ⟨d, rfl, d2, fun i d' hi h1 h2 => ?_, Or.inr ⟨n, by omega, d1⟩⟩
      by_cases ei : i = n
      · rw [ei] at h1; have := inj d' h1 h2; omega
      · have := m3 i d' (by omega) h1 h2; omega
    · rw [cif_f z]
      rw [nI_ltI (by omega) (by omega)] at z
      refine ⟨m, rfl, m2, fun i d' hi h1 h2 => ?_, ?_⟩
      · by_cases ei : i = n
        · rw [ei] at h1; have := inj d' h1 h2; omega
        · exact m3 i d' (by omega) h1 h2
      · rcases m4 with y | ⟨i, i1, i2⟩
        · exact Or.inl y
        · exact Or.inr ⟨i, by omega, i2⟩
/-! the greedy way -/
theorem bg_spec {c : mS} {k n w : Nat} {l F G : Nat → Nat} (hn : n ≤ 120) (hl : ∀ i, i < n → ix (c 80 i) = l i) (hF : ∀ i, i < n → c 30 (l i) = nI (F (l i)) ∧ c 31 (l i) = nI (G (l i)) ∧ F (l i) ≤ G (l i) ∧ G (l i) ≤ 5060) (hw : c 2 k = nI w ∧ w ≤ 5) (hs : ∀ i j, i < j → j < n → G (l i) ≤ G (l j)) (E : Nat → Prop) (hE : ∀ i, i < n → (E (l i) ↔ s_fits c k (l i))) (hall : ∀ a, E a → ∃ i, i < n ∧ l i = a) : ∀ i, i ≤ n → ∃ f, (c_bg c k i).2 = nI f ∧ (c_bg c k i).1 ≤ i ∧ f ≤ 5066 ∧ (((c_bg c k i).1 = 0 ∧ f = 0) ∨ ∃ j, j < i ∧ Ce E F G w (c_bg c k i).1 (l j) ∧ f = G (l j) + w + 1) ∧ (∀ m j, j < i → Ce E F G w m (l j) → m ≤ (c_bg c k i).1 ∧ (m = (c_bg c k i).1 → f ≤ G (l j) + w + 1))
  | 0, _ => ⟨0, rfl, Nat.le_refl _, by omega, Or.inl ⟨rfl, rfl⟩, fun m j h => absurd h (Nat.not_lt_zero j)⟩
  | i + 1, hi => by
    obtain ⟨f, f1, f2, f3, f4, f5⟩ := bg_spec hn hl hF hw hs E hE hall i (by omega)
    obtain ⟨g1, g2, g3, g4⟩ := hF i (by omega)
    have ec : ((c_bg c k i).2 ≤ c 30 (ix (c 80 i))) ↔ f ≤ F (l i) := by rw [f1, hl i (by omega), g1, nI_leI (by omega) (by omega)]
    -- what a chain that ends with l i has ahead of it
    have pre : ∀ m b, Ce E F G w m b → G b + w < F (l i) → ∃ j, j < i ∧ l j = b := fun m b hb hlt => by
      obtain ⟨j, j1, j2⟩ := hall b hb.E
      refine ⟨j, ?_, j2⟩
      rcases Nat.lt_or_ge j i with y | y
      · exact y
      · exfalso
        by_cases e : j = i
        · rw [← j2, e] at hlt; omega
        · have := hs i j (by omega) j1
          rw [j2] at this
          omega
    by_cases z : (c_bg c k i).2 ≤ c 30 (ix (c 80 i)) ∧ s_fits c k (ix (c 80 i))
    · have e : c_bg c k (i + 1) = ((c_bg c k i).1 + 1, c 31 (ix (c 80 i)) + c 2 k + 1) := cif_t z
      rw [e]
      have z1 := ec.mp z.1
      have zE : E (l i) := (hE i (by omega)).mpr (by rw [← hl i (by omega)]; exact z.2)
      refine ⟨G (l i) + w + 1, ?_, by show (c_bg c k i).1 + 1 ≤ i + 1; omega, by omega, Or.inr ⟨i, by omega, ⟨zE, ?_⟩, rfl⟩, fun m j hj hm => ?_⟩
      · show c 31 (ix (c 80 i)) + c 2 k + 1 = _
        rw [hl i (by omega), g2, hw.1, nI_add, nI_1]
      · rcases f4 with ⟨y, -⟩ | ⟨j, j1, j2, j3⟩
        · exact Or.inl y
        · exact Or.inr ⟨l j, j2, by omega⟩
      · show m ≤ (c_bg c k i).1 + 1 ∧ (m = (c_bg c k i).1 + 1 → _)
        by_cases ej : j = i
        · subst ej
          cases m with
          | zero => exact absurd hm id
          | succ m =>
            refine ⟨?_, fun _ => Nat.le_refl _⟩
            rcases hm.2 with y | ⟨b, b1, b2⟩
            · omega
            · obtain ⟨j2, y1, y2⟩ := pre m b b1 b2
              have := (f5 m j2 y1 (by rw [y2]; exact b1)).1
              omega
        · have := (f5 m j (by omega) hm).1
          exact ⟨by omega, fun y => by omega⟩
    · have e : c_bg c k (i + 1) = c_bg c k i := cif_f z
      rw [e]
      refine ⟨f, f1, by omega, f3, ?_, fun m j hj hm => ?_⟩
      · rcases f4 with y | ⟨j, j1, j2, j3⟩
        · exact Or.inl y
        · exact Or.inr ⟨j, by omega, j2, j3⟩
      · by_cases ej : j = i
        · subst ej
          have zE := hm.E
          have zf : s_fits c k (ix (c 80 j)) := by rw [hl j (by omega)]; exact (hE j (by omega)).mp zE
          have hlt : ¬ f ≤ F (l j) := fun y => z ⟨ec.mpr y, zf⟩
          cases m with
          | zero => exact absurd hm id
          | succ m =>
            have hk : m + 1 ≤ (c_bg c k j).1 := by
              rcases hm.2 with y | ⟨b, b1, b2⟩
              · rcases f4 with ⟨-, y2⟩ | ⟨j2, q1, q2, q3⟩
                · omega
                · cases e1 : (c_bg c k j).1 with
                  | zero => rw [e1] at q2; exact absurd q2 id
                  | succ x => omega
              · obtain ⟨j2, y1, y2⟩ := pre m b b1 b2
                have q := f5 m j2 y1 (by rw [y2]; exact b1)
                rcases Nat.lt_or_ge m (c_bg c k j).1 with y | y
                · omega
                · exfalso
                  have := q.2 (by omega)
                  rw [y2] at this
                  omega
            refine ⟨hk, fun _ => ?_⟩
            rcases f4 with ⟨-, y2⟩ | ⟨j2, q1, q2, q3⟩
            · omega
            · have := hs j2 j q1 (by omega)
              omega
        · exact f5 m j (by omega) hm
set_option maxHeartbeats 4000000 in
theorem buy_eq {s c : mS} (h : Inv c) (k : Lk s c) {kk : Nat} (hk : kk < mK c) : nI (c_bg c kk (mL c)).1 = dp_m s (by_o s kk (mA s)) kk (by_n s kk (mA s)) := by
  obtain ⟨hC, hday, hcare, hask, hlook, hlaw, howe, hpend, hzero, hnb, hout, hback, haout, hlog, hwnt⟩ := id h
  obtain ⟨hI, hG, hgv, hov, hrw, hps⟩ := id hC
  obtain ⟨hK, hT, hB, hP9, hA, hkf, haf, hbf⟩ := id hI
  have hA2 := hA.2
  have hT2 := hT.2
  have hK2 := hK.2
  have hB2 := hB.2
  have hP2 := hP9.2
  obtain ⟨l1, l2, l3, l4, l5⟩ := id hlog
  have hG2 := hG.2
  obtain ⟨w, hw, ew⟩ := hcare kk hk
  obtain ⟨a1, a2, a3⟩ := by_all s kk (mA s) (by rw [k.1.A]; omega)
  rw [k.1.A] at a2 a3 ⊢
  have hok : ∀ b, by_ok s kk b ↔ c 24 b = 2 ∧ s_fits c kk b := fun b => by unfold by_ok; rw [fits_eq k, ← k.1 24 (by decide)]
  have hNb : by_n s kk (mA c) ≤ 120 := Nat.le_trans (ct_le _ _) (by omega)
  obtain ⟨u, eu⟩ : ∃ u, u = by_o s kk (mA c) := ⟨_, rfl⟩
  obtain ⟨N, eN⟩ : ∃ N, N = by_n s kk (mA c) := ⟨_, rfl⟩
  rw [← eu, ← eN] at a2 a3 ⊢
  rw [k.1.A, ← eu, ← eN] at a1
  rw [← eN] at hNb
  have fg : ∀ b, b < mA c → c 30 b = nI (ix (c 30 b)) ∧ c 31 b = nI (ix (c 31 b)) ∧ ix (c 30 b) ≤ ix (c 31 b) ∧ ix (c 31 b) ≤ 5060 := fun b hb => by
    obtain ⟨f, l, r, e1, e2, -, w1, w2, w3, -⟩ := hask b hb
    rw [e1, e2, ix_nI (by omega), ix_nI (by omega)]
    exact ⟨rfl, rfl, w1, w3⟩
  -- the reference
  have ho : ∀ p, p < N → u 41 p = nI (ix (u 41 p)) ∧ ix (u 41 p) < 200 := fun p hp => by
    obtain ⟨b, b1, b2, -⟩ := a2 p hp
    rw [b2, ix_nI (by omega)]
    exact ⟨rfl, by omega⟩
  have hoA : ∀ p, p < N → ix (u 41 p) < mA c ∧ by_ok s kk (ix (u 41 p)) := fun p hp => by
    obtain ⟨b, b1, b2, b3⟩ := a2 p hp
    rw [b2, ix_nI (by omega)]
    exact ⟨b1, b3⟩
  have D := dp_spec (s := s) (u := u) (k := kk) (N := N) (o := fun p => ix (u 41 p)) (F := fun b => ix (c 30 b)) (G := fun b => ix (c 31 b)) (w := w) hNb ho (fun p hp => by rw [← k.1 30 (by decide), ← k.1 31 (by decide)]; exact fg _ (hoA p hp).1) ⟨by rw [← k.1 2 (by decide)]; exact ew, hw⟩
  obtain ⟨m, m1, m2, m3, m4⟩ := dpm_spec (s := s) (u := u) (k := kk) (N := N) (fun i hi => by obtain ⟨d, d1, d2, -⟩ := D i hi; exact ⟨d, d1, by omega⟩) N (Nat.le_refl _)
  -- chains
  obtain ⟨E, hE⟩ : ∃ E : Nat → Prop, E = fun b => b < mA c ∧ c 24 b = 2 ∧ s_fits c kk b := ⟨_, rfl⟩
  have dpC : ∀ i, i < N → ∀ d, dp s u kk (i + 1) 42 i = nI d → d ≤ 120 → Ce E (fun b => ix (c 30 b)) (fun b => ix (c 31 b)) w d (ix (u 41 i)) := by
    intro i
    induction i using Nat.strongRecOn with
    | ind i ih =>
      intro hi d hd hd2
      obtain ⟨d0, q1, q2, q3, -, q5⟩ := D i hi
      have e0 : d = d0 := (nI_eq (by omega) (by omega)).mp (hd.symm.trans q1)
      subst e0
      have hEi : E (ix (u 41 i)) := by rw [hE]; exact ⟨(hoA i hi).1, (hok _).mp (hoA i hi).2⟩
      rcases q5 with y | ⟨j, d', j1, j2, j3, j4⟩
      · subst y; exact ⟨hEi, Or.inl rfl⟩
      · subst j4
        exact ⟨hEi, Or.inr ⟨_, ih j j1 (by omega) d' j2 (by omega), j3⟩⟩
  have Cdp : ∀ n i d, i < N → Ce E (fun b => ix (c 30 b)) (fun b => ix (c 31 b)) w n (ix (u 41 i)) → dp s u kk (i + 1) 42 i = nI d → d ≤ 120 → n ≤ d := by
    intro n
    induction n with
    | zero => intro i d hi hc; exact absurd hc id
    | succ n ih =>
      intro i d hi hc hd hd2
      obtain ⟨d0, q1, q2, q3, q4, q5⟩ := D i hi
      have e0 : d = d0 := (nI_eq (by omega) (by omega)).mp (hd.symm.trans q1)
      subst e0
      rcases hc.2 with y | ⟨b, b1, b2⟩
      · omega
      · have bE := b1.E
        rw [hE] at bE
        obtain ⟨j, j1, j2⟩ := a3 b bE.1 ((hok b).mpr bE.2)
        have ejb : ix (u 41 j) = b := by rw [j2]; exact nI_clamp (by have := bE.1; omega)
        have hji : j < i := by
          rcases Nat.lt_or_ge j i with y | y
          · exact y
          · exfalso
            have gi := fg _ (hoA i hi).1
            by_cases e : j = i
            · rw [← ejb, e] at b2; have := gi.2.2.1; have b2 : ix (c 31 (ix (u 41 i))) + w < ix (c 30 (ix (u 41 i))) := b2; omega
            · have s1 := a1 i j (by omega) j1
              rw [← k.1 31 (by decide), ejb, gi.2.1, (fg b bE.1).2.1, nI_leI (by have := gi.2.2.2; omega) (by have := (fg b bE.1).2.2.2; omega)] at s1
              have b2 : ix (c 31 b) + w < ix (c 30 (ix (u 41 i))) := b2
              have := gi.2.2.1
              omega
        obtain ⟨dj, r1, r2, -⟩ := D j j1
        have h1 := ih j dj j1 (by rw [ejb]; exact b1) r1 (by omega)
        have h2 := q4 j dj hji r1 (by omega) (by show ix (c 31 (ix (u 41 j))) + w < _; rw [ejb]; exact b2)
        omega
  -- the greedy way
  obtain ⟨f, f1, f2, f3, f4, f5⟩ := bg_spec (c := c) (k := kk) (n := mL c) (w := w) (l := fun i => ix (c 80 i)) (F := fun b => ix (c 30 b)) (G := fun b => ix (c 31 b)) (by omega) (fun i _ => rfl) (fun i hi => fg _ (hgv i hi).2) ⟨ew, hw⟩ (fun i j hij hj => by
      have := l5 i j hij hj
      rw [(fg _ (hgv i (by omega)).2).2.1, (fg _ (hgv j hj).2).2.1, nI_leI (by have := (fg _ (hgv i (by omega)).2).2.2.2; omega) (by have := (fg _ (hgv j hj).2).2.2.2; omega)] at this
      exact this) E (fun i hi => by rw [hE]; exact ⟨fun y => y.2.2, fun y => ⟨(hgv i hi).2, l2 i hi, y⟩⟩) (fun a ha => by
      rw [hE] at ha
      obtain ⟨i, i1, i2⟩ := l4 a ha.1 ha.2.1
      exact ⟨i, i1, by show ix (c 80 i) = a; rw [i2]; exact nI_clamp (by have := ha.1; omega)⟩) (mL c) (Nat.le_refl _)
  rw [m1]
  refine congrArg nI (Nat.le_antisymm ?_ ?_)
  · rcases f4 with ⟨y, -⟩ | ⟨j, j1, j2, -⟩
    · omega
    · have jE := j2.E
      rw [hE] at jE
      obtain ⟨i, i1, i2⟩ := a3 _ jE.1 ((hok _).mpr jE.2)
      have eib : ix (u 41 i) = ix (c 80 j) := by rw [i2]; exact nI_clamp (by have := jE.1; omega)
      obtain ⟨d, d1, d2, -⟩ := D i i1
      have h1 := Cdp _ i d i1 (by rw [eib]; exact j2) d1 (by omega)
      have h2 := m3 i d i1 d1 (by omega)
      omega
  · rcases m4 with y | ⟨i, i1, i2⟩
    · omega
    · have hc := dpC i i1 m i2 m2
      have iE := hc.E
      rw [hE] at iE
      obtain ⟨j, j1, j2⟩ := l4 _ iE.1 iE.2.1
      exact (f5 m j j1 (by show Ce _ _ _ _ _ (ix (c 80 j)); rw [j2, ix_nI (by have := iE.1; omega)]; exact hc)).1
theorem sim_buy {s c : mS} (h : Inv c) (k : Lk s c) (v : Int32) : Sim (cp_buy c v) (sp_buy s v) := by
  unfold cp_buy sp_buy
  rw [← k.1 1 (by decide)]
  by_cases q : wi v 0 (c 1 0 - 1)
  · rw [cif_t q, cif_t q]
    obtain ⟨j, hj, rfl⟩ := m_ixe h.1.1.1 (by decide) q
    have h8 := h.1.1.1.2
    rw [ix_nI (by omega)]
    refine ⟨buy_eq h k hj, h, ?_⟩
    have so : ∀ b, b ≠ 41 → b ≠ 42 → dp s (by_o s j (mA s)) j (by_n s j (mA s)) b = s b := fun b h1 h2 => by
      rw [dp_o s _ j h2]
      have : ∀ a, by_o s j a b = s b := by
        intro a
        induction a with
        | zero => rfl
        | succ a ih =>
          show (cif _ _ _ : mS) b = _
          by_cases z : by_ok s j a
          · rw [cif_t z]
            have e : ∀ p u, by_i s a p u b = u b := by
              intro p
              induction p with
              | zero => intro u; exact m_set_ne _ _ _ h1
              | succ p ihp =>
                intro u
                show (cif _ _ _ : mS) b = _
                by_cases y : s 31 a < s 31 (ix (u 41 p))
                · rw [cif_t y, ihp, m_set_ne _ _ _ h1]
                · rw [cif_f y, m_set_ne _ _ _ h1]
            rw [e, ih]
          · rw [cif_f z]; exact ih
      exact this _
    exact k.mk (fun a ha => (k.1 a ha).trans (so a (by rintro rfl; exact absurd ha (by decide)) (by rintro rfl; exact absurd ha (by decide))).symm) rfl (so 33 (by decide) (by decide)) rfl (so 12 (by decide) (by decide)) rfl rfl (so 15 (by decide) (by decide)) (so 14 (by decide) (by decide)) (fun _ hb w => ⟨hb, w⟩)
  · rw [cif_f q, cif_f q]; exact ⟨rfl, h, k⟩
