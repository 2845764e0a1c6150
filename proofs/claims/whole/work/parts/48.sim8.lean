/-! who is moved first -/
def kA (r f : Nat → Nat) (a b : Nat) : Prop := r b < r a ∨ (r a = r b ∧ (f a < f b ∨ (f a = f b ∧ a < b)))
theorem pk_spec {r f : Nat → Nat} {N : Nat} {U : Nat → Prop} {SA : Nat → Nat → Prop} {o : Nat → Option Nat} (hSA : ∀ i b, i < N → b < N → (SA i b ↔ (r b < r i ∨ (r i = r b ∧ f i < f b)))) (h0 : o 0 = none) (hs : ∀ i, i < N → (o (i + 1) = cif (U i) (match o i with | none => some i | some b => cif (SA i b) (some i) (some b)) (o i))) : ∀ n, n ≤ N → (o n = none → ∀ b, b < n → ¬ U b) ∧ (∀ a, o n = some a → a < n ∧ U a ∧ ∀ b, b < n → U b → b ≠ a → kA r f a b)
  | 0, _ => ⟨fun _ b h => absurd h (Nat.not_lt_zero b), fun a h => by rw [h0] at h; cases h⟩
  | n + 1, hn => by
    obtain ⟨i1, i2⟩ := pk_spec hSA h0 hs n (by omega)
    rw [hs n (by omega)]
    by_cases z : U n
    · rw [cif_t z]
      cases e : o n with
      | none =>
        have hno := i1 e
        refine ⟨fun h => (by cases h), fun a h => ?_⟩
        have ha : n = a := Option.some.inj h
        subst ha
        exact ⟨by omega, z, fun b hb hU hne => absurd hU (hno b (by omega))⟩
      | some b0 =>
        obtain ⟨j1, j2, j3⟩ := i2 b0 e
        dsimp only
        by_cases w : SA n b0
        · rw [cif_t w]
          have w2 := (hSA n b0 (by omega) (by omega)).mp w
          refine ⟨fun h => (by cases h), fun a h => ?_⟩
          have ha : n = a := Option.some.inj h
          subst ha
          refine ⟨by omega, z, fun b hb hU hne => ?_⟩
          by_cases eb : b = b0
          · rw [eb]; unfold kA; omega
          · have := j3 b (by omega) hU eb
            unfold kA at this ⊢
            omega
        · rw [cif_f w]
          have w2 : ¬ (r b0 < r n ∨ (r n = r b0 ∧ f n < f b0)) := fun q => w ((hSA n b0 (by omega) (by omega)).mpr q)
          refine ⟨fun h => (by cases h), fun a h => ?_⟩
          have ha : b0 = a := Option.some.inj h
          subst ha
          refine ⟨by omega, j2, fun b hb hU hne => ?_⟩
          by_cases eb : b = n
          · rw [eb]; unfold kA; omega
          · exact j3 b (by omega) hU hne
    · rw [cif_f z]
      refine ⟨fun h b hb hU => ?_, fun a h => ?_⟩
      · by_cases eb : b = n
        · rw [eb] at hU; exact z hU
        · exact i1 h b (by omega) hU
      · obtain ⟨j1, j2, j3⟩ := i2 a h
        refine ⟨by omega, j2, fun b hb hU hne => ?_⟩
        by_cases eb : b = n
        · rw [eb] at hU; exact absurd hU z
        · exact j3 b (by omega) hU hne
theorem ask_n {c : mS} (h : Inv c) {a : Nat} (ha : a < mA c) : c 30 a = nI (ix (c 30 a)) ∧ c 31 a = nI (ix (c 31 a)) ∧ c 32 a = nI (ix (c 32 a)) ∧ ix (c 30 a) ≤ ix (c 31 a) ∧ ix (c 31 a) ≤ 5060 ∧ ix (c 32 a) ≤ 2 := by
  obtain ⟨f, l, r, e1, e2, e3, w1, w2, w3, w4⟩ := h.2.2.2.1 a ha
  rw [e1, e2, e3, ix_nI (by omega), ix_nI (by omega), ix_nI (by omega)]
  exact ⟨rfl, rfl, rfl, w1, w3, w4⟩
theorem sah_n {c : mS} (h : Inv c) {a b : Nat} (ha : a < mA c) (hb : b < mA c) : s_ahead c a b ↔ (ix (c 32 b) < ix (c 32 a) ∨ (ix (c 32 a) = ix (c 32 b) ∧ ix (c 30 a) < ix (c 30 b))) := by
  obtain ⟨e1, e2, e3, w1, w2, w3⟩ := ask_n h ha
  obtain ⟨f1, f2, f3, y1, y2, y3⟩ := ask_n h hb
  have z1 : c 32 b < c 32 a ↔ ix (c 32 b) < ix (c 32 a) := by rw [e3, f3, nI_ltI (by omega) (by omega), ix_nI (by omega), ix_nI (by omega)]
  have z2 : c 32 a = c 32 b ↔ ix (c 32 a) = ix (c 32 b) := by rw [e3, f3, nI_eq (by omega) (by omega), ix_nI (by omega), ix_nI (by omega)]
  have z3 : c 30 a < c 30 b ↔ ix (c 30 a) < ix (c 30 b) := by rw [e1, f1, nI_ltI (by omega) (by omega), ix_nI (by omega), ix_nI (by omega)]
  unfold s_ahead
  rw [z1, z2, z3]
theorem cah_n {c : mS} (h : Inv c) {a b : Nat} (ha : a < mA c) (hb : b < a) : c_ahead c a b ↔ s_ahead c a b := by
  have hA := h.1.1.2.2.2.2.1.2
  unfold c_ahead s_ahead
  constructor
  · rintro (q | ⟨q1, q2 | ⟨q2, q3⟩⟩)
    · exact Or.inl q
    · exact Or.inr ⟨q1, q2⟩
    · rw [nI_ltI (by omega) (by omega)] at q3; omega
  · rintro (q | ⟨q1, q2⟩)
    · exact Or.inl q
    · exact Or.inr ⟨q1, Or.inl q2⟩
theorem nx_spec {c : mS} (h : Inv c) : ∀ n, n ≤ mA c → (c_nx c n = none → ∀ b, b < n → ¬ c_must c b) ∧ (∀ a, c_nx c n = some a → a < n ∧ c_must c a ∧ ∀ b, b < n → c_must c b → b ≠ a → kA (fun a => ix (c 32 a)) (fun a => ix (c 30 a)) a b) := by
  refine pk_spec (SA := s_ahead c) (U := c_must c) (o := c_nx c) (fun i b hi hb => sah_n h hi hb) rfl (fun i hi => ?_)
  cases e : c_nx c i with
  | none =>
    rw [c_nx_n e]
  | some b =>
    have hb := (c_nx_lt e).1
    rw [c_nx_s e]
    dsimp only
    by_cases z : c_must c i
    · rw [cif_t z]
      by_cases w : s_ahead c i b
      · rw [cif_t w, cif_t ⟨z, (cah_n h hi hb).mpr w⟩]
      · rw [cif_f w, cif_f (fun q => w ((cah_n h hi hb).mp q.2))]
    · rw [cif_f z, cif_f (fun q => z q.1)]
theorem mvp_spec {s c : mS} (h : Inv c) (k : Lk s c) : ∀ n, n ≤ mA c → (mv_p s n = none → ∀ b, b < n → ¬ s 40 b = 0) ∧ (∀ a, mv_p s n = some a → a < n ∧ s 40 a = 0 ∧ ∀ b, b < n → s 40 b = 0 → b ≠ a → kA (fun a => ix (c 32 a)) (fun a => ix (c 30 a)) a b) := by
  refine pk_spec (SA := s_ahead s) (U := fun b => s 40 b = 0) (o := mv_p s) (fun i b hi hb => ?_) rfl (fun i hi => rfl)
  have e : s_ahead s i b ↔ s_ahead c i b := by unfold s_ahead; rw [k.1 32 (by decide), k.1 30 (by decide)]
  rw [e]
  exact sah_n h hi hb
/-! what keeps a booking from its thing: never another booking -/
def NFr (c : mS) (b : Nat) : Prop := ∃ x, x < mA c ∧ (c 24 x = 3 ∨ c 24 x = 4) ∧ c 25 x = c 25 b ∧ s_near (c 30 b).toInt64 (c 31 b).toInt64 (c 30 x).toInt64 (s_end c x).toInt64 (s_care c (c 25 b))
theorem nfr_iff {c : mS} (h : Inv c) {b : Nat} (hb : b < mA c) (h1 : c 24 b = 1) : ¬ s_free c (c 25 b) (c 30 b) (c 31 b) (nI b) ↔ NFr c b := by
  have hA := h.1.1.2.2.2.2.1.2
  have hnb := h.2.2.2.2.2.2.2.2.2.1
  constructor
  · intro z
    apply Classical.byContradiction
    intro w
    refine z (fun x hx hne hh hn => ?_)
    rcases hh.2 with q | q
    · have hxb : b ≠ x := fun e => hne (by rw [e])
      have e : s_end c x = c 31 x := by
        unfold s_end
        rw [cif_f (by rw [q]; decide), cif_f (by rw [q]; exact fun y => absurd y.1 (by decide))]
      rw [e] at hn
      exact hnb b x hb hx hxb h1 q hh.1.symm hn
    · exact w ⟨x, hx, q, hh.1, hn⟩
  · rintro ⟨x, x1, x2, x3, x4⟩ z
    refine z x x1 (fun e => ?_) ⟨x3, Or.inr x2⟩ x4
    have : x = b := (nI_eq (by omega) (by omega)).mp e
    rw [this, h1] at x2
    exact absurd x2 (by decide)
theorem must_iff {c : mS} (h : Inv c) {b : Nat} (hb : b < mA c) : c_must c b ↔ (c 24 b = 1 ∧ s_late c (c 25 b) ∧ NFr c b) := by
  have hbf := h.1.1.2.2.2.2.2.2.2
  unfold c_must
  constructor
  · rintro ⟨q1, q2, q3, q4⟩
    obtain ⟨t1, t2⟩ := hbf b hb (Or.inl q1)
    rw [← t1] at q4
    refine ⟨q1, ?_, (nfr_iff h hb q1).mp q4⟩
    rw [t1]
    exact (late_c h t2).mp q3
  · rintro ⟨q1, q2, q3⟩
    obtain ⟨t1, t2⟩ := hbf b hb (Or.inl q1)
    have hT := h.1.1.2.1.2
    refine ⟨q1, by rw [t1]; exact oI_ne (by omega), ?_, ?_⟩
    · rw [t1] at q2
      exact (late_c h t2).mpr q2
    · rw [← t1]; exact (nfr_iff h hb q1).mpr q3
theorem fnd_congr {p q : Nat → Prop} : ∀ {n : Nat}, (∀ a, a < n → (p a ↔ q a)) → fnd p n = fnd q n
  | 0, _ => rfl
  | n + 1, h => by
    have ih := fnd_congr (p := p) (q := q) (n := n) (fun a ha => h a (by omega))
    show (match fnd p n with | some i => some i | none => cif (p n) (some n) none) = (match fnd q n with | some i => some i | none => cif (q n) (some n) none)
    rw [ih, show p n = q n from propext (h n (by omega))]
theorem mok_eq {s c : mS} (h : Inv c) (k : Lk s c) (a : Nat) : fnd (s_mok s a) (mT s) = fnd (c_mok c a) (mT c) := by
  rw [k.1.T]
  refine fnd_congr (fun t ht => ?_)
  unfold s_mok c_mok
  rw [late_eq k, ← late_c h ht, may_eq k, ← k.1 25 (by decide)]
  exact ⟨fun q => ⟨fun y => q.1 y.symm, q.2⟩, fun q => ⟨fun y => q.1 y.symm, q.2⟩⟩
theorem rn_symm {c : mS} {a b : Nat} {w : Int32} : c_rn c a b w ↔ c_rn c b a w := ⟨fun q => ⟨q.2, q.1⟩, fun q => ⟨q.2, q.1⟩⟩
/-- one is moved to a thing that is free for it -/
theorem inv_move {c : mS} {a t : Nat} {v : Int32} (h : Inv c) (ha : a < mA c) (h1 : c 24 a = 1) (ht : t < mT c) (hf : s_free c (nI t) (c 30 a) (c 31 a) (nI a)) : Inv (m_set (m_set c 25 a (nI t)) 26 a v) := by
  obtain ⟨hC, hday, hcare, hask, hlook, hlaw, howe, hpend, hzero, hnb, hout, hback, haout, hlog, hwnt⟩ := id h
  obtain ⟨hI, hG, hgv, hov, hrw, hps⟩ := id hC
  obtain ⟨hK, hT, hB, hP9, hA, hkf, haf, hbf⟩ := id hI
  have hA2 := hA.2
  have hT2 := hT.2
  have hK2 := hK.2
  have hB2 := hB.2
  have hP2 := hP9.2
  have f25 : ∀ u, u ≠ a → (m_set (m_set c 25 a (nI t)) 26 a v) 25 u = c 25 u := fun u hu => ms_ne (c := c) (j := 25) hu
  have g25 : (m_set (m_set c 25 a (nI t)) 26 a v) 25 a = nI t := m_set_at c 25 a (nI t)
  have f26 : ∀ u, u ≠ a → (m_set (m_set c 25 a (nI t)) 26 a v) 26 u = c 26 u := fun u hu => ms_ne (c := c) (j := 26) hu
  have key : ∀ y, y < mA c → y ≠ a → c 24 y = 1 → c 25 y = nI t → ¬ c_rn c a y (s_care c (nI t)) := fun y hy hne q1 q2 z => by
    have e : s_end c y = c 31 y := by
      unfold s_end
      rw [cif_f (by rw [q1]; decide), cif_f (by rw [q1]; exact fun w => absurd w.1 (by decide))]
    refine hf y hy (fun w => hne ((nI_eq (by omega) (by omega)).mp w)) ⟨q2, Or.inl q1⟩ ?_
    rw [e]
    exact z
  refine ⟨c_inv_26 (c_inv_on hC ht), (i_day_eq rfl hday), (i_care_eq rfl rfl hcare), (i_ask_eq rfl rfl rfl rfl hask), (i_look_eq rfl rfl rfl hlook), (i_law_eq rfl hlaw), (i_owe_eq rfl rfl rfl rfl howe), (i_pend_eq rfl rfl hpend), ⟨fun u hu => ?_, hzero.2⟩, fun x y hx hy hxy q1 q2 q3 => ?_, fun u x hu hx => ?_, ?_, (i_aout_eq rfl rfl rfl rfl rfl haout), (i_log_eq rfl rfl rfl rfl rfl hlog), (i_wnt_eq rfl rfl hwnt)⟩
  · have hu : mA c ≤ u := hu
    rw [f26 u (by omega)]; exact hzero.1 u hu
  · have hx : x < mA c := hx
    have hy : y < mA c := hy
    have q1 : c 24 x = 1 := q1
    have q2 : c 24 y = 1 := q2
    show ¬ c_rn c x y (s_care c ((m_set (m_set c 25 a (nI t)) 26 a v) 25 x))
    by_cases ex : x = a
    · have ey : y ≠ a := fun e => hxy (by rw [ex, e])
      rw [ex, g25, f25 y ey] at q3
      rw [ex, g25]
      exact key y hy ey q2 q3.symm
    · rw [f25 x ex] at q3 ⊢
      by_cases ey : y = a
      · rw [ey, g25] at q3
        rw [ey, q3]
        exact fun z => key x hx ex q1 q3 (rn_symm.mp z)
      · rw [f25 y ey] at q3
        exact hnb x y hx hy hxy q1 q2 q3
  · have hx : x < mA c := hx
    have hu : u < mT c := hu
    show c 51 u = nI x ↔ c 24 x = 3 ∧ (m_set (m_set c 25 a (nI t)) 26 a v) 25 x = nI u
    by_cases ex : x = a
    · rw [ex, h1]
      refine ⟨fun z => ?_, fun z => absurd z.1 (by decide)⟩
      have := ((hout u a hu ha).mp z).1
      rw [h1] at this
      exact absurd this (by decide)
    · rw [f25 x ex]; exact hout u x hu hx
  · obtain ⟨y1, y2⟩ := hback
    have n4 : ∀ b, c 24 b = 4 → b ≠ a := fun b hb e => by rw [e, h1] at hb; exact absurd hb (by decide)
    refine ⟨fun b hb q4 => ?_, fun u hu => ⟨fun b hb q4 q5 => ?_, ?_⟩⟩
    · show (∃ d, c 33 b = nI d ∧ d ≤ ix (c 11 0)) ∧ ((m_set (m_set c 25 a (nI t)) 26 a v) 25 b = nI (ix ((m_set (m_set c 25 a (nI t)) 26 a v) 25 b)) ∧ ix ((m_set (m_set c 25 a (nI t)) 26 a v) 25 b) < mT c)
      rw [f25 b (n4 b q4)]; exact y1 b hb q4
    · rw [f25 b (n4 b q4)] at q5
      exact (y2 u hu).1 b hb q4 q5
    · rcases (y2 u hu).2 with z | ⟨b, b1, b2, b3, b4⟩
      · exact Or.inl z
      · exact Or.inr ⟨b, b1, b2, by rw [f25 b (n4 b b2)]; exact b3, b4⟩
/-- how a move leaves the others -/
theorem mv1_facts {c : mS} {a : Nat} (h : Inv c) (ha : a < mA c) (h1 : c 24 a = 1) : Inv (c_mv1 c a) ∧ mA (c_mv1 c a) = mA c ∧ (∀ b, b ≠ a → c_mv1 c a 24 b = c 24 b ∧ c_mv1 c a 25 b = c 25 b) ∧ (∀ j, j ≠ 24 → j ≠ 25 → j ≠ 26 → c_mv1 c a j = c j) ∧ ¬ c_must (c_mv1 c a) a ∧ (c_mv1 c a 24 a = 1 ∨ c_mv1 c a 24 a = 5) := by
  cases e : fnd (c_mok c a) (mT c) with
  | none =>
    rw [c_mv1_n e]
    refine ⟨inv_drop h ha (Or.inr h1) (Or.inl rfl), rfl, fun b hb => ⟨ms_ne hb, rfl⟩, fun j h1 _ _ => m_set_ne _ _ _ h1, fun q => ?_, Or.inr (m_set_at _ _ _ _)⟩
    have := q.1
    rw [m_set_at] at this
    exact absurd this (by decide)
  | some t =>
    obtain ⟨t1, t2, -⟩ := fnd_spec e
    rw [c_mv1_s e]
    have hT := h.1.1.2.1.2
    refine ⟨inv_move h ha h1 t1 t2.2.2.2, rfl, fun b hb => ⟨rfl, ms_ne (c := c) (j := 25) hb⟩, fun j _ h2 h3 => (m_set_ne _ _ _ h3).trans (m_set_ne _ _ _ h2), fun q => t2.2.1 ?_, Or.inl h1⟩
    have q3 := q.2.2.1
    have e25 : m_set (m_set c 25 a (nI t)) 26 a (c 26 a + 1) 25 a = nI t := m_set_at c 25 a (nI t)
    rw [e25, ix_nI (by omega)] at q3
    exact q3
theorem mv1_lk {s c : mS} {a : Nat} (h : Inv c) (k : Lk s c) (h1 : c 24 a = 1) : Lk (s_mv1 s a) (c_mv1 c a) ∧ s_mv1 s a 40 = s 40 ∧ mA (s_mv1 s a) = mA s := by
  have e0 := mok_eq h k a
  unfold s_mv1 s_mvt
  rw [e0]
  cases e : fnd (c_mok c a) (mT c) with
  | none =>
    rw [c_mv1_n e]
    exact ⟨k.mk (k.1.set _ _ _) rfl rfl rfl rfl rfl rfl rfl rfl (fun b hb w => ⟨hb, st_sub (by decide) b w⟩), rfl, rfl⟩
  | some t =>
    rw [c_mv1_s e]
    dsimp only
    rw [show s 26 a = c 26 a by rw [k.1 26 (by decide)]]
    exact ⟨k.mk ((k.1.set _ _ _).set _ _ _) rfl rfl rfl rfl rfl rfl rfl rfl (fun b hb w => ⟨hb, w⟩), rfl, rfl⟩
/-- what both know while bookings are moved -/
def Mv (s c : mS) : Prop := (∀ a, a < mA c → s 40 a = 0 → c 24 a = 1 ∧ s_late c (c 25 a)) ∧ (∀ a, a < mA c → c_must c a → s 40 a = 0)
theorem must_keep {c : mS} {a b : Nat} (h : Inv c) (ha : a < mA c) (h1 : c 24 a = 1) (hb : b < mA c) (hne : b ≠ a) : (c_must (c_mv1 c a) b → c_must c b) ∧ (s_late c (c 25 b) → s_late (c_mv1 c a) (c_mv1 c a 25 b)) := by
  obtain ⟨m1, m2, m3, m4, m5, m6⟩ := mv1_facts h ha h1
  have hA := h.1.1.2.2.2.2.1.2
  have e24 : ∀ x, (c_mv1 c a 24 x = 3 ↔ c 24 x = 3) ∧ (c_mv1 c a 24 x = 4 ↔ c 24 x = 4) := fun x => by
    by_cases e : x = a
    · rw [e, h1]
      rcases m6 with y | y <;> rw [y] <;> exact ⟨⟨fun z => absurd z (by decide), fun z => absurd z (by decide)⟩, ⟨fun z => absurd z (by decide), fun z => absurd z (by decide)⟩⟩
    · rw [(m3 x e).1]; exact ⟨Iff.rfl, Iff.rfl⟩
  have eow : ∀ t, s_ow (c_mv1 c a) t = s_ow c t := fun t => by
    unfold s_ow
    rw [m2]
    refine fnd_congr (fun x hx => ?_)
    constructor
    · rintro ⟨q1, q2⟩
      have q3 := (e24 x).1.mp q1
      have : x ≠ a := fun e => by rw [e, h1] at q3; exact absurd q3 (by decide)
      rw [(m3 x this).2] at q2
      exact ⟨q3, q2⟩
    · rintro ⟨q1, q2⟩
      have : x ≠ a := fun e => by rw [e, h1] at q1; exact absurd q1 (by decide)
      exact ⟨(e24 x).1.mpr q1, by rw [(m3 x this).2]; exact q2⟩
  have elate : ∀ t, s_late (c_mv1 c a) t ↔ s_late c t := fun t => by
    unfold s_late
    rw [eow, m4 31 (by decide) (by decide) (by decide), m4 11 (by decide) (by decide) (by decide)]
  refine ⟨fun q => ?_, fun q => by rw [(m3 b hne).2]; exact (elate _).mpr q⟩
  rw [must_iff m1 (by rw [m2]; exact hb)] at q
  rw [must_iff h hb]
  obtain ⟨q1, q2, x, x1, x2, x3, x4⟩ := q
  rw [(m3 b hne).1] at q1
  rw [(m3 b hne).2] at q2 x3 x4
  refine ⟨q1, (elate _).mp q2, x, by rw [← m2]; exact x1, ?_, ?_, ?_⟩
  · exact x2.imp (e24 x).1.mp (e24 x).2.mp
  · have : x ≠ a := fun e => by
      rcases x2 with y | y
      · have := (e24 x).1.mp y; rw [e, h1] at this; exact absurd this (by decide)
      · have := (e24 x).2.mp y; rw [e, h1] at this; exact absurd this (by decide)
    rw [(m3 x this).2] at x3
    exact x3
  · have : x ≠ a := fun e => by
      rcases x2 with y | y
      · have := (e24 x).1.mp y; rw [e, h1] at this; exact absurd this (by decide)
      · have := (e24 x).2.mp y; rw [e, h1] at this; exact absurd this (by decide)
    have ee : s_end (c_mv1 c a) x = s_end c x := by
      unfold s_end
      rw [(m3 x this).1, m4 33 (by decide) (by decide) (by decide), m4 31 (by decide) (by decide) (by decide), m4 11 (by decide) (by decide) (by decide)]
    have ec : s_care (c_mv1 c a) (c 25 b) = s_care c (c 25 b) := by
      unfold s_care
      rw [m4 2 (by decide) (by decide) (by decide), m4 6 (by decide) (by decide) (by decide)]
    rw [ee, ec, m4 30 (by decide) (by decide) (by decide), m4 31 (by decide) (by decide) (by decide)] at x4
    exact x4
set_option maxHeartbeats 4000000 in
theorem moves_sim : ∀ (n m : Nat) (s c : mS), Inv c → Lk s c → Mv s c → ct (fun b => s 40 b = 0) (mA c) < n → ct (c_must c) (mA c) ≤ m → Inv (c_mv m c) ∧ Lk (mv_l n s) (c_mv m c)
  | 0, m, s, c, _, _, _, h, _ => absurd h (Nat.not_lt_zero _)
  | n + 1, m, s, c, h, k, hM, hn, hm => by
    have hA := h.1.1.2.2.2.2.1.2
    show Inv (c_mv m c) ∧ Lk (match mv_p s (mA s) with | none => s | some a => mv_l n (mv_1 s a)) (c_mv m c)
    rw [k.1.A]
    obtain ⟨p1, p2⟩ := mvp_spec h k (mA c) (Nat.le_refl _)
    obtain ⟨x1, x2⟩ := nx_spec h (mA c) (Nat.le_refl _)
    cases e : mv_p s (mA c) with
    | none =>
      have hno := p1 e
      have hcn : c_nx c (mA c) = none := by
        cases e2 : c_nx c (mA c) with
        | none => rfl
        | some b => obtain ⟨b1, b2, -⟩ := x2 b e2; exact absurd (hM.2 b b1 b2) (hno b b1)
      have : c_mv m c = c := by
        cases m with
        | zero => rfl
        | succ m => exact c_mv_n hcn
      rw [this]
      exact ⟨h, k⟩
    | some a =>
      obtain ⟨a1, a2, a3⟩ := p2 a e
      obtain ⟨b1, b2⟩ := hM.1 a a1 a2
      dsimp only
      have k40 : Lk (m_set s 40 a 1) c := k.mk (k.1.setL _ _ (by decide)) rfl rfl rfl rfl rfl rfl rfl rfl (fun _ hb w => ⟨hb, w⟩)
      have f40 : ∀ b, b ≠ a → m_set s 40 a 1 40 b = s 40 b := fun b hb => ms_ne hb
      have hfe : s_free s (s 25 a) (s 30 a) (s 31 a) (nI a) ↔ s_free c (c 25 a) (c 30 a) (c 31 a) (nI a) := by
        rw [free_eq k, k.1 25 (by decide), k.1 30 (by decide), k.1 31 (by decide)]
      have hdec : ∀ s' : mS, (∀ b, s' 40 b = m_set s 40 a 1 40 b) → ct (fun b => s' 40 b = 0) (mA c) < n := fun s' hs' => by
        have := ct_up (p := fun b => s' 40 b = 0) (q := fun b => s 40 b = 0) (i := a) (by rw [hs', m_set_at]; decide) a2 a1 (fun b _ hb => by rw [hs', f40 b hb])
        omega
      unfold mv_1
      by_cases z : s_free s (s 25 a) (s 30 a) (s 31 a) (nI a)
      · rw [cif_t z]
        have hnm : ¬ c_must c a := fun q => by
          have q2 := ((must_iff h a1).mp q).2.2
          exact (nfr_iff h a1 b1).mpr q2 (hfe.mp z)
        refine moves_sim n m _ c h k40 ⟨fun b hb q => ?_, fun b hb q => ?_⟩ (hdec _ (fun _ => rfl)) hm
        · by_cases eb : b = a
          · rw [eb, m_set_at] at q; exact absurd q (by decide)
          · rw [f40 b eb] at q; exact hM.1 b hb q
        · by_cases eb : b = a
          · rw [eb] at q; exact absurd q hnm
          · rw [f40 b eb]; exact hM.2 b hb q
      · rw [cif_f z]
        have hmu : c_must c a := (must_iff h a1).mpr ⟨b1, b2, (nfr_iff h a1 b1).mp (fun q => z (hfe.mpr q))⟩
        have hcn : c_nx c (mA c) = some a := by
          cases e2 : c_nx c (mA c) with
          | none => exact absurd hmu (x1 e2 a a1)
          | some b =>
            obtain ⟨y1, y2, y3⟩ := x2 b e2
            by_cases eb : b = a
            · rw [eb]
            · have q1 := y3 a a1 hmu (fun q => eb q.symm)
              have q2 := a3 b y1 (hM.2 b y1 y2) eb
              unfold kA at q1 q2
              omega
        obtain ⟨m1, m2, m3, m4, m5, m6⟩ := mv1_facts h a1 b1
        obtain ⟨k1, k2, k3⟩ := mv1_lk h k40 b1
        have hcm : ct (c_must (c_mv1 c a)) (mA c) < ct (c_must c) (mA c) := by
          have h1 : ct (c_must (c_mv1 c a)) (mA c) ≤ ct (fun b => c_must c b ∧ b ≠ a) (mA c) := ct_le_of (fun b hb q => by
            have hne : b ≠ a := fun eb => by rw [eb] at q; exact m5 q
            exact ⟨(must_keep h a1 b1 hb hne).1 q, hne⟩)
          have h2 := ct_up (p := fun b => c_must c b ∧ b ≠ a) (q := c_must c) (i := a) (fun q => q.2 rfl) hmu a1 (fun b _ hb => ⟨fun q => q.1, fun q => ⟨q, hb⟩⟩)
          omega
        obtain ⟨m', em⟩ : ∃ m', m = m' + 1 := ⟨m - 1, by omega⟩
        subst em
        rw [c_mv_s hcn]
        refine moves_sim n m' _ _ m1 k1 ⟨fun b hb q => ?_, fun b hb q => ?_⟩ (by rw [m2]; exact hdec _ (fun b => by rw [k2])) (by rw [m2]; omega)
        · rw [m2] at hb
          rw [k2] at q
          by_cases eb : b = a
          · rw [eb, m_set_at] at q; exact absurd q (by decide)
          · rw [f40 b eb] at q
            obtain ⟨q1, q2⟩ := hM.1 b hb q
            exact ⟨by rw [(m3 b eb).1]; exact q1, (must_keep h a1 b1 hb eb).2 q2⟩
        · rw [m2] at hb
          rw [k2]
          by_cases eb : b = a
          · rw [eb] at q; exact absurd q m5
          · rw [f40 b eb]
            exact hM.2 b hb ((must_keep h a1 b1 hb eb).1 q)
theorem mvs_sim {s c : mS} (h : Inv c) (k : Lk s c) : Inv (c_mv (mA c) c) ∧ Lk (s_mvs s) (c_mv (mA c) c) := by
  have hsm := mv_d_sm s (mA s)
  have hat := mv_d_at s (mA s)
  have o40 : ∀ n j, j ≠ 40 → mv_d s n j = s j := by
    intro n
    induction n with
    | zero => intro j _; rfl
    | succ n ih => intro j hj; exact (m_set_ne _ _ _ hj).trans (ih j hj)
  have kd : Lk (mv_d s (mA s)) c := k.mk (fun a ha => by rw [o40 _ a (by rintro rfl; exact absurd ha (by decide))]; exact k.1 a ha) rfl (o40 _ 33 (by decide)) rfl (o40 _ 12 (by decide)) rfl rfl (o40 _ 15 (by decide)) (o40 _ 14 (by decide)) (fun _ hb w => ⟨hb, w⟩)
  have eAd : mA (mv_d s (mA s)) = mA c := kd.1.A
  have e40 : ∀ b, b < mA c → (mv_d s (mA s) 40 b = 0 ↔ (c 24 b = 1 ∧ s_late c (c 25 b))) := fun b hb => by
    rw [hat b (by rw [k.1.A]; exact hb), b1_0, ← k.1 24 (by decide), late_eq k, ← k.1 25 (by decide)]
    constructor
    · intro z
      exact ⟨Classical.not_not.mp (fun y => z (Or.inl y)), Classical.not_not.mp (fun y => z (Or.inr y))⟩
    · rintro ⟨z1, z2⟩ (y | y)
      · exact y z1
      · exact y z2
  have hM : Mv (mv_d s (mA s)) c := ⟨fun a ha q => (e40 a ha).mp q, fun a ha q => (e40 a ha).mpr ⟨((must_iff h ha).mp q).1, ((must_iff h ha).mp q).2.1⟩⟩
  unfold s_mvs
  exact moves_sim _ _ _ _ h kd hM (by rw [k.1.A]; exact Nat.lt_succ_of_le (ct_le _ _)) (ct_le _ _)
theorem lose_sim {s c : mS} (h : Inv c) (k : Lk s c) : ∀ i, i ≤ mA c → Inv (ls_l c i) ∧ Lk (ls_l s i) (ls_l c i)
  | 0, _ => ⟨h, k⟩
  | i + 1, hi => by
    obtain ⟨i1, i2⟩ := lose_sim h k i (by omega)
    show Inv (cif _ _ _) ∧ Lk (cif _ _ _) (cif _ _ _)
    rw [← k.1 24 (by decide), ← k.1 31 (by decide), ← k.1 11 (by decide)]
    by_cases z : c 24 i = 1 ∧ c 31 i < c 11 0
    · rw [cif_t z, cif_t z]
      have e24 := ls_l_24 c i i (Nat.le_refl _)
      exact ⟨inv_drop i1 (by rw [ls_l_A]; omega) (Or.inr (e24.trans z.1)) (Or.inl rfl), i2.mk (i2.1.set _ _ _) rfl rfl rfl rfl rfl rfl rfl rfl (fun b hb w => ⟨hb, st_sub (by decide) b w⟩)⟩
    · rw [cif_f z, cif_f z]; exact ⟨i1, i2⟩
theorem inv_day {c : mS} {N : Nat} (h : Inv c) (hN : c 11 0 = nI N) (hN2 : N < 5000) : Inv (m_set c 11 0 (nI (N + 1))) := by
  obtain ⟨hC, hday, hcare, hask, hlook, hlaw, howe, hpend, hzero, hnb, hout, hback, haout, hlog, hwnt⟩ := id h
  obtain ⟨hI, hG, hgv, hov, hrw, hps⟩ := id hC
  obtain ⟨hK, hT, hB, hP9, hA, hkf, haf, hbf⟩ := id hI
  have hA2 := hA.2
  have hT2 := hT.2
  have hK2 := hK.2
  have hB2 := hB.2
  have hP2 := hP9.2
  have eN : ix (c 11 0) = N := by rw [hN]; exact nI_clamp (by omega)
  have eN2 : ix (m_set c 11 0 (nI (N + 1)) 11 0) = N + 1 := by rw [m_set_at]; exact nI_clamp (by omega)
  refine ⟨c_inv_11 hC, ⟨N + 1, by omega, m_set_at _ _ _ _⟩, (i_care_eq rfl rfl hcare), (i_ask_eq rfl rfl rfl rfl hask), fun t ht => ?_, (i_law_eq rfl hlaw), (i_owe_eq rfl rfl rfl rfl howe), (i_pend_eq rfl rfl hpend), (i_zero_eq rfl rfl rfl rfl rfl hzero), (i_nb_eq rfl rfl rfl rfl rfl rfl rfl hnb), (i_out_eq rfl rfl rfl rfl rfl hout), ⟨fun b hb q => ⟨?_, (hback.1 b hb q).2⟩, hback.2⟩, (i_aout_eq rfl rfl rfl rfl rfl haout), (i_log_eq rfl rfl rfl rfl rfl hlog), (i_wnt_eq rfl rfl hwnt)⟩
  · rcases hlook t ht with z | ⟨q, q1, q2⟩
    · exact Or.inl z
    · exact Or.inr ⟨q, q1, by rw [eN2]; omega⟩
  · obtain ⟨d, d1, d2⟩ := (hback.1 b hb q).1
    exact ⟨d, d1, by rw [eN2]; omega⟩
theorem day_sim {s c : mS} {N : Nat} (h : Inv c) (k : Lk s c) (hN : c 11 0 = nI N) (hN2 : N < 5000) : Inv (c_day c) ∧ Lk (s_day s) (c_day c) := by
  unfold c_day s_day
  have e1 : c 11 0 + 1 = nI (N + 1) := by rw [hN, nI_1]
  have e2 : s 11 0 + 1 = nI (N + 1) := by rw [← k.1 11 (by decide)]; exact e1
  rw [e1, e2, k.1.A]
  have h1 := inv_day h hN hN2
  have k1 : Lk (m_set s 11 0 (nI (N + 1))) (m_set c 11 0 (nI (N + 1))) := k.mk (k.1.set _ _ _) rfl rfl rfl rfl rfl rfl rfl rfl (fun _ hb w => ⟨hb, w⟩)
  obtain ⟨h2, k2⟩ := lose_sim h1 k1 (mA c) (Nat.le_refl _)
  have h3 := mvs_sim h2 k2
  rw [ls_l_A] at h3
  exact h3
theorem dys_sim {s c : mS} {N : Nat} (h : Inv c) (k : Lk s c) (hN : c 11 0 = nI N) : ∀ i, N + i ≤ 5000 → Inv (c_dys c i) ∧ Lk (s_dys s i) (c_dys c i) ∧ c_dys c i 11 0 = nI (N + i)
  | 0, _ => ⟨h, k, hN⟩
  | i + 1, hi => by
    obtain ⟨i1, i2, i3⟩ := dys_sim h k hN i (by omega)
    obtain ⟨j1, j2⟩ := day_sim i1 i2 i3 (by omega)
    refine ⟨j1, j2, ?_⟩
    show c_day (c_dys c i) 11 0 = _
    rw [(c_day_inv i1.1).2.2.1, i3, nI_1]
    rfl
theorem sim_days {s c : mS} (h : Inv c) (k : Lk s c) (v : Int32) : Sim (cp_days c v) (sp_days s v) := by
  unfold cp_days sp_days
  rw [← k.1 11 (by decide)]
  by_cases q : wi v 1 60 ∧ c 11 0 + v ≤ 5000
  · rw [cif_t q, cif_t q]
    have hd := day_lt h
    obtain ⟨n, hn, rfl⟩ := nI_of2 (x := v) (M := 60) (n := 60) rfl (fun z => absurd (Int32.lt_of_le_of_lt q.1.1 z) (by decide)) q.1.2
    have q2 := q.2
    rw [hd.2, nI_add, show (5000 : Int32) = nI 5000 from rfl, nI_leI (by omega) (by decide)] at q2
    rw [ix_nI (by omega)]
    obtain ⟨i1, i2, i3⟩ := dys_sim h k hd.2 n q2
    exact ⟨by show c_dys c n 11 0 = s_dys s n 11 0; rw [i2.1 11 (by decide)], i1, i2⟩
  · rw [cif_f q, cif_f q]; exact ⟨rfl, h, k⟩
