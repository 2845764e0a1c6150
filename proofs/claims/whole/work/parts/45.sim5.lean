/-! a token of the text, by the reference's words -/
noncomputable def tq (s : mS) (p : Nat) : Nat := sk s (mP s - p) p
noncomputable def te (s : mS) (q : Nat) : Nat := cif (mP s ≤ q) q (cif (wi (s_by s q) 97 122) (lr s (mP s - q) q) (cif (wi (s_by s q) 48 57) (dr s q (mP s - q) q 0).1 (q + 1)))
noncomputable def tw (s : mS) (q : Nat) : Int32 := cif (mP s ≤ q) 0 (cif (wi (s_by s q) 97 122) 1 (cif (wi (s_by s q) 48 57) (cif (3 < (dr s q (mP s - q) q 0).1 - q) 4 2) (cif (s_by s q = 59) 3 4)))
noncomputable def tv (s : mS) (q : Nat) : Int32 := (dr s q (mP s - q) q 0).2
/-- the same text -/
def sT (u s : mS) : Prop := u 12 = s 12 ∧ u 13 = s 13
theorem sT.P {u s : mS} (h : sT u s) : mP u = mP s := by unfold mP; rw [h.2]
theorem sT.by {u s : mS} (h : sT u s) : s_by u = s_by s := by
  funext i
  unfold s_by
  rw [h.P, h.1]
theorem sT.sk {u s : mS} (h : sT u s) : ∀ m p, sk u m p = sk s m p
  | 0, _ => rfl
  | m + 1, p => by show cif _ _ _ = cif _ _ _; rw [h.by, sT.sk h m (p + 1)]
theorem sT.lr {u s : mS} (h : sT u s) : ∀ m p, lr u m p = lr s m p
  | 0, _ => rfl
  | m + 1, p => by show cif _ _ _ = cif _ _ _; rw [h.by, sT.lr h m (p + 1)]
theorem sT.dr {u s : mS} (h : sT u s) (f : Nat) : ∀ m p v, dr u f m p v = dr s f m p v
  | 0, _, _ => rfl
  | m + 1, p, v => by show cif _ _ _ = cif _ _ _; rw [h.by, sT.dr h f m (p + 1)]
theorem tok_facts {u s : mS} (h : sT u s) (p : Nat) : s_tok u p 19 0 = nI (tq s p) ∧ s_tok u p 20 0 = nI (te s (tq s p)) ∧ s_tok u p 22 0 = tw s (tq s p) ∧ (tw s (tq s p) = 2 → s_tok u p 21 0 = tv s (tq s p)) ∧ ∀ j, j ≠ 19 → j ≠ 20 → j ≠ 21 → j ≠ 22 → s_tok u p j = u j := by
  have e : s_tok u p = s_tkq u (tq s p) := by unfold s_tok tq; rw [h.P, h.sk]
  rw [e]
  obtain ⟨q, hq⟩ : ∃ q, q = tq s p := ⟨_, rfl⟩
  rw [← hq]
  unfold s_tkq te tw tv
  rw [h.P, h.by, h.lr, h.dr]
  have o : ∀ (f o : Nat) (v w : Int32) j, j ≠ 19 → j ≠ 20 → j ≠ 21 → j ≠ 22 → st4 u f o v w j = u j := fun f o v w j h1 h2 h3 h4 => by
    unfold st4
    rw [m_set_ne _ _ _ h4, m_set_ne _ _ _ h3, m_set_ne _ _ _ h2, m_set_ne _ _ _ h1]
  by_cases a1 : mP s ≤ q
  · rw [cif_t a1, cif_t a1, cif_t a1]; exact ⟨rfl, rfl, rfl, fun z => absurd z (by decide), o _ _ _ _⟩
  rw [cif_f a1, cif_f a1, cif_f a1]
  by_cases a2 : wi (s_by s q) 97 122
  · rw [cif_t a2, cif_t a2, cif_t a2]; exact ⟨rfl, rfl, rfl, fun z => absurd z (by decide), o _ _ _ _⟩
  rw [cif_f a2, cif_f a2, cif_f a2]
  by_cases a3 : wi (s_by s q) 48 57
  · rw [cif_t a3, cif_t a3, cif_t a3]; exact ⟨rfl, rfl, rfl, fun _ => rfl, o _ _ _ _⟩
  rw [cif_f a3, cif_f a3, cif_f a3]
  refine ⟨rfl, rfl, rfl, fun z => ?_, o _ _ _ _⟩
  by_cases a4 : s_by s q = 59
  · rw [cif_t a4] at z; exact absurd z (by decide)
  · rw [cif_f a4] at z; exact absurd z (by decide)
theorem te_b (s : mS) {q : Nat} (hq : q < mP s) : q < te s q ∧ te s q ≤ mP s := by
  unfold te
  rw [cif_f (by omega)]
  obtain ⟨m, hm⟩ : ∃ m, mP s - q = m + 1 := ⟨mP s - q - 1, by omega⟩
  rw [hm]
  by_cases a2 : wi (s_by s q) 97 122
  · rw [cif_t a2]
    have e : lr s (m + 1) q = lr s m (q + 1) := cif_t a2
    have := lr_le s m (q + 1)
    rw [e]; omega
  rw [cif_f a2]
  by_cases a3 : wi (s_by s q) 48 57
  · rw [cif_t a3]
    have e : dr s q (m + 1) q 0 = dr s q m (q + 1) (cif (q - q < 3) (10 * 0 + s_by s q - 48) 0) := cif_t a3
    have := dr_le s q m (q + 1) (cif (q - q < 3) (10 * 0 + s_by s q - 48) 0)
    rw [e]; omega
  rw [cif_f a3]; omega
theorem sk_spec (s : mS) : ∀ m p, (∀ i, p ≤ i → i < sk s m p → is_bl (s_by s i)) ∧ (sk s m p < p + m → ¬ is_bl (s_by s (sk s m p)))
  | 0, p => ⟨fun i h1 h2 => by have h2 : i < p := h2; omega, fun h => by have h : p < p + 0 := h; omega⟩
  | m + 1, p => by
    have ih := sk_spec s m (p + 1)
    by_cases a : is_bl (s_by s p)
    · have e : sk s (m + 1) p = sk s m (p + 1) := cif_t a
      rw [e]
      refine ⟨fun i h1 h2 => ?_, fun h => ih.2 (by omega)⟩
      by_cases z : i = p
      · rw [z]; exact a
      · exact ih.1 i (by omega) h2
    · have e : sk s (m + 1) p = p := cif_f a
      rw [e]
      exact ⟨fun i h1 h2 => by omega, fun _ => a⟩
/-! the class at the same text -/
def cT (v s : mS) : Prop := mP v = mP s ∧ ∀ i, i < mP s → c_byte v i = s_by s i
def Qr (K : Int32) (p : Nat) (v X : mS) : Prop := ∀ f, mP v < p + f → c_rl K f p v = X
theorem Qr_end {K : Int32} {p : Nat} {v : mS} (h : mP v ≤ p) : Qr K p v v := fun f _ => by
  cases f with
  | zero => rfl
  | succ f => exact cif_t (Or.inl h)
theorem Qr_flt {K : Int32} {p : Nat} {v : mS} (h : ¬ v 61 0 = 0) : Qr K p v v := fun f _ => by
  cases f with
  | zero => rfl
  | succ f => exact cif_t (Or.inr h)
theorem Qr_bl {K : Int32} {p : Nat} {v X : mS} (h0 : v 61 0 = 0) (hp : p < mP v) (hb : is_bl (c_byte v p)) (h : Qr K (p + 1) v X) : Qr K p v X := fun f hf => by
  cases f with
  | zero => omega
  | succ f => exact (cif_f (fun q => q.elim (by omega) (fun z => z h0))).trans ((cif_t hb).trans (h f (by omega)))
theorem Qr_tk {K : Int32} {p : Nat} {v X : mS} (h0 : v 61 0 = 0) (hp : p < mP v) (hb : ¬ is_bl (c_byte v p)) (he : p < c_eot v p) (hP : mP (c_take v p (c_eot v p - p) K) = mP v) (h : Qr K (c_eot v p) (c_take v p (c_eot v p - p) K) X) : Qr K p v X := fun f hf => by
  cases f with
  | zero => omega
  | succ f => exact (cif_f (fun q => q.elim (by omega) (fun z => z h0))).trans ((cif_f hb).trans (h f (by omega)))
theorem Qr_skip {K : Int32} {v s X : mS} (hT : cT v s) (h0 : v 61 0 = 0) : ∀ n p, p + n ≤ mP s → (∀ i, p ≤ i → i < p + n → is_bl (s_by s i)) → Qr K (p + n) v X → Qr K p v X
  | 0, p, _, _, h => h
  | n + 1, p, hp, hb, h => Qr_bl h0 (by rw [hT.1]; omega) (by rw [hT.2 p (by omega)]; exact hb p (by omega) (by omega)) (Qr_skip hT h0 n (p + 1) (by omega) (fun i h1 h2 => hb i (by omega) (by omega)) (by rw [show p + 1 + n = p + (n + 1) by omega]; exact h))
theorem et_lr {v s : mS} (hT : cT v s) {W N : Prop} (hW : W) (hN : ¬ N) : ∀ f e, e + f ≤ mP s → c_et v W N f e = lr s f e
  | 0, _, _ => rfl
  | f + 1, e, he => by
    show cif _ _ _ = cif _ _ _
    have ih := et_lr hT hW hN f (e + 1) (by omega)
    have i1 : c_in v W N e ↔ wi (s_by s e) 97 122 := by
      unfold c_in
      rw [hT.2 e (by omega)]
      exact ⟨fun z => z.elim (fun y => y.2) (fun y => absurd y.1 hN), fun z => Or.inl ⟨hW, z⟩⟩
    by_cases z : wi (s_by s e) 97 122
    · rw [cif_t z, cif_t (i1.mpr z), ih]
    · rw [cif_f z, cif_f (fun y => z (i1.mp y))]
theorem et_dr {v s : mS} (hT : cT v s) {W N : Prop} (hW : ¬ W) (hN : N) (q : Nat) : ∀ f e x, e + f ≤ mP s → c_et v W N f e = (dr s q f e x).1
  | 0, _, _, _ => rfl
  | f + 1, e, x, he => by
    show cif _ _ _ = (cif _ _ _ : Nat × Int32).1
    have ih := et_dr hT hW hN q f (e + 1) (cif (e - q < 3) (10 * x + s_by s e - 48) x) (by omega)
    have i1 : c_in v W N e ↔ wi (s_by s e) 48 57 := by
      unfold c_in
      rw [hT.2 e (by omega)]
      exact ⟨fun z => z.elim (fun y => absurd y.1 hW) (fun y => y.2), fun z => Or.inr ⟨hN, z⟩⟩
    by_cases z : wi (s_by s e) 48 57
    · rw [cif_t z, cif_t (i1.mpr z), ih]
    · rw [cif_f z, cif_f (fun y => z (i1.mp y))]
theorem no_ld {x : Int32} (h : wi x 97 122) : ¬ wi x 48 57 := fun q => absurd (Int32.le_trans h.1 q.2) (by decide)
theorem eot_te {v s : mS} (hT : cT v s) {q : Nat} (hq : q < mP s) : c_eot v q = te s q := by
  unfold c_eot te
  rw [cif_f (by omega), hT.1, hT.2 q hq]
  obtain ⟨m, hm⟩ : ∃ m, mP s - q = m + 1 := ⟨mP s - q - 1, by omega⟩
  rw [hm, show mP s - (q + 1) = m by omega]
  by_cases a2 : wi (s_by s q) 97 122
  · rw [cif_t a2, et_lr hT a2 (no_ld a2) m (q + 1) (by omega)]
    exact (cif_t a2).symm
  rw [cif_f a2]
  by_cases a3 : wi (s_by s q) 48 57
  · rw [cif_t a3, et_dr hT a2 a3 q m (q + 1) (cif (q - q < 3) (10 * 0 + s_by s q - 48) 0) (by omega)]
    have e : dr s q (m + 1) q 0 = dr s q m (q + 1) (cif (q - q < 3) (10 * 0 + s_by s q - 48) 0) := cif_t a3
    rw [e]
  rw [cif_f a3]
  cases m with
  | zero => rfl
  | succ m => exact cif_f (fun z => z.elim (fun y => a2 y.1) (fun y => a3 y.1))
/-- the class's number of the first n digits -/
theorem dr_num {v s : mS} (hT : cT v s) (q : Nat) : ∀ f j x, q + j + f ≤ mP s → x = c_num v q (if j ≤ 3 then j else 3) → (dr s q f (q + j) x).2 = c_num v q (if (dr s q f (q + j) x).1 - q ≤ 3 then (dr s q f (q + j) x).1 - q else 3)
  | 0, j, x, _, hx => by
    show x = c_num v q (if q + j - q ≤ 3 then q + j - q else 3)
    rw [show q + j - q = j by omega]
    exact hx
  | f + 1, j, x, he, hx => by
    by_cases z : wi (s_by s (q + j)) 48 57
    · have e : dr s q (f + 1) (q + j) x = dr s q f (q + j + 1) (cif (q + j - q < 3) (10 * x + s_by s (q + j) - 48) x) := cif_t z
      rw [e, show q + j + 1 = q + (j + 1) by omega]
      refine dr_num hT q f (j + 1) _ (by omega) ?_
      rw [show q + j - q = j by omega]
      by_cases z3 : j < 3
      · rw [cif_t z3, if_pos (by omega), hx, if_pos (by omega)]
        show _ = c_num v q j * 10 + c_byte v (q + j) - 48
        rw [hT.2 (q + j) (by omega), Int32.mul_comm]
      · rw [cif_f z3, hx]
        by_cases z4 : j = 3
        · rw [z4]; rfl
        · rw [if_neg (by omega), if_neg (by omega)]
    · have e : dr s q (f + 1) (q + j) x = (q + j, x) := cif_f z
      rw [e]
      show x = c_num v q (if q + j - q ≤ 3 then q + j - q else 3)
      rw [show q + j - q = j by omega]
      exact hx
theorem num_b {v s : mS} (hT : cT v s) {q : Nat} : ∀ m, m ≤ 3 → q + m ≤ mP s → (∀ i, i < m → wi (s_by s (q + i)) 48 57) → ∃ n, c_num v q m = nI n ∧ n < 10 ^ m
  | 0, _, _, _ => ⟨0, rfl, by decide⟩
  | m + 1, hm, hp, hd => by
    obtain ⟨n, hn, hn2⟩ := num_b hT m (by omega) (by omega) (fun i hi => hd i (by omega))
    have hw := hd m (by omega)
    obtain ⟨d, hd2, ed⟩ := nI_of2 (x := s_by s (q + m)) (M := 57) (n := 57) rfl (fun z => absurd (Int32.lt_of_le_of_lt hw.1 z) (by decide)) hw.2
    have h48 : 48 ≤ d := (nI_leI (a := 48) (by decide) (by omega)).mp (by rw [← ed]; exact hw.1)
    have hb : (10 : Nat) ^ (m + 1) = 10 ^ m * 10 := Nat.pow_succ _ _
    refine ⟨n * 10 + d - 48, ?_, by omega⟩
    show c_num v q m * 10 + c_byte v (q + m) - 48 = _
    rw [hT.2 (q + m) (by omega), ed, hn, show (10 : Int32) = nI 10 from rfl, show nI n * nI 10 = nI (n * 10) from (Int32.ofNat_mul n 10).symm, nI_add, show (48 : Int32) = nI 48 from rfl, nI_sub (by omega)]
theorem dr_dig (s : mS) (q : Nat) : ∀ f o x, ∀ i, o ≤ i → i < (dr s q f o x).1 → wi (s_by s i) 48 57
  | 0, o, x, i, h1, h2 => by have h2 : i < o := h2; omega
  | f + 1, o, x, i, h1, h2 => by
    by_cases z : wi (s_by s o) 48 57
    · have e : dr s q (f + 1) o x = dr s q f (o + 1) (cif (o - q < 3) (10 * x + s_by s o - 48) x) := cif_t z
      rw [e] at h2
      by_cases w : i = o
      · rw [w]; exact z
      · exact dr_dig s q f (o + 1) _ i (by omega) h2
    · have e : dr s q (f + 1) o x = (o, x) := cif_f z
      rw [e] at h2
      have h2 : i < o := h2
      omega
theorem nof_tv {v s : mS} (hT : cT v s) {q : Nat} (hq : q < mP s) : (tw s q = 2 → c_nof v q (te s q - q) = tv s q ∧ ∃ n, tv s q = nI n ∧ n < 1000) ∧ (¬ tw s q = 2 → c_nof v q (te s q - q) = -1) := by
  have hdr := dr_num hT q (mP s - q) 0 0 (by omega) rfl
  rw [Nat.add_zero] at hdr
  have hb := te_b s hq
  unfold tw te tv c_nof at *
  rw [hT.2 q hq]
  rw [cif_f (show ¬ mP s ≤ q by omega)] at *
  rw [cif_f (show ¬ mP s ≤ q by omega)]
  by_cases a2 : wi (s_by s q) 97 122
  · rw [cif_t a2, cif_t a2]
    exact ⟨fun z => absurd z (by decide), fun _ => cif_f (fun z => no_ld a2 z.1)⟩
  rw [cif_f a2, cif_f a2]
  rw [cif_f a2] at hb
  by_cases a3 : wi (s_by s q) 48 57
  · rw [cif_t a3, cif_t a3]
    rw [cif_t a3] at hb
    by_cases a4 : 3 < (dr s q (mP s - q) q 0).1 - q
    · rw [cif_t a4]
      exact ⟨fun z => absurd z (by decide), fun _ => cif_f (fun z => by omega)⟩
    · rw [cif_f a4]
      refine ⟨fun _ => ?_, fun z => absurd rfl z⟩
      rw [cif_t ⟨a3, by omega⟩]
      rw [if_pos (by omega)] at hdr
      refine ⟨hdr.symm, ?_⟩
      obtain ⟨n, h1, h2⟩ := num_b hT ((dr s q (mP s - q) q 0).1 - q) (by omega) (by omega) (fun i hi => dr_dig s q (mP s - q) q 0 (q + i) (by omega) (by omega))
      refine ⟨n, hdr.trans h1, Nat.lt_of_lt_of_le h2 ?_⟩
      exact Nat.pow_le_pow_right (by decide) (show _ ≤ 3 by omega)
  · rw [cif_f a3, cif_f a3]
    refine ⟨fun z => ?_, fun _ => cif_f (fun z => a3 z.1)⟩
    by_cases a4 : s_by s q = 59
    · rw [cif_t a4] at z; exact absurd z (by decide)
    · rw [cif_f a4] at z; exact absurd z (by decide)
theorem sgn_tw {v s : mS} (hT : cT v s) {q : Nat} (hq : q < mP s) : c_byte v q = 59 ↔ tw s q = 3 := by
  unfold tw
  rw [hT.2 q hq, cif_f (by omega)]
  by_cases a2 : wi (s_by s q) 97 122
  · rw [cif_t a2]; exact ⟨fun z => by rw [z] at a2; exact absurd a2 (by decide), fun z => absurd z (by decide)⟩
  rw [cif_f a2]
  by_cases a3 : wi (s_by s q) 48 57
  · rw [cif_t a3]
    refine ⟨fun z => by rw [z] at a3; exact absurd a3 (by decide), fun z => ?_⟩
    by_cases a4 : 3 < (dr s q (mP s - q) q 0).1 - q
    · rw [cif_t a4] at z; exact absurd z (by decide)
    · rw [cif_f a4] at z; exact absurd z (by decide)
  rw [cif_f a3]
  by_cases a4 : s_by s q = 59
  · rw [cif_t a4]; exact ⟨fun _ => rfl, fun _ => a4⟩
  · rw [cif_f a4]; exact ⟨fun z => absurd z a4, fun z => absurd z (by decide)⟩
def EV (s : mS) (q : Nat) : Prop := tw s q = 1 ∧ te s q - q = 5 ∧ s_by s q = 101 ∧ s_by s (q + 1) = 118 ∧ s_by s (q + 2) = 101 ∧ s_by s (q + 3) = 114 ∧ s_by s (q + 4) = 121
theorem ev_EV {v s : mS} (hT : cT v s) {q : Nat} (hq : q < mP s) : c_ev v q (te s q - q) ↔ EV s q := by
  have hb := te_b s hq
  unfold c_ev EV
  constructor
  · rintro ⟨h1, h2⟩
    have g : ∀ i, i < 5 → s_by s (q + i) = evL.getD i 0 := fun i hi => by rw [← hT.2 (q + i) (by omega)]; exact h2 i hi
    have g0 : s_by s q = 101 := g 0 (by decide)
    refine ⟨?_, h1, g0, g 1 (by decide), g 2 (by decide), g 3 (by decide), g 4 (by decide)⟩
    unfold tw
    rw [cif_f (by omega), cif_t (by rw [g0]; decide)]
  · rintro ⟨h0, h1, g0, g1, g2, g3, g4⟩
    refine ⟨h1, fun i hi => ?_⟩
    rw [hT.2 (q + i) (by omega)]
    rcases (show i = 0 ∨ i = 1 ∨ i = 2 ∨ i = 3 ∨ i = 4 by omega) with rfl | rfl | rfl | rfl | rfl
    · exact g0
    · exact g1
    · exact g2
    · exact g3
    · exact g4
theorem sev_EV {u s : mS} (h : sT u s) {q : Nat} (hq : q ≤ mP s) (hP : mP s ≤ 200) (h19 : u 19 0 = nI q) (h20 : u 20 0 = nI (te s q)) (h22 : u 22 0 = tw s q) : s_ev u q ↔ EV s q := by
  unfold s_ev EV
  rw [h.by, h19, h20, h22]
  have hb : q ≤ te s q ∧ te s q ≤ mP s := by
    rcases Nat.lt_or_ge q (mP s) with z | z
    · have := te_b s z; omega
    · unfold te; rw [cif_t z]; omega
  rw [nI_sub hb.1, show (5 : Int32) = nI 5 from rfl, nI_eq (by omega) (by decide)]
/-! what a token does to the class -/
theorem take_0 {v : mS} {q m : Nat} {K : Int32} (h : v 63 0 = 0) : c_take v q m K = cif (c_ev v q m) (m_set v 63 0 1) (c_bl v 1 (nI q)) := by
  unfold c_take
  by_cases z : c_ev v q m
  · rw [cif_t z, cif_t ⟨h, z⟩]
  · rw [cif_f z, cif_f (fun y => z y.2), cif_f (fun y => absurd (h.symm.trans y.1) (by decide)), cif_f (fun y => absurd (h.symm.trans y.1) (by decide)), cif_f (fun y => absurd (h.symm.trans y.1) (by decide))]
theorem take_1 {v : mS} {q m : Nat} {K : Int32} (h : v 63 0 = 1) : c_take v q m K = cif (¬ c_nof v q m = -1) (c_tkk v (c_nof v q m) (nI q) K) (c_bl v 1 (nI q)) := by
  unfold c_take
  rw [cif_f (fun y => absurd (h.symm.trans y.1) (by decide))]
  by_cases z : ¬ c_nof v q m = -1
  · rw [cif_t z, cif_t ⟨h, z⟩]
  · rw [cif_f z, cif_f (fun y => z y.2), cif_f (fun y => absurd (h.symm.trans y.1) (by decide)), cif_f (fun y => absurd (h.symm.trans y.1) (by decide))]
theorem take_2 {v : mS} {q m : Nat} {K : Int32} (h : v 63 0 = 2) : c_take v q m K = cif (¬ c_nof v q m = -1) (c_tkd v (c_nof v q m)) (c_bl v 1 (nI q)) := by
  unfold c_take
  rw [cif_f (fun y => absurd (h.symm.trans y.1) (by decide)), cif_f (fun y => absurd (h.symm.trans y.1) (by decide))]
  by_cases z : ¬ c_nof v q m = -1
  · rw [cif_t z, cif_t ⟨h, z⟩]
  · rw [cif_f z, cif_f (fun y => z y.2), cif_f (fun y => absurd (h.symm.trans y.1) (by decide))]
theorem take_3 {v : mS} {q m : Nat} {K : Int32} (h : v 63 0 = 3) : c_take v q m K = cif (c_byte v q = 59) (m_set v 63 0 0) (c_bl v 1 (nI q)) := by
  unfold c_take
  rw [cif_f (fun y => absurd (h.symm.trans y.1) (by decide)), cif_f (fun y => absurd (h.symm.trans y.1) (by decide)), cif_f (fun y => absurd (h.symm.trans y.1) (by decide))]
  by_cases z : c_byte v q = 59
  · rw [cif_t z, cif_t ⟨h, z⟩]
  · rw [cif_f z, cif_f (fun y => z y.2)]
theorem byte_eq {u v : mS} (h : u 12 = v 12 ∧ u 13 = v 13) : c_byte u = c_byte v := by
  funext i
  unfold c_byte mP
  rw [h.1, h.2]
theorem cT.k {u v s : mS} (h : cT v s) (e : u 12 = v 12 ∧ u 13 = v 13) : cT u s := ⟨by unfold mP at *; rw [e.2]; exact h.1, fun i hi => by rw [byte_eq e]; exact h.2 i hi⟩
/-- one token: the class goes over it -/
theorem Qr_tok {K : Int32} {v s X : mS} (hT : cT v s) (h0 : v 61 0 = 0) {p : Nat} (hp : p ≤ mP s) (hq : tq s p < mP s) (h : Qr K (te s (tq s p)) (c_take v (tq s p) (te s (tq s p) - tq s p) K) X) : Qr K p v X := by
  have h1 := sk_le s (mP s - p) p
  have h2 := sk_spec s (mP s - p) p
  have hb := te_b s hq
  have e : tq s p = sk s (mP s - p) p := rfl
  rw [← e] at h1 h2
  refine Qr_skip hT h0 (tq s p - p) p (by omega) (fun i a b => h2.1 i a (by omega)) ?_
  rw [show p + (tq s p - p) = tq s p by omega]
  have ee := eot_te hT hq
  refine Qr_tk h0 (by rw [hT.1]; exact hq) (by rw [hT.2 _ hq]; exact h2.2 (by omega)) (by rw [ee]; omega) ?_ (by rw [ee]; exact h)
  exact (c_k6.take (fun _ _ => rfl : c_k6 v v) _ _ _).P
theorem Qr_fin {K : Int32} {v s : mS} (hT : cT v s) (h0 : v 61 0 = 0) {p : Nat} (hp : p ≤ mP s) (hq : mP s ≤ tq s p) : Qr K p v v := by
  have h1 := sk_le s (mP s - p) p
  have h2 := sk_spec s (mP s - p) p
  have e : tq s p = sk s (mP s - p) p := rfl
  rw [← e] at h1 h2
  refine Qr_skip hT h0 (mP s - p) p (by omega) (fun i a b => h2.1 i a (by omega)) ?_
  exact Qr_end (by rw [hT.1]; omega)
def Out (X Z : mS) : Prop := X 61 0 = Z 17 0 ∧ X 62 0 = Z 18 0 ∧ (Z 17 0 = 0 ∨ Z 17 0 = 1 ∨ Z 17 0 = 2) ∧ (Z 17 0 = 0 → ∀ k, k < 8 → X 60 k = Z 16 k)
theorem fin_flt {v : mS} (h : ¬ v 61 0 = 0) : c_fin v = v := cif_f (fun q => h q.1)
theorem out_bl {v u : mS} {w : Int32} {q : Nat} (hw : w = 1 ∨ w = 2) (h19 : u 19 0 = nI q) : Out (c_fin (c_bl v w (nI q))) (s_wr u w) := by
  have hz : ¬ c_bl v w (nI q) 61 0 = 0 := by show ¬ w = 0; rcases hw with z | z <;> rw [z] <;> decide
  rw [fin_flt hz]
  refine ⟨rfl, h19.symm, Or.inr hw, fun z => ?_⟩
  have z : w = 0 := z
  rcases hw with y | y <;> rw [y] at z <;> exact absurd z (by decide)
theorem out_end {v u s : mS} (hv0 : v 61 0 = 0) (hd : ¬ v 63 0 = 0) {q : Nat} (hP : v 13 0 = nI q) (h19 : u 19 0 = nI q) : Out (c_fin v) (s_wr u 1) := by
  have e : c_fin v = c_bl v 1 (nI q) := by
    rw [← hP]
    exact cif_t ⟨hv0, hd⟩
  rw [e]
  have hz : ¬ c_bl v 1 (nI q) 61 0 = 0 := by show ¬ (1 : Int32) = 0; decide
  exact ⟨rfl, h19.symm, Or.inr (Or.inl rfl), fun z => absurd z (by show ¬ (1 : Int32) = 0; decide)⟩
/-- a faulty token, where one of another kind is due -/
theorem bad_tok {K : Int32} {v u s : mS} (hT : cT v s) (hP : mP s ≤ 200) (h13 : v 13 0 = nI (mP s)) (hv0 : v 61 0 = 0) (hd : ¬ v 63 0 = 0) {p : Nat} (hp : p ≤ mP s) (h19 : u 19 0 = nI (tq s p)) (hb : tq s p < mP s → c_take v (tq s p) (te s (tq s p) - tq s p) K = c_bl v 1 (nI (tq s p))) : ∃ X, Qr K p v X ∧ Out (c_fin X) (s_wr u 1) := by
  rcases Nat.lt_or_ge (tq s p) (mP s) with z | z
  · refine ⟨c_bl v 1 (nI (tq s p)), Qr_tok hT hv0 hp z ?_, out_bl (Or.inl rfl) h19⟩
    rw [hb z]
    exact Qr_flt (by show ¬ (1 : Int32) = 0; decide)
  · have h1 := sk_le s (mP s - p) p
    have e : tq s p = sk s (mP s - p) p := rfl
    have e2 : tq s p = mP s := by omega
    exact ⟨v, Qr_fin hT hv0 hp z, out_end (s := s) hv0 hd h13 (by rw [← e2]; exact h19)⟩
theorem tw_lt {s : mS} {q : Nat} (h : ¬ tw s q = 0) : q < mP s := by
  rcases Nat.lt_or_ge q (mP s) with z | z
  · exact z
  · exact absurd (cif_t z) h
set_option maxHeartbeats 4000000 in
theorem law_run {s : mS} {K : Nat} (hP : mP s ≤ 200) (hK : s 1 0 = nI K ∧ K ≤ 8) : ∀ (n p : Nat) (u v : mS), mP s < p + n → p ≤ mP s → sT u s → u 1 = s 1 → cT v s → v 13 0 = nI (mP s) → v 61 0 = 0 → v 62 0 = -1 → v 63 0 = 0 → u 17 0 = 0 → u 18 0 = -1 → (∀ k, k < 8 → v 60 k = u 16 k) → u 19 0 = nI (tq s p) → u 20 0 = nI (te s (tq s p)) → u 22 0 = tw s (tq s p) → ∃ X, Qr (nI K) p v X ∧ Out (c_fin X) (s_pl n u)
  | 0, p, u, v, h1, h2, _, _, _, _, _, _, _, _, _, _, _, _, _ => by omega
  | n + 1, p, u, v, hn, hp, hs, hu1, hT, h13, h61, h62, h63, h17, h18, hw, h19, h20, h22 => by
    have hsk := sk_le s (mP s - p) p
    have eq0 : tq s p = sk s (mP s - p) p := rfl
    have hqP : tq s p ≤ mP s := by omega
    show ∃ X, Qr (nI K) p v X ∧ Out (c_fin X) (cif (u 22 0 = 0) u (cif ((s_stmt u).2 = 0) (s_stmt u).1 (s_pl n (s_stmt u).1)))
    by_cases z0 : u 22 0 = 0
    · rw [cif_t z0]
      have hge : mP s ≤ tq s p := by
        rcases Nat.lt_or_ge (tq s p) (mP s) with z | z
        · exfalso
          rw [h22] at z0
          unfold tw at z0
          rw [cif_f (by omega)] at z0
          by_cases a2 : wi (s_by s (tq s p)) 97 122
          · rw [cif_t a2] at z0; exact absurd z0 (by decide)
          rw [cif_f a2] at z0
          by_cases a3 : wi (s_by s (tq s p)) 48 57
          · rw [cif_t a3] at z0
            by_cases a4 : 3 < (dr s (tq s p) (mP s - tq s p) (tq s p) 0).1 - tq s p
            · rw [cif_t a4] at z0; exact absurd z0 (by decide)
            · rw [cif_f a4] at z0; exact absurd z0 (by decide)
          rw [cif_f a3] at z0
          by_cases a4 : s_by s (tq s p) = 59
          · rw [cif_t a4] at z0; exact absurd z0 (by decide)
          · rw [cif_f a4] at z0; exact absurd z0 (by decide)
        · exact z
      refine ⟨v, Qr_fin hT h61 hp hge, ?_⟩
      rw [show c_fin v = v from cif_f (fun q => q.2 h63)]
      exact ⟨h61.trans h17.symm, h62.trans h18.symm, Or.inl h17, fun _ => hw⟩
    rw [cif_f z0]
    have hq : tq s p < mP s := tw_lt (by rw [← h22]; exact z0)
    have hb0 := te_b s hq
    obtain ⟨q0, eq⟩ : ∃ q0, q0 = tq s p := ⟨_, rfl⟩
    have ix19 : ix (u 19 0) = tq s p := by rw [h19]; exact nI_clamp (by omega)
    have ix20 : ix (u 20 0) = te s (tq s p) := by rw [h20]; exact nI_clamp (by omega)
    have hev := sev_EV hs hqP hP h19 h20 h22
    rw [← ix19] at hev
    have hev2 := ev_EV hT hq
    by_cases c1 : EV s (tq s p)
    · have d1 : s_ev u (ix (u 19 0)) := by rw [ix19] at hev ⊢; exact hev.mpr c1
      -- the kind
      have T1 := tok_facts hs (te s (tq s p))
      have k1 : s_tk u = s_tok u (te s (tq s p)) := by unfold s_tk; rw [ix20]
      rw [← k1] at T1
      obtain ⟨a19, a20, a22, a21, ao⟩ := T1
      obtain ⟨p1, ep1⟩ : ∃ p1, p1 = te s (tq s p) := ⟨_, rfl⟩
      rw [← ep1] at a19 a20 a22 a21 hb0
      have hsk1 := sk_le s (mP s - p1) p1
      have eq1 : tq s p1 = sk s (mP s - p1) p1 := rfl
      have hs1 : sT (s_tk u) s := ⟨(ao 12 (by decide) (by decide) (by decide) (by decide)).trans hs.1, (ao 13 (by decide) (by decide) (by decide) (by decide)).trans hs.2⟩
      have v1T : cT (m_set v 63 0 1) s := hT.k ⟨rfl, rfl⟩
      have go1 : ∀ Z, (∃ X, Qr (nI K) p1 (m_set v 63 0 1) X ∧ Out (c_fin X) Z) → ∃ X, Qr (nI K) p v X ∧ Out (c_fin X) Z := by
        rintro Z ⟨X, x1, x2⟩
        refine ⟨X, Qr_tok hT h61 hp hq ?_, x2⟩
        rw [take_0 h63, cif_t (hev2.mpr c1), ← ep1]
        exact x1
      by_cases c2 : tw s (tq s p1) = 2
      · have d2 : s_tk u 22 0 = 2 := a22.trans c2
        have hq1 : tq s p1 < mP s := tw_lt (by rw [c2]; decide)
        have hb1 := te_b s hq1
        obtain ⟨n1, n2⟩ := (nof_tv v1T hq1).1 c2
        obtain ⟨nn, en, hnn⟩ := n2
        have hne : ¬ c_nof (m_set v 63 0 1) (tq s p1) (te s (tq s p1) - tq s p1) = -1 := by rw [n1, en]; exact oI_ne (by omega)
        have e1 : s_tk u 1 0 = nI K := (congrFun ((ao 1 (by decide) (by decide) (by decide) (by decide)).trans hu1) 0).trans hK.1
        have e21 : s_tk u 21 0 = nI nn := (a21 c2).trans en
        by_cases c3 : nn < K
        · have d3 : wi (s_tk u 21 0) 0 (s_tk u 1 0 - 1) := by rw [e21, e1]; exact m_wi (N := 8) ⟨rfl, hK.2⟩ (by decide) c3
          -- the days
          obtain ⟨p2, ep2⟩ : ∃ p2, p2 = te s (tq s p1) := ⟨_, rfl⟩
          have T2 := tok_facts hs1 p2
          have k2 : s_tk (s_tk u) = s_tok (s_tk u) p2 := by show s_tok (s_tk u) (ix (s_tk u 20 0)) = _; rw [a20, ← ep2, ix_nI (by omega)]
          rw [← k2] at T2
          obtain ⟨b19, b20, b22, b21, bo⟩ := T2
          have hsk2 := sk_le s (mP s - p2) p2
          have eq2 : tq s p2 = sk s (mP s - p2) p2 := rfl
          have hs2 : sT (s_tk (s_tk u)) s := ⟨(bo 12 (by decide) (by decide) (by decide) (by decide)).trans hs1.1, (bo 13 (by decide) (by decide) (by decide) (by decide)).trans hs1.2⟩
          obtain ⟨v2, ev2⟩ : ∃ v2, v2 = m_set (m_set (m_set v 63 0 1) 64 0 (nI nn)) 63 0 2 := ⟨_, rfl⟩
          have v2T : cT v2 s := by rw [ev2]; exact hT.k ⟨rfl, rfl⟩
          have go2 : ∀ Z, (∃ X, Qr (nI K) p2 v2 X ∧ Out (c_fin X) Z) → ∃ X, Qr (nI K) p v X ∧ Out (c_fin X) Z := by
            rintro Z ⟨X, x1, x2⟩
            refine go1 Z ⟨X, Qr_tok v1T h61 (by omega) hq1 ?_, x2⟩
            rw [take_1 rfl, cif_t hne, n1, en, ← ep2]
            unfold c_tkk
            rw [cif_t (nI_lt c3 (by omega)), ← ev2]
            exact x1
          have w63 : v2 63 0 = 2 := by rw [ev2]; rfl
          have w61 : v2 61 0 = 0 := by rw [ev2]; exact h61
          have w13 : v2 13 0 = nI (mP s) := by rw [ev2]; exact h13
          have w64 : v2 64 0 = nI nn := by rw [ev2]; rfl
          by_cases c4 : tw s (tq s p2) = 2
          · have d4 : s_tk (s_tk u) 22 0 = 2 := b22.trans c4
            have hq2 : tq s p2 < mP s := tw_lt (by rw [c4]; decide)
            have hb2 := te_b s hq2
            obtain ⟨m1, m2⟩ := (nof_tv v2T hq2).1 c4
            obtain ⟨dd, ed, hdd⟩ := m2
            have hne2 : ¬ c_nof v2 (tq s p2) (te s (tq s p2) - tq s p2) = -1 := by rw [m1, ed]; exact oI_ne (by omega)
            have f21 : s_tk (s_tk u) 21 0 = nI dd := (b21 c4).trans ed
            -- the sign
            obtain ⟨p3, ep3⟩ : ∃ p3, p3 = te s (tq s p2) := ⟨_, rfl⟩
            have T3 := tok_facts hs2 p3
            have k3 : s_tk (s_tk (s_tk u)) = s_tok (s_tk (s_tk u)) p3 := by show s_tok (s_tk (s_tk u)) (ix (s_tk (s_tk u) 20 0)) = _; rw [b20, ← ep3, ix_nI (by omega)]
            rw [← k3] at T3
            obtain ⟨c19, c20, c22, c21, co⟩ := T3
            have hsk3 := sk_le s (mP s - p3) p3
            have eq3 : tq s p3 = sk s (mP s - p3) p3 := rfl
            have hs3 : sT (s_tk (s_tk (s_tk u))) s := ⟨(co 12 (by decide) (by decide) (by decide) (by decide)).trans hs2.1, (co 13 (by decide) (by decide) (by decide) (by decide)).trans hs2.2⟩
            obtain ⟨v3, ev3⟩ : ∃ v3, v3 = m_set (m_set v2 60 nn (nI dd)) 63 0 3 := ⟨_, rfl⟩
            have v3T : cT v3 s := by rw [ev3]; exact v2T.k ⟨rfl, rfl⟩
            have go3 : ∀ Z, (∃ X, Qr (nI K) p3 v3 X ∧ Out (c_fin X) Z) → ∃ X, Qr (nI K) p v X ∧ Out (c_fin X) Z := by
              rintro Z ⟨X, x1, x2⟩
              refine go2 Z ⟨X, Qr_tok v2T w61 (by omega) hq2 ?_, x2⟩
              rw [take_2 w63, cif_t hne2, m1, ed, ← ep3]
              have e9 : c_tkd v2 (nI dd) = v3 := by
                rw [ev3]
                unfold c_tkd
                rw [w64, cif_f (fun y => y.elim (nI_pos (by omega)) (fun y2 => by rw [show (8 : Int32) = nI 8 from rfl, nI_leI (by decide) (by omega)] at y2; have := hK.2; omega)), ix_nI (by omega)]
              rw [e9]
              exact x1
            have y63 : v3 63 0 = 3 := by rw [ev3]; rfl
            have y61 : v3 61 0 = 0 := by rw [ev3]; exact w61
            have y13 : v3 13 0 = nI (mP s) := by rw [ev3]; exact w13
            by_cases c5 : tw s (tq s p3) = 3
            · have d5 : s_tk (s_tk (s_tk u)) 22 0 = 3 := c22.trans c5
              have hq3 : tq s p3 < mP s := tw_lt (by rw [c5]; decide)
              have hb3 := te_b s hq3
              obtain ⟨p4, ep4⟩ : ∃ p4, p4 = te s (tq s p3) := ⟨_, rfl⟩
              obtain ⟨u3, eu3⟩ : ∃ u3, u3 = m_set (s_tk (s_tk (s_tk u))) 16 (ix (s_tk u 21 0)) (s_tk (s_tk u) 21 0) := ⟨_, rfl⟩
              have es : s_stmt u = (s_tk u3, 1) := by rw [eu3]; exact (cif_t d1).trans ((cif_t d2).trans ((cif_t d3).trans ((cif_t d4).trans (cif_t d5))))
              rw [es, cif_f (by show ¬ (1 : Int32) = 0; decide)]
              have hs4 : sT u3 s := by rw [eu3]; exact hs3
              have k4 : s_tk u3 = s_tok u3 p4 := by unfold s_tk; have : u3 20 0 = s_tk (s_tk (s_tk u)) 20 0 := by rw [eu3]; rfl
                                                    rw [this, c20, ← ep4, ix_nI (by omega)]
              have T4 := tok_facts hs4 p4
              rw [← k4] at T4
              obtain ⟨t19, t20, t22, t21, to⟩ := T4
              obtain ⟨v4, ev4⟩ : ∃ v4, v4 = m_set v3 63 0 0 := ⟨_, rfl⟩
              have g4 : ∀ j, j ≠ 16 → u3 j = s_tk (s_tk (s_tk u)) j := fun j hj => by rw [eu3]; exact m_set_ne _ _ _ hj
              have uo : ∀ j, j ≠ 16 → j ≠ 19 → j ≠ 20 → j ≠ 21 → j ≠ 22 → s_tk u3 j = u j := fun j h0 h1 h2 h3 h4 => (to j h1 h2 h3 h4).trans ((g4 j h0).trans ((co j h1 h2 h3 h4).trans ((bo j h1 h2 h3 h4).trans (ao j h1 h2 h3 h4))))
              have h16 : ∀ j, s_tk u3 16 j = if j = nn then nI dd else u 16 j := fun j => by
                rw [to 16 (by decide) (by decide) (by decide) (by decide), eu3, e21, f21, ix_nI (by omega)]
                by_cases e : j = nn
                · rw [e, m_set_at, if_pos rfl]
                · rw [ms_ne e, if_neg e, co 16 (by decide) (by decide) (by decide) (by decide), bo 16 (by decide) (by decide) (by decide) (by decide), ao 16 (by decide) (by decide) (by decide) (by decide)]
              have h60 : ∀ j, v4 60 j = if j = nn then nI dd else v 60 j := fun j => by
                rw [ev4, ev3, ev2]
                by_cases e : j = nn
                · rw [e, if_pos rfl]
                  exact m_set_at _ _ _ _
                · rw [if_neg e]
                  exact ms_ne (c := m_set (m_set (m_set v 63 0 1) 64 0 (nI nn)) 63 0 2) (j := 60) e
              have ih := law_run hP hK n p4 (s_tk u3) v4 (by omega) (by omega) ⟨(uo 12 (by decide) (by decide) (by decide) (by decide) (by decide)).trans hs.1, (uo 13 (by decide) (by decide) (by decide) (by decide) (by decide)).trans hs.2⟩ ((uo 1 (by decide) (by decide) (by decide) (by decide) (by decide)).trans hu1) (by rw [ev4]; exact v3T.k ⟨rfl, rfl⟩) (by rw [ev4]; exact y13) (by rw [ev4]; exact y61) (by rw [ev4, ev3, ev2]; exact h62) (by rw [ev4]; rfl) (by rw [uo 17 (by decide) (by decide) (by decide) (by decide) (by decide)]; exact h17) (by rw [uo 18 (by decide) (by decide) (by decide) (by decide) (by decide)]; exact h18) (fun k hk => by rw [h16, h60, hw k hk]) t19 t20 t22
              obtain ⟨X, x1, x2⟩ := ih
              refine go3 _ ⟨X, Qr_tok v3T y61 (by omega) hq3 ?_, x2⟩
              rw [take_3 y63, cif_t ((sgn_tw v3T hq3).mpr c5), ← ev4, ← ep4]
              exact x1
            · have d5 : ¬ s_tk (s_tk (s_tk u)) 22 0 = 3 := by rw [c22]; exact c5
              have es : s_stmt u = (s_wr (s_tk (s_tk (s_tk u))) 1, 0) := (cif_t d1).trans ((cif_t d2).trans ((cif_t d3).trans ((cif_t d4).trans (cif_f d5))))
              rw [es, cif_t rfl]
              exact go3 _ (bad_tok v3T hP y13 y61 (by rw [y63]; decide) (by omega) c19 (fun z => by rw [take_3 y63, cif_f (fun y => c5 ((sgn_tw v3T z).mp y))]))
          · have d4 : ¬ s_tk (s_tk u) 22 0 = 2 := by rw [b22]; exact c4
            have es : s_stmt u = (s_wr (s_tk (s_tk u)) 1, 0) := (cif_t d1).trans ((cif_t d2).trans ((cif_t d3).trans (cif_f d4)))
            rw [es, cif_t rfl]
            exact go2 _ (bad_tok v2T hP w13 w61 (by rw [w63]; decide) (by omega) b19 (fun z => by rw [take_2 w63, cif_f (fun y => y ((nof_tv v2T z).2 c4))]))
        · have d3 : ¬ wi (s_tk u 21 0) 0 (s_tk u 1 0 - 1) := by rw [e21, e1]; exact m_nwi (T := K) (N := 8) ⟨rfl, hK.2⟩ (by decide) (Or.inr (nI_le (by omega) (by omega)))
          have es : s_stmt u = (s_wr (s_tk u) 2, 0) := (cif_t d1).trans ((cif_t d2).trans (cif_f d3))
          rw [es, cif_t rfl]
          refine go1 _ ⟨c_bl (m_set v 63 0 1) 2 (nI (tq s p1)), Qr_tok v1T h61 (by omega) hq1 ?_, out_bl (Or.inr rfl) a19⟩
          rw [take_1 rfl, cif_t hne, n1, en]
          unfold c_tkk
          rw [cif_f (fun z => by rw [nI_ltI (by omega) (by have := hK.2; omega)] at z; exact c3 z)]
          exact Qr_flt (by show ¬ (2 : Int32) = 0; decide)
      · have d2 : ¬ s_tk u 22 0 = 2 := by rw [a22]; exact c2
        have es : s_stmt u = (s_wr (s_tk u) 1, 0) := (cif_t d1).trans (cif_f d2)
        rw [es, cif_t rfl]
        exact go1 _ (bad_tok v1T hP h13 h61 (by show ¬ (1 : Int32) = 0; decide) (by omega) a19 (fun z => by rw [take_1 rfl, cif_f (fun y => y ((nof_tv v1T z).2 c2))]))
    · have d1 : ¬ s_ev u (ix (u 19 0)) := by rw [ix19] at hev ⊢; exact fun z => c1 (hev.mp z)
      have es : s_stmt u = (s_wr u 1, 0) := cif_f d1
      rw [es, cif_t rfl]
      refine ⟨c_bl v 1 (nI (tq s p)), Qr_tok hT h61 hp hq ?_, out_bl (Or.inl rfl) h19⟩
      rw [take_0 h63, cif_f (fun z => c1 (hev2.mp z))]
      exact Qr_flt (by show ¬ (1 : Int32) = 0; decide)
