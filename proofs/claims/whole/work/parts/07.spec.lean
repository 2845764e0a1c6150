
def mK (s : mS) : Nat := (s 1 0).toNatClampNeg
def mT (s : mS) : Nat := (s 5 0).toNatClampNeg
def mB (s : mS) : Nat := (s 8 0).toNatClampNeg
def mP (s : mS) : Nat := (s 13 0).toNatClampNeg
def mA (s : mS) : Nat := (s 23 0).toNatClampNeg
abbrev ix (x : Int32) : Nat := x.toNatClampNeg
/-- the reference's numbers are in their ranges -/
def m_inv (s : mS) : Prop :=
  (s 1 0 = nI (mK s) ∧ mK s ≤ 8) ∧ (s 5 0 = nI (mT s) ∧ mT s ≤ 12) ∧ (s 8 0 = nI (mB s) ∧ mB s ≤ 10) ∧ (s 13 0 = nI (mP s) ∧ mP s ≤ 200) ∧ (s 23 0 = nI (mA s) ∧ mA s ≤ 120) ∧
  (∀ t, t < mT s → s 6 t = nI (ix (s 6 t)) ∧ ix (s 6 t) < mK s) ∧
  (∀ a, a < mA s → (s 28 a = nI (ix (s 28 a)) ∧ ix (s 28 a) < mK s) ∧ (s 27 a = nI (ix (s 27 a)) ∧ ix (s 27 a) < mB s) ∧ (s 25 a = -1 ∨ (s 25 a = nI (ix (s 25 a)) ∧ ix (s 25 a) < mT s))) ∧
  (∀ a, a < mA s → (s 24 a = 1 ∨ s 24 a = 3) → s 25 a = nI (ix (s 25 a)) ∧ ix (s 25 a) < mT s)
noncomputable def cif {α : Type} (p : Prop) (a b : α) : α := @ite α p (Classical.propDecidable p) a b
theorem cif_t {α : Type} {p : Prop} {a b : α} (h : p) : cif p a b = a := by unfold cif; exact if_pos h
theorem cif_f {α : Type} {p : Prop} {a b : α} (h : ¬ p) : cif p a b = b := by unfold cif; exact if_neg h
noncomputable def b1 (p : Prop) : Int32 := cif p 1 0
theorem b1_t {p : Prop} (h : p) : b1 p = 1 := cif_t h
theorem b1_f {p : Prop} (h : ¬ p) : b1 p = 0 := cif_f h
theorem b1_0 {p : Prop} : b1 p = 0 ↔ ¬ p := ⟨fun h q => by rw [b1_t q] at h; exact absurd h (by decide), b1_f⟩
theorem b1_1 {p : Prop} (h : ¬ b1 p = 0) : p := by
  by_cases q : p
  · exact q
  · exact absurd (b1_f q) h
theorem b1_n {p : Prop} : narrow .boolean (.int (b1 p)) = .int (b1 p) := by
  by_cases h : p
  · rw [b1_t h]; rfl
  · rw [b1_f h]; rfl
theorem b1_c {p q : Prop} (h : p ↔ q) : b1 p = b1 q := by rw [propext h]
abbrev wi (v lo hi : Int32) : Prop := lo ≤ v ∧ v ≤ hi
def m_S (v : Value) (n : Nat) (s : mS) (r : mH) : Option Value → Nat → mH → Prop := fun v' n' h' => v' = some v ∧ n' = n ∧ h' = hm s r
theorem m_close {n : Nat} {s' : mS} {r : mH} {v : Int32} {X : mS × Int32} (e : X = (s', v)) : m_S (.int X.2) n X.1 r (some (.int v)) n (hm s' r) := by subst e; exact ⟨rfl, rfl, rfl⟩
theorem m_lt {x : Int32} {K N : Nat} (h : x = nI K ∧ K ≤ N) (c : ¬ x = nI N) : K < N := by
  rcases Nat.lt_or_ge K N with q | q
  · exact q
  · exact absurd (by rw [h.1, show K = N by omega]) c
theorem m_ix {t x : Int32} {T N : Nat} (h : x = nI T ∧ T ≤ N) (hN : N < 2 ^ 30) (c : wi t 0 (x - 1)) : t = nI (ix t) ∧ ix t < T := by
  obtain ⟨rfl, hT⟩ := h
  obtain ⟨c1, c2⟩ := c
  obtain ⟨j, hj, rfl⟩ := nI_of (x := t) (fun q => absurd c1 (Int32.not_le.mpr q))
  have e1 : ix (nI j) = j := nI_clamp hj
  rw [e1]
  refine ⟨rfl, ?_⟩
  rcases Nat.eq_zero_or_pos T with q | q
  · subst q
    exfalso
    have h2 : (nI j).toInt ≤ (nI 0 - 1).toInt := Int32.le_iff_toInt_le.mp c2
    rw [nI_toInt hj] at h2
    have : (nI 0 - 1).toInt = -1 := by decide
    omega
  · obtain ⟨T', rfl⟩ : ∃ T', T = T' + 1 := ⟨T - 1, by omega⟩
    rw [nI_pred] at c2
    have := (nI_leI hj (by omega)).mp c2
    omega
theorem m_wi {T N j : Nat} {x : Int32} (h : x = nI T ∧ T ≤ N) (hN : N < 2 ^ 30) (hj : j < T) : wi (nI j) 0 (x - 1) := by
  obtain ⟨rfl, hT⟩ := h
  refine ⟨nI_pos' (by omega), ?_⟩
  obtain ⟨T', rfl⟩ : ∃ T', T = T' + 1 := ⟨T - 1, by omega⟩
  rw [nI_pred]
  exact nI_le (by omega) (by omega)
noncomputable def ct (p : Nat → Prop) : Nat → Nat
  | 0 => 0
  | n + 1 => ct p n + cif (p n) 1 0
theorem ct_t {p : Nat → Prop} {n : Nat} (h : p n) : ct p (n + 1) = ct p n + 1 := by show ct p n + cif (p n) 1 0 = _; rw [cif_t h]
theorem ct_f {p : Nat → Prop} {n : Nat} (h : ¬ p n) : ct p (n + 1) = ct p n := by show ct p n + cif (p n) 1 0 = _; rw [cif_f h]; omega
theorem ct_le (p : Nat → Prop) : ∀ n, ct p n ≤ n
  | 0 => Nat.le_refl 0
  | n + 1 => by
    have := ct_le p n
    by_cases h : p n
    · rw [ct_t h]; omega
    · rw [ct_f h]; omega
/-- the first place with p -/
noncomputable def fnd (p : Nat → Prop) : Nat → Option Nat
  | 0 => none
  | n + 1 => match fnd p n with
    | some i => some i
    | none => cif (p n) (some n) none
theorem fnd_none {p : Nat → Prop} : ∀ {n : Nat}, (∀ j, j < n → ¬ p j) → fnd p n = none
  | 0, _ => rfl
  | n + 1, h => by
    have ih := fnd_none (p := p) (n := n) (fun j hj => h j (by omega))
    show (match fnd p n with | some i => some i | none => cif (p n) (some n) none) = none
    rw [ih]
    exact cif_f (h n (by omega))
theorem fnd_at {p : Nat → Prop} {i : Nat} (h : ∀ j, j < i → ¬ p j) (hp : p i) : ∀ {n : Nat}, i < n → fnd p n = some i
  | 0, hi => absurd hi (Nat.not_lt_zero i)
  | n + 1, hi => by
    show (match fnd p n with | some i => some i | none => cif (p n) (some n) none) = some i
    rcases Nat.lt_or_ge i n with q | q
    · rw [fnd_at h hp q]
    · have e : i = n := by omega
      subst e
      rw [fnd_none h]
      exact cif_t hp
theorem fnd_spec {p : Nat → Prop} {n i : Nat} (h : fnd p n = some i) : i < n ∧ p i ∧ ∀ j, j < i → ¬ p j := by
  induction n with
  | zero => cases h
  | succ n ih =>
    have h : (match fnd p n with | some i => some i | none => cif (p n) (some n) none) = some i := h
    cases hq : fnd p n with
    | some k =>
      rw [hq] at h
      cases h
      obtain ⟨a, b⟩ := ih hq
      exact ⟨by omega, b⟩
    | none =>
      rw [hq] at h
      dsimp only at h
      by_cases hp : p n
      · rw [cif_t hp] at h
        have h9 : n = i := Option.some.inj h
        rw [← h9]
        refine ⟨by omega, hp, fun j hj hpj => ?_⟩
        obtain ⟨m, hm1, hm2⟩ : ∃ m, (m ≤ j ∧ p m) ∧ ∀ z, z < m → ¬ p z := by
          have : ∀ b, p b → ∃ m, (m ≤ b ∧ p m) ∧ ∀ z, z < m → ¬ p z := by
            intro b
            induction b using Nat.strongRecOn with
            | ind b ihb =>
              intro hb
              by_cases hz : ∃ z, z < b ∧ p z
              · obtain ⟨z, hz1, hz2⟩ := hz
                obtain ⟨m, ⟨a1, a2⟩, a3⟩ := ihb z hz1 hz2
                exact ⟨m, ⟨by omega, a2⟩, a3⟩
              · exact ⟨b, ⟨Nat.le_refl _, hb⟩, fun z h1 h2 => hz ⟨z, h1, h2⟩⟩
          exact this j hpj
        have := fnd_at (n := n) hm2 hm1.2 (by omega)
        rw [hq] at this
        cases this
      · rw [cif_f hp] at h
        cases h
theorem fnd_no {p : Nat → Prop} {n : Nat} (h : fnd p n = none) : ∀ j, j < n → ¬ p j := by
  intro j hj hp
  have : ∀ b, p b → ∃ m, (m ≤ b ∧ p m) ∧ ∀ z, z < m → ¬ p z := by
    intro b
    induction b using Nat.strongRecOn with
    | ind b ihb =>
      intro hb
      by_cases hz : ∃ z, z < b ∧ p z
      · obtain ⟨z, hz1, hz2⟩ := hz
        obtain ⟨m, ⟨a1, a2⟩, a3⟩ := ihb z hz1 hz2
        exact ⟨m, ⟨by omega, a2⟩, a3⟩
      · exact ⟨b, ⟨Nat.le_refl _, hb⟩, fun z h1 h2 => hz ⟨z, h1, h2⟩⟩
  obtain ⟨m, h1, h2⟩ := this j hp
  have := fnd_at (n := n) h2 h1.2 (by omega)
  rw [h] at this
  cases this
def oI (o : Option Nat) : Int32 := match o with
  | none => -1
  | some i => nI i
theorem oI_ne {i : Nat} (h : i < 2 ^ 31) : ¬ nI i = -1 := fun q => by
  have h2 : (nI i).toInt = (-1 : Int32).toInt := by rw [q]
  rw [nI_toInt h] at h2
  have : (-1 : Int32).toInt = -1 := by decide
  omega
/-! the words of the document, by the reference's numbers -/
def s_fits (s : mS) (k a : Nat) : Prop := nI k = s 28 a ∨ (¬ s 29 a = 0 ∧ s 3 k &&& s 29 a = s 29 a)
noncomputable def s_ow (s : mS) (t : Int32) : Option Nat := fnd (fun a => s 24 a = 3 ∧ s 25 a = t) (mA s)
noncomputable def s_end (s : mS) (a : Nat) : Int32 := cif (s 24 a = 4) (s 33 a) (cif (s 24 a = 3 ∧ s 31 a < s 11 0) (s 11 0) (s 31 a))
def s_near (f l g m : Int64) (c : Int32) : Prop := f ≤ m + c.toInt64 ∧ g ≤ l + c.toInt64
def s_holds (s : mS) (a : Nat) (t : Int32) : Prop := s 25 a = t ∧ (s 24 a = 1 ∨ s 24 a = 3 ∨ s 24 a = 4)
def s_care (s : mS) (t : Int32) : Int32 := s 2 (ix (s 6 (ix t)))
def s_free (s : mS) (t f l b : Int32) : Prop := ∀ a, a < mA s → ¬ nI a = b → s_holds s a t → ¬ s_near f.toInt64 l.toInt64 (s 30 a).toInt64 (s_end s a).toInt64 (s_care s t)
noncomputable def s_want (s : mS) (k : Nat) : Int32 := cif (s 14 0 = 0) (-1) (s 15 k)
def s_law (s : mS) (t : Nat) (l : Int32) : Prop := s_want s (ix (s 6 t)) = -1 ∨ (¬ s 7 t = -1 ∧ l.toInt64 - (s 7 t).toInt64 ≤ (s_want s (ix (s 6 t))).toInt64)
def s_late (s : mS) (t : Int32) : Prop := ∃ a, s_ow s t = some a ∧ s 31 a < s 11 0
def s_ahead (s : mS) (a b : Nat) : Prop := s 32 b < s 32 a ∨ (s 32 a = s 32 b ∧ s 30 a < s 30 b)
/-! what each method does -/
noncomputable def sp_kind (s : mS) (c f v : Int32) : mS × Int32 := cif (wi c 0 5 ∧ wi f 0 255 ∧ wi v 0 100 ∧ ¬ s 1 0 = 8) (m_set (m_set (m_set (m_set s 2 (mK s) c) 3 (mK s) f) 4 (mK s) v) 1 0 (s 1 0 + 1), s 1 0) (s, -1)
noncomputable def sp_thing (s : mS) (k : Int32) : mS × Int32 := cif (wi k 0 (s 1 0 - 1) ∧ ¬ s 5 0 = 12) (m_set (m_set (m_set s 6 (mT s) k) 7 (mT s) (-1)) 5 0 (s 5 0 + 1), s 5 0) (s, -1)
noncomputable def sp_member (s : mS) : mS × Int32 := cif (¬ s 8 0 = 10) (m_set s 8 0 (s 8 0 + 1), s 8 0) (s, -1)
noncomputable def sp_end (s : mS) (n : Int32) : mS × Int32 := cif (wi n 0 (s 13 0)) (m_set s 13 0 n, n) (s, -1)
noncomputable def sp_look (s : mS) (t : Int32) : mS × Int32 := cif (wi t 0 (s 5 0 - 1) ∧ s_ow s t = none) (m_set s 7 (ix t) (s 11 0), 1) (s, 0)
noncomputable def sp_lawful (s : mS) (t l : Int32) : mS × Int32 := (s, cif (wi t 0 (s 5 0 - 1) ∧ s 11 0 ≤ l) (b1 (s_law s (ix t) l)) (-1))
def s_askable (s : mS) (m k n f l r : Int32) : Prop := wi m 0 (s 8 0 - 1) ∧ wi k 0 (s 1 0 - 1) ∧ wi n 0 255 ∧ wi f (s 11 0) (s 11 0 + 60) ∧ wi l f (s 11 0 + 60) ∧ l - f ≤ 14 ∧ wi r 0 2 ∧ ¬ nI (ct (fun a => s 24 a = 0) (mA s)) = 5 ∧ ¬ s 23 0 = 120
noncomputable def sp_ask (s : mS) (m k n f l r : Int32) : mS × Int32 := cif (s_askable s m k n f l r) (m_set (m_set (m_set (m_set (m_set (m_set (m_set (m_set (m_set s 24 (mA s) 0) 25 (mA s) (-1)) 27 (mA s) m) 28 (mA s) k) 29 (mA s) n) 30 (mA s) f) 31 (mA s) l) 32 (mA s) r) 23 0 (s 23 0 + 1), s 23 0) (s, -1)
noncomputable def sp_off (s : mS) (a : Int32) : mS × Int32 := cif (wi a 0 (s 23 0 - 1) ∧ (s 24 (ix a) = 0 ∨ s 24 (ix a) = 1)) (m_set s 24 (ix a) 6, 1) (s, 0)
noncomputable def sp_out (s : mS) (a : Int32) : mS × Int32 := cif (wi a 0 (s 23 0 - 1) ∧ s 24 (ix a) = 1)
  (cif (s 11 0 < s 30 (ix a)) (s, -2) (cif (40 < s 9 (ix (s 27 (ix a)))) (s, -3) (cif (¬ s_ow s (s 25 (ix a)) = none) (s, -4) (cif (¬ s_law s (ix (s 25 (ix a))) (s 31 (ix a))) (s, -5)
    (cif (∃ b, b < mA s ∧ s 25 b = s 25 (ix a) ∧ s 24 b = 4 ∧ s 11 0 ≤ s 33 b + s_care s (s 25 (ix a))) (s, -6) (m_set s 24 (ix a) 3, 0)))))) (s, -1)
noncomputable def s_behind (s : mS) (a : Nat) : Int32 := cif (s 31 a < s 11 0) (s 11 0 - s 31 a) 0
noncomputable def s_hours (s : mS) (a : Nat) : Int32 := s 31 a - s 30 a + 1 + 2 * s_behind s a
noncomputable def sp_back (s : mS) (a : Int32) : mS × Int32 := cif (wi a 0 (s 23 0 - 1) ∧ s 24 (ix a) = 3)
  (m_set (m_set (m_set (m_set s 9 (ix (s 27 (ix a))) (s 9 (ix (s 27 (ix a))) + s_hours s (ix a))) 10 (ix (s 27 (ix a))) (s 10 (ix (s 27 (ix a))) + s_hours s (ix a) * s 4 (ix (s 6 (ix (s 25 (ix a))))))) 24 (ix a) 4) 33 (ix a) (s 11 0), s_behind s (ix a)) (s, -1)
noncomputable def sp_work (s : mS) (m h : Int32) : mS × Int32 := cif (wi m 0 (s 8 0 - 1) ∧ wi h 1 100) (m_set s 9 (ix m) (cif (h < s 9 (ix m)) (s 9 (ix m) - h) 0), cif (h < s 9 (ix m)) (s 9 (ix m) - h) 0) (s, -1)

noncomputable def s_of (s : mS) (a : Nat) : Nat → Int32
  | 0 => s 24 a
  | 1 => s 25 a
  | 2 => s 26 a
  | 3 => s 27 a
  | 4 => s 28 a
  | 5 => s 30 a
  | 6 => s 31 a
  | 7 => s 32 a
  | _ => cif (s 25 a = -1) (-1) (cif (s 6 (ix (s 25 a)) = s 28 a) 0 1)
noncomputable def sp_of (s : mS) (a w : Int32) : mS × Int32 := cif (wi a 0 (s 23 0 - 1) ∧ wi w 0 8) (m_set s 0 0 0, s_of s (ix a) (ix w)) (m_set s 0 0 1, 0)
noncomputable def s_tof (s : mS) (t : Nat) : Nat → Int32
  | 0 => s 6 t
  | 1 => s 7 t
  | 2 => oI (s_ow s (nI t))
  | 3 => b1 (s_late s (nI t))
  | 4 => nI (ct (fun a => s 24 a = 1 ∧ s 25 a = nI t) (mA s))
  | _ => -1
noncomputable def sp_thingOf (s : mS) (t w : Int32) : mS × Int32 := (s, cif (wi t 0 (s 5 0 - 1)) (cif (wi w 0 4) (s_tof s (ix t) (ix w)) (-1)) (-1))
noncomputable def sp_isFree (s : mS) (t f l : Int32) : mS × Int32 := (s, cif (wi t 0 (s 5 0 - 1) ∧ s 11 0 ≤ f ∧ f ≤ l) (b1 (s_free s t f l (-1))) (-1))
noncomputable def s_mof (s : mS) (m : Nat) : Nat → Int32
  | 0 => s 9 m
  | 1 => s 10 m
  | 2 => nI (ct (fun a => s 24 a = 3 ∧ s 27 a = nI m) (mA s))
  | _ => -1
noncomputable def sp_memberOf (s : mS) (m w : Int32) : mS × Int32 := (s, cif (wi m 0 (s 8 0 - 1)) (cif (wi w 0 2) (s_mof s (ix m) (ix w)) (-1)) (-1))
def s_cnt (s : mS) : Nat → Int32
  | 0 => s 1 0
  | 1 => s 5 0
  | 2 => s 8 0
  | 3 => s 14 0
  | 4 => s 11 0
  | 5 => s 23 0
  | _ => s 13 0
noncomputable def sp_count (s : mS) (w : Int32) : mS × Int32 := (s, cif (wi w 0 6) (s_cnt s (ix w)) (cif (wi w 10 16) (nI (ct (fun a => s 24 a = w - 10) (mA s))) (cif (wi (w - 20) 0 (s 1 0 - 1)) (s_want s (ix (w - 20))) (-1))))
theorem tsw_e {a : Int32} {j : Nat} (h : a.toInt = 0 + (j : Int)) (hj : j < 2 ^ 31) : a = nI j := Int32.toInt_inj.mp (by rw [nI_toInt hj, h]; omega)
theorem tsw_w {a : Int32} {hi : Int32} (h : a.toInt < 0 ∨ hi.toInt < a.toInt) : ¬ wi a 0 hi := fun q => by
  have h1 := Int32.le_iff_toInt_le.mp q.1
  have h2 := Int32.le_iff_toInt_le.mp q.2
  have : (0 : Int32).toInt = 0 := by decide
  omega
