def Sim (X Z : mS × Int32) : Prop := X.2 = Z.2 ∧ Inv X.1 ∧ Lk Z.1 X.1
theorem nI_sub64 {L q : Nat} (hL : L < 2 ^ 31) (hq : q < 2 ^ 31) : (nI L - nI q).toInt64 = (nI L).toInt64 - (nI q).toInt64 := by
  refine Int64.toInt_inj.mp ?_
  rw [Int32.toInt_toInt64, Int32.toInt_sub, Int64.toInt_sub, Int32.toInt_toInt64, Int32.toInt_toInt64, nI_toInt hL, nI_toInt hq, Int.bmod_eq_of_le (by omega) (by omega), Int.bmod_eq_of_le (by omega) (by omega)]
theorem nI_subT {L q : Nat} (hL : L < 2 ^ 31) (hq : q < 2 ^ 31) : (nI L - nI q).toInt = (L : Int) - (q : Int) := by
  rw [Int32.toInt_sub, nI_toInt hL, nI_toInt hq, Int.bmod_eq_of_le (by omega) (by omega)]
theorem mx_sub {O H : Nat} (hO : O < 2 ^ 31) (hH : H < 2 ^ 31) : mx 0 (nI O - nI H) = cif (nI H < nI O) (nI O - nI H) 0 := by
  unfold mx
  have h0 : (0 : Int32).toInt = 0 := by decide
  by_cases q : nI H < nI O
  · rw [cif_t q, cif_t]
    rw [Int32.lt_iff_toInt_lt, nI_subT hO hH, h0]
    have := (nI_ltI hH hO).mp q
    omega
  · rw [cif_f q, cif_f]
    rw [Int32.lt_iff_toInt_lt, nI_subT hO hH, h0]
    have : ¬ H < O := fun z => q ((nI_ltI hH hO).mpr z)
    omega
theorem ix_nI {n : Nat} (h : n < 2 ^ 31) : ix (nI n) = n := nI_clamp h
/-! the words of the document are alike for both -/
theorem fits_eq {s c : mS} (k : Lk s c) (a b : Nat) : s_fits s a b ↔ s_fits c a b := by
  unfold s_fits
  rw [k.1 28 (by decide), k.1 29 (by decide), k.1 3 (by decide)]
theorem care_eq {s c : mS} (k : Lk s c) (t : Int32) : s_care s t = s_care c t := by
  unfold s_care
  rw [k.1 2 (by decide), k.1 6 (by decide)]
theorem end_eq {s c : mS} (k : Lk s c) {a : Nat} (ha : a < mA c) : s_end s a = s_end c a := by
  unfold s_end
  rw [k.1 24 (by decide), k.1 31 (by decide), k.1 11 (by decide)]
  by_cases q : s 24 a = 4
  · rw [cif_t q, cif_t q, k.2.1 a ha (by rw [k.1 24 (by decide)]; exact q)]
  · rw [cif_f q, cif_f q]
theorem free_eq {s c : mS} (k : Lk s c) (t f l b : Int32) : s_free s t f l b ↔ s_free c t f l b := by
  unfold s_free
  rw [k.1.A]
  constructor
  · intro h a ha hb hh
    have := h a ha hb (by unfold s_holds at *; rw [k.1 24 (by decide), k.1 25 (by decide)] at hh; exact hh)
    rw [end_eq k ha, care_eq k, ← k.1 30 (by decide)] at this
    exact this
  · intro h a ha hb hh
    have := h a ha hb (by unfold s_holds at *; rw [k.1 24 (by decide), k.1 25 (by decide)]; exact hh)
    rw [end_eq k ha, care_eq k, ← k.1 30 (by decide)]
    exact this
theorem ow_eq {s c : mS} (k : Lk s c) (t : Int32) : s_ow s t = s_ow c t := by
  unfold s_ow
  rw [k.1.A, k.1 24 (by decide), k.1 25 (by decide)]
theorem late_eq {s c : mS} (k : Lk s c) (t : Int32) : s_late s t ↔ s_late c t := by
  unfold s_late
  rw [ow_eq k, k.1 31 (by decide), k.1 11 (by decide)]
theorem may_eq {s c : mS} (k : Lk s c) (a t : Nat) : s_may s a t ↔ s_may c a t := by
  unfold s_may
  rw [fits_eq k, free_eq k, k.1 6 (by decide), k.1 30 (by decide), k.1 31 (by decide)]
theorem day_lt {c : mS} (h : Inv c) : ix (c 11 0) ≤ 5000 ∧ c 11 0 = nI (ix (c 11 0)) := by
  obtain ⟨N, hN, e⟩ := h.2.1
  rw [e, ix_nI (by omega)]
  exact ⟨hN, rfl⟩
theorem ow_51 {c : mS} (h : Inv c) {t : Nat} (ht : t < mT c) : oI (s_ow c (nI t)) = c 51 t := by
  obtain ⟨hC, hday, hcare, hask, hlook, hlaw, howe, hpend, hzero, hnb, hout, hback, haout, hlog, hwnt⟩ := id h
  obtain ⟨hI, hG, hgv, hov, hrw, hps⟩ := id hC
  obtain ⟨hK, hT, hB, hP9, hA, hkf, haf, hbf⟩ := id hI
  have hA2 := hA.2
  have hT2 := hT.2
  have hK2 := hK.2
  have hB2 := hB.2
  have hP2 := hP9.2
  cases e : s_ow c (nI t) with
  | none =>
    have hn := fnd_no e
    rcases hov t ht with q | ⟨q1, q2⟩
    · exact q.symm
    · exact absurd ((hout t (ix (c 51 t)) ht q2).mp q1) (hn _ q2)
  | some a =>
    obtain ⟨a1, a2, a3⟩ := fnd_spec e
    exact ((hout t a ht a1).mpr a2).symm
theorem ow_none {c : mS} (h : Inv c) {t : Nat} (ht : t < mT c) : s_ow c (nI t) = none ↔ c 51 t = -1 := by
  rw [← ow_51 h ht]
  cases e : s_ow c (nI t) with
  | none => exact ⟨fun _ => rfl, fun _ => rfl⟩
  | some a =>
    have := (fnd_spec e).1
    have h2 := h.1.1.2.2.2.2.1.2
    exact ⟨fun q => (by cases q), fun q => absurd q (oI_ne (by omega))⟩
theorem late_c {c : mS} (h : Inv c) {t : Nat} (ht : t < mT c) : c_late c t ↔ s_late c (nI t) := by
  have h2 := h.1.1.2.2.2.2.1.2
  unfold c_late s_late
  rw [← ow_51 h ht]
  cases e : s_ow c (nI t) with
  | none => exact ⟨fun q => absurd rfl q.1, fun ⟨a, q, _⟩ => by cases q⟩
  | some a =>
    have ha := (fnd_spec e).1
    show ¬ nI a = -1 ∧ c 31 (ix (nI a)) < c 11 0 ↔ _
    rw [ix_nI (by omega)]
    exact ⟨fun q => ⟨a, rfl, q.2⟩, fun ⟨b, q, w⟩ => by cases q; exact ⟨oI_ne (by omega), w⟩⟩
theorem lets_iff {s c : mS} (h : Inv c) (k : Lk s c) {t Lq : Nat} {l : Int32} (ht : t < mT c) (hl : l = nI Lq) (hl2 : Lq < 2 ^ 31) : c_lets c t l ↔ s_law s t l := by
  obtain ⟨hC, hday, hcare, hask, hlook, hlaw, howe, hpend, hzero, hnb, hout, hback, haout, hlog, hwnt⟩ := id h
  obtain ⟨hI, hG, hgv, hov, hrw, hps⟩ := id hC
  obtain ⟨hK, hT, hB, hP9, hA, hkf, haf, hbf⟩ := id hI
  have hA2 := hA.2
  have hT2 := hT.2
  have hK2 := hK.2
  have hB2 := hB.2
  have hP2 := hP9.2
  have hk8 : ix (c 6 t) < 8 := by have := (hkf t ht).2; omega
  have hd := (day_lt h).1
  unfold c_lets s_law
  rw [← k.1 6 (by decide), ← k.1 7 (by decide), ← k.2.2.2 _ hk8]
  rcases hlook t ht with q | ⟨q, q1, q2⟩
  · exact ⟨fun z => z.elim Or.inl (fun w => absurd q w.1), fun z => z.elim Or.inl (fun w => absurd q w.1)⟩
  · rw [hl, q1, ← nI_sub64 hl2 (by omega), Int32.toInt64_le]
theorem cnt_eq {s c : mS} (r : R0 s c) : s_cnt c = s_cnt s := by
  funext n
  unfold s_cnt
  rw [r 1 (by decide), r 5 (by decide), r 8 (by decide), r 14 (by decide), r 11 (by decide), r 23 (by decide), r 13 (by decide)]
/-! readings -/
theorem sim_place {s c : mS} (h : Inv c) (k : Lk s c) : Sim (c, c 18 0) (s, s 18 0) := ⟨by show c 18 0 = s 18 0; rw [k.1 18 (by decide)], h, k⟩
theorem sim_lawful {s c : mS} (h : Inv c) (k : Lk s c) (t l : Int32) : Sim (cp_lawful c t l) (sp_lawful s t l) := by
  refine ⟨?_, h, k⟩
  show cif _ _ _ = cif _ _ _
  obtain ⟨hC, hday, hcare, hask, hlook, hlaw, howe, hpend, hzero, hnb, hout, hback, haout, hlog, hwnt⟩ := id h
  obtain ⟨hI, hG, hgv, hov, hrw, hps⟩ := id hC
  obtain ⟨hK, hT, hB, hP9, hA, hkf, haf, hbf⟩ := id hI
  have hA2 := hA.2
  have hT2 := hT.2
  have hK2 := hK.2
  have hB2 := hB.2
  have hP2 := hP9.2
  rw [← k.1 5 (by decide), ← k.1 11 (by decide)]
  by_cases q : wi t 0 (c 5 0 - 1) ∧ c 11 0 ≤ l
  · rw [cif_t q, cif_t q]
    obtain ⟨j, hj, rfl⟩ := m_ixe hT (by decide) q.1
    have hd := day_lt h
    obtain ⟨Lq, hL, e⟩ := nI_of (x := l) (fun z => absurd (Int32.lt_of_le_of_lt q.2 z) (by rw [hd.2]; exact nI_pos (by omega)))
    rw [ix_nI (by omega)]
    exact b1_c (lets_iff h k hj e hL)
  · rw [cif_f q, cif_f q]
theorem sim_isFree {s c : mS} (h : Inv c) (k : Lk s c) (t f l : Int32) : Sim (sp_isFree c t f l) (sp_isFree s t f l) := by
  refine ⟨?_, h, k⟩
  show cif _ _ _ = cif _ _ _
  rw [k.1 5 (by decide), k.1 11 (by decide), b1_c (free_eq k t f l (-1))]
theorem tof_eq {s c : mS} (h : Inv c) (k : Lk s c) {t : Nat} (ht : t < mT c) : ∀ n, c_tof c t n = s_tof s t n := by
  obtain ⟨hC, hday, hcare, hask, hlook, hlaw, howe, hpend, hzero, hnb, hout, hback, haout, hlog, hwnt⟩ := id h
  obtain ⟨hI, hG, hgv, hov, hrw, hps⟩ := id hC
  obtain ⟨hK, hT, hB, hP9, hA, hkf, haf, hbf⟩ := id hI
  have hA2 := hA.2
  have hT2 := hT.2
  have hK2 := hK.2
  have hB2 := hB.2
  have hP2 := hP9.2
  have h0 : c_tof c t 0 = s_tof s t 0 := by
    show nI (ix (c 6 t)) = s 6 t
    rw [← k.1 6 (by decide)]
    exact (hkf t ht).1.symm
  have h1 : c_tof c t 1 = s_tof s t 1 := by show c 7 t = s 7 t; rw [k.1 7 (by decide)]
  have h2 : c_tof c t 2 = s_tof s t 2 := by
    show cif (c 51 t = -1) (-1) (nI (ix (c 51 t))) = oI (s_ow s (nI t))
    rw [ow_eq k, ow_51 h ht]
    rcases hov t ht with q | q
    · rw [cif_t q, q]
    · by_cases z : c 51 t = -1
      · rw [cif_t z, z]
      · rw [cif_f z]; exact q.1.symm
  have h3 : c_tof c t 3 = s_tof s t 3 := by
    show b1 (c_late c t) = b1 (s_late s (nI t))
    exact b1_c ((late_c h ht).trans (late_eq k _).symm)
  have h4 : c_tof c t 4 = s_tof s t 4 := by
    show nI (ct (fun a => c 24 a = 1 ∧ c 25 a = nI t) (mA c)) = nI (ct (fun a => s 24 a = 1 ∧ s 25 a = nI t) (mA s))
    rw [k.1.A, k.1 24 (by decide), k.1 25 (by decide)]
  intro n
  match n with
  | 0 => exact h0
  | 1 => exact h1
  | 2 => exact h2
  | 3 => exact h3
  | 4 => exact h4
  | n + 5 =>
    have z1 : c_tof c t (n + 5) = -1 := rfl
    have z2 : s_tof s t (n + 5) = -1 := rfl
    exact z1.trans z2.symm
theorem sim_thingOf {s c : mS} (h : Inv c) (k : Lk s c) (t w : Int32) : Sim (cp_thingOf c t w) (sp_thingOf s t w) := by
  refine ⟨?_, h, k⟩
  show cif _ (cif _ _ _) _ = cif _ (cif _ _ _) _
  rw [← k.1 5 (by decide)]
  by_cases q : wi t 0 (c 5 0 - 1)
  · rw [cif_t q, cif_t q]
    obtain ⟨j, hj, rfl⟩ := m_ixe h.1.1.2.1 (by decide) q
    have := h.1.1.2.1.2
    rw [ix_nI (by omega), tof_eq h k hj]
  · rw [cif_f q, cif_f q]
theorem sim_memberOf {s c : mS} (h : Inv c) (k : Lk s c) (m w : Int32) : Sim (cp_memberOf c m w) (sp_memberOf s m w) := by
  refine ⟨?_, h, k⟩
  show cif _ (cif _ _ _) _ = cif _ (cif _ _ _) _
  rw [← k.1 8 (by decide)]
  by_cases q : wi m 0 (c 8 0 - 1)
  · rw [cif_t q, cif_t q]
    obtain ⟨j, hj, rfl⟩ := m_ixe h.1.1.2.2.1 (by decide) q
    have := h.1.1.2.2.1.2
    rw [ix_nI (by omega)]
    have e : ∀ n, c_mof c j n = s_mof s j n := by
      intro n
      match n with
      | 0 => show c 9 j = s 9 j; rw [k.1 9 (by decide)]
      | 1 => show c 10 j = s 10 j; rw [k.1 10 (by decide)]
      | 2 =>
        show c 52 j = nI (ct (fun a => s 24 a = 3 ∧ s 27 a = nI j) (mA s))
        rw [k.1.A, ← k.1 24 (by decide), ← k.1 27 (by decide)]
        exact h.2.2.2.2.2.2.2.2.2.2.2.2.1 j hj
      | n + 3 =>
        have z1 : c_mof c j (n + 3) = -1 := rfl
        have z2 : s_mof s j (n + 3) = -1 := rfl
        exact z1.trans z2.symm
    rw [e]
  · rw [cif_f q, cif_f q]
theorem sim_count {s c : mS} (h : Inv c) (k : Lk s c) (w : Int32) : Sim (cp_count c w) (sp_count s w) := by
  refine ⟨?_, h, k⟩
  show cif _ _ _ = cif _ _ _
  obtain ⟨hC, hday, hcare, hask, hlook, hlaw, howe, hpend, hzero, hnb, hout, hback, haout, hlog, hwnt⟩ := id h
  obtain ⟨hI, hG, hgv, hov, hrw, hps⟩ := id hC
  obtain ⟨hK, hT, hB, hP9, hA, hkf, haf, hbf⟩ := id hI
  have hA2 := hA.2
  have hT2 := hT.2
  have hK2 := hK.2
  have hB2 := hB.2
  have hP2 := hP9.2
  rw [cnt_eq k.1, k.1.A, ← k.1 24 (by decide), ← k.1 1 (by decide)]
  by_cases a1 : wi w 0 6
  · have n1 : ¬ wi w 10 16 := fun q => absurd (Int32.le_trans q.1 a1.2) (by decide)
    have n2 : ¬ wi w 20 27 := fun q => absurd (Int32.le_trans q.1 a1.2) (by decide)
    rw [cif_t a1, cif_f n1, cif_f n2, cif_t a1]
  · rw [cif_f a1, cif_f a1]
    by_cases a2 : wi w 10 16
    · rw [cif_t a2, cif_t a2]
    · rw [cif_f a2, cif_f a2]
      by_cases a3 : wi w 20 27
      · rw [cif_t a3]
        obtain ⟨j, hj, ej⟩ := cnt_ix a3
        rw [ej, ix_nI (by omega)]
        by_cases q : j < mK c
        · rw [cif_t (m_wi hK (by decide) q)]
          exact k.2.2.2 j hj
        · rw [cif_f (m_nwi hK (by decide) (Or.inr (by rw [hK.1]; exact nI_le (by omega) (by omega))))]
          exact hwnt j (by omega) hj
      · rw [cif_f a3, cif_f]
        intro q
        obtain ⟨j, hj, e⟩ := m_ixe hK (by decide) q
        have e2 : w = nI (j + 20) := by rw [← nI_add, ← e]; exact (Int32.sub_add_cancel w 20).symm
        exact a3 (by rw [e2]; exact ⟨nI_le (a := 20) (by omega) (by omega), nI_le (b := 27) (by omega) (by omega)⟩)
theorem of_eq {s c : mS} (h : Inv c) (k : Lk s c) {a : Nat} (ha : a < mA c) : ∀ n, c_of c a n = s_of s a n := by
  obtain ⟨hC, hday, hcare, hask, hlook, hlaw, howe, hpend, hzero, hnb, hout, hback, haout, hlog, hwnt⟩ := id h
  obtain ⟨hI, hG, hgv, hov, hrw, hps⟩ := id hC
  obtain ⟨hK, hT, hB, hP9, hA, hkf, haf, hbf⟩ := id hI
  have hA2 := hA.2
  have hT2 := hT.2
  have hK2 := hK.2
  have hB2 := hB.2
  have hP2 := hP9.2
  have hx : ∀ x : Int32, (x = -1 ∨ (x = nI (ix x) ∧ ix x < mT c)) → cif (x = -1) (-1) (nI (ix x)) = x := fun x hx => by
    rcases hx with q | q
    · rw [cif_t q, q]
    · by_cases z : x = -1
      · rw [cif_t z, z]
      · rw [cif_f z]; exact q.1.symm
  intro n
  match n with
  | 0 => show c 24 a = s 24 a; rw [k.1 24 (by decide)]
  | 1 => show cif (c 25 a = -1) (-1) (nI (ix (c 25 a))) = s 25 a; rw [hx _ (haf a ha).2.2, k.1 25 (by decide)]
  | 2 => show c 26 a = s 26 a; rw [k.1 26 (by decide)]
  | 3 => show nI (ix (c 27 a)) = s 27 a; rw [← k.1 27 (by decide)]; exact (haf a ha).2.1.1.symm
  | 4 => show nI (ix (c 28 a)) = s 28 a; rw [← k.1 28 (by decide)]; exact (haf a ha).1.1.symm
  | 5 => show c 30 a = s 30 a; rw [k.1 30 (by decide)]
  | 6 => show c 31 a = s 31 a; rw [k.1 31 (by decide)]
  | 7 => show c 32 a = s 32 a; rw [k.1 32 (by decide)]
  | n + 8 =>
    show cif (c 25 a = -1) (-1) (cif (ix (c 6 (ix (c 25 a))) = ix (c 28 a)) 0 1) = cif (s 25 a = -1) (-1) (cif (s 6 (ix (s 25 a)) = s 28 a) 0 1)
    rw [← k.1 25 (by decide), ← k.1 6 (by decide), ← k.1 28 (by decide)]
    by_cases z : c 25 a = -1
    · rw [cif_t z, cif_t z]
    · rw [cif_f z, cif_f z]
      have ht := ((haf a ha).2.2.resolve_left z).2
      have e1 := (hkf _ ht).1
      have e2 := (haf a ha).1.1
      by_cases w : ix (c 6 (ix (c 25 a))) = ix (c 28 a)
      · rw [cif_t w, cif_t (by rw [e1, e2, w])]
      · rw [cif_f w, cif_f (fun q => w (by rw [q]))]
/-! small changes -/
theorem st_iff {c : mS} {i : Nat} {v w : Int32} (h1 : v ≠ w) (h2 : c 24 i ≠ w) : ∀ a, m_set c 24 i v 24 a = w ↔ c 24 a = w := fun a => by
  by_cases e : a = i
  · subst e; rw [m_set_at]; exact ⟨fun q => absurd q h1, fun q => absurd q h2⟩
  · rw [ms_ne e]
theorem st_sub {c : mS} {i : Nat} {v w : Int32} (h1 : v ≠ w) : ∀ a, m_set c 24 i v 24 a = w → c 24 a = w := fun a q => by
  by_cases e : a = i
  · subst e; rw [m_set_at] at q; exact absurd q h1
  · rw [ms_ne e] at q; exact q
theorem ct_le_of {p q : Nat → Prop} : ∀ {n : Nat}, (∀ a, a < n → p a → q a) → ct p n ≤ ct q n
  | 0, _ => Nat.le_refl _
  | n + 1, h => by
    have ih := ct_le_of (p := p) (q := q) (n := n) (fun a ha => h a (by omega))
    by_cases w : p n
    · rw [ct_t w, ct_t (h n (by omega) w)]; omega
    · rw [ct_f w]
      by_cases z : q n
      · rw [ct_t z]; omega
      · rw [ct_f z]; exact ih
/-- one that is pending or booked falls out -/
theorem inv_drop {c : mS} {i : Nat} {v : Int32} (h : Inv c) (hi : i < mA c) (h0 : c 24 i = 0 ∨ c 24 i = 1) (hv : v = 5 ∨ v = 6) : Inv (m_set c 24 i v) := by
  obtain ⟨hC, hday, hcare, hask, hlook, hlaw, howe, hpend, hzero, hnb, hout, hback, haout, hlog, hwnt⟩ := id h
  obtain ⟨hI, hG, hgv, hov, hrw, hps⟩ := id hC
  obtain ⟨hK, hT, hB, hP9, hA, hkf, haf, hbf⟩ := id hI
  have hA2 := hA.2
  have hT2 := hT.2
  have hK2 := hK.2
  have hB2 := hB.2
  have hP2 := hP9.2
  have n4 : c 24 i ≠ 4 := by rcases h0 with q | q <;> rw [q] <;> decide
  have n3 : c 24 i ≠ 3 := by rcases h0 with q | q <;> rw [q] <;> decide
  have n2 : c 24 i ≠ 2 := by rcases h0 with q | q <;> rw [q] <;> decide
  have v0 : v ≠ 0 := by rcases hv with q | q <;> rw [q] <;> decide
  have v1 : v ≠ 1 := by rcases hv with q | q <;> rw [q] <;> decide
  have v2 : v ≠ 2 := by rcases hv with q | q <;> rw [q] <;> decide
  have v3 : v ≠ 3 := by rcases hv with q | q <;> rw [q] <;> decide
  have v4 : v ≠ 4 := by rcases hv with q | q <;> rw [q] <;> decide
  have e4 := st_iff (c := c) (i := i) v4 n4
  have e3 := st_iff (c := c) (i := i) v3 n3
  have e2 := st_iff (c := c) (i := i) v2 n2
  have eA : mA (m_set c 24 i v) = mA c := rfl
  refine ⟨c_inv_st hC v1 v3, (i_day_eq rfl hday), (i_care_eq rfl rfl hcare), (i_ask_eq rfl rfl rfl rfl hask), (i_look_eq rfl rfl rfl hlook), (i_law_eq rfl hlaw), fun m hm => ?_, ?_, (i_zero_eq rfl rfl rfl rfl rfl hzero), fun a b ha hb hab q1 q2 q3 => hnb a b ha hb hab (st_sub v1 a q1) (st_sub v1 b q2) q3, fun t a ht ha => ?_, ?_, fun m hm => ?_, ?_, (i_wnt_eq rfl rfl hwnt)⟩
  · obtain ⟨o, o1, o2⟩ := howe m hm
    refine ⟨o, o1, ?_⟩
    rw [ct_congr (fun a _ => e4 a)]
    exact o2
  · exact Nat.le_trans (ct_le_of (fun a _ q => st_sub v0 a q)) hpend
  · rw [e3 a]; exact hout t a ht ha
  · unfold i_back at *
    simp only [e4]
    exact hback
  · show c 52 m = _
    rw [haout m hm]
    exact congrArg nI (ct_congr (fun a _ => by rw [e3 a]; rfl))
  · unfold i_log at *
    simp only [e2]
    exact hlog
theorem sim_off {s c : mS} (h : Inv c) (k : Lk s c) (a : Int32) : Sim (sp_off c a) (sp_off s a) := by
  unfold sp_off
  rw [← k.1 23 (by decide), ← k.1 24 (by decide)]
  by_cases q : wi a 0 (c 23 0 - 1) ∧ (c 24 (ix a) = 0 ∨ c 24 (ix a) = 1)
  · rw [cif_t q, cif_t q]
    obtain ⟨j, hj, rfl⟩ := m_ixe h.1.1.2.2.2.2.1 (by decide) q.1
    have h2 := h.1.1.2.2.2.2.1.2
    rw [ix_nI (by omega)] at q ⊢
    exact ⟨rfl, inv_drop h hj q.2 (Or.inr rfl), k.mk (k.1.set _ _ _) rfl rfl rfl rfl rfl rfl rfl rfl (fun b hb w => ⟨hb, st_sub (by decide) b w⟩)⟩
  · rw [cif_f q, cif_f q]; exact ⟨rfl, h, k⟩
theorem sim_look {s c : mS} (h : Inv c) (k : Lk s c) (t : Int32) : Sim (cp_look c t) (sp_look s t) := by
  obtain ⟨hC, hday, hcare, hask, hlook, hlaw, howe, hpend, hzero, hnb, hout, hback, haout, hlog, hwnt⟩ := id h
  obtain ⟨hI, hG, hgv, hov, hrw, hps⟩ := id hC
  obtain ⟨hK, hT, hB, hP9, hA, hkf, haf, hbf⟩ := id hI
  have hA2 := hA.2
  have hT2 := hT.2
  have hK2 := hK.2
  have hB2 := hB.2
  have hP2 := hP9.2
  unfold cp_look sp_look
  rw [← k.1 5 (by decide), ow_eq k, ← k.1 11 (by decide)]
  by_cases q : wi t 0 (c 5 0 - 1)
  · obtain ⟨j, hj, rfl⟩ := m_ixe hT (by decide) q
    rw [ix_nI (by omega)]
    by_cases z : c 51 j = -1
    · rw [cif_t ⟨q, z⟩, cif_t ⟨q, (ow_none h hj).mpr z⟩]
      refine ⟨rfl, (show Inv (m_set c 7 j (c 11 0)) from ⟨hC, (i_day_eq rfl hday), (i_care_eq rfl rfl hcare), (i_ask_eq rfl rfl rfl rfl hask), fun u hu => ?_, (i_law_eq rfl hlaw), (i_owe_eq rfl rfl rfl rfl howe), (i_pend_eq rfl rfl hpend), (i_zero_eq rfl rfl rfl rfl rfl hzero), (i_nb_eq rfl rfl rfl rfl rfl rfl rfl hnb), (i_out_eq rfl rfl rfl rfl rfl hout), (i_back_eq rfl rfl rfl rfl rfl rfl rfl hback), (i_aout_eq rfl rfl rfl rfl rfl haout), (i_log_eq rfl rfl rfl rfl rfl hlog), (i_wnt_eq rfl rfl hwnt)⟩), k.mk (k.1.set _ _ _) rfl rfl rfl rfl rfl rfl rfl rfl (fun b hb w => ⟨hb, w⟩)⟩
      by_cases e : u = j
      · subst e
        rw [m_set_at]
        exact Or.inr ⟨ix (c 11 0), (day_lt h).2, Nat.le_refl _⟩
      · rw [ms_ne e]; exact hlook u hu
    · rw [cif_f (fun w => z w.2), cif_f (fun w => z ((ow_none h hj).mp w.2))]; exact ⟨rfl, h, k⟩
  · rw [cif_f (fun w => q w.1), cif_f (fun w => q w.1)]; exact ⟨rfl, h, k⟩
theorem owe_b {c : mS} (h : Inv c) {m : Nat} (hm : m < mB c) : ∃ o, c 9 m = nI o ∧ o ≤ 1212000 := by
  obtain ⟨o, o1, o2⟩ := h.2.2.2.2.2.2.1 m hm
  have h1 := ct_le (fun a => c 24 a = 4) (mA c)
  have h2 := h.1.1.2.2.2.2.1.2
  exact ⟨o, o1, by omega⟩
theorem sim_work {s c : mS} (h : Inv c) (k : Lk s c) (m v : Int32) : Sim (cp_work c m v) (sp_work s m v) := by
  obtain ⟨hC, hday, hcare, hask, hlook, hlaw, howe, hpend, hzero, hnb, hout, hback, haout, hlog, hwnt⟩ := id h
  obtain ⟨hI, hG, hgv, hov, hrw, hps⟩ := id hC
  obtain ⟨hK, hT, hB, hP9, hA, hkf, haf, hbf⟩ := id hI
  have hA2 := hA.2
  have hT2 := hT.2
  have hK2 := hK.2
  have hB2 := hB.2
  have hP2 := hP9.2
  unfold cp_work sp_work
  rw [← k.1 8 (by decide), ← k.1 9 (by decide)]
  by_cases q : wi m 0 (c 8 0 - 1) ∧ wi v 1 100
  · rw [cif_t q, cif_t q]
    obtain ⟨j, hj, rfl⟩ := m_ixe hB (by decide) q.1
    rw [ix_nI (by omega)]
    obtain ⟨o, o1, o2⟩ := howe j hj
    obtain ⟨o', o1', o3⟩ := owe_b h hj
    have eo : o = o' ∨ 2 ^ 31 ≤ o := by
      rcases Nat.lt_or_ge o (2 ^ 31) with z | z
      · exact Or.inl ((nI_eq z (by omega)).mp (o1.symm.trans o1'))
      · exact Or.inr z
    have hct := ct_le (fun a => c 24 a = 4) (mA c)
    obtain ⟨H, hH, rfl⟩ := nI_of2 (x := v) (M := 100) (n := 100) rfl (fun z => absurd (Int32.lt_of_le_of_lt q.2.1 z) (by decide)) q.2.2
    have e : mx 0 (c 9 j - nI H) = cif (nI H < c 9 j) (c 9 j - nI H) 0 := by rw [o1]; exact mx_sub (by omega) (by omega)
    rw [e]
    refine ⟨rfl, ?_, k.mk (k.1.set _ _ _) rfl rfl rfl rfl rfl rfl rfl rfl (fun b hb w => ⟨hb, w⟩)⟩
    show Inv (m_set c 9 j (cif (nI H < c 9 j) (c 9 j - nI H) 0))
    refine ⟨hC, (i_day_eq rfl hday), (i_care_eq rfl rfl hcare), (i_ask_eq rfl rfl rfl rfl hask), (i_look_eq rfl rfl rfl hlook), (i_law_eq rfl hlaw), fun u hu => ?_, (i_pend_eq rfl rfl hpend), ⟨hzero.1, fun u hu => ?_⟩, (i_nb_eq rfl rfl rfl rfl rfl rfl rfl hnb), (i_out_eq rfl rfl rfl rfl rfl hout), (i_back_eq rfl rfl rfl rfl rfl rfl rfl hback), (i_aout_eq rfl rfl rfl rfl rfl haout), (i_log_eq rfl rfl rfl rfl rfl hlog), (i_wnt_eq rfl rfl hwnt)⟩
    · by_cases eu : u = j
      · subst eu
        rw [m_set_at]
        by_cases z : nI H < c 9 u
        · rw [cif_t z, o1]
          rw [o1, nI_ltI (by omega) (by omega)] at z
          exact ⟨o - H, nI_sub (by omega), Nat.le_trans (Nat.sub_le _ _) o2⟩
        · rw [cif_f z]; exact ⟨0, rfl, Nat.zero_le _⟩
      · rw [ms_ne eu]; exact howe u hu
    · have hu : mB c ≤ u := hu
      rw [ms_ne (by omega)]
      exact hzero.2 u hu
  · rw [cif_f q, cif_f q]; exact ⟨rfl, h, k⟩
theorem sim_end {s c : mS} (h : Inv c) (k : Lk s c) (v : Int32) : Sim (sp_end c v) (sp_end s v) := by
  obtain ⟨hC, hday, hcare, hask, hlook, hlaw, howe, hpend, hzero, hnb, hout, hback, haout, hlog, hwnt⟩ := id h
  obtain ⟨hI, hG, hgv, hov, hrw, hps⟩ := id hC
  obtain ⟨hK, hT, hB, hP9, hA, hkf, haf, hbf⟩ := id hI
  have hA2 := hA.2
  have hT2 := hT.2
  have hK2 := hK.2
  have hB2 := hB.2
  have hP2 := hP9.2
  unfold sp_end
  rw [← k.1 13 (by decide)]
  by_cases q : wi v 0 (c 13 0)
  · rw [cif_t q, cif_t q]
    obtain ⟨j, hj, rfl⟩ := nI_of (x := v) (fun z => absurd (Int32.lt_of_le_of_lt q.1 z) (by decide))
    have hjp : j ≤ mP c := by
      have := q.2
      rw [hP9.1, nI_leI hj (by omega)] at this
      exact this
    have eP : mP (m_set c 13 0 (nI j)) = j := by unfold mP; rw [m_set_at]; exact nI_clamp hj
    refine ⟨rfl, (show Inv (m_set c 13 0 (nI j)) from ⟨⟨⟨hK, hT, hB, ⟨?_, ?_⟩, hA, hkf, haf, hbf⟩, hG, hgv, hov, hrw, hps⟩, (i_day_eq rfl hday), (i_care_eq rfl rfl hcare), (i_ask_eq rfl rfl rfl rfl hask), (i_look_eq rfl rfl rfl hlook), (i_law_eq rfl hlaw), (i_owe_eq rfl rfl rfl rfl howe), (i_pend_eq rfl rfl hpend), (i_zero_eq rfl rfl rfl rfl rfl hzero), (i_nb_eq rfl rfl rfl rfl rfl rfl rfl hnb), (i_out_eq rfl rfl rfl rfl rfl hout), (i_back_eq rfl rfl rfl rfl rfl rfl rfl hback), (i_aout_eq rfl rfl rfl rfl rfl haout), (i_log_eq rfl rfl rfl rfl rfl hlog), (i_wnt_eq rfl rfl hwnt)⟩), (k.1.set _ _ _), k.2.1, fun i hi => ?_, k.2.2.2⟩
    · rw [eP, m_set_at]
    · rw [eP]; omega
    · rw [eP] at hi
      exact k.2.2.1 i (by omega)
  · rw [cif_f q, cif_f q]; exact ⟨rfl, h, k⟩
