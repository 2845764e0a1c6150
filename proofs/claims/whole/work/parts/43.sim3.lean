theorem cared_iff {s c : mS} (h : Inv c) (k : Lk s c) {t : Nat} (ht : t < mT c) : c_cared c t ↔ ¬ ∃ b, b < mA s ∧ s 25 b = nI t ∧ s 24 b = 4 ∧ s 11 0 ≤ s 33 b + s_care s (nI t) := by
  obtain ⟨hC, hday, hcare, hask, hlook, hlaw, howe, hpend, hzero, hnb, hout, hback, haout, hlog, hwnt⟩ := id h
  obtain ⟨hI, hG, hgv, hov, hrw, hps⟩ := id hC
  obtain ⟨hK, hT, hB, hP9, hA, hkf, haf, hbf⟩ := id hI
  have hA2 := hA.2
  have hT2 := hT.2
  have hK2 := hK.2
  have hB2 := hB.2
  have hP2 := hP9.2
  have hd := day_lt h
  obtain ⟨q, hq, eq⟩ := hcare _ (hkf t ht).2
  have ec : s_care s (nI t) = nI q := by rw [care_eq k]; unfold s_care; rw [ix_nI (by omega)]; exact eq
  rw [ec, k.1.A, ← k.1 25 (by decide), ← k.1 24 (by decide), ← k.1 11 (by decide)]
  unfold c_cared
  rw [eq]
  obtain ⟨b1, b2⟩ := hback.2 t ht
  have key : ∀ b, b < mA c → c 24 b = 4 → c 25 b = nI t → ∃ e, c 33 b = nI e ∧ e ≤ ix (c 11 0) ∧ s 33 b = nI e := fun b hb w1 w2 => by
    obtain ⟨e, e1, e2⟩ := (hback.1 b hb w1).1
    exact ⟨e, e1, e2, (k.2.1 b hb w1).symm.trans e1⟩
  constructor
  · rintro z ⟨b, w1, w2, w3, w4⟩
    obtain ⟨e, e1, e2, e3⟩ := key b w1 w3 w2
    have m1 := b1 b w1 w3 w2
    rw [e1] at m1
    rcases z with z | z
    · rw [z] at m1
      exact absurd (Int32.lt_of_le_of_lt m1 (by decide)) (nI_pos (by omega))
    · rcases b2 with y | ⟨b0, y1, y2, y3, y4⟩
      · rw [y] at m1
        exact absurd (Int32.lt_of_le_of_lt m1 (by decide)) (nI_pos (by omega))
      · obtain ⟨e0, f1, f2, f3⟩ := key b0 y1 y2 y3
        rw [← y4, f1, hd.2, nI_add, nI_ltI (by omega) (by omega)] at z
        rw [← y4, f1, nI_leI (by omega) (by omega)] at m1
        rw [e3, hd.2, nI_add, nI_leI (by omega) (by omega)] at w4
        omega
  · intro z
    rcases b2 with y | ⟨b0, y1, y2, y3, y4⟩
    · exact Or.inl y
    · right
      obtain ⟨e0, f1, f2, f3⟩ := key b0 y1 y2 y3
      refine Int32.not_le.mp (fun w => z ⟨b0, y1, y3, y2, ?_⟩)
      rw [f3, ← f1, y4]
      exact w
set_option maxHeartbeats 4000000 in
theorem inv_out {c : mS} {j t m : Nat} (h : Inv c) (hj : j < mA c) (h1 : c 24 j = 1) (ht : t < mT c) (h25 : c 25 j = nI t) (hm : m < mB c) (h27 : c 27 j = nI m) (h51 : c 51 t = -1) : Inv (m_set (m_set (m_set c 24 j 3) 51 t (nI j)) 52 m (c 52 m + 1)) := by
  obtain ⟨hC, hday, hcare, hask, hlook, hlaw, howe, hpend, hzero, hnb, hout, hback, haout, hlog, hwnt⟩ := id h
  obtain ⟨hI, hG, hgv, hov, hrw, hps⟩ := id hC
  obtain ⟨hK, hT, hB, hP9, hA, hkf, haf, hbf⟩ := id hI
  have hA2 := hA.2
  have hT2 := hT.2
  have hK2 := hK.2
  have hB2 := hB.2
  have hP2 := hP9.2
  have e4 := st_iff (c := c) (i := j) (v := 3) (w := 4) (by decide) (by rw [h1]; decide)
  have e2 := st_iff (c := c) (i := j) (v := 3) (w := 2) (by decide) (by rw [h1]; decide)
  have e0 := st_iff (c := c) (i := j) (v := 3) (w := 0) (by decide) (by rw [h1]; decide)
  have f51 : ∀ u, u ≠ t → (m_set (m_set (m_set c 24 j 3) 51 t (nI j)) 52 m (c 52 m + 1)) 51 u = c 51 u := fun u hu => ms_ne (c := c) (j := 51) hu
  have g51 : (m_set (m_set (m_set c 24 j 3) 51 t (nI j)) 52 m (c 52 m + 1)) 51 t = nI j := m_set_at c 51 t (nI j)
  have f52 : ∀ u, u ≠ m → (m_set (m_set (m_set c 24 j 3) 51 t (nI j)) 52 m (c 52 m + 1)) 52 u = c 52 u := fun u hu => ms_ne (c := c) (j := 52) hu
  have g52 : (m_set (m_set (m_set c 24 j 3) 51 t (nI j)) 52 m (c 52 m + 1)) 52 m = c 52 m + 1 := m_set_at c 52 m (c 52 m + 1)
  have f24 : ∀ u, u ≠ j → (m_set (m_set (m_set c 24 j 3) 51 t (nI j)) 52 m (c 52 m + 1)) 24 u = c 24 u := fun u hu => ms_ne (c := c) (j := 24) hu
  have g24 : (m_set (m_set (m_set c 24 j 3) 51 t (nI j)) 52 m (c 52 m + 1)) 24 j = 3 := m_set_at c 24 j 3
  refine ⟨⟨⟨hK, hT, hB, hP9, hA, hkf, haf, fun x hx z => ?_⟩, hG, hgv, fun u hu => ?_, hrw, hps⟩, (i_day_eq rfl hday), (i_care_eq rfl rfl hcare), (i_ask_eq rfl rfl rfl rfl hask), (i_look_eq rfl rfl rfl hlook), (i_law_eq rfl hlaw), fun u hu => ?_, ?_, (i_zero_eq rfl rfl rfl rfl rfl hzero), fun a b ha hb hab q1 q2 q3 => hnb a b ha hb hab (st_sub (by decide) a q1) (st_sub (by decide) b q2) q3, fun u x hu hx => ?_, ?_, fun u hu => ?_, ?_, (i_wnt_eq rfl rfl hwnt)⟩
  · by_cases e : x = j
    · rw [e]; exact hbf j hj (Or.inl h1)
    · rw [f24 x e] at z; exact hbf x hx z
  · have hu : u < mT c := hu
    by_cases e : u = t
    · rw [e, g51, ix_nI (by omega)]; exact Or.inr ⟨rfl, hj⟩
    · rw [f51 u e]; exact hov u hu
  · obtain ⟨o, o1, o2⟩ := howe u hu
    refine ⟨o, o1, ?_⟩
    have : ct (fun a => (m_set (m_set (m_set c 24 j 3) 51 t (nI j)) 52 m (c 52 m + 1)) 24 a = 4) (mA c) = ct (fun a => c 24 a = 4) (mA c) := ct_congr (fun a _ => e4 a)
    show o ≤ 10100 * ct (fun a => (m_set (m_set (m_set c 24 j 3) 51 t (nI j)) 52 m (c 52 m + 1)) 24 a = 4) (mA c)
    rw [this]
    exact o2
  · show ct (fun a => (m_set (m_set (m_set c 24 j 3) 51 t (nI j)) 52 m (c 52 m + 1)) 24 a = 0) (mA c) ≤ 5
    rw [show ct (fun a => (m_set (m_set (m_set c 24 j 3) 51 t (nI j)) 52 m (c 52 m + 1)) 24 a = 0) (mA c) = ct (fun a => c 24 a = 0) (mA c) from ct_congr (fun a _ => e0 a)]
    exact hpend
  · have hu : u < mT c := hu
    have hx : x < mA c := hx
    show (m_set (m_set (m_set c 24 j 3) 51 t (nI j)) 52 m (c 52 m + 1)) 51 u = nI x ↔ (m_set (m_set (m_set c 24 j 3) 51 t (nI j)) 52 m (c 52 m + 1)) 24 x = 3 ∧ c 25 x = nI u
    by_cases eu : u = t
    · rw [eu, g51]
      by_cases ex : x = j
      · rw [ex, g24]; exact ⟨fun _ => ⟨rfl, h25⟩, fun _ => rfl⟩
      · rw [f24 x ex]
        refine ⟨fun z => absurd ((nI_eq (by omega) (by omega)).mp z).symm ex, fun z => ?_⟩
        have := (hout t x ht hx).mpr z
        rw [h51] at this
        exact absurd this.symm (oI_ne (by omega))
    · rw [f51 u eu]
      by_cases ex : x = j
      · rw [ex, g24, h25]
        refine ⟨fun z => ?_, fun z => absurd ((nI_eq (by omega) (by omega)).mp z.2).symm eu⟩
        have := ((hout u j hu hj).mp z).1
        rw [h1] at this
        exact absurd this (by decide)
      · rw [f24 x ex]; exact hout u x hu hx
  · unfold i_back at *
    show (∀ b, b < mA c → m_set c 24 j 3 24 b = 4 → _) ∧ ∀ u, u < mT c → (∀ b, b < mA c → m_set c 24 j 3 24 b = 4 → _) ∧ (_ ∨ ∃ b, b < mA c ∧ m_set c 24 j 3 24 b = 4 ∧ _)
    simp only [e4]
    exact hback
  · have hu : u < mB c := hu
    show (m_set (m_set (m_set c 24 j 3) 51 t (nI j)) 52 m (c 52 m + 1)) 52 u = nI (ct (fun a => (m_set (m_set (m_set c 24 j 3) 51 t (nI j)) 52 m (c 52 m + 1)) 24 a = 3 ∧ c 27 a = nI u) (mA c))
    by_cases e : u = m
    · rw [e]
      refine g52.trans ((congrArg (fun z => z + 1) (haout m hm)).trans ((nI_1 _).trans (congrArg nI (ct_up (i := j) ?_ ?_ hj (fun a ha hne => ?_)).symm)))
      · exact fun z => absurd z.1 (by rw [h1]; decide)
      · exact ⟨g24, h27⟩
      · rw [f24 a hne]
    · rw [f52 u e, haout u hu]
      refine congrArg nI (ct_congr (fun a ha => ?_))
      by_cases ea : a = j
      · rw [ea, h27]
        exact ⟨fun z => absurd ((nI_eq (by omega) (by omega)).mp z.2).symm e, fun z => absurd ((nI_eq (by omega) (by omega)).mp z.2).symm e⟩
      · rw [f24 a ea]
  · unfold i_log at *
    show mL c = ct (fun a => m_set c 24 j 3 24 a = 2) (mA c) ∧ (∀ i, i < mL c → m_set c 24 j 3 24 (ix (c 80 i)) = 2) ∧ (∀ i i2, i < mL c → i2 < mL c → c 80 i = c 80 i2 → i = i2) ∧ (∀ b, b < mA c → m_set c 24 j 3 24 b = 2 → ∃ i, i < mL c ∧ c 80 i = nI b) ∧ (∀ i i2, i < i2 → i2 < mL c → c 31 (ix (c 80 i)) ≤ c 31 (ix (c 80 i2)))
    simp only [e2]
    exact hlog
set_option maxHeartbeats 4000000 in
theorem sim_out {s c : mS} (h : Inv c) (k : Lk s c) (a : Int32) : Sim (cp_out c a) (sp_out s a) := by
  obtain ⟨hC, hday, hcare, hask, hlook, hlaw, howe, hpend, hzero, hnb, hout, hback, haout, hlog, hwnt⟩ := id h
  obtain ⟨hI, hG, hgv, hov, hrw, hps⟩ := id hC
  obtain ⟨hK, hT, hB, hP9, hA, hkf, haf, hbf⟩ := id hI
  have hA2 := hA.2
  have hT2 := hT.2
  have hK2 := hK.2
  have hB2 := hB.2
  have hP2 := hP9.2
  unfold cp_out sp_out
  rw [← k.1 23 (by decide), ← k.1 24 (by decide)]
  by_cases q : wi a 0 (c 23 0 - 1) ∧ c 24 (ix a) = 1
  · rw [cif_t q, cif_t q]
    obtain ⟨j, hj, rfl⟩ := m_ixe hA (by decide) q.1
    rw [ix_nI (by omega)] at q ⊢
    have q1 := q.2
    obtain ⟨t1, t2⟩ := hbf j hj (Or.inl q1)
    obtain ⟨m1, m2⟩ := (haf j hj).2.1
    obtain ⟨t, et⟩ : ∃ t, t = ix (c 25 j) := ⟨_, rfl⟩
    rw [← et] at t1 t2 ⊢
    obtain ⟨F, G, rk, eF, eG, -⟩ := hask j hj
    rw [← k.1 11 (by decide), ← k.1 30 (by decide), ← k.1 9 (by decide), ← k.1 27 (by decide), ow_eq k, ← k.1 25 (by decide), ← k.1 31 (by decide), t1, ix_nI (by omega)]
    have hlaw9 : c_lets c t (c 31 j) ↔ s_law s t (c 31 j) := by
      obtain ⟨F, G, rk, eF, eG, eR, w1, w2, w3, w4⟩ := hask j hj
      exact lets_iff h k t2 eG (by omega)
    have hcar := cared_iff h k t2
    rw [← k.1 11 (by decide), ← k.1 25 (by decide), ← k.1 24 (by decide)] at hcar
    unfold c_hind
    by_cases z1 : c 11 0 < c 30 j
    · rw [cif_t z1, cif_t z1, cif_f (by decide)]; exact ⟨rfl, h, k⟩
    rw [cif_f z1, cif_f z1]
    by_cases z2 : 40 < c 9 (ix (c 27 j))
    · rw [cif_t z2, cif_t z2, cif_f (by decide)]; exact ⟨rfl, h, k⟩
    rw [cif_f z2, cif_f z2]
    by_cases z3 : ¬ c 51 t = -1
    · have y3 : ¬ s_ow c (nI t) = none := fun w => z3 ((ow_none h t2).mp w)
      rw [cif_t z3, cif_t y3, cif_f (by decide)]; exact ⟨rfl, h, k⟩
    have y3 : ¬ ¬ s_ow c (nI t) = none := fun w => w ((ow_none h t2).mpr (Classical.not_not.mp z3))
    rw [cif_f z3, cif_f y3]
    by_cases z4 : ¬ c_lets c t (c 31 j)
    · have y4 : ¬ s_law s t (c 31 j) := fun w => z4 (hlaw9.mpr w)
      rw [cif_t z4, cif_t y4, cif_f (by decide)]; exact ⟨rfl, h, k⟩
    have y4 : ¬ ¬ s_law s t (c 31 j) := fun w => w (hlaw9.mp (Classical.not_not.mp z4))
    rw [cif_f z4, cif_f y4]
    by_cases z5 : c_cared c t
    · have y5 := hcar.mp z5
      rw [cif_t z5, cif_f y5, cif_t (show (0 : Int32) = 0 from rfl)]
      refine ⟨rfl, inv_out h hj q1 t2 t1 m2 m1 (Classical.not_not.mp z3), ?_⟩
      exact k.mk (((k.1.set 24 _ _).setR _ _ (by decide)).setR _ _ (by decide)) rfl rfl rfl rfl rfl rfl rfl rfl (fun b hb w => ⟨hb, st_sub (by decide) b w⟩)
    · have y5 := Classical.not_not.mp (fun w => z5 (hcar.mpr w))
      rw [cif_f z5, cif_t y5, cif_f (by decide)]; exact ⟨rfl, h, k⟩
  · rw [cif_f q, cif_f q]; exact ⟨rfl, h, k⟩
set_option maxHeartbeats 4000000 in
theorem inv_back {c : mS} {j t m ow : Nat} {fe : Int32} (h : Inv c) (hj : j < mA c) (h3 : c 24 j = 3) (ht : t < mT c) (h25 : c 25 j = nI t) (hm : m < mB c) (h27 : c 27 j = nI m) (how : ow ≤ 10100 * (ct (fun a => c 24 a = 4) (mA c) + 1)) : Inv (m_set (m_set (m_set (m_set (m_set (m_set (m_set c 9 m (nI ow)) 10 m fe) 52 m (c 52 m - 1)) 51 t (-1)) 50 t (c 11 0)) 24 j 4) 33 j (c 11 0)) := by
  obtain ⟨hC, hday, hcare, hask, hlook, hlaw, howe, hpend, hzero, hnb, hout, hback, haout, hlog, hwnt⟩ := id h
  obtain ⟨hI, hG, hgv, hov, hrw, hps⟩ := id hC
  obtain ⟨hK, hT, hB, hP9, hA, hkf, haf, hbf⟩ := id hI
  have hA2 := hA.2
  have hT2 := hT.2
  have hK2 := hK.2
  have hB2 := hB.2
  have hP2 := hP9.2
  have hd := day_lt h
  have e2 := st_iff (c := c) (i := j) (v := 4) (w := 2) (by decide) (by rw [h3]; decide)
  have e0 := st_iff (c := c) (i := j) (v := 4) (w := 0) (by decide) (by rw [h3]; decide)
  have f51 : ∀ u, u ≠ t → (m_set (m_set (m_set (m_set (m_set (m_set (m_set c 9 m (nI ow)) 10 m fe) 52 m (c 52 m - 1)) 51 t (-1)) 50 t (c 11 0)) 24 j 4) 33 j (c 11 0)) 51 u = c 51 u := fun u hu => ms_ne (c := c) (j := 51) hu
  have g51 : (m_set (m_set (m_set (m_set (m_set (m_set (m_set c 9 m (nI ow)) 10 m fe) 52 m (c 52 m - 1)) 51 t (-1)) 50 t (c 11 0)) 24 j 4) 33 j (c 11 0)) 51 t = -1 := m_set_at c 51 t (-1)
  have f50 : ∀ u, u ≠ t → (m_set (m_set (m_set (m_set (m_set (m_set (m_set c 9 m (nI ow)) 10 m fe) 52 m (c 52 m - 1)) 51 t (-1)) 50 t (c 11 0)) 24 j 4) 33 j (c 11 0)) 50 u = c 50 u := fun u hu => ms_ne (c := c) (j := 50) hu
  have g50 : (m_set (m_set (m_set (m_set (m_set (m_set (m_set c 9 m (nI ow)) 10 m fe) 52 m (c 52 m - 1)) 51 t (-1)) 50 t (c 11 0)) 24 j 4) 33 j (c 11 0)) 50 t = c 11 0 := m_set_at c 50 t (c 11 0)
  have f52 : ∀ u, u ≠ m → (m_set (m_set (m_set (m_set (m_set (m_set (m_set c 9 m (nI ow)) 10 m fe) 52 m (c 52 m - 1)) 51 t (-1)) 50 t (c 11 0)) 24 j 4) 33 j (c 11 0)) 52 u = c 52 u := fun u hu => ms_ne (c := c) (j := 52) hu
  have g52 : (m_set (m_set (m_set (m_set (m_set (m_set (m_set c 9 m (nI ow)) 10 m fe) 52 m (c 52 m - 1)) 51 t (-1)) 50 t (c 11 0)) 24 j 4) 33 j (c 11 0)) 52 m = c 52 m - 1 := m_set_at c 52 m (c 52 m - 1)
  have f9 : ∀ u, u ≠ m → (m_set (m_set (m_set (m_set (m_set (m_set (m_set c 9 m (nI ow)) 10 m fe) 52 m (c 52 m - 1)) 51 t (-1)) 50 t (c 11 0)) 24 j 4) 33 j (c 11 0)) 9 u = c 9 u := fun u hu => ms_ne (c := c) (j := 9) hu
  have g9 : (m_set (m_set (m_set (m_set (m_set (m_set (m_set c 9 m (nI ow)) 10 m fe) 52 m (c 52 m - 1)) 51 t (-1)) 50 t (c 11 0)) 24 j 4) 33 j (c 11 0)) 9 m = nI ow := m_set_at c 9 m (nI ow)
  have f10 : ∀ u, u ≠ m → (m_set (m_set (m_set (m_set (m_set (m_set (m_set c 9 m (nI ow)) 10 m fe) 52 m (c 52 m - 1)) 51 t (-1)) 50 t (c 11 0)) 24 j 4) 33 j (c 11 0)) 10 u = c 10 u := fun u hu => ms_ne (c := c) (j := 10) hu
  have f33 : ∀ u, u ≠ j → (m_set (m_set (m_set (m_set (m_set (m_set (m_set c 9 m (nI ow)) 10 m fe) 52 m (c 52 m - 1)) 51 t (-1)) 50 t (c 11 0)) 24 j 4) 33 j (c 11 0)) 33 u = c 33 u := fun u hu => ms_ne (c := c) (j := 33) hu
  have g33 : (m_set (m_set (m_set (m_set (m_set (m_set (m_set c 9 m (nI ow)) 10 m fe) 52 m (c 52 m - 1)) 51 t (-1)) 50 t (c 11 0)) 24 j 4) 33 j (c 11 0)) 33 j = c 11 0 := m_set_at c 33 j (c 11 0)
  have f24 : ∀ u, u ≠ j → (m_set (m_set (m_set (m_set (m_set (m_set (m_set c 9 m (nI ow)) 10 m fe) 52 m (c 52 m - 1)) 51 t (-1)) 50 t (c 11 0)) 24 j 4) 33 j (c 11 0)) 24 u = c 24 u := fun u hu => ms_ne (c := c) (j := 24) hu
  have g24 : (m_set (m_set (m_set (m_set (m_set (m_set (m_set c 9 m (nI ow)) 10 m fe) 52 m (c 52 m - 1)) 51 t (-1)) 50 t (c 11 0)) 24 j 4) 33 j (c 11 0)) 24 j = 4 := m_set_at c 24 j 4
  have h51 : c 51 t = nI j := (hout t j ht hj).mpr ⟨h3, h25⟩
  have ct4 : ct (fun a => (m_set (m_set (m_set (m_set (m_set (m_set (m_set c 9 m (nI ow)) 10 m fe) 52 m (c 52 m - 1)) 51 t (-1)) 50 t (c 11 0)) 24 j 4) 33 j (c 11 0)) 24 a = 4) (mA c) = ct (fun a => c 24 a = 4) (mA c) + 1 := ct_up (i := j) (by rw [h3]; decide) g24 hj (fun a _ hne => by rw [f24 a hne])
  refine ⟨⟨⟨hK, hT, hB, hP9, hA, hkf, haf, fun x hx z => ?_⟩, hG, hgv, fun u hu => ?_, hrw, hps⟩, (i_day_eq rfl hday), (i_care_eq rfl rfl hcare), (i_ask_eq rfl rfl rfl rfl hask), (i_look_eq rfl rfl rfl hlook), (i_law_eq rfl hlaw), fun u hu => ?_, ?_, ⟨hzero.1, fun u hu => ?_⟩, fun a b ha hb hab q1 q2 q3 => hnb a b ha hb hab (st_sub (by decide) a q1) (st_sub (by decide) b q2) q3, fun u x hu hx => ?_, ⟨fun b hb q4 => ?_, fun u hu => ?_⟩, fun u hu => ?_, ?_, (i_wnt_eq rfl rfl hwnt)⟩
  · by_cases e : x = j
    · rw [e]; exact hbf j hj (Or.inr h3)
    · rw [f24 x e] at z; exact hbf x hx z
  · have hu : u < mT c := hu
    by_cases e : u = t
    · rw [e, g51]; exact Or.inl rfl
    · rw [f51 u e]; exact hov u hu
  · have hu : u < mB c := hu
    show ∃ o, (m_set (m_set (m_set (m_set (m_set (m_set (m_set c 9 m (nI ow)) 10 m fe) 52 m (c 52 m - 1)) 51 t (-1)) 50 t (c 11 0)) 24 j 4) 33 j (c 11 0)) 9 u = nI o ∧ o ≤ 10100 * ct (fun a => (m_set (m_set (m_set (m_set (m_set (m_set (m_set c 9 m (nI ow)) 10 m fe) 52 m (c 52 m - 1)) 51 t (-1)) 50 t (c 11 0)) 24 j 4) 33 j (c 11 0)) 24 a = 4) (mA c)
    rw [ct4]
    by_cases e : u = m
    · rw [e, g9]; exact ⟨ow, rfl, how⟩
    · obtain ⟨o, o1, o2⟩ := howe u hu
      rw [f9 u e]
      exact ⟨o, o1, by omega⟩
  · show ct (fun a => (m_set (m_set (m_set (m_set (m_set (m_set (m_set c 9 m (nI ow)) 10 m fe) 52 m (c 52 m - 1)) 51 t (-1)) 50 t (c 11 0)) 24 j 4) 33 j (c 11 0)) 24 a = 0) (mA c) ≤ 5
    rw [show ct (fun a => (m_set (m_set (m_set (m_set (m_set (m_set (m_set c 9 m (nI ow)) 10 m fe) 52 m (c 52 m - 1)) 51 t (-1)) 50 t (c 11 0)) 24 j 4) 33 j (c 11 0)) 24 a = 0) (mA c) = ct (fun a => c 24 a = 0) (mA c) from ct_congr (fun a _ => e0 a)]
    exact hpend
  · have hu : mB c ≤ u := hu
    rw [f9 u (by omega), f10 u (by omega)]
    exact hzero.2 u hu
  · have hu : u < mT c := hu
    have hx : x < mA c := hx
    show (m_set (m_set (m_set (m_set (m_set (m_set (m_set c 9 m (nI ow)) 10 m fe) 52 m (c 52 m - 1)) 51 t (-1)) 50 t (c 11 0)) 24 j 4) 33 j (c 11 0)) 51 u = nI x ↔ (m_set (m_set (m_set (m_set (m_set (m_set (m_set c 9 m (nI ow)) 10 m fe) 52 m (c 52 m - 1)) 51 t (-1)) 50 t (c 11 0)) 24 j 4) 33 j (c 11 0)) 24 x = 3 ∧ c 25 x = nI u
    by_cases eu : u = t
    · rw [eu, g51]
      refine ⟨fun z => absurd z.symm (oI_ne (by omega)), fun z => ?_⟩
      by_cases ex : x = j
      · rw [ex, g24] at z; exact absurd z.1 (by decide)
      · rw [f24 x ex] at z
        have := (hout t x ht hx).mpr z
        rw [h51] at this
        exact absurd ((nI_eq (by omega) (by omega)).mp this).symm ex
    · rw [f51 u eu]
      by_cases ex : x = j
      · rw [ex, g24]
        refine ⟨fun z => ?_, fun z => absurd z.1 (by decide)⟩
        have := ((hout u j hu hj).mp z).2
        rw [h25] at this
        exact absurd ((nI_eq (by omega) (by omega)).mp this).symm eu
      · rw [f24 x ex]; exact hout u x hu hx
  · have hb : b < mA c := hb
    show (∃ d, (m_set (m_set (m_set (m_set (m_set (m_set (m_set c 9 m (nI ow)) 10 m fe) 52 m (c 52 m - 1)) 51 t (-1)) 50 t (c 11 0)) 24 j 4) 33 j (c 11 0)) 33 b = nI d ∧ d ≤ ix (c 11 0)) ∧ (c 25 b = nI (ix (c 25 b)) ∧ ix (c 25 b) < mT c)
    by_cases e : b = j
    · rw [e, g33, h25, ix_nI (by omega)]; exact ⟨⟨ix (c 11 0), hd.2, Nat.le_refl _⟩, rfl, ht⟩
    · rw [f24 b e] at q4; rw [f33 b e]; exact hback.1 b hb q4
  · have hu : u < mT c := hu
    show (∀ b, b < mA c → (m_set (m_set (m_set (m_set (m_set (m_set (m_set c 9 m (nI ow)) 10 m fe) 52 m (c 52 m - 1)) 51 t (-1)) 50 t (c 11 0)) 24 j 4) 33 j (c 11 0)) 24 b = 4 → c 25 b = nI u → (m_set (m_set (m_set (m_set (m_set (m_set (m_set c 9 m (nI ow)) 10 m fe) 52 m (c 52 m - 1)) 51 t (-1)) 50 t (c 11 0)) 24 j 4) 33 j (c 11 0)) 33 b ≤ (m_set (m_set (m_set (m_set (m_set (m_set (m_set c 9 m (nI ow)) 10 m fe) 52 m (c 52 m - 1)) 51 t (-1)) 50 t (c 11 0)) 24 j 4) 33 j (c 11 0)) 50 u) ∧ ((m_set (m_set (m_set (m_set (m_set (m_set (m_set c 9 m (nI ow)) 10 m fe) 52 m (c 52 m - 1)) 51 t (-1)) 50 t (c 11 0)) 24 j 4) 33 j (c 11 0)) 50 u = -1 ∨ ∃ b, b < mA c ∧ (m_set (m_set (m_set (m_set (m_set (m_set (m_set c 9 m (nI ow)) 10 m fe) 52 m (c 52 m - 1)) 51 t (-1)) 50 t (c 11 0)) 24 j 4) 33 j (c 11 0)) 24 b = 4 ∧ c 25 b = nI u ∧ (m_set (m_set (m_set (m_set (m_set (m_set (m_set c 9 m (nI ow)) 10 m fe) 52 m (c 52 m - 1)) 51 t (-1)) 50 t (c 11 0)) 24 j 4) 33 j (c 11 0)) 33 b = (m_set (m_set (m_set (m_set (m_set (m_set (m_set c 9 m (nI ow)) 10 m fe) 52 m (c 52 m - 1)) 51 t (-1)) 50 t (c 11 0)) 24 j 4) 33 j (c 11 0)) 50 u)
    by_cases eu : u = t
    · rw [eu, g50]
      refine ⟨fun b hb w1 w2 => ?_, Or.inr ⟨j, hj, g24, h25, g33⟩⟩
      by_cases e : b = j
      · rw [e, g33]; exact Int32.le_refl _
      · rw [f24 b e] at w1
        rw [f33 b e]
        obtain ⟨d, d1, d2⟩ := (hback.1 b hb w1).1
        rw [d1, hd.2]
        exact nI_le d2 (by omega)
    · rw [f50 u eu]
      obtain ⟨y1, y2⟩ := hback.2 u hu
      refine ⟨fun b hb w1 w2 => ?_, ?_⟩
      · by_cases e : b = j
        · rw [e, h25] at w2; exact absurd ((nI_eq (by omega) (by omega)).mp w2).symm eu
        · rw [f24 b e] at w1; rw [f33 b e]; exact y1 b hb w1 w2
      · rcases y2 with y2 | ⟨b, b1, b2, b3, b4⟩
        · exact Or.inl y2
        · have e : b ≠ j := fun e => by rw [e, h3] at b2; exact absurd b2 (by decide)
          refine Or.inr ⟨b, b1, ?_, b3, ?_⟩
          · rw [f24 b e]; exact b2
          · rw [f33 b e]; exact b4
  · have hu : u < mB c := hu
    show (m_set (m_set (m_set (m_set (m_set (m_set (m_set c 9 m (nI ow)) 10 m fe) 52 m (c 52 m - 1)) 51 t (-1)) 50 t (c 11 0)) 24 j 4) 33 j (c 11 0)) 52 u = nI (ct (fun a => (m_set (m_set (m_set (m_set (m_set (m_set (m_set c 9 m (nI ow)) 10 m fe) 52 m (c 52 m - 1)) 51 t (-1)) 50 t (c 11 0)) 24 j 4) 33 j (c 11 0)) 24 a = 3 ∧ c 27 a = nI u) (mA c))
    by_cases e : u = m
    · have := ct_up (p := fun a => (m_set (m_set (m_set (m_set (m_set (m_set (m_set c 9 m (nI ow)) 10 m fe) 52 m (c 52 m - 1)) 51 t (-1)) 50 t (c 11 0)) 24 j 4) 33 j (c 11 0)) 24 a = 3 ∧ c 27 a = nI m) (q := fun a => c 24 a = 3 ∧ c 27 a = nI m) (i := j) (fun z => absurd z.1 (by rw [g24]; decide)) ⟨h3, h27⟩ hj (fun a ha hne => by rw [f24 a hne])
      rw [e]
      refine g52.trans ((congrArg (fun z => z - 1) (haout m hm)).trans ?_)
      rw [this, nI_pred]
    · rw [f52 u e, haout u hu]
      refine congrArg nI (ct_congr (fun a ha => ?_))
      by_cases ea : a = j
      · rw [ea, h27]
        exact ⟨fun z => absurd ((nI_eq (by omega) (by omega)).mp z.2).symm e, fun z => absurd ((nI_eq (by omega) (by omega)).mp z.2).symm e⟩
      · rw [f24 a ea]
  · unfold i_log at *
    show mL c = ct (fun a => m_set c 24 j 4 24 a = 2) (mA c) ∧ (∀ i, i < mL c → m_set c 24 j 4 24 (ix (c 80 i)) = 2) ∧ (∀ i i2, i < mL c → i2 < mL c → c 80 i = c 80 i2 → i = i2) ∧ (∀ b, b < mA c → m_set c 24 j 4 24 b = 2 → ∃ i, i < mL c ∧ c 80 i = nI b) ∧ (∀ i i2, i < i2 → i2 < mL c → c 31 (ix (c 80 i)) ≤ c 31 (ix (c 80 i2)))
    simp only [e2]
    exact hlog
set_option maxHeartbeats 4000000 in
theorem sim_back {s c : mS} (h : Inv c) (k : Lk s c) (a : Int32) : Sim (cp_back c a) (sp_back s a) := by
  obtain ⟨hC, hday, hcare, hask, hlook, hlaw, howe, hpend, hzero, hnb, hout, hback, haout, hlog, hwnt⟩ := id h
  obtain ⟨hI, hG, hgv, hov, hrw, hps⟩ := id hC
  obtain ⟨hK, hT, hB, hP9, hA, hkf, haf, hbf⟩ := id hI
  have hA2 := hA.2
  have hT2 := hT.2
  have hK2 := hK.2
  have hB2 := hB.2
  have hP2 := hP9.2
  have hd := day_lt h
  unfold cp_back sp_back
  rw [← k.1 23 (by decide), ← k.1 24 (by decide)]
  by_cases q : wi a 0 (c 23 0 - 1) ∧ c 24 (ix a) = 3
  · rw [cif_t q, cif_t q]
    obtain ⟨j, hj, rfl⟩ := m_ixe hA (by decide) q.1
    rw [ix_nI (by omega)] at q ⊢
    have q1 := q.2
    obtain ⟨t1, t2⟩ := hbf j hj (Or.inr q1)
    obtain ⟨m1, m2⟩ := (haf j hj).2.1
    obtain ⟨t, et⟩ : ∃ t, t = ix (c 25 j) := ⟨_, rfl⟩
    obtain ⟨m, em⟩ : ∃ m, m = ix (c 27 j) := ⟨_, rfl⟩
    have eb : s_behind s j = c_bh c j := by
      obtain ⟨F, G, rk, eF, eG, eR, w1, w2, w3, w4⟩ := hask j hj
      unfold s_behind c_bh
      rw [← k.1 31 (by decide), ← k.1 11 (by decide), eG, hd.2, mx_sub (by omega) (by omega)]
    have eh : s_hours s j = c 31 j - c 30 j + 1 + 2 * c_bh c j := by
      unfold s_hours
      rw [eb, ← k.1 31 (by decide), ← k.1 30 (by decide)]
    obtain ⟨late, hl1, hl2⟩ : ∃ late, c_bh c j = nI late ∧ late ≤ 5000 := by
      obtain ⟨F, G, rk, eF, eG, eR, w1, w2, w3, w4⟩ := hask j hj
      unfold c_bh
      rw [eG, hd.2, mx_sub (by omega) (by omega)]
      by_cases z : nI G < nI (ix (c 11 0))
      · rw [cif_t z]
        rw [nI_ltI (by omega) (by omega)] at z
        exact ⟨ix (c 11 0) - G, nI_sub (by omega), by omega⟩
      · rw [cif_f z]; exact ⟨0, rfl, by omega⟩
    obtain ⟨hr, hr1, hr2⟩ : ∃ hr, c 31 j - c 30 j + 1 + 2 * c_bh c j = nI hr ∧ hr ≤ 10015 := by
      obtain ⟨F, G, rk, eF, eG, eR, w1, w2, w3, w4⟩ := hask j hj
      refine ⟨G - F + 1 + 2 * late, ?_, by omega⟩
      rw [eG, eF, hl1, nI_sub w1, show (1 : Int32) = nI 1 from rfl, nI_add, show (2 : Int32) = nI 2 from rfl, show nI 2 * nI late = nI (2 * late) from (Int32.ofNat_mul 2 late).symm, nI_add]
    rw [eb, eh, ← k.1 27 (by decide), ← k.1 9 (by decide), ← k.1 10 (by decide), ← k.1 4 (by decide), ← k.1 6 (by decide), ← k.1 25 (by decide), ← k.1 11 (by decide), ← et, ← em, hr1]
    rw [← em] at m1 m2
    rw [← et] at t1 t2
    obtain ⟨o, o1, o2⟩ := howe m m2
    have e9 : c 9 m + nI hr = nI (o + hr) := by rw [o1, nI_add]
    rw [e9]
    refine ⟨rfl, inv_back h hj q1 t2 t1 m2 m1 (by omega), ?_⟩
    refine ⟨((((((k.1.set 9 _ _).set 10 _ _).setR _ _ (by decide)).setR _ _ (by decide)).setR _ _ (by decide)).set 24 _ _ |>.setL _ _ (by decide)).setR _ _ (by decide), fun x hx w => ?_, fun u hu => k.2.2.1 u hu, fun u hu => k.2.2.2 u hu⟩
    have hx : x < mA c := hx
    have w : m_set c 24 j 4 24 x = 4 := w
    show m_set c 33 j (c 11 0) 33 x = m_set s 33 j (c 11 0) 33 x
    by_cases e : x = j
    · rw [e, m_set_at, m_set_at]
    · rw [ms_ne e] at w
      rw [ms_ne e, ms_ne e]
      exact k.2.1 x hx w
  · rw [cif_f q, cif_f q]; exact ⟨rfl, h, k⟩
