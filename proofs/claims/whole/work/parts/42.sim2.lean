theorem lim_iff {x : Int32} {K n : Nat} (h : x = nI K ∧ K ≤ n) (hn : n < 2 ^ 31) : nI n ≤ x ↔ x = nI n := by
  rw [h.1, nI_leI hn (by omega), nI_eq (by omega) hn]
  have := h.2
  omega
theorem lim_lt {x : Int32} {K n : Nat} (h : x = nI K ∧ K ≤ n) (hn : n < 2 ^ 31) : x < nI n ↔ ¬ x = nI n := by
  rw [h.1, nI_ltI (by omega) hn, nI_eq (by omega) hn]
  have := h.2
  omega
theorem R0.setId {s c : mS} (h : R0 s c) {j i : Nat} {v : Int32} (e : c j i = v) : R0 s (m_set c j i v) := by
  rw [show m_set c j i v = c from by rw [← e]; exact m_set_id c j i]
  exact h
set_option maxHeartbeats 4000000 in
theorem sim_kind {s c : mS} (h : Inv c) (k : Lk s c) (a b d : Int32) : Sim (cp_kind c a b d) (sp_kind s a b d) := by
  obtain ⟨hC, hday, hcare, hask, hlook, hlaw, howe, hpend, hzero, hnb, hout, hback, haout, hlog, hwnt⟩ := id h
  obtain ⟨hI, hG, hgv, hov, hrw, hps⟩ := id hC
  obtain ⟨hK, hT, hB, hP9, hA, hkf, haf, hbf⟩ := id hI
  have hA2 := hA.2
  have hT2 := hT.2
  have hK2 := hK.2
  have hB2 := hB.2
  have hP2 := hP9.2
  unfold cp_kind sp_kind
  rw [← k.1 1 (by decide), k.1.K]
  have e8 := lim_iff hK (by decide)
  by_cases q : wi a 0 5 ∧ wi b 0 255 ∧ wi d 0 100 ∧ ¬ c 1 0 = 8
  · rw [cif_t q, cif_t ⟨fun z => q.2.2.2 (e8.mp z), q.1, q.2.1, q.2.2.1⟩]
    have hlt := m_lt hK q.2.2.2
    have eK : mK (m_set (m_set (m_set (m_set (m_set c 2 (mK c) a) 3 (mK c) b) 4 (mK c) d) 1 0 (nI (mK c + 1))) 90 0 (c 90 0 + 1)) = mK c + 1 := nI_clamp (by omega)
    rw [show c 1 0 + 1 = nI (mK c + 1) by rw [hK.1, nI_1]]
    refine ⟨hK.1.symm, (show Inv (m_set (m_set (m_set (m_set (m_set c 2 (mK c) a) 3 (mK c) b) 4 (mK c) d) 1 0 (nI (mK c + 1))) 90 0 (c 90 0 + 1)) from ⟨?_, (i_day_eq rfl hday), fun u hu => ?_, (i_ask_eq rfl rfl rfl rfl hask), (i_look_eq rfl rfl rfl hlook), (i_law_eq rfl hlaw), (i_owe_eq rfl rfl rfl rfl howe), (i_pend_eq rfl rfl hpend), (i_zero_eq rfl rfl rfl rfl rfl hzero), fun x y hx hy hxy q1 q2 q3 z => hnb x y hx hy hxy q1 q2 q3 ?_, (i_out_eq rfl rfl rfl rfl rfl hout), (i_back_eq rfl rfl rfl rfl rfl rfl rfl hback), (i_aout_eq rfl rfl rfl rfl rfl haout), (i_log_eq rfl rfl rfl rfl rfl hlog), fun u hu hu8 => hwnt u ?_ hu8⟩), k.mk (((((k.1.set 2 _ _).set 3 _ _).set 4 _ _).set 1 _ _).setR _ _ (by decide)) rfl rfl rfl rfl rfl rfl rfl rfl (fun x hx w => ⟨hx, w⟩)⟩
    · refine ⟨⟨⟨?_, ?_⟩, hT, hB, hP9, hA, fun t ht => ⟨(hkf t ht).1, ?_⟩, fun x hx => ⟨⟨(haf x hx).1.1, ?_⟩, (haf x hx).2⟩, hbf⟩, hG, hgv, hov, hrw, hps⟩
      · rw [eK]; rfl
      · rw [eK]; omega
      · have := (hkf t ht).2; rw [eK]; show ix (c 6 t) < _; omega
      · have := (haf x hx).1.2; rw [eK]; show ix (c 28 x) < _; omega
    · show ∃ q, q ≤ 5 ∧ m_set c 2 (mK c) a 2 u = nI q
      rw [eK] at hu
      by_cases e : u = mK c
      · subst e
        rw [m_set_at]
        exact nI_of2 (M := 5) rfl (fun z => absurd (Int32.lt_of_le_of_lt q.1.1 z) (by decide)) q.1.2
      · rw [ms_ne e]; exact hcare u (by omega)
    · have hb2 := hbf x hx (Or.inl q1)
      have e : s_care (m_set (m_set (m_set (m_set (m_set c 2 (mK c) a) 3 (mK c) b) 4 (mK c) d) 1 0 (nI (mK c + 1))) 90 0 (c 90 0 + 1)) (c 25 x) = s_care c (c 25 x) := by
        show m_set c 2 (mK c) a 2 (ix (c 6 (ix (c 25 x)))) = _
        exact ms_ne (by have := (hkf _ hb2.2).2; omega)
      rw [← e]
      exact z
    · rw [eK] at hu; omega
  · rw [cif_f q, cif_f (fun z => q ⟨z.2.1, z.2.2.1, z.2.2.2, fun w => z.1 (e8.mpr w)⟩)]
    exact ⟨rfl, h, k⟩
set_option maxHeartbeats 4000000 in
theorem sim_thing {s c : mS} (h : Inv c) (k : Lk s c) (v : Int32) : Sim (cp_thing c v) (sp_thing s v) := by
  obtain ⟨hC, hday, hcare, hask, hlook, hlaw, howe, hpend, hzero, hnb, hout, hback, haout, hlog, hwnt⟩ := id h
  obtain ⟨hI, hG, hgv, hov, hrw, hps⟩ := id hC
  obtain ⟨hK, hT, hB, hP9, hA, hkf, haf, hbf⟩ := id hI
  have hA2 := hA.2
  have hT2 := hT.2
  have hK2 := hK.2
  have hB2 := hB.2
  have hP2 := hP9.2
  unfold cp_thing sp_thing
  rw [← k.1 1 (by decide), ← k.1 5 (by decide), k.1.T]
  have e8 := lim_lt hT (by decide)
  by_cases q : wi v 0 (c 1 0 - 1) ∧ ¬ c 5 0 = 12
  · rw [cif_t q, cif_t ⟨q.1, e8.mpr q.2⟩]
    obtain ⟨j, hj, rfl⟩ := m_ixe hK (by decide) q.1
    rw [ix_nI (by omega)]
    have hlt := m_lt hT q.2
    have eT : mT (m_set (m_set (m_set (m_set (m_set (m_set c 6 (mT c) (nI j)) 7 (mT c) (-1)) 50 (mT c) (-1)) 51 (mT c) (-1)) 5 0 (nI (mT c + 1))) 90 1 (c 90 1 + 1)) = mT c + 1 := nI_clamp (by omega)
    rw [show c 5 0 + 1 = nI (mT c + 1) by rw [hT.1, nI_1]]
    have e6 : ∀ u, u ≠ mT c → (m_set (m_set (m_set (m_set (m_set (m_set c 6 (mT c) (nI j)) 7 (mT c) (-1)) 50 (mT c) (-1)) 51 (mT c) (-1)) 5 0 (nI (mT c + 1))) 90 1 (c 90 1 + 1)) 6 u = c 6 u := fun u hu => ms_ne (c := c) (j := 6) hu
    have e6T : (m_set (m_set (m_set (m_set (m_set (m_set c 6 (mT c) (nI j)) 7 (mT c) (-1)) 50 (mT c) (-1)) 51 (mT c) (-1)) 5 0 (nI (mT c + 1))) 90 1 (c 90 1 + 1)) 6 (mT c) = nI j := m_set_at c 6 (mT c) (nI j)
    have e51 : ∀ u, u ≠ mT c → (m_set (m_set (m_set (m_set (m_set (m_set c 6 (mT c) (nI j)) 7 (mT c) (-1)) 50 (mT c) (-1)) 51 (mT c) (-1)) 5 0 (nI (mT c + 1))) 90 1 (c 90 1 + 1)) 51 u = c 51 u := fun u hu => ms_ne (c := c) (j := 51) hu
    have e51T : (m_set (m_set (m_set (m_set (m_set (m_set c 6 (mT c) (nI j)) 7 (mT c) (-1)) 50 (mT c) (-1)) 51 (mT c) (-1)) 5 0 (nI (mT c + 1))) 90 1 (c 90 1 + 1)) 51 (mT c) = -1 := m_set_at c 51 (mT c) (-1)
    have e50 : ∀ u, u ≠ mT c → (m_set (m_set (m_set (m_set (m_set (m_set c 6 (mT c) (nI j)) 7 (mT c) (-1)) 50 (mT c) (-1)) 51 (mT c) (-1)) 5 0 (nI (mT c + 1))) 90 1 (c 90 1 + 1)) 50 u = c 50 u := fun u hu => ms_ne (c := c) (j := 50) hu
    have e50T : (m_set (m_set (m_set (m_set (m_set (m_set c 6 (mT c) (nI j)) 7 (mT c) (-1)) 50 (mT c) (-1)) 51 (mT c) (-1)) 5 0 (nI (mT c + 1))) 90 1 (c 90 1 + 1)) 50 (mT c) = -1 := m_set_at c 50 (mT c) (-1)
    refine ⟨hT.1.symm, (show Inv (m_set (m_set (m_set (m_set (m_set (m_set c 6 (mT c) (nI j)) 7 (mT c) (-1)) 50 (mT c) (-1)) 51 (mT c) (-1)) 5 0 (nI (mT c + 1))) 90 1 (c 90 1 + 1)) from ⟨?_, (i_day_eq rfl hday), (i_care_eq rfl rfl hcare), (i_ask_eq rfl rfl rfl rfl hask), fun u hu => ?_, (i_law_eq rfl hlaw), (i_owe_eq rfl rfl rfl rfl howe), (i_pend_eq rfl rfl hpend), (i_zero_eq rfl rfl rfl rfl rfl hzero), fun x y hx hy hxy q1 q2 q3 z => hnb x y hx hy hxy q1 q2 q3 ?_, fun u x hu hx => ?_, ⟨fun b hb q4 => ⟨(hback.1 b hb q4).1, (hback.1 b hb q4).2.1, ?_⟩, fun u hu => ?_⟩, (i_aout_eq rfl rfl rfl rfl rfl haout), (i_log_eq rfl rfl rfl rfl rfl hlog), (i_wnt_eq rfl rfl hwnt)⟩), k.mk (((((k.1.set 6 _ _).set 7 _ _).setR _ _ (by decide)).setR _ _ (by decide)).set 5 _ _ |>.setR _ _ (by decide)) rfl rfl rfl rfl rfl rfl rfl rfl (fun x hx w => ⟨hx, w⟩)⟩
    · refine ⟨⟨hK, ⟨?_, ?_⟩, hB, hP9, hA, fun t ht => ?_, fun x hx => ⟨(haf x hx).1, (haf x hx).2.1, ?_⟩, fun x hx z => ⟨(hbf x hx z).1, ?_⟩⟩, hG, hgv, fun t ht => ?_, hrw, hps⟩
      · rw [eT]; rfl
      · rw [eT]; omega
      · rw [eT] at ht
        by_cases e : t = mT c
        · rw [e, e6T, ix_nI (by omega)]; exact ⟨rfl, hj⟩
        · rw [e6 t e]; exact hkf t (by omega)
      · rw [eT]
        rcases (haf x hx).2.2 with z | z
        · exact Or.inl z
        · exact Or.inr ⟨z.1, by have := z.2; show ix (c 25 x) < _; omega⟩
      · have := (hbf x hx z).2; rw [eT]; show ix (c 25 x) < _; omega
      · rw [eT] at ht
        by_cases e : t = mT c
        · rw [e, e51T]; exact Or.inl rfl
        · rw [e51 t e]; exact hov t (by omega)
    · rw [eT] at hu
      show m_set c 7 (mT c) (-1) 7 u = -1 ∨ ∃ q, m_set c 7 (mT c) (-1) 7 u = nI q ∧ q ≤ ix (c 11 0)
      by_cases e : u = mT c
      · rw [e, m_set_at]; exact Or.inl rfl
      · rw [ms_ne e]; exact hlook u (by omega)
    · have hb2 := hbf x hx (Or.inl q1)
      have e : s_care (m_set (m_set (m_set (m_set (m_set (m_set c 6 (mT c) (nI j)) 7 (mT c) (-1)) 50 (mT c) (-1)) 51 (mT c) (-1)) 5 0 (nI (mT c + 1))) 90 1 (c 90 1 + 1)) (c 25 x) = s_care c (c 25 x) := by
        show c 2 (ix ((m_set (m_set (m_set (m_set (m_set (m_set c 6 (mT c) (nI j)) 7 (mT c) (-1)) 50 (mT c) (-1)) 51 (mT c) (-1)) 5 0 (nI (mT c + 1))) 90 1 (c 90 1 + 1)) 6 (ix (c 25 x)))) = c 2 (ix (c 6 (ix (c 25 x))))
        rw [e6 _ (by have := hb2.2; omega)]
      rw [← e]
      exact z
    · rw [eT] at hu
      show (m_set (m_set (m_set (m_set (m_set (m_set c 6 (mT c) (nI j)) 7 (mT c) (-1)) 50 (mT c) (-1)) 51 (mT c) (-1)) 5 0 (nI (mT c + 1))) 90 1 (c 90 1 + 1)) 51 u = nI x ↔ c 24 x = 3 ∧ c 25 x = nI u
      have hx : x < mA c := hx
      by_cases e : u = mT c
      · rw [e, e51T]
        refine ⟨fun z => absurd z.symm (oI_ne (by omega)), fun z => ?_⟩
        have z1 := (hbf x hx (Or.inr z.1)).2
        rw [z.2, ix_nI (by omega)] at z1
        omega
      · rw [e51 u e]; exact hout u x (by omega) hx
    · have := (hback.1 b hb q4).2.2; rw [eT]; show ix (c 25 b) < _; omega
    · rw [eT] at hu
      show (∀ b, b < mA c → c 24 b = 4 → c 25 b = nI u → c 33 b ≤ (m_set (m_set (m_set (m_set (m_set (m_set c 6 (mT c) (nI j)) 7 (mT c) (-1)) 50 (mT c) (-1)) 51 (mT c) (-1)) 5 0 (nI (mT c + 1))) 90 1 (c 90 1 + 1)) 50 u) ∧ ((m_set (m_set (m_set (m_set (m_set (m_set c 6 (mT c) (nI j)) 7 (mT c) (-1)) 50 (mT c) (-1)) 51 (mT c) (-1)) 5 0 (nI (mT c + 1))) 90 1 (c 90 1 + 1)) 50 u = -1 ∨ ∃ b, b < mA c ∧ c 24 b = 4 ∧ c 25 b = nI u ∧ c 33 b = (m_set (m_set (m_set (m_set (m_set (m_set c 6 (mT c) (nI j)) 7 (mT c) (-1)) 50 (mT c) (-1)) 51 (mT c) (-1)) 5 0 (nI (mT c + 1))) 90 1 (c 90 1 + 1)) 50 u)
      by_cases e : u = mT c
      · rw [e, e50T]
        refine ⟨fun b hb z1 z2 => ?_, Or.inl rfl⟩
        have z3 := (hback.1 b hb z1).2.2
        rw [z2, ix_nI (by omega)] at z3
        omega
      · rw [e50 u e]; exact hback.2 u (by omega)
  · rw [cif_f q, cif_f (fun z => q ⟨z.1, e8.mp z.2⟩)]
    exact ⟨rfl, h, k⟩
set_option maxHeartbeats 4000000 in
theorem sim_member {s c : mS} (h : Inv c) (k : Lk s c) : Sim (cp_member c) (sp_member s) := by
  obtain ⟨hC, hday, hcare, hask, hlook, hlaw, howe, hpend, hzero, hnb, hout, hback, haout, hlog, hwnt⟩ := id h
  obtain ⟨hI, hG, hgv, hov, hrw, hps⟩ := id hC
  obtain ⟨hK, hT, hB, hP9, hA, hkf, haf, hbf⟩ := id hI
  have hA2 := hA.2
  have hT2 := hT.2
  have hK2 := hK.2
  have hB2 := hB.2
  have hP2 := hP9.2
  unfold cp_member sp_member
  rw [← k.1 8 (by decide)]
  have e8 : c 8 0 < 10 ↔ ¬ c 8 0 = 10 := lim_lt hB (by decide)
  by_cases q : ¬ c 8 0 = 10
  · rw [cif_t q, cif_t (e8.mpr q)]
    have hlt := m_lt hB q
    have hz := hzero.2 (mB c) (Nat.le_refl _)
    have e9 : m_set c 9 (mB c) 0 = c := by have := m_set_id c 9 (mB c); rw [hz.1] at this; exact this
    have e10 : m_set c 10 (mB c) 0 = c := by have := m_set_id c 10 (mB c); rw [hz.2] at this; exact this
    rw [e9, e10]
    have eB : mB (m_set (m_set (m_set c 52 (mB c) 0) 8 0 (nI (mB c + 1))) 90 2 (c 90 2 + 1)) = mB c + 1 := nI_clamp (by omega)
    rw [show c 8 0 + 1 = nI (mB c + 1) by rw [hB.1, nI_1]]
    have e52 : ∀ u, u ≠ mB c → (m_set (m_set (m_set c 52 (mB c) 0) 8 0 (nI (mB c + 1))) 90 2 (c 90 2 + 1)) 52 u = c 52 u := fun u hu => ms_ne (c := c) (j := 52) hu
    have e52B : (m_set (m_set (m_set c 52 (mB c) 0) 8 0 (nI (mB c + 1))) 90 2 (c 90 2 + 1)) 52 (mB c) = 0 := m_set_at c 52 (mB c) 0
    refine ⟨hB.1.symm, (show Inv (m_set (m_set (m_set c 52 (mB c) 0) 8 0 (nI (mB c + 1))) 90 2 (c 90 2 + 1)) from ⟨?_, (i_day_eq rfl hday), (i_care_eq rfl rfl hcare), (i_ask_eq rfl rfl rfl rfl hask), (i_look_eq rfl rfl rfl hlook), (i_law_eq rfl hlaw), fun u hu => ?_, (i_pend_eq rfl rfl hpend), ⟨hzero.1, fun u hu => hzero.2 u ?_⟩, (i_nb_eq rfl rfl rfl rfl rfl rfl rfl hnb), (i_out_eq rfl rfl rfl rfl rfl hout), (i_back_eq rfl rfl rfl rfl rfl rfl rfl hback), fun u hu => ?_, (i_log_eq rfl rfl rfl rfl rfl hlog), (i_wnt_eq rfl rfl hwnt)⟩), k.mk (((k.1.setR _ _ (by decide)).set 8 _ _).setR _ _ (by decide)) rfl rfl rfl rfl rfl rfl rfl rfl (fun x hx w => ⟨hx, w⟩)⟩
    · refine ⟨⟨hK, hT, ⟨?_, ?_⟩, hP9, hA, hkf, fun x hx => ⟨(haf x hx).1, ⟨(haf x hx).2.1.1, ?_⟩, (haf x hx).2.2⟩, hbf⟩, hG, hgv, hov, hrw, hps⟩
      · rw [eB]; rfl
      · rw [eB]; omega
      · have := (haf x hx).2.1.2; rw [eB]; show ix (c 27 x) < _; omega
    · rw [eB] at hu
      by_cases e : u = mB c
      · rw [e]; exact ⟨0, hz.1, Nat.zero_le _⟩
      · exact howe u (by omega)
    · rw [eB] at hu; omega
    · rw [eB] at hu
      show (m_set (m_set (m_set c 52 (mB c) 0) 8 0 (nI (mB c + 1))) 90 2 (c 90 2 + 1)) 52 u = nI (ct (fun a => c 24 a = 3 ∧ c 27 a = nI u) (mA c))
      by_cases e : u = mB c
      · rw [e, e52B, ct_0 (fun a ha z => by have z1 := (haf a ha).2.1.2; rw [z.2, ix_nI (by omega)] at z1; omega)]
        rfl
      · rw [e52 u e]; exact haout u (by omega)
  · rw [cif_f q, cif_f (fun z => q (e8.mp z))]
    exact ⟨rfl, h, k⟩
theorem can_iff {c : mS} (h : Inv c) {f l : Int32} : c_can c f l ↔ (wi f (c 11 0) (c 11 0 + 60) ∧ wi l f (c 11 0 + 60) ∧ l - f ≤ 14) := by
  have hd := day_lt h
  obtain ⟨N, hN⟩ : ∃ N, N = ix (c 11 0) := ⟨_, rfl⟩
  rw [← hN] at hd
  unfold c_can
  rw [hd.2, show (60 : Int32) = nI 60 from rfl, nI_add]
  have key : nI N ≤ f → f ≤ l → ∃ F G, f = nI F ∧ l = nI G ∧ F < 2 ^ 31 ∧ G < 2 ^ 31 ∧ N ≤ F ∧ F ≤ G := by
    intro q1 q2
    obtain ⟨F, hF, rfl⟩ := nI_of (x := f) (fun z => absurd (Int32.lt_of_le_of_lt q1 z) (nI_pos (by omega)))
    obtain ⟨G, hG, rfl⟩ := nI_of (x := l) (fun z => absurd (Int32.lt_of_le_of_lt q2 z) (nI_pos hF))
    exact ⟨F, G, rfl, rfl, hF, hG, (nI_leI (by omega) hF).mp q1, (nI_leI hF hG).mp q2⟩
  constructor
  · rintro ⟨q1, q2, q3, q4⟩
    obtain ⟨F, G, rfl, rfl, hF, hG, w1, w2⟩ := key q1 q3
    rw [nI_leI hG (by omega)] at q2
    rw [nI_sub w2, show (15 : Int32) = nI 15 from rfl, nI_ltI (by omega) (by decide)] at q4
    refine ⟨⟨q1, nI_le (by omega) (by omega)⟩, ⟨q3, nI_le q2 (by omega)⟩, ?_⟩
    rw [nI_sub w2, show (14 : Int32) = nI 14 from rfl]
    exact nI_le (by omega) (by decide)
  · rintro ⟨q1, q2, q3⟩
    obtain ⟨F, G, rfl, rfl, hF, hG, w1, w2⟩ := key q1.1 q2.1
    refine ⟨q1.1, q2.2, q2.1, ?_⟩
    rw [nI_sub w2, show (14 : Int32) = nI 14 from rfl, nI_leI (by omega) (by decide)] at q3
    rw [nI_sub w2, show (15 : Int32) = nI 15 from rfl]
    exact nI_lt (by omega) (by decide)
theorem can_nums {c : mS} (h : Inv c) {f l : Int32} (q : c_can c f l) : ∃ F G, f = nI F ∧ l = nI G ∧ F ≤ G ∧ G ≤ F + 14 ∧ G ≤ 5060 := by
  have hd := day_lt h
  obtain ⟨q1, q2, q3, q4⟩ := q
  rw [hd.2] at q1 q2
  obtain ⟨F, hF, rfl⟩ := nI_of (x := f) (fun z => absurd (Int32.lt_of_le_of_lt q1 z) (nI_pos (by omega)))
  obtain ⟨G, hG, rfl⟩ := nI_of (x := l) (fun z => absurd (Int32.lt_of_le_of_lt q3 z) (nI_pos hF))
  have w2 := (nI_leI hF hG).mp q3
  rw [show (60 : Int32) = nI 60 from rfl, nI_add, nI_leI hG (by omega)] at q2
  rw [nI_sub w2, show (15 : Int32) = nI 15 from rfl, nI_ltI (by omega) (by decide)] at q4
  exact ⟨F, G, rfl, rfl, w2, by omega, by omega⟩
set_option maxHeartbeats 4000000 in
theorem sim_ask {s c : mS} (h : Inv c) (k : Lk s c) (m kk n f l r : Int32) : Sim (cp_ask c m kk n f l r) (sp_ask s m kk n f l r) := by
  obtain ⟨hC, hday, hcare, hask, hlook, hlaw, howe, hpend, hzero, hnb, hout, hback, haout, hlog, hwnt⟩ := id h
  obtain ⟨hI, hG, hgv, hov, hrw, hps⟩ := id hC
  obtain ⟨hK, hT, hB, hP9, hA, hkf, haf, hbf⟩ := id hI
  have hA2 := hA.2
  have hT2 := hT.2
  have hK2 := hK.2
  have hB2 := hB.2
  have hP2 := hP9.2
  unfold cp_ask sp_ask
  have eq9 : c_askable c m kk n f l r ↔ s_askable s m kk n f l r := by
    unfold c_askable s_askable
    rw [can_iff h, ← k.1 8 (by decide), ← k.1 1 (by decide), ← k.1 11 (by decide), ← k.1 24 (by decide), ← k.1 23 (by decide), k.1.A]
    have e1 := lim_iff hA (by decide)
    have e2 := lim_lt (x := nI (ct (fun a => c 24 a = 0) (mA c))) ⟨rfl, hpend⟩ (by decide)
    constructor
    · rintro ⟨a1, a2, a3, a4, a5, a6, a7⟩
      exact ⟨a1, a2, a3, a5.1, a5.2.1, a5.2.2, a4, e2.mp a7, fun z => a6 (e1.mpr z)⟩
    · rintro ⟨a1, a2, a3, a4, a5, a6, a7, a8, a9⟩
      exact ⟨a1, a2, a3, a7, ⟨a4, a5, a6⟩, fun z => a9 (e1.mp z), e2.mpr a8⟩
  by_cases q : c_askable c m kk n f l r
  · rw [cif_t q, cif_t (eq9.mp q), ← k.1 23 (by decide), k.1.A]
    obtain ⟨q1, q2, q3, q4, q5, q6, q7⟩ := q
    obtain ⟨j, hj, rfl⟩ := m_ixe hB (by decide) q1
    obtain ⟨i, hi, rfl⟩ := m_ixe hK (by decide) q2
    rw [ix_nI (by omega), ix_nI (by omega)]
    have hlt : mA c < 120 := m_lt hA (fun z => q6 (by rw [z]; exact Int32.le_refl _))
    have eA : mA (m_set (m_set (m_set (m_set (m_set (m_set (m_set (m_set (m_set (m_set (m_set (m_set c 24 (mA c) 0) 25 (mA c) (-1)) 26 (mA c) 0) 27 (mA c) (nI j)) 28 (mA c) (nI i)) 29 (mA c) n) 30 (mA c) f) 31 (mA c) l) 32 (mA c) r) 33 (mA c) (-1)) 23 0 (nI (mA c + 1))) 90 3 (c 90 3 + 1)) = mA c + 1 := nI_clamp (by omega)
    rw [show c 23 0 + 1 = nI (mA c + 1) by rw [hA.1, nI_1]]
    have f24 : ∀ u, u ≠ mA c → (m_set (m_set (m_set (m_set (m_set (m_set (m_set (m_set (m_set (m_set (m_set (m_set c 24 (mA c) 0) 25 (mA c) (-1)) 26 (mA c) 0) 27 (mA c) (nI j)) 28 (mA c) (nI i)) 29 (mA c) n) 30 (mA c) f) 31 (mA c) l) 32 (mA c) r) 33 (mA c) (-1)) 23 0 (nI (mA c + 1))) 90 3 (c 90 3 + 1)) 24 u = c 24 u := fun u hu => ms_ne (c := c) (j := 24) hu
    have g24 : (m_set (m_set (m_set (m_set (m_set (m_set (m_set (m_set (m_set (m_set (m_set (m_set c 24 (mA c) 0) 25 (mA c) (-1)) 26 (mA c) 0) 27 (mA c) (nI j)) 28 (mA c) (nI i)) 29 (mA c) n) 30 (mA c) f) 31 (mA c) l) 32 (mA c) r) 33 (mA c) (-1)) 23 0 (nI (mA c + 1))) 90 3 (c 90 3 + 1)) 24 (mA c) = 0 := m_set_at c 24 (mA c) 0
    have f25 : ∀ u, u ≠ mA c → (m_set (m_set (m_set (m_set (m_set (m_set (m_set (m_set (m_set (m_set (m_set (m_set c 24 (mA c) 0) 25 (mA c) (-1)) 26 (mA c) 0) 27 (mA c) (nI j)) 28 (mA c) (nI i)) 29 (mA c) n) 30 (mA c) f) 31 (mA c) l) 32 (mA c) r) 33 (mA c) (-1)) 23 0 (nI (mA c + 1))) 90 3 (c 90 3 + 1)) 25 u = c 25 u := fun u hu => ms_ne (c := c) (j := 25) hu
    have g25 : (m_set (m_set (m_set (m_set (m_set (m_set (m_set (m_set (m_set (m_set (m_set (m_set c 24 (mA c) 0) 25 (mA c) (-1)) 26 (mA c) 0) 27 (mA c) (nI j)) 28 (mA c) (nI i)) 29 (mA c) n) 30 (mA c) f) 31 (mA c) l) 32 (mA c) r) 33 (mA c) (-1)) 23 0 (nI (mA c + 1))) 90 3 (c 90 3 + 1)) 25 (mA c) = (-1) := m_set_at c 25 (mA c) (-1)
    have f26 : ∀ u, u ≠ mA c → (m_set (m_set (m_set (m_set (m_set (m_set (m_set (m_set (m_set (m_set (m_set (m_set c 24 (mA c) 0) 25 (mA c) (-1)) 26 (mA c) 0) 27 (mA c) (nI j)) 28 (mA c) (nI i)) 29 (mA c) n) 30 (mA c) f) 31 (mA c) l) 32 (mA c) r) 33 (mA c) (-1)) 23 0 (nI (mA c + 1))) 90 3 (c 90 3 + 1)) 26 u = c 26 u := fun u hu => ms_ne (c := c) (j := 26) hu
    have g26 : (m_set (m_set (m_set (m_set (m_set (m_set (m_set (m_set (m_set (m_set (m_set (m_set c 24 (mA c) 0) 25 (mA c) (-1)) 26 (mA c) 0) 27 (mA c) (nI j)) 28 (mA c) (nI i)) 29 (mA c) n) 30 (mA c) f) 31 (mA c) l) 32 (mA c) r) 33 (mA c) (-1)) 23 0 (nI (mA c + 1))) 90 3 (c 90 3 + 1)) 26 (mA c) = 0 := m_set_at c 26 (mA c) 0
    have f27 : ∀ u, u ≠ mA c → (m_set (m_set (m_set (m_set (m_set (m_set (m_set (m_set (m_set (m_set (m_set (m_set c 24 (mA c) 0) 25 (mA c) (-1)) 26 (mA c) 0) 27 (mA c) (nI j)) 28 (mA c) (nI i)) 29 (mA c) n) 30 (mA c) f) 31 (mA c) l) 32 (mA c) r) 33 (mA c) (-1)) 23 0 (nI (mA c + 1))) 90 3 (c 90 3 + 1)) 27 u = c 27 u := fun u hu => ms_ne (c := c) (j := 27) hu
    have g27 : (m_set (m_set (m_set (m_set (m_set (m_set (m_set (m_set (m_set (m_set (m_set (m_set c 24 (mA c) 0) 25 (mA c) (-1)) 26 (mA c) 0) 27 (mA c) (nI j)) 28 (mA c) (nI i)) 29 (mA c) n) 30 (mA c) f) 31 (mA c) l) 32 (mA c) r) 33 (mA c) (-1)) 23 0 (nI (mA c + 1))) 90 3 (c 90 3 + 1)) 27 (mA c) = (nI j) := m_set_at c 27 (mA c) (nI j)
    have f28 : ∀ u, u ≠ mA c → (m_set (m_set (m_set (m_set (m_set (m_set (m_set (m_set (m_set (m_set (m_set (m_set c 24 (mA c) 0) 25 (mA c) (-1)) 26 (mA c) 0) 27 (mA c) (nI j)) 28 (mA c) (nI i)) 29 (mA c) n) 30 (mA c) f) 31 (mA c) l) 32 (mA c) r) 33 (mA c) (-1)) 23 0 (nI (mA c + 1))) 90 3 (c 90 3 + 1)) 28 u = c 28 u := fun u hu => ms_ne (c := c) (j := 28) hu
    have g28 : (m_set (m_set (m_set (m_set (m_set (m_set (m_set (m_set (m_set (m_set (m_set (m_set c 24 (mA c) 0) 25 (mA c) (-1)) 26 (mA c) 0) 27 (mA c) (nI j)) 28 (mA c) (nI i)) 29 (mA c) n) 30 (mA c) f) 31 (mA c) l) 32 (mA c) r) 33 (mA c) (-1)) 23 0 (nI (mA c + 1))) 90 3 (c 90 3 + 1)) 28 (mA c) = (nI i) := m_set_at c 28 (mA c) (nI i)
    have f29 : ∀ u, u ≠ mA c → (m_set (m_set (m_set (m_set (m_set (m_set (m_set (m_set (m_set (m_set (m_set (m_set c 24 (mA c) 0) 25 (mA c) (-1)) 26 (mA c) 0) 27 (mA c) (nI j)) 28 (mA c) (nI i)) 29 (mA c) n) 30 (mA c) f) 31 (mA c) l) 32 (mA c) r) 33 (mA c) (-1)) 23 0 (nI (mA c + 1))) 90 3 (c 90 3 + 1)) 29 u = c 29 u := fun u hu => ms_ne (c := c) (j := 29) hu
    have g29 : (m_set (m_set (m_set (m_set (m_set (m_set (m_set (m_set (m_set (m_set (m_set (m_set c 24 (mA c) 0) 25 (mA c) (-1)) 26 (mA c) 0) 27 (mA c) (nI j)) 28 (mA c) (nI i)) 29 (mA c) n) 30 (mA c) f) 31 (mA c) l) 32 (mA c) r) 33 (mA c) (-1)) 23 0 (nI (mA c + 1))) 90 3 (c 90 3 + 1)) 29 (mA c) = n := m_set_at c 29 (mA c) n
    have f30 : ∀ u, u ≠ mA c → (m_set (m_set (m_set (m_set (m_set (m_set (m_set (m_set (m_set (m_set (m_set (m_set c 24 (mA c) 0) 25 (mA c) (-1)) 26 (mA c) 0) 27 (mA c) (nI j)) 28 (mA c) (nI i)) 29 (mA c) n) 30 (mA c) f) 31 (mA c) l) 32 (mA c) r) 33 (mA c) (-1)) 23 0 (nI (mA c + 1))) 90 3 (c 90 3 + 1)) 30 u = c 30 u := fun u hu => ms_ne (c := c) (j := 30) hu
    have g30 : (m_set (m_set (m_set (m_set (m_set (m_set (m_set (m_set (m_set (m_set (m_set (m_set c 24 (mA c) 0) 25 (mA c) (-1)) 26 (mA c) 0) 27 (mA c) (nI j)) 28 (mA c) (nI i)) 29 (mA c) n) 30 (mA c) f) 31 (mA c) l) 32 (mA c) r) 33 (mA c) (-1)) 23 0 (nI (mA c + 1))) 90 3 (c 90 3 + 1)) 30 (mA c) = f := m_set_at c 30 (mA c) f
    have f31 : ∀ u, u ≠ mA c → (m_set (m_set (m_set (m_set (m_set (m_set (m_set (m_set (m_set (m_set (m_set (m_set c 24 (mA c) 0) 25 (mA c) (-1)) 26 (mA c) 0) 27 (mA c) (nI j)) 28 (mA c) (nI i)) 29 (mA c) n) 30 (mA c) f) 31 (mA c) l) 32 (mA c) r) 33 (mA c) (-1)) 23 0 (nI (mA c + 1))) 90 3 (c 90 3 + 1)) 31 u = c 31 u := fun u hu => ms_ne (c := c) (j := 31) hu
    have g31 : (m_set (m_set (m_set (m_set (m_set (m_set (m_set (m_set (m_set (m_set (m_set (m_set c 24 (mA c) 0) 25 (mA c) (-1)) 26 (mA c) 0) 27 (mA c) (nI j)) 28 (mA c) (nI i)) 29 (mA c) n) 30 (mA c) f) 31 (mA c) l) 32 (mA c) r) 33 (mA c) (-1)) 23 0 (nI (mA c + 1))) 90 3 (c 90 3 + 1)) 31 (mA c) = l := m_set_at c 31 (mA c) l
    have f32 : ∀ u, u ≠ mA c → (m_set (m_set (m_set (m_set (m_set (m_set (m_set (m_set (m_set (m_set (m_set (m_set c 24 (mA c) 0) 25 (mA c) (-1)) 26 (mA c) 0) 27 (mA c) (nI j)) 28 (mA c) (nI i)) 29 (mA c) n) 30 (mA c) f) 31 (mA c) l) 32 (mA c) r) 33 (mA c) (-1)) 23 0 (nI (mA c + 1))) 90 3 (c 90 3 + 1)) 32 u = c 32 u := fun u hu => ms_ne (c := c) (j := 32) hu
    have g32 : (m_set (m_set (m_set (m_set (m_set (m_set (m_set (m_set (m_set (m_set (m_set (m_set c 24 (mA c) 0) 25 (mA c) (-1)) 26 (mA c) 0) 27 (mA c) (nI j)) 28 (mA c) (nI i)) 29 (mA c) n) 30 (mA c) f) 31 (mA c) l) 32 (mA c) r) 33 (mA c) (-1)) 23 0 (nI (mA c + 1))) 90 3 (c 90 3 + 1)) 32 (mA c) = r := m_set_at c 32 (mA c) r
    have f33 : ∀ u, u ≠ mA c → (m_set (m_set (m_set (m_set (m_set (m_set (m_set (m_set (m_set (m_set (m_set (m_set c 24 (mA c) 0) 25 (mA c) (-1)) 26 (mA c) 0) 27 (mA c) (nI j)) 28 (mA c) (nI i)) 29 (mA c) n) 30 (mA c) f) 31 (mA c) l) 32 (mA c) r) 33 (mA c) (-1)) 23 0 (nI (mA c + 1))) 90 3 (c 90 3 + 1)) 33 u = c 33 u := fun u hu => ms_ne (c := c) (j := 33) hu
    have g33 : (m_set (m_set (m_set (m_set (m_set (m_set (m_set (m_set (m_set (m_set (m_set (m_set c 24 (mA c) 0) 25 (mA c) (-1)) 26 (mA c) 0) 27 (mA c) (nI j)) 28 (mA c) (nI i)) 29 (mA c) n) 30 (mA c) f) 31 (mA c) l) 32 (mA c) r) 33 (mA c) (-1)) 23 0 (nI (mA c + 1))) 90 3 (c 90 3 + 1)) 33 (mA c) = (-1) := m_set_at c 33 (mA c) (-1)
    have hct : ∀ w : Int32, w ≠ 0 → ct (fun a => (m_set (m_set (m_set (m_set (m_set (m_set (m_set (m_set (m_set (m_set (m_set (m_set c 24 (mA c) 0) 25 (mA c) (-1)) 26 (mA c) 0) 27 (mA c) (nI j)) 28 (mA c) (nI i)) 29 (mA c) n) 30 (mA c) f) 31 (mA c) l) 32 (mA c) r) 33 (mA c) (-1)) 23 0 (nI (mA c + 1))) 90 3 (c 90 3 + 1)) 24 a = w) (mA c + 1) = ct (fun a => c 24 a = w) (mA c) := fun w hw => by
      rw [ct_f (by show ¬ (m_set (m_set (m_set (m_set (m_set (m_set (m_set (m_set (m_set (m_set (m_set (m_set c 24 (mA c) 0) 25 (mA c) (-1)) 26 (mA c) 0) 27 (mA c) (nI j)) 28 (mA c) (nI i)) 29 (mA c) n) 30 (mA c) f) 31 (mA c) l) 32 (mA c) r) 33 (mA c) (-1)) 23 0 (nI (mA c + 1))) 90 3 (c 90 3 + 1)) 24 (mA c) = w; rw [g24]; exact fun z => hw z.symm)]
      exact ct_congr (fun a ha => by rw [f24 a (by omega)])
    obtain ⟨F, G, eF, eG, w1, w2, w3⟩ := can_nums h q5
    obtain ⟨rr, hrr, er⟩ := nI_of2 (x := r) (M := 2) (n := 2) rfl (fun z => absurd (Int32.lt_of_le_of_lt q4.1 z) (by decide)) q4.2
    have r0 : R0 (m_set (m_set s 24 (mA c) 0) 25 (mA c) (-1)) (m_set (m_set (m_set c 24 (mA c) 0) 25 (mA c) (-1)) 26 (mA c) 0) := ((k.1.set 24 _ _).set 25 _ _).setId (hzero.1 (mA c) (Nat.le_refl _))
    refine ⟨hA.1.symm, (show Inv (m_set (m_set (m_set (m_set (m_set (m_set (m_set (m_set (m_set (m_set (m_set (m_set c 24 (mA c) 0) 25 (mA c) (-1)) 26 (mA c) 0) 27 (mA c) (nI j)) 28 (mA c) (nI i)) 29 (mA c) n) 30 (mA c) f) 31 (mA c) l) 32 (mA c) r) 33 (mA c) (-1)) 23 0 (nI (mA c + 1))) 90 3 (c 90 3 + 1)) from ⟨?_, (i_day_eq rfl hday), (i_care_eq rfl rfl hcare), fun u hu => ?_, (i_look_eq rfl rfl rfl hlook), (i_law_eq rfl hlaw), fun u hu => ?_, ?_, ⟨fun u hu => ?_, hzero.2⟩, fun x y hx hy hxy q1 q2 q3 => ?_, fun u x hu hx => ?_, ⟨fun b hb q4 => ?_, fun u hu => ?_⟩, fun u hu => ?_, ?_, (i_wnt_eq rfl rfl hwnt)⟩), ((((((((r0.set 27 _ _).set 28 _ _).set 29 _ _).set 30 _ _).set 31 _ _).set 32 _ _).setR _ _ (by decide)).set 23 _ _ |>.setR _ _ (by decide)), fun x hx w => ?_, fun u hu => k.2.2.1 u hu, fun u hu => k.2.2.2 u hu⟩
    · refine ⟨⟨hK, hT, hB, hP9, ⟨?_, ?_⟩, hkf, fun x hx => ?_, fun x hx z => ?_⟩, hG, fun u hu => ⟨(hgv u hu).1, ?_⟩, fun t ht => ?_, fun u => ?_, hps⟩
      · rw [eA]; rfl
      · rw [eA]; omega
      · rw [eA] at hx
        by_cases e : x = mA c
        · rw [e, g28, g27, g25, ix_nI (by omega), ix_nI (by omega)]; exact ⟨⟨rfl, hi⟩, ⟨rfl, hj⟩, Or.inl rfl⟩
        · rw [f28 x e, f27 x e, f25 x e]; exact haf x (by omega)
      · rw [eA] at hx
        by_cases e : x = mA c
        · rw [e, g24] at z; exact absurd z (by decide)
        · rw [f24 x e] at z; rw [f25 x e]; exact hbf x (by omega) z
      · have := (hgv u hu).2; rw [eA]; show ix (c 80 u) < _; omega
      · rcases hov t ht with z | z
        · exact Or.inl z
        · exact Or.inr ⟨z.1, by have := z.2; rw [eA]; show ix (c 51 t) < _; omega⟩
      · rcases hrw u with z | z
        · exact Or.inl z
        · exact Or.inr ⟨z.1, by have := z.2; rw [eA]; show ix (c 70 u) < _; omega⟩
    · rw [eA] at hu
      by_cases e : u = mA c
      · rw [e, g30, g31, g32]; exact ⟨F, G, rr, eF, eG, er, w1, w2, w3, hrr⟩
      · rw [f30 u e, f31 u e, f32 u e]; exact hask u (by omega)
    · obtain ⟨o, o1, o2⟩ := howe u hu
      refine ⟨o, o1, ?_⟩
      rw [eA, hct 4 (by decide)]
      exact o2
    · show ct (fun a => (m_set (m_set (m_set (m_set (m_set (m_set (m_set (m_set (m_set (m_set (m_set (m_set c 24 (mA c) 0) 25 (mA c) (-1)) 26 (mA c) 0) 27 (mA c) (nI j)) 28 (mA c) (nI i)) 29 (mA c) n) 30 (mA c) f) 31 (mA c) l) 32 (mA c) r) 33 (mA c) (-1)) 23 0 (nI (mA c + 1))) 90 3 (c 90 3 + 1)) 24 a = 0) (mA (m_set (m_set (m_set (m_set (m_set (m_set (m_set (m_set (m_set (m_set (m_set (m_set c 24 (mA c) 0) 25 (mA c) (-1)) 26 (mA c) 0) 27 (mA c) (nI j)) 28 (mA c) (nI i)) 29 (mA c) n) 30 (mA c) f) 31 (mA c) l) 32 (mA c) r) 33 (mA c) (-1)) 23 0 (nI (mA c + 1))) 90 3 (c 90 3 + 1))) ≤ 5
      rw [eA, ct_t (by exact g24), ct_congr (q := fun a => c 24 a = 0) (fun a ha => by rw [f24 a (by omega)])]
      have := (nI_ltI (b := 5) (by have := ct_le (fun a => c 24 a = 0) (mA c); omega) (by decide)).mp q7
      omega
    · rw [eA] at hu
      rw [f26 u (by omega)]
      exact hzero.1 u (by omega)
    · rw [eA] at hx hy
      by_cases ex : x = mA c
      · rw [ex, g24] at q1; exact absurd q1 (by decide)
      by_cases ey : y = mA c
      · rw [ey, g24] at q2; exact absurd q2 (by decide)
      rw [f24 x ex] at q1
      rw [f24 y ey] at q2
      rw [f25 x ex, f25 y ey] at q3
      have := hnb x y (by omega) (by omega) hxy q1 q2 q3
      unfold c_rn at *
      rw [f30 x ex, f31 x ex, f30 y ey, f31 y ey, f25 x ex]
      exact this
    · rw [eA] at hx
      show c 51 u = nI x ↔ (m_set (m_set (m_set (m_set (m_set (m_set (m_set (m_set (m_set (m_set (m_set (m_set c 24 (mA c) 0) 25 (mA c) (-1)) 26 (mA c) 0) 27 (mA c) (nI j)) 28 (mA c) (nI i)) 29 (mA c) n) 30 (mA c) f) 31 (mA c) l) 32 (mA c) r) 33 (mA c) (-1)) 23 0 (nI (mA c + 1))) 90 3 (c 90 3 + 1)) 24 x = 3 ∧ (m_set (m_set (m_set (m_set (m_set (m_set (m_set (m_set (m_set (m_set (m_set (m_set c 24 (mA c) 0) 25 (mA c) (-1)) 26 (mA c) 0) 27 (mA c) (nI j)) 28 (mA c) (nI i)) 29 (mA c) n) 30 (mA c) f) 31 (mA c) l) 32 (mA c) r) 33 (mA c) (-1)) 23 0 (nI (mA c + 1))) 90 3 (c 90 3 + 1)) 25 x = nI u
      by_cases e : x = mA c
      · rw [e, g24]
        refine ⟨fun z => ?_, fun z => absurd z.1 (by decide)⟩
        rcases hov u hu with z1 | z1
        · rw [z1] at z; exact absurd z.symm (oI_ne (by omega))
        · have z2 := z1.2
          rw [z, ix_nI (by omega)] at z2
          omega
      · rw [f24 x e, f25 x e]; exact hout u x hu (by omega)
    · rw [eA] at hb
      by_cases e : b = mA c
      · rw [e, g24] at q4; exact absurd q4 (by decide)
      · rw [f24 b e] at q4
        rw [f33 b e, f25 b e]
        exact hback.1 b (by omega) q4
    · have z := hback.2 u hu
      refine ⟨fun b hb q4 q5 => ?_, ?_⟩
      · rw [eA] at hb
        by_cases e : b = mA c
        · rw [e, g24] at q4; exact absurd q4 (by decide)
        · rw [f24 b e] at q4
          rw [f25 b e] at q5
          rw [f33 b e]
          exact z.1 b (by omega) q4 q5
      · rcases z.2 with z2 | ⟨b, b1, b2, b3, b4⟩
        · exact Or.inl z2
        · have e : b ≠ mA c := by omega
          refine Or.inr ⟨b, by rw [eA]; omega, ?_, ?_, ?_⟩
          · rw [f24 b e]; exact b2
          · rw [f25 b e]; exact b3
          · rw [f33 b e]; exact b4
    · show c 52 u = nI (ct (fun a => (m_set (m_set (m_set (m_set (m_set (m_set (m_set (m_set (m_set (m_set (m_set (m_set c 24 (mA c) 0) 25 (mA c) (-1)) 26 (mA c) 0) 27 (mA c) (nI j)) 28 (mA c) (nI i)) 29 (mA c) n) 30 (mA c) f) 31 (mA c) l) 32 (mA c) r) 33 (mA c) (-1)) 23 0 (nI (mA c + 1))) 90 3 (c 90 3 + 1)) 24 a = 3 ∧ (m_set (m_set (m_set (m_set (m_set (m_set (m_set (m_set (m_set (m_set (m_set (m_set c 24 (mA c) 0) 25 (mA c) (-1)) 26 (mA c) 0) 27 (mA c) (nI j)) 28 (mA c) (nI i)) 29 (mA c) n) 30 (mA c) f) 31 (mA c) l) 32 (mA c) r) 33 (mA c) (-1)) 23 0 (nI (mA c + 1))) 90 3 (c 90 3 + 1)) 27 a = nI u) (mA (m_set (m_set (m_set (m_set (m_set (m_set (m_set (m_set (m_set (m_set (m_set (m_set c 24 (mA c) 0) 25 (mA c) (-1)) 26 (mA c) 0) 27 (mA c) (nI j)) 28 (mA c) (nI i)) 29 (mA c) n) 30 (mA c) f) 31 (mA c) l) 32 (mA c) r) 33 (mA c) (-1)) 23 0 (nI (mA c + 1))) 90 3 (c 90 3 + 1))))
      rw [eA, ct_f (by rw [g24]; exact fun z => absurd z.1 (by decide)), haout u hu]
      exact congrArg nI (ct_congr (fun a ha => by rw [f24 a (by omega), f27 a (by omega)]))
    · obtain ⟨l1, l2, l3, l4, l5⟩ := hlog
      refine ⟨?_, fun u hu => ?_, l3, fun b hb z => ?_, fun u w huw hw => ?_⟩
      · show mL c = ct (fun a => (m_set (m_set (m_set (m_set (m_set (m_set (m_set (m_set (m_set (m_set (m_set (m_set c 24 (mA c) 0) 25 (mA c) (-1)) 26 (mA c) 0) 27 (mA c) (nI j)) 28 (mA c) (nI i)) 29 (mA c) n) 30 (mA c) f) 31 (mA c) l) 32 (mA c) r) 33 (mA c) (-1)) 23 0 (nI (mA c + 1))) 90 3 (c 90 3 + 1)) 24 a = 2) (mA (m_set (m_set (m_set (m_set (m_set (m_set (m_set (m_set (m_set (m_set (m_set (m_set c 24 (mA c) 0) 25 (mA c) (-1)) 26 (mA c) 0) 27 (mA c) (nI j)) 28 (mA c) (nI i)) 29 (mA c) n) 30 (mA c) f) 31 (mA c) l) 32 (mA c) r) 33 (mA c) (-1)) 23 0 (nI (mA c + 1))) 90 3 (c 90 3 + 1)))
        rw [eA, hct 2 (by decide)]
        exact l1
      · have := (hgv u hu).2
        show (m_set (m_set (m_set (m_set (m_set (m_set (m_set (m_set (m_set (m_set (m_set (m_set c 24 (mA c) 0) 25 (mA c) (-1)) 26 (mA c) 0) 27 (mA c) (nI j)) 28 (mA c) (nI i)) 29 (mA c) n) 30 (mA c) f) 31 (mA c) l) 32 (mA c) r) 33 (mA c) (-1)) 23 0 (nI (mA c + 1))) 90 3 (c 90 3 + 1)) 24 (ix (c 80 u)) = 2
        rw [f24 _ (by omega)]
        exact l2 u hu
      · rw [eA] at hb
        by_cases e : b = mA c
        · rw [e, g24] at z; exact absurd z (by decide)
        · rw [f24 b e] at z; exact l4 b (by omega) z
      · have h1 := (hgv w hw).2
        have h2 := (hgv u (by have : w < mL c := hw; omega)).2
        show (m_set (m_set (m_set (m_set (m_set (m_set (m_set (m_set (m_set (m_set (m_set (m_set c 24 (mA c) 0) 25 (mA c) (-1)) 26 (mA c) 0) 27 (mA c) (nI j)) 28 (mA c) (nI i)) 29 (mA c) n) 30 (mA c) f) 31 (mA c) l) 32 (mA c) r) 33 (mA c) (-1)) 23 0 (nI (mA c + 1))) 90 3 (c 90 3 + 1)) 31 (ix (c 80 u)) ≤ (m_set (m_set (m_set (m_set (m_set (m_set (m_set (m_set (m_set (m_set (m_set (m_set c 24 (mA c) 0) 25 (mA c) (-1)) 26 (mA c) 0) 27 (mA c) (nI j)) 28 (mA c) (nI i)) 29 (mA c) n) 30 (mA c) f) 31 (mA c) l) 32 (mA c) r) 33 (mA c) (-1)) 23 0 (nI (mA c + 1))) 90 3 (c 90 3 + 1)) 31 (ix (c 80 w))
        rw [f31 _ (by omega), f31 _ (by omega)]
        exact l5 u w huw hw
    · have hx : x < mA (m_set (m_set (m_set (m_set (m_set (m_set (m_set (m_set (m_set (m_set (m_set (m_set c 24 (mA c) 0) 25 (mA c) (-1)) 26 (mA c) 0) 27 (mA c) (nI j)) 28 (mA c) (nI i)) 29 (mA c) n) 30 (mA c) f) 31 (mA c) l) 32 (mA c) r) 33 (mA c) (-1)) 23 0 (nI (mA c + 1))) 90 3 (c 90 3 + 1)) := hx
      have w : (m_set (m_set (m_set (m_set (m_set (m_set (m_set (m_set (m_set (m_set (m_set (m_set c 24 (mA c) 0) 25 (mA c) (-1)) 26 (mA c) 0) 27 (mA c) (nI j)) 28 (mA c) (nI i)) 29 (mA c) n) 30 (mA c) f) 31 (mA c) l) 32 (mA c) r) 33 (mA c) (-1)) 23 0 (nI (mA c + 1))) 90 3 (c 90 3 + 1)) 24 x = 4 := w
      rw [eA] at hx
      by_cases e : x = mA c
      · rw [e, g24] at w; exact absurd w (by decide)
      · rw [f24 x e] at w
        show (m_set (m_set (m_set (m_set (m_set (m_set (m_set (m_set (m_set (m_set (m_set (m_set c 24 (mA c) 0) 25 (mA c) (-1)) 26 (mA c) 0) 27 (mA c) (nI j)) 28 (mA c) (nI i)) 29 (mA c) n) 30 (mA c) f) 31 (mA c) l) 32 (mA c) r) 33 (mA c) (-1)) 23 0 (nI (mA c + 1))) 90 3 (c 90 3 + 1)) 33 x = s 33 x
        rw [f33 x e]
        exact k.2.1 x (by omega) w
  · rw [cif_f q, cif_f (fun z => q (eq9.mpr z))]
    exact ⟨rfl, h, k⟩
