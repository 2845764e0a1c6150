theorem tk_o (u : mS) {j : Nat} (h1 : j ≠ 19) (h2 : j ≠ 20) (h3 : j ≠ 21) (h4 : j ≠ 22) : s_tk u j = u j := (tok_facts (u := u) (s := u) ⟨rfl, rfl⟩ (ix (u 20 0))).2.2.2.2 j h1 h2 h3 h4
def kp6 (u s : mS) : Prop := ∀ j i, (j < 16 ∨ 22 < j ∨ (j = 18 ∧ i ≠ 0)) → u j i = s j i
theorem kp6.tk {u s : mS} (h : kp6 u s) : kp6 (s_tk u) s := fun j i hj => by rw [tk_o u (by omega) (by omega) (by omega) (by omega)]; exact h j i hj
theorem kp6.wr {u s : mS} {w : Int32} (h : kp6 u s) : kp6 (s_wr u w) s := fun j i hj => by
  unfold s_wr
  have e : m_set (m_set u 17 0 w) 18 0 (u 19 0) j i = m_set u 17 0 w j i := by
    by_cases z : j = 18 ∧ i = 0
    · omega
    · exact if_neg z
  rw [e, m_set_ne _ _ _ (by omega)]
  exact h j i hj
theorem kp6.set16 {u s : mS} {a : Nat} {w : Int32} (h : kp6 u s) : kp6 (m_set u 16 a w) s := fun j i hj => by rw [m_set_ne _ _ _ (by omega)]; exact h j i hj
theorem kp6.stmt {u s : mS} (h : kp6 u s) : kp6 (s_stmt u).1 s := by
  unfold s_stmt
  by_cases c1 : s_ev u (ix (u 19 0))
  · rw [cif_t c1]
    by_cases c2 : s_tk u 22 0 = 2
    · rw [cif_t c2]
      by_cases c3 : wi (s_tk u 21 0) 0 (s_tk u 1 0 - 1)
      · rw [cif_t c3]
        by_cases c4 : s_tk (s_tk u) 22 0 = 2
        · rw [cif_t c4]
          by_cases c5 : s_tk (s_tk (s_tk u)) 22 0 = 3
          · rw [cif_t c5]; exact h.tk.tk.tk.set16.tk
          · rw [cif_f c5]; exact h.tk.tk.tk.wr
        · rw [cif_f c4]; exact h.tk.tk.wr
      · rw [cif_f c3]; exact h.tk.wr
    · rw [cif_f c2]; exact h.tk.wr
  · rw [cif_f c1]; exact h.wr
theorem kp6.pl {s : mS} : ∀ n u, kp6 u s → kp6 (s_pl n u) s
  | 0, u, h => h
  | n + 1, u, h => by
    show kp6 (cif _ _ _) s
    by_cases a : u 22 0 = 0
    · rw [cif_t a]; exact h
    rw [cif_f a]
    by_cases b : (s_stmt u).2 = 0
    · rw [cif_t b]; exact h.stmt
    · rw [cif_f b]; exact kp6.pl n _ h.stmt
theorem kp6.clr {s : mS} : ∀ i, kp6 (s_clr s i) s
  | 0 => fun j i hj => by
    show m_set (m_set s 17 0 0) 18 0 (-1) j i = _
    have e : m_set (m_set s 17 0 0) 18 0 (-1) j i = m_set s 17 0 0 j i := by
      by_cases z : j = 18 ∧ i = 0
      · omega
      · exact if_neg z
    rw [e, m_set_ne _ _ _ (by omega)]
  | i + 1 => (kp6.clr i).set16
theorem clr_16 {s : mS} : ∀ n k, k < n → s_clr s n 16 k = -1
  | 0, k, h => by omega
  | n + 1, k, h => by
    show m_set (s_clr s n) 16 n (-1) 16 k = -1
    by_cases e : k = n
    · rw [e, m_set_at]
    · rw [ms_ne e]; exact clr_16 n k (by omega)
theorem clr_17 {s : mS} : ∀ n, s_clr s n 17 0 = 0 ∧ s_clr s n 18 0 = -1
  | 0 => ⟨rfl, rfl⟩
  | n + 1 => clr_17 n
/-- nothing is read of a kind that isn't there -/
theorem wn_16 {K : Nat} (hK : K ≤ 8) : ∀ n (u : mS), u 1 0 = nI K → (∀ k, K ≤ k → k < 8 → u 16 k = -1) → (∀ k, K ≤ k → k < 8 → s_pl n u 16 k = -1)
  | 0, u, _, h => h
  | n + 1, u, h1, h => by
    show ∀ k, K ≤ k → k < 8 → (cif _ _ _ : mS) 16 k = -1
    have t16 : ∀ w : mS, s_tk w 16 = w 16 := fun w => tk_o w (by decide) (by decide) (by decide) (by decide)
    have t1 : ∀ w : mS, s_tk w 1 = w 1 := fun w => tk_o w (by decide) (by decide) (by decide) (by decide)
    have hst : (s_stmt u).1 1 0 = nI K ∧ ∀ k, K ≤ k → k < 8 → (s_stmt u).1 16 k = -1 := by
      have e0 : kp6 u u := fun _ _ _ => rfl
      refine ⟨(e0.stmt 1 0 (Or.inl (by decide))).trans h1, fun k hk hk8 => ?_⟩
      unfold s_stmt
      by_cases c1 : s_ev u (ix (u 19 0))
      · rw [cif_t c1]
        by_cases c2 : s_tk u 22 0 = 2
        · rw [cif_t c2]
          by_cases c3 : wi (s_tk u 21 0) 0 (s_tk u 1 0 - 1)
          · rw [cif_t c3]
            have hx := (m_ix (T := K) (N := 8) ⟨(congrFun (t1 u) 0).trans h1, hK⟩ (by decide) c3).2
            by_cases c4 : s_tk (s_tk u) 22 0 = 2
            · rw [cif_t c4]
              by_cases c5 : s_tk (s_tk (s_tk u)) 22 0 = 3
              · rw [cif_t c5]
                show s_tk (m_set (s_tk (s_tk (s_tk u))) 16 (ix (s_tk u 21 0)) (s_tk (s_tk u) 21 0)) 16 k = -1
                rw [t16, ms_ne (by omega), t16, t16, t16]
                exact h k hk hk8
              · rw [cif_f c5]
                show s_tk (s_tk (s_tk u)) 16 k = -1
                rw [t16, t16, t16]; exact h k hk hk8
            · rw [cif_f c4]
              show s_tk (s_tk u) 16 k = -1
              rw [t16, t16]; exact h k hk hk8
          · rw [cif_f c3]
            show s_tk u 16 k = -1
            rw [t16]; exact h k hk hk8
        · rw [cif_f c2]
          show s_tk u 16 k = -1
          rw [t16]; exact h k hk hk8
      · rw [cif_f c1]; exact h k hk hk8
    intro k hk hk8
    by_cases a : u 22 0 = 0
    · rw [cif_t a]; exact h k hk hk8
    rw [cif_f a]
    by_cases b : (s_stmt u).2 = 0
    · rw [cif_t b]; exact hst.2 k hk hk8
    · rw [cif_f b]; exact wn_16 hK n _ hst.1 hst.2 k hk hk8
theorem cp_15 (w : mS) : ∀ n k, s_cp w n 15 k = if k < n then w 16 k else w 15 k
  | 0, k => by rw [if_neg (by omega)]; rfl
  | n + 1, k => by
    show m_set (s_cp w n) 15 n (w 16 n) 15 k = _
    by_cases e : k = n
    · rw [e, m_set_at, if_pos (by omega)]
    · rw [ms_ne e, cp_15 w n k]
      by_cases z : k < n
      · rw [if_pos z, if_pos (by omega)]
      · rw [if_neg z, if_neg (by omega)]
theorem tl_15 (c : mS) : ∀ n k, tl c n 15 k = if k < n then c 60 k else c 15 k
  | 0, k => by rw [if_neg (by omega)]; rfl
  | n + 1, k => by
    show m_set (tl c n) 15 n (c 60 n) 15 k = _
    by_cases e : k = n
    · rw [e, m_set_at, if_pos (by omega)]
    · rw [ms_ne e, tl_15 c n k]
      by_cases z : k < n
      · rw [if_pos z, if_pos (by omega)]
      · rw [if_neg z, if_neg (by omega)]
/-- both readers come to the same -/
theorem both_read {s c : mS} (h : Inv c) (k : Lk s c) : Out (c_read c (c 1 0)) (s_read s) := by
  obtain ⟨hC, hday, hcare, hask, hlook, hlaw, howe, hpend, hzero, hnb, hout, hback, haout, hlog, hwnt⟩ := id h
  obtain ⟨hI, hG, hgv, hov, hrw, hps⟩ := id hC
  obtain ⟨hK, hT, hB, hP9, hA, hkf, haf, hbf⟩ := id hI
  have hA2 := hA.2
  have hT2 := hT.2
  have hK2 := hK.2
  have hB2 := hB.2
  have hP2 := hP9.2
  have hmP : mP s = mP c := k.1.P
  have hs0 : sT (m_set (s_clr s 8) 20 0 0) s := ⟨by funext i; exact kp6.clr 8 12 i (Or.inl (by decide)), by funext i; exact kp6.clr 8 13 i (Or.inl (by decide))⟩
  have T := tok_facts hs0 0
  have e : s_tk (m_set (s_clr s 8) 20 0 0) = s_tok (m_set (s_clr s 8) 20 0 0) 0 := rfl
  rw [← e] at T
  obtain ⟨a19, a20, a22, a21, ao⟩ := T
  have hk0 := c_k6.r0 c
  have hcT : cT (c_r0 c) s := by
    refine ⟨hk0.P.trans hmP.symm, fun i hi => ?_⟩
    rw [byte_eq (u := c_r0 c) (v := c) ⟨hk0 12 (by decide), hk0 13 (by decide)⟩]
    unfold c_byte s_by
    rw [cif_t hi, cif_t (by omega)]
    exact k.2.2.1 i (by omega)
  have h17 := clr_17 (s := s) 8
  obtain ⟨X, x1, x2⟩ := law_run (s := s) (K := mK c) (by omega) ⟨by rw [← k.1 1 (by decide)]; exact hK.1, hK2⟩ 201 0 (s_tk (m_set (s_clr s 8) 20 0 0)) (c_r0 c) (by omega) (by omega) ⟨(ao 12 (by decide) (by decide) (by decide) (by decide)).trans hs0.1, (ao 13 (by decide) (by decide) (by decide) (by decide)).trans hs0.2⟩ ((ao 1 (by decide) (by decide) (by decide) (by decide)).trans (by funext i; exact kp6.clr 8 1 i (Or.inl (by decide)))) hcT (by rw [hk0 13 (by decide), hmP]; exact hP9.1) rfl rfl rfl (by rw [ao 17 (by decide) (by decide) (by decide) (by decide)]; exact h17.1) (by rw [ao 18 (by decide) (by decide) (by decide) (by decide)]; exact h17.2) (fun u hu => by
      rw [ao 16 (by decide) (by decide) (by decide) (by decide)]
      show fl (c 60) (-1) 8 u = s_clr s 8 16 u
      rw [clr_16 8 u hu]
      unfold fl
      rw [if_pos hu]) a19 a20 a22
  have ex := x1 201 (by rw [hk0.P]; omega)
  unfold c_read
  rw [hK.1, ex]
  exact x2
theorem read_kp {s : mS} : kp6 (s_read s) s := kp6.pl 201 _ (kp6.tk (fun j i hj => by rw [m_set_ne _ _ _ (by omega)]; exact kp6.clr 8 j i hj))
set_option maxHeartbeats 4000000 in
theorem sim_law {s c : mS} (h : Inv c) (k : Lk s c) : Sim (cp_law c) (sp_law s) := by
  obtain ⟨hC, hday, hcare, hask, hlook, hlaw, howe, hpend, hzero, hnb, hout, hback, haout, hlog, hwnt⟩ := id h
  obtain ⟨hI, hG, hgv, hov, hrw, hps⟩ := id hC
  obtain ⟨hK, hT, hB, hP9, hA, hkf, haf, hbf⟩ := id hI
  have hA2 := hA.2
  have hT2 := hT.2
  have hK2 := hK.2
  have hB2 := hB.2
  have hP2 := hP9.2
  have O := both_read h k
  have hkp := read_kp (s := s)
  have hk6 := c_k6.read c (c 1 0)
  obtain ⟨ql, hql, el⟩ := id hlaw
  unfold cp_law sp_law
  rw [← k.1 14 (by decide)]
  have e20 : c 14 0 < 20 ↔ ¬ c 14 0 = 20 := lim_lt ⟨el, hql⟩ (by decide)
  by_cases q : c 14 0 = 20
  · rw [cif_t q, cif_f (fun z => e20.mp z q)]; exact ⟨rfl, h, k⟩
  rw [cif_f q, cif_t (e20.mpr q)]
  obtain ⟨Z, eZ⟩ : ∃ Z, Z = s_read s := ⟨_, rfl⟩
  obtain ⟨X, eX⟩ : ∃ X, X = c_read c (c 1 0) := ⟨_, rfl⟩
  have elw : c_lw c = m_set (m_set X 13 0 0) 18 0 (X 62 0) := by rw [eX]; rfl
  rw [← eZ, ← eX] at O
  rw [← eZ] at hkp ⊢
  rw [← eX] at hk6
  obtain ⟨o1, o2, o3, o4⟩ := O
  have l61 : c_lw c 61 0 = X 61 0 := by rw [elw]; rfl
  have l14 : c_lw c 14 0 = c 14 0 := by rw [elw]; exact congrFun (hk6 14 (by decide)) 0
  have lo : ∀ j, j < 60 ∧ j ≠ 13 ∧ j ≠ 18 ∨ 64 < j → c_lw c j = c j := fun j hj => by
    rw [elw, m_set_ne _ _ _ (by omega), m_set_ne _ _ _ (by omega)]
    exact hk6 j (by omega)
  have l13 : c_lw c 13 0 = 0 := by rw [elw]; rfl
  have lP : mP (c_lw c) = 0 := by unfold mP; rw [l13]; rfl
  have zo : ∀ j, j < 16 ∨ 22 < j → Z j = s j := fun j hj => by funext i; exact hkp j i (by omega)
  have r0 : R0 (m_set Z 13 0 0) (c_lw c) := fun j hj => by
    rw [elw]
    by_cases e18 : j = 18
    · subst e18
      funext i
      by_cases ei : i = 0
      · subst ei; rw [m_set_at, m_set_ne _ _ _ (by decide)]; exact o2
      · rw [ms_ne ei, m_set_ne _ _ _ (by decide), m_set_ne _ _ _ (by decide), hkp 18 i (Or.inr (Or.inr ⟨rfl, ei⟩)), hk6 18 (by decide), k.1 18 (by decide)]
    · rw [m_set_ne _ _ _ e18]
      have hj2 : j < 16 ∨ 22 < j := by
        have hx : ∀ u ∈ SF, u < 16 ∨ 22 < u ∨ u = 18 := by decide
        have := hx j hj
        omega
      have hj60 : j < 60 := by
        rcases Nat.lt_or_ge j 60 with y | y
        · exact y
        · exfalso
          have : ∀ u ∈ SF, u < 60 := by decide
          have := this j hj
          omega
      by_cases e13 : j = 13
      · subst e13
        rw [m_set_eq, m_set_eq, hk6 13 (by decide), zo 13 (by decide), k.1 13 (by decide)]
      · rw [m_set_ne _ _ _ e13, m_set_ne _ _ _ e13, hk6 j (Or.inl hj60), zo j hj2]
        exact k.1 j hj
  have ci : c_inv (c_lw c) := by
    have hx : c_inv (m_set c 13 0 0) := ⟨⟨hK, hT, hB, ⟨rfl, Nat.zero_le _⟩, hA, hkf, haf, hbf⟩, hG, hgv, hov, hrw, hps⟩
    refine c_inv_eq (fun j hj => ?_) hx
    by_cases e13 : j = 13
    · subst e13
      funext i
      rw [elw, m_set_ne _ _ _ (by decide)]
      by_cases ei : i = 0
      · subst ei; rw [m_set_at, m_set_at]
      · rw [ms_ne ei, ms_ne ei, hk6 13 (by decide)]
    · rw [m_set_ne _ _ _ e13]
      refine lo j ?_
      have : ∀ u ∈ [1, 5, 8, 13, 23, 6, 28, 27, 25, 24, 81, 80, 51, 70, 71], u ≠ 13 → (u < 60 ∧ u ≠ 13 ∧ u ≠ 18 ∨ 64 < u) := by decide
      exact this j hj e13
  have hlwI : Inv (c_lw c) := ⟨ci, (i_day_eq (lo 11 (by decide)) hday), (i_care_eq (lo 1 (by decide)) (lo 2 (by decide)) hcare), (i_ask_eq (lo 23 (by decide)) (lo 30 (by decide)) (lo 31 (by decide)) (lo 32 (by decide)) hask), (i_look_eq (lo 5 (by decide)) (lo 7 (by decide)) (lo 11 (by decide)) hlook), (i_law_eq (lo 14 (by decide)) hlaw), (i_owe_eq (lo 8 (by decide)) (lo 9 (by decide)) (lo 24 (by decide)) (lo 23 (by decide)) howe), (i_pend_eq (lo 24 (by decide)) (lo 23 (by decide)) hpend), (i_zero_eq (lo 23 (by decide)) (lo 26 (by decide)) (lo 8 (by decide)) (lo 9 (by decide)) (lo 10 (by decide)) hzero), (i_nb_eq (lo 23 (by decide)) (lo 24 (by decide)) (lo 25 (by decide)) (lo 30 (by decide)) (lo 31 (by decide)) (lo 6 (by decide)) (lo 2 (by decide)) hnb), (i_out_eq (lo 5 (by decide)) (lo 23 (by decide)) (lo 24 (by decide)) (lo 25 (by decide)) (lo 51 (by decide)) hout), (i_back_eq (lo 23 (by decide)) (lo 24 (by decide)) (lo 25 (by decide)) (lo 33 (by decide)) (lo 11 (by decide)) (lo 5 (by decide)) (lo 50 (by decide)) hback), (i_aout_eq (lo 8 (by decide)) (lo 23 (by decide)) (lo 24 (by decide)) (lo 27 (by decide)) (lo 52 (by decide)) haout), (i_log_eq (lo 81 (by decide)) (lo 24 (by decide)) (lo 23 (by decide)) (lo 80 (by decide)) (lo 31 (by decide)) hlog), (i_wnt_eq (lo 1 (by decide)) (lo 15 (by decide)) hwnt)⟩
  have h33 : ∀ a, a < mA (c_lw c) → c_lw c 24 a = 4 → c_lw c 33 a = Z 33 a := fun a ha w => by
    unfold mA at ha
    rw [lo 23 (by decide)] at ha
    rw [lo 24 (by decide)] at w
    rw [lo 33 (by decide), zo 33 (by decide)]
    exact k.2.1 a ha w
  unfold s_fin
  by_cases f0 : c_lw c 61 0 = 0
  · have z0 : Z 17 0 = 0 := o1.symm.trans (l61.symm.trans f0)
    rw [cif_t f0, cif_f (by rw [z0]; decide)]
    have hlt : ql < 20 := m_lt (x := c 14 0) ⟨el, hql⟩ q
    have e14 : c_lw c 14 0 + 1 = nI (ql + 1) := by rw [l14, el, nI_1]
    have e14z : Z 14 0 + 1 = nI (ql + 1) := by rw [congrFun (zo 14 (by decide)) 0, ← k.1 14 (by decide), el, nI_1]
    refine ⟨?_, ?_, ?_⟩
    · show c_lw c 14 0 = Z 14 0
      rw [l14, zo 14 (by decide), k.1 14 (by decide)]
    · show Inv (c_tell (c_lw c))
      unfold c_tell
      rw [e14]
      have to : ∀ j, j ≠ 14 ∧ j ≠ 15 → m_set (tl (c_lw c) 8) 14 0 (nI (ql + 1)) j = c_lw c j := fun j hj => (m_set_ne _ _ _ hj.1).trans (tl_o _ hj.2 8)
      obtain ⟨hC', hday', hcare', hask', hlook', hlaw', howe', hpend', hzero', hnb', hout', hback', haout', hlog', hwnt'⟩ := id hlwI
      refine ⟨c_inv_eq (fun j hj => to j (by have : ∀ u ∈ [1, 5, 8, 13, 23, 6, 28, 27, 25, 24, 81, 80, 51, 70, 71], u ≠ 14 ∧ u ≠ 15 := by decide
                                             exact this j hj)) hC', (i_day_eq (to 11 (by decide)) hday'), (i_care_eq (to 1 (by decide)) (to 2 (by decide)) hcare'), (i_ask_eq (to 23 (by decide)) (to 30 (by decide)) (to 31 (by decide)) (to 32 (by decide)) hask'), (i_look_eq (to 5 (by decide)) (to 7 (by decide)) (to 11 (by decide)) hlook'), ⟨ql + 1, by omega, m_set_at _ _ _ _⟩, (i_owe_eq (to 8 (by decide)) (to 9 (by decide)) (to 24 (by decide)) (to 23 (by decide)) howe'), (i_pend_eq (to 24 (by decide)) (to 23 (by decide)) hpend'), (i_zero_eq (to 23 (by decide)) (to 26 (by decide)) (to 8 (by decide)) (to 9 (by decide)) (to 10 (by decide)) hzero'), (i_nb_eq (to 23 (by decide)) (to 24 (by decide)) (to 25 (by decide)) (to 30 (by decide)) (to 31 (by decide)) (to 6 (by decide)) (to 2 (by decide)) hnb'), (i_out_eq (to 5 (by decide)) (to 23 (by decide)) (to 24 (by decide)) (to 25 (by decide)) (to 51 (by decide)) hout'), (i_back_eq (to 23 (by decide)) (to 24 (by decide)) (to 25 (by decide)) (to 33 (by decide)) (to 11 (by decide)) (to 5 (by decide)) (to 50 (by decide)) hback'), (i_aout_eq (to 8 (by decide)) (to 23 (by decide)) (to 24 (by decide)) (to 27 (by decide)) (to 52 (by decide)) haout'), (i_log_eq (to 81 (by decide)) (to 24 (by decide)) (to 23 (by decide)) (to 80 (by decide)) (to 31 (by decide)) hlog'), fun u hu hu8 => ?_⟩
      rw [m_set_ne _ _ _ (by decide), tl_15, if_pos hu8]
      have hu9 : mK c ≤ u := by
        unfold mK at hu ⊢
        rw [to 1 (by decide), lo 1 (by decide)] at hu
        exact hu
      have e60 : c_lw c 60 u = X 60 u := by rw [elw]; rfl
      rw [e60, o4 z0 u hu8, eZ]
      refine wn_16 hK2 201 _ ?_ (fun k2 h1 h2 => ?_) u hu9 hu8
      · rw [tk_o _ (by decide) (by decide) (by decide) (by decide)]
        show s_clr s 8 1 0 = _
        rw [kp6.clr 8 1 0 (Or.inl (by decide)), ← k.1 1 (by decide)]
        exact hK.1
      · rw [tk_o _ (by decide) (by decide) (by decide) (by decide)]
        show s_clr s 8 16 k2 = -1
        exact clr_16 8 k2 h2
    · show Lk (m_set (s_cp (m_set Z 13 0 0) 8) 14 0 (Z 14 0 + 1)) (c_tell (c_lw c))
      unfold c_tell
      rw [e14, e14z]
      have so : ∀ j, j ≠ 14 ∧ j ≠ 15 → m_set (s_cp (m_set Z 13 0 0) 8) 14 0 (nI (ql + 1)) j = m_set Z 13 0 0 j := fun j hj => (m_set_ne _ _ _ hj.1).trans (by funext i; exact s_cp_o _ hj.2 8 i)
      have to : ∀ j, j ≠ 14 ∧ j ≠ 15 → m_set (tl (c_lw c) 8) 14 0 (nI (ql + 1)) j = c_lw c j := fun j hj => (m_set_ne _ _ _ hj.1).trans (tl_o _ hj.2 8)
      refine ⟨fun j hj => ?_, fun a ha w => ?_, fun i hi => ?_, fun u hu => ?_⟩
      · by_cases ej : j = 14
        · subst ej
          rw [m_set_eq, m_set_eq, tl_o _ (by decide) 8, show s_cp (m_set Z 13 0 0) 8 14 = m_set Z 13 0 0 14 from by funext i; exact s_cp_o _ (by decide) 8 i, r0 14 (by decide)]
        · have e15 : j ≠ 15 := by rintro rfl; exact absurd hj (by decide)
          rw [to j ⟨ej, e15⟩, so j ⟨ej, e15⟩]
          exact r0 j hj
      · rw [to 33 (by decide), so 33 (by decide)]
        refine h33 a ?_ ?_
        · unfold mA at ha ⊢
          rw [to 23 (by decide)] at ha
          exact ha
        · rw [to 24 (by decide)] at w
          exact w
      · exfalso
        have : mP (m_set (tl (c_lw c) 8) 14 0 (nI (ql + 1))) = 0 := by unfold mP at *; rw [to 13 (by decide)]; exact lP
        omega
      · unfold s_want
        rw [cif_f (by rw [m_set_at]; exact nI_ne0 (by omega) (by omega)), m_set_ne _ _ _ (by decide), m_set_ne _ _ _ (by decide), tl_15, cp_15, if_pos hu, if_pos hu]
        have e60 : c_lw c 60 u = X 60 u := by rw [elw]; rfl
        rw [e60]
        exact o4 z0 u hu
  · have z0 : ¬ Z 17 0 = 0 := fun z => f0 (l61.trans (o1.trans z))
    have hpos : 0 < Z 17 0 := by rcases o3 with z | z | z; exact absurd z z0; rw [z]; decide; rw [z]; decide
    rw [cif_f f0, cif_t hpos]
    refine ⟨?_, hlwI, r0, fun a ha w => h33 a ha w, fun i hi => ?_, fun u hu => ?_⟩
    · show -1 - c_lw c 61 0 = -1 - Z 17 0
      rw [l61, o1]
    · exfalso
      have hi : i < mP (c_lw c) := hi
      omega
    · show c_lw c 15 u = s_want (m_set Z 13 0 0) u
      unfold s_want
      rw [lo 15 (by decide), m_set_ne _ _ _ (by decide), m_set_ne _ _ _ (by decide), zo 15 (by decide), zo 14 (by decide)]
      exact k.2.2.2 u hu
