/-! plan -/
theorem SF_b : ∀ j, j ∈ SF → 1 ≤ j ∧ j < 34 := by decide
theorem Lk_sm {s s' c c' : mS} (k : Lk s c) (hs : s_sm s' s) (hc : ∀ j, j < 70 → c' j = c j) : Lk s' c' := by
  refine k.mk (fun j hj => ?_) (hc 33 (by decide)) (hs 33 (by decide) (by decide)) (hc 12 (by decide)) (hs 12 (by decide) (by decide)) (hc 13 (by decide)) (hc 15 (by decide)) (hs 15 (by decide) (by decide)) (hs 14 (by decide) (by decide)) (fun a ha q => ?_)
  · have := SF_b j hj
    rw [hc j (by omega), hs j (by omega) (by omega)]
    exact k.1 j hj
  · have eA : mA c' = mA c := by unfold mA; rw [hc 23 (by decide)]
    rw [eA] at ha
    rw [hc 24 (by decide)] at q
    exact ⟨ha, q⟩
theorem Lk_fix {s c c' : mS} {a : Nat} {v w : Int32} (k : Lk s c) (hw : w = 1 ∨ w = 2) (hc : ∀ j, j < 70 → c' j = m_set (m_set c 25 a v) 24 a w j) : Lk (m_set (m_set s 25 a v) 24 a w) c' := by
  refine Lk_sm (s := m_set (m_set s 25 a v) 24 a w) (c := m_set (m_set c 25 a v) 24 a w) (k.mk ((k.1.set 25 a v).set 24 a w) rfl rfl rfl rfl rfl rfl rfl rfl (fun b hb q => ⟨hb, ?_⟩)) s_sm.rf hc
  by_cases e : b = a
  · rw [e, m_set_at] at q
    rcases hw with z | z <;> exact absurd (z.symm.trans q) (by decide)
  · rw [ms_ne e] at q; exact q
theorem inv_k {c u : mS} (h : Inv c) (hc : c_inv u) (e : ∀ j, j ≠ 70 → j ≠ 71 → j ≠ 72 → j ≠ 73 → u j = c j) : Inv u := by
  obtain ⟨hC, hday, hcare, hask, hlook, hlaw, howe, hpend, hzero, hnb, hout, hback, haout, hlog, hwnt⟩ := id h
  obtain ⟨hI, hG, hgv, hov, hrw, hps⟩ := id hC
  obtain ⟨hK, hT, hB, hP9, hA, hkf, haf, hbf⟩ := id hI
  have hA2 := hA.2
  have hT2 := hT.2
  have hK2 := hK.2
  have hB2 := hB.2
  have hP2 := hP9.2
  have o := fun j (h1 : j < 70 ∨ 73 < j) => e j (by omega) (by omega) (by omega) (by omega)
  exact ⟨hc, i_day_eq (o 11 (by omega)) hday, i_care_eq (o 1 (by omega)) (o 2 (by omega)) hcare, i_ask_eq (o 23 (by omega)) (o 30 (by omega)) (o 31 (by omega)) (o 32 (by omega)) hask, i_look_eq (o 5 (by omega)) (o 7 (by omega)) (o 11 (by omega)) hlook, i_law_eq (o 14 (by omega)) hlaw, i_owe_eq (o 8 (by omega)) (o 9 (by omega)) (o 24 (by omega)) (o 23 (by omega)) howe, i_pend_eq (o 24 (by omega)) (o 23 (by omega)) hpend, i_zero_eq (o 23 (by omega)) (o 26 (by omega)) (o 8 (by omega)) (o 9 (by omega)) (o 10 (by omega)) hzero, i_nb_eq (o 23 (by omega)) (o 24 (by omega)) (o 25 (by omega)) (o 30 (by omega)) (o 31 (by omega)) (o 6 (by omega)) (o 2 (by omega)) hnb, i_out_eq (o 5 (by omega)) (o 23 (by omega)) (o 24 (by omega)) (o 25 (by omega)) (o 51 (by omega)) hout, i_back_eq (o 23 (by omega)) (o 24 (by omega)) (o 25 (by omega)) (o 33 (by omega)) (o 11 (by omega)) (o 5 (by omega)) (o 50 (by omega)) hback, i_aout_eq (o 8 (by omega)) (o 23 (by omega)) (o 24 (by omega)) (o 27 (by omega)) (o 52 (by omega)) haout, i_log_eq (o 81 (by omega)) (o 24 (by omega)) (o 23 (by omega)) (o 80 (by omega)) (o 31 (by omega)) hlog, i_wnt_eq (o 1 (by omega)) (o 15 (by omega)) hwnt⟩
theorem coR_id {z : Nat} : ∀ (m i : Nat) (x : mS × Nat), z ≤ i → coR z m i x = x
  | 0, _, _, _ => rfl
  | m + 1, i, x, h => by
    show coR z m (i + 1) (cif (i < z) (co1 z i x) x) = x
    rw [cif_f (by omega)]
    exact coR_id m (i + 1) x (by omega)
theorem co_loop {z : Nat} {Q : Nat → mS × Nat → Prop} (hs : ∀ i x, i < z → Q i x → Q (i + 1) (co1 z i x)) : ∀ (m i : Nat) (x : mS × Nat), z ≤ i + m → i ≤ z → Q i x → Q z (coR z m i x)
  | 0, i, x, h1, h2, h => by
    have : i = z := by omega
    subst this
    exact h
  | m + 1, i, x, h1, h2, h => by
    by_cases e : i < z
    · show Q z (coR z m (i + 1) (cif (i < z) (co1 z i x) x))
      rw [cif_t e]
      exact co_loop hs m (i + 1) _ (by omega) (by omega) (hs i x e h)
    · have : i = z := by omega
      subst this
      rw [coR_id _ _ _ (Nat.le_refl _)]
      exact h
/-- what both have done up to a place of the row -/
def Cst (s c u U : mS) (p : Nat → Nat) (i : Nat) (x : mS × Nat) : Prop := (∀ j, j ≠ 24 → j ≠ 25 → j ≠ 80 → j ≠ 81 → j ≠ 90 → x.1 j = U j) ∧ Inv x.1 ∧ Lk (pl_f u i) x.1 ∧ (∀ b, ¬ c 24 b = 0 → x.1 24 b = c 24 b ∧ x.1 25 b = c 25 b) ∧ (∀ b, b < mA c → c 24 b = 0 → s_pd c b < i → x.1 25 b = en (p (s_pd c b))) ∧ (∀ b, b < mA c → c 24 b = 0 → i ≤ s_pd c b → x.1 24 b = 0) ∧ x.2 = ct (fun i => ¬ u 37 i = -1) i
set_option maxHeartbeats 2000000 in
theorem co_step {s c u U : mS} {p : Nat → Nat} {z : Nat} (h : Inv c) (ez : z = s_pd c (mA c)) (hU : ∀ j, j ≠ 70 → j ≠ 71 → j ≠ 72 → j ≠ 73 → U j = c j) (hr : ∀ b, b < mA c → c 24 b = 0 → U 70 (s_pd c b) = nI b ∧ u 34 (s_pd c b) = nI b) (hp : pOK (cY9 U z) (cN U) (mT c) p) (htr : ∀ i, i < z → c_tr U z i = en (p i)) (h37 : ∀ i, i < z → u 37 i = en (p i)) (h5 : z ≤ 5) : ∀ i x, i < z → Cst s c u U p i x → Cst s c u U p (i + 1) (co1 z i x) := by
  intro i x hi hx
  obtain ⟨hC, hday, hcare, hask, hlook, hlaw, howe, hpend, hzero, hnb, hout, hback, haout, hlog, hwnt⟩ := id h
  obtain ⟨hI, hG, hgv, hov, hrw, hps⟩ := id hC
  obtain ⟨hK, hT, hB, hP9, hA, hkf, haf, hbf⟩ := id hI
  have hA2 := hA.2
  have hT2 := hT.2
  have hK2 := hK.2
  have hB2 := hB.2
  have hP2 := hP9.2
  obtain ⟨x1, x2, x3, x4, x5, x6, x7⟩ := hx
  obtain ⟨b, b1_, b2, b3⟩ := pd_nth (s := c) (mA c) i (by omega)
  have rb := hr b b1_ b2
  rw [b3] at rb
  have e70 : ix (x.1 70 i) = b := by rw [x1 70 (by decide) (by decide) (by decide) (by decide) (by decide), rb.1, ix_nI (by omega)]
  have e34 : ix (u 34 i) = b := by rw [rb.2, ix_nI (by omega)]
  have etr : c_tr x.1 z i = en (p i) := by
    unfold c_tr
    rw [x1 72 (by decide) (by decide) (by decide) (by decide) (by decide)]
    exact htr i hi
  have y0 : x.1 24 b = 0 := x6 b b1_ b2 (by omega)
  have oj : ∀ j, j < 70 → j ≠ 24 → j ≠ 25 → x.1 j = c j := fun j q1 q2 q3 => (x1 j q2 q3 (by omega) (by omega) (by omega)).trans (hU j (by omega) (by omega) (by omega) (by omega))
  have eA : mA x.1 = mA c := by unfold mA; rw [oj 23 (by decide) (by decide) (by decide)]
  have eT : mT x.1 = mT c := by unfold mT; rw [oj 5 (by decide) (by decide) (by decide)]
  have e5 : x.1 5 0 = c 5 0 := by rw [oj 5 (by decide) (by decide) (by decide)]
  have hpi : p i ≤ 12 := by rcases hp i (by omega) with q | q <;> omega
  have hL : mL x.1 < 120 := by
    have l1 := x2.2.2.2.2.2.2.2.2.2.2.2.2.2.1.1
    have d := ct_dis (p := fun a => x.1 24 a = 2) (q := fun a => x.1 24 a = 0) (n := mA x.1) (fun a _ q w => by rw [q] at w; exact absurd w (by decide))
    have q := ct_pos (p := fun a => x.1 24 a = 0) (n := mA x.1) (a := b) (by omega) y0
    omega
  have hlx := x2.2.2.2.2.2.2.2.2.2.2.2.2.2.1
  have epl : pl_f u (i + 1) = m_set (m_set (pl_f u i) 25 b (en (p i))) 24 b (cif (en (p i) = -1) 2 1) := by
    show m_set (m_set (pl_f u i) 25 (ix (u 34 i)) (u 37 i)) 24 (ix (u 34 i)) (cif (u 37 i = -1) 2 1) = _
    rw [e34, h37 i hi]
  have oth : ∀ b', b' < mA c → c 24 b' = 0 → s_pd c b' ≠ i → b' ≠ b := fun b' q1 q2 q3 e => q3 (by rw [e]; exact b3)
  have nb0 : ∀ b', ¬ c 24 b' = 0 → b' ≠ b := fun b' q e => q (by rw [e]; exact b2)
  unfold co1
  rw [etr, e70, e5]
  by_cases hpe : p i = 12
  · rw [hpe] at epl ⊢
    rw [en_12] at epl ⊢
    rw [cif_t rfl] at epl
    rw [cif_f (fun q => absurd q.1 (by decide))]
    have eo : ∀ j, j ≠ 25 → j ≠ 24 ∧ j ≠ 80 ∧ j ≠ 81 ∧ j ≠ 90 → c_ref (m_set x.1 25 b (-1)) b j = x.1 j := fun j q w => (c_ref_o _ _ w).trans (m_set_ne _ _ _ q)
    have e24 : ∀ b', c_ref (m_set x.1 25 b (-1)) b 24 b' = if b' = b then 2 else x.1 24 b' := fun b' => by
      rw [c_ref_24, m_set_ne _ _ _ (by decide)]
      rfl
    have e25 : ∀ b', c_ref (m_set x.1 25 b (-1)) b 25 b' = if b' = b then -1 else x.1 25 b' := fun b' => by
      rw [c_ref_o _ _ (by decide)]
      by_cases e : b' = b
      · subst e; rw [m_set_at, if_pos rfl]
      · rw [ms_ne e, if_neg e]
    unfold Cst
    dsimp only
    refine ⟨fun j q1 q2 q3 q4 q5 => (eo j q2 ⟨q1, q3, q4, q5⟩).trans (x1 j q1 q2 q3 q4 q5), ?_, ?_, fun b' q => ?_, fun b' q1 q2 q3 => ?_, fun b' q1 q2 q3 => ?_, ?_⟩
    · exact inv_fix (v := -1) (w := 2) x2 (by omega) y0 (Or.inr rfl) (fun j q1 q2 q3 => eo j q2 ⟨q1, by omega, by omega, by omega⟩) (fun b' q => by rw [e24, if_neg q]) (by rw [e24, if_pos rfl]) (fun b' q => by rw [e25, if_neg q]) (by rw [e25, if_pos rfl]) (c_inv_ref x2.1 (by omega) hL) (log_ref x2.1 hlx (by omega) y0 hL) (fun q => absurd q (by decide))
    · rw [epl]
      exact Lk_fix x3 (Or.inr rfl) (fun j hj => c_lg_o _ _ _ ⟨by omega, by omega, by omega⟩)
    · rw [e24, e25, if_neg (nb0 b' q), if_neg (nb0 b' q)]
      exact x4 b' q
    · rw [e25]
      by_cases e : b' = b
      · rw [if_pos e, e, b3, hpe, en_12]
      · rw [if_neg e]
        refine x5 b' q1 q2 ?_
        have : s_pd c b' ≠ i := fun w => e (pd_inj q2 b2 (by omega))
        omega
    · rw [e24, if_neg (oth b' q1 q2 (by omega))]
      exact x6 b' q1 q2 (by omega)
    · rw [ct_f (p := fun i => ¬ u 37 i = -1) (fun q => q (by rw [h37 i hi, hpe, en_12]))]
      exact x7
  · have lt : p i < 12 := by omega
    obtain ⟨t1, t2, t3⟩ := (hp i (by omega)).resolve_left hpe
    rw [en_n lt] at epl ⊢
    rw [cif_f (oI_ne (by omega))] at epl
    rw [cif_t (m_wi hT (by decide) t1)]
    have e24 : ∀ b', m_set (m_set x.1 25 b (nI (p i))) 24 b 1 24 b' = if b' = b then 1 else x.1 24 b' := fun b' => by
      by_cases e : b' = b
      · rw [e, m_set_at, if_pos rfl]
      · rw [ms_ne e, if_neg e]; rfl
    have e25 : ∀ b', m_set (m_set x.1 25 b (nI (p i))) 24 b 1 25 b' = if b' = b then nI (p i) else x.1 25 b' := fun b' => by
      show m_set x.1 25 b (nI (p i)) 25 b' = _
      by_cases e : b' = b
      · rw [e, m_set_at, if_pos rfl]
      · rw [ms_ne e, if_neg e]
    have eo : ∀ j, j ≠ 24 → j ≠ 25 → m_set (m_set x.1 25 b (nI (p i))) 24 b 1 j = x.1 j := fun j q1 q2 => (m_set_ne _ _ _ q1).trans (m_set_ne _ _ _ q2)
    unfold Cst
    dsimp only
    refine ⟨fun j q1 q2 q3 q4 q5 => (eo j q1 q2).trans (x1 j q1 q2 q3 q4 q5), ?_, ?_, fun b' q => ?_, fun b' q1 q2 q3 => ?_, fun b' q1 q2 q3 => ?_, ?_⟩
    · refine inv_fix (v := nI (p i)) (w := 1) x2 (by omega) y0 (Or.inl rfl) (fun j q1 q2 q3 => eo j q1 q2) (fun b' q => by rw [e24, if_neg q]) (by rw [e24, if_pos rfl]) (fun b' q => by rw [e25, if_neg q]) (by rw [e25, if_pos rfl]) (c_inv_bk x2.1 (by omega)) (log_bk hlx y0) (fun _ b' q1 q2 q3 q4 => ?_)
      rw [eA] at q1
      have er : ∀ w, c_rn x.1 b b' w ↔ c_rn c b b' w := fun w => by
        unfold c_rn
        rw [oj 30 (by decide) (by decide) (by decide), oj 31 (by decide) (by decide) (by decide)]
      have ec : s_care x.1 (nI (p i)) = s_care c (nI (p i)) := by
        unfold s_care
        rw [oj 2 (by decide) (by decide) (by decide), oj 6 (by decide) (by decide) (by decide)]
      rw [er, ec]
      by_cases e0 : c 24 b' = 0
      · have lt2 : s_pd c b' < i := by
          rcases Nat.lt_or_ge (s_pd c b') i with w | w
          · exact w
          · rw [x6 b' q1 e0 w] at q3; exact absurd q3 (by decide)
        have q5 := x5 b' q1 e0 lt2
        rw [q4] at q5
        have hpj : p (s_pd c b') ≤ 12 := by rcases hp (s_pd c b') (by omega) with q | q <;> omega
        have q6 := (en_eq hpj lt).mp q5.symm
        have q7 := t3 (s_pd c b') lt2 q6
        intro w
        refine q7 ?_
        have r1 : rho U i = b := by unfold rho; rw [rb.1, ix_nI (by omega)]
        have r2 : rho U (s_pd c b') = b' := by unfold rho; rw [(hr b' q1 e0).1, ix_nI (by omega)]
        unfold cN
        rw [r1, r2]
        unfold c_rn
        rw [hU 2 (by decide) (by decide) (by decide) (by decide), hU 6 (by decide) (by decide) (by decide) (by decide), hU 30 (by decide) (by decide) (by decide) (by decide), hU 31 (by decide) (by decide) (by decide) (by decide)]
        unfold s_care at w
        rw [ix_nI (by omega)] at w
        exact w
      · have o4 := x4 b' e0
        rw [o4.1] at q3
        rw [o4.2] at q4
        have hm : s_may U (rho U i) (p i) := t2.2
        have r1 : rho U i = b := by unfold rho; rw [rb.1, ix_nI (by omega)]
        have sm : s_sm U c := fun j q1 q2 => hU j (by omega) (by omega) (by omega) (by omega)
        have hf := hm.2
        rw [sm_free sm, r1, hU 30 (by decide) (by decide) (by decide) (by decide), hU 31 (by decide) (by decide) (by decide) (by decide)] at hf
        intro w
        refine hf b' q1 (fun e => q2 ((nI_eq (by omega) (by omega)).mp e)) ⟨q4, Or.inl q3⟩ ?_
        have e : s_end c b' = c 31 b' := by
          unfold s_end
          rw [cif_f (by rw [q3]; decide), cif_f (by rw [q3]; exact fun w => absurd w.1 (by decide))]
        rw [e]
        exact w
    · rw [epl]
      exact Lk_fix x3 (Or.inl rfl) (fun j hj => rfl)
    · rw [e24, e25, if_neg (nb0 b' q), if_neg (nb0 b' q)]
      exact x4 b' q
    · rw [e25]
      by_cases e : b' = b
      · rw [if_pos e, e, b3, en_n lt]
      · rw [if_neg e]
        refine x5 b' q1 q2 ?_
        have : s_pd c b' ≠ i := fun w => e (pd_inj q2 b2 (by omega))
        omega
    · rw [e24, if_neg (oth b' q1 q2 (by omega))]
      exact x6 b' q1 q2 (by omega)
    · rw [ct_t (p := fun i => ¬ u 37 i = -1) (by rw [h37 i hi, en_n lt]; exact oI_ne (by omega))]
      exact congrArg (· + 1) x7
set_option maxHeartbeats 2000000 in
theorem sim_plan {s c : mS} (h : Inv c) (k : Lk s c) : Sim (cp_plan c) (sp_plan s) := by
  obtain ⟨hC, hday, hcare, hask, hlook, hlaw, howe, hpend, hzero, hnb, hout, hback, haout, hlog, hwnt⟩ := id h
  obtain ⟨hI, hG, hgv, hov, hrw, hps⟩ := id hC
  obtain ⟨hK, hT, hB, hP9, hA, hkf, haf, hbf⟩ := id hI
  have hA2 := hA.2
  have hT2 := hT.2
  have hK2 := hK.2
  have hB2 := hB.2
  have hP2 := hP9.2
  have eA : mA s = mA c := k.1.A
  have eT : mT s = mT c := k.1.T
  have e24 : c 24 = s 24 := k.1 24 (by decide)
  have epd : ∀ a, s_pd s a = s_pd c a := fun a => by unfold s_pd; rw [e24]
  obtain ⟨z, ez⟩ : ∃ z, z = s_pd c (mA c) := ⟨_, rfl⟩
  have h5 : z ≤ 5 := by rw [ez]; exact hpend
  -- the class's row
  have hb24 : c_beg c 24 = c 24 := beg_k 24 (by decide) (by decide)
  have hbA : mA (c_beg c) = mA c := by unfold mA; rw [beg_k 23 (by decide) (by decide)]
  have pr := pr_sp (c0 := c) (mA c) 0 (c_beg c) hb24 (by rw [hbA]; omega) (by rw [Nat.zero_add]; exact hpend) (beg_inv hC) (show c_beg c 71 0 = nI 0 from (congrFun (m_row_ne _ _ (by decide)) 0).trans (m_set_at c 71 0 0)) (fun b hb => absurd hb (Nat.not_lt_zero _))
  have e0 : s_pd c 0 = 0 := rfl
  rw [e0, Nat.zero_add, ← ez] at pr
  obtain ⟨C, eC⟩ : ∃ C, C = prR (mA c) 0 0 (c_beg c) := ⟨_, rfl⟩
  rw [← eC] at pr
  obtain ⟨p1, p2, p3, p4⟩ := pr
  have hCj : ∀ j, j ≠ 70 → j ≠ 71 → j ≠ 72 → C j = c j := fun j q1 q2 q3 => (p1 j q1 q2).trans (beg_k j q2 q3)
  have hCsm : s_sm C c := fun j q1 q2 => hCj j (by omega) (by omega) (by omega)
  have eTC : mT C = mT c := by unfold mT; rw [hCj 5 (by decide) (by decide) (by decide)]
  have rw_ : ∀ i, i < z → ∃ b, b < mA c ∧ c 24 b = 0 ∧ s_pd c b = i ∧ rho C i = b := fun i hi => by
    obtain ⟨b, b1_, b2, b3⟩ := pd_nth (s := c) (mA c) i (by omega)
    refine ⟨b, b1_, b2, b3, ?_⟩
    unfold rho
    rw [← b3, p4 b b1_ b2, ix_nI (by omega)]
  have hrk : rkd C z := ⟨h5, fun i hi => by
    obtain ⟨b, b1_, b2, b3, b4⟩ := rw_ i hi
    obtain ⟨f, l, r, _, _, r3, _, _, _, r7⟩ := hask b b1_
    exact ⟨r, r7, by rw [b4, hCj 32 (by decide) (by decide) (by decide)]; exact r3⟩⟩
  have hC72 : ∀ m, m < 32 → C 72 m = 0 := fun m hm => by
    rw [p1 72 (by decide) (by decide)]
    show m_row _ 72 (fl (c 72) 0 32) 72 m = 0
    rw [m_row_eq]
    exact if_pos hm
  obtain ⟨kU, pc, pc1, pc2, pc3⟩ := po_best hrk (by omega) hC72
  obtain ⟨U, eU⟩ : ∃ U, U = poR z (mT C) 0 C := ⟨_, rfl⟩
  rw [← eU] at kU pc2
  -- the reference's row
  obtain ⟨S, eS⟩ : ∃ S, S = m_set (pl_r s (mA s)) 38 0 (-1) := ⟨_, rfl⟩
  have hSsm : s_sm S s := by rw [eS]; exact (pl_r_sm s (mA s)).st (Or.inr (by decide))
  have hS35 : S 35 0 = nI z := by
    rw [eS, m_set_ne _ _ _ (by decide), pl_r_35, epd, eA, ← ez]
  have hQ : mQ S = z := by unfold mQ; rw [hS35]; exact ix_nI (by omega)
  have eTS : mT S = mT c := (sm_T hSsm).trans eT
  have hS34 : ∀ b, b < mA c → c 24 b = 0 → S 34 (s_pd c b) = nI b := fun b hb hb0 => by
    rw [eS, m_set_ne _ _ _ (by decide), ← epd b]
    exact pl_r34 (by omega) (by rw [← e24]; exact hb0)
  have hS39 : ∀ b t, b < mA c → c 24 b = 0 → t < mT c → S 39 (12 * s_pd c b + t) = b1 (s_may c b t) := fun b t hb hb0 ht => by
    rw [eS, m_set_ne _ _ _ (by decide), ← epd b, pl_r_39 (by omega) (mA s) b t (by omega) (by rw [← e24]; exact hb0) (by omega)]
    exact b1_c (may_eq k b t)
  have sj : ∀ j, j ∈ SF → S j = c j := fun j hj => by
    have := SF_b j hj
    rw [hSsm j (by omega) (by omega)]; exact (k.1 j hj).symm
  have hst : stc S := ⟨by omega, by omega, fun i hi => by
    obtain ⟨b, b1_, b2, b3, b4⟩ := rw_ i (by omega)
    obtain ⟨f, l, r, _, _, r3, _, _, _, r7⟩ := hask b b1_
    exact ⟨r, r7, by rw [← b3, hS34 b b1_ b2, ix_nI (by omega), sj 32 (by decide)]; exact r3⟩⟩
  obtain ⟨q, q1, q2, q3⟩ := tr_best hst (show S 38 0 = -1 by rw [eS]; exact m_set_at _ _ _ _)
  -- both speak of the same plans
  have row : ∀ i, i < z → ∃ b, b < mA c ∧ c 24 b = 0 ∧ s_pd c b = i ∧ rho C i = b ∧ ix (S 34 i) = b := fun i hi => by
    obtain ⟨b, b1_, b2, b3, b4⟩ := rw_ i hi
    exact ⟨b, b1_, b2, b3, b4, by rw [← b3, hS34 b b1_ b2, ix_nI (by omega)]⟩
  have emay : ∀ b t, s_may C b t ↔ s_may c b t := fun b t => by
    unfold s_may
    rw [hCj 6 (by decide) (by decide) (by decide), hCj 30 (by decide) (by decide) (by decide), hCj 31 (by decide) (by decide) (by decide), sm_fits hCsm, sm_free hCsm]
  have eY : ∀ i t, t < mT c → (mY S i t ↔ cY9 C z i t) := fun i t ht => by
    unfold mY cY9
    rw [hQ, eTS]
    refine ⟨fun w => ⟨w.1, ?_⟩, fun w => ⟨w.1, ht, ?_⟩⟩
    · obtain ⟨b, b1_, b2, b3, b4, b5⟩ := row i w.1
      have w3 := w.2.2
      rw [← b3, hS39 b t b1_ b2 ht] at w3
      rw [b4, emay]
      exact b1_1 w3
    · obtain ⟨b, b1_, b2, b3, b4, b5⟩ := row i w.1
      rw [← b3, hS39 b t b1_ b2 ht]
      have w2 := w.2
      rw [b4, emay] at w2
      rw [b1_t w2]
      decide
  have eN : ∀ i j t, i < z → j < z → (s_rn S i j t ↔ cN C i j t) := fun i j t hi hj => by
    obtain ⟨b, _, _, _, b4, b5⟩ := row i hi
    obtain ⟨d, _, _, _, d4, d5⟩ := row j hj
    unfold s_rn cN c_rn
    rw [b4, b5, d4, d5, sj 30 (by decide), sj 31 (by decide), sj 2 (by decide), sj 6 (by decide), hCj 30 (by decide) (by decide) (by decide), hCj 31 (by decide) (by decide) (by decide), hCj 2 (by decide) (by decide) (by decide), hCj 6 (by decide) (by decide) (by decide)]
  have eOK : ∀ p, pOK (mY S) (s_rn S) 12 p ↔ pOK (cY9 C z) (cN C) (mT C) p := fun p => by
    rw [eTC]
    refine ⟨fun w i hi => ?_, fun w i hi => ?_⟩
    · refine (w i hi).imp id (fun y => ?_)
      have t9 : p i < mT c := by have := y.2.1.2.1; omega
      have y2 := (eY i (p i) t9).mp y.2.1
      exact ⟨t9, y2, fun j hj ej q => y.2.2 j hj ej ((eN i j _ y2.1 (by have := y2.1; omega)).mpr q)⟩
    · refine (w i hi).imp id (fun y => ⟨by omega, (eY i (p i) y.1).mpr y.2.1, fun j hj ej q => y.2.2 j hj ej ((eN i j _ y.2.1.1 (by have := y.2.1.1; omega)).mp q)⟩)
  have eV : ∀ p, pOK (cY9 C z) (cN C) (mT C) p → pW (vr (rK S) (sB S)) p = pW (vr (cR C) (cB C)) p := fun p hp => by
    refine sm5_congr (fun i hi => ?_)
    rcases hp i hi with y | ⟨y1, y2, _⟩
    · rw [y]; unfold vr; rw [if_neg (by decide), if_neg (by decide)]
    · rw [eTC] at y1
      obtain ⟨b, b1_, b2, b3, b4, b5⟩ := row i y2.1
      have er : rK S i = cR C i := by
        unfold rK cR
        rw [b4, b5, sj 32 (by decide), hCj 32 (by decide) (by decide) (by decide)]
      have eb : sB S i (p i) = cB C i (p i) := by
        unfold sB cB
        rw [b4, b5, sj 6 (by decide), sj 28 (by decide), hCj 6 (by decide) (by decide) (by decide), hCj 28 (by decide) (by decide) (by decide)]
        have k1 := (hkf (p i) y1).1
        have k2 := (haf b b1_).1.1
        by_cases e : c 6 (p i) = c 28 b
        · rw [cif_t e, cif_t (congrArg ix e)]
        · rw [cif_f e, cif_f (fun w => e (by rw [k1, k2]; exact congrArg nI w))]
      unfold vr
      rw [er, eb]
  have same := best_eq (r := cR C) (sb := cB C) (P := fun p => pOK (cY9 C z) (cN C) (mT C) p) (cB_le C) (fun p hp i hi => pOK_le (pOK_mono hp (by omega)) i hi) pc1 pc3 ((eOK q).mp q1) (fun y hy => by
    have := q3 y ((eOK y).mpr hy)
    rw [eV y hy, eV q ((eOK q).mp q1)] at this
    exact this)
  -- carried out
  have hu : pl_u s = s_tr z 0 S := by
    unfold pl_u
    rw [← eS, epd, eA, ← ez]
  obtain ⟨u, eu⟩ : ∃ u, u = pl_u s := ⟨_, rfl⟩
  have hk9 := s_tr_keep z 0 S
  rw [← hu, ← eu] at hk9
  have husm : s_sm u s := (s_sm.kp hk9).tr hSsm
  rw [hQ, ← hu, ← eu] at q2
  have hUj : ∀ j, j ≠ 70 → j ≠ 71 → j ≠ 72 → j ≠ 73 → U j = c j := fun j w1 w2 w3 w4 => (kU j w3 w4).trans (hCj j w1 w2 w3)
  have hUi : Inv U := inv_k h (kU.inv p2) hUj
  have U70 : U 70 = C 70 := kU 70 (by decide) (by decide)
  have fin := co_loop (z := z) (Q := Cst s c u U pc) (co_step (s := s) (u := u) (U := U) (p := pc) h ez hUj (fun b hb hb0 => ⟨by rw [U70]; exact p4 b hb hb0, by rw [hk9.1 34 _ (by decide) (by decide) (by decide)]; exact hS34 b hb hb0⟩) (by rw [k7_Y kU, k7_N kU, ← eTC]; exact pc1) (fun i hi => tr_n (cB_le C) (by omega) (pOK_le (pOK_mono pc1 (by omega)) i (by omega)) pc2) (fun i hi => by rw [q2 i hi, same i (by omega)]) h5) 5 0 (U, 0) (by omega) (by omega) ⟨fun _ _ _ _ _ _ => rfl, hUi, Lk_sm k husm (fun j hj => hUj j (by omega) (by omega) (by omega) (by omega)), fun b _ => ⟨congrFun (hUj 24 (by decide) (by decide) (by decide) (by decide)) b, congrFun (hUj 25 (by decide) (by decide) (by decide) (by decide)) b⟩, fun b _ _ w => absurd w (Nat.not_lt_zero _), fun b _ w _ => (congrFun (hUj 24 (by decide) (by decide) (by decide) (by decide)) b).trans w, rfl⟩
  have ecp : c_pl c = coR z 5 0 (U, 0) := by
    unfold c_pl c_rest
    rw [← eC, p3, ix_nI (by omega), ← eU]
  have esp : sp_plan s = (pl_f u z, nI (ct (fun i => ¬ u 37 i = -1) z)) := by
    unfold sp_plan
    rw [← eu, epd, eA, ← ez]
  unfold cp_plan
  rw [ecp, esp]
  obtain ⟨f1, f2, f3, f4, f5, f6, f7⟩ := fin
  exact ⟨congrArg nI f7, f2, f3⟩
