theorem mvl_inv : ∀ (m : Nat) (u : mS), m_inv u → mv_J u → m_inv (mv_l m u) ∧ mA (mv_l m u) = mA u
  | 0, u, h, _ => ⟨h, rfl⟩
  | m + 1, u, h, hJ => by
    show m_inv (match mv_p u (mA u) with | none => u | some a => mv_l m (mv_1 u a)) ∧ mA (match mv_p u (mA u) with | none => u | some a => mv_l m (mv_1 u a)) = mA u
    cases e : mv_p u (mA u) with
    | none => exact ⟨h, rfl⟩
    | some a =>
      have hl := mv_p_lt u (mA u) a e
      have ok := mv_1_ok h hJ hl.1 hl.2
      have ih := mvl_inv m (mv_1 u a) ok.1 ok.2.1
      exact ⟨ih.1, ih.2.trans ok.2.2.1⟩
theorem mvs_inv {s : mS} (h : m_inv s) : m_inv (s_mvs s) ∧ mA (s_mvs s) = mA s := by
  have hs := mv_d_sm s (mA s)
  have hJ : mv_J (mv_d s (mA s)) := fun b hb q => by
    rw [sm_A hs] at hb
    rw [mv_d_at s _ b hb] at q
    rw [hs 24 (by decide) (by decide)]
    exact Classical.not_not.mp (fun z => b1_0.mp q (Or.inl z))
  have := mvl_inv (mA s + 1) (mv_d s (mA s)) (sm_inv hs h) hJ
  exact ⟨this.1, this.2.trans (sm_A hs)⟩
noncomputable def ls_l (s : mS) : Nat → mS
  | 0 => s
  | a + 1 => cif (s 24 a = 1 ∧ s 31 a < s 11 0) (m_set (ls_l s a) 24 a 5) (ls_l s a)
theorem ls_l_o (s : mS) {j : Nat} (hj : j ≠ 24) : ∀ i, ls_l s i j = s j
  | 0 => rfl
  | i + 1 => by
    show (cif _ _ _ : mS) j = _
    by_cases z : s 24 i = 1 ∧ s 31 i < s 11 0
    · rw [cif_t z, m_set_ne _ _ _ hj]; exact ls_l_o s hj i
    · rw [cif_f z]; exact ls_l_o s hj i
theorem ls_l_24 (s : mS) : ∀ i b, i ≤ b → ls_l s i 24 b = s 24 b
  | 0, b, _ => rfl
  | i + 1, b, h => by
    show (cif _ _ _ : mS) 24 b = _
    by_cases z : s 24 i = 1 ∧ s 31 i < s 11 0
    · rw [cif_t z]; simp only [m_set]; rw [if_neg (by omega)]; exact ls_l_24 s i b (by omega)
    · rw [cif_f z]; exact ls_l_24 s i b (by omega)
theorem ls_l_inv {s : mS} (h : m_inv s) : ∀ i, m_inv (ls_l s i)
  | 0 => h
  | i + 1 => by
    show m_inv (cif _ _ _)
    by_cases z : s 24 i = 1 ∧ s 31 i < s 11 0
    · rw [cif_t z]; exact m_inv_st (ls_l_inv h i) (by decide) (by decide)
    · rw [cif_f z]; exact ls_l_inv h i
theorem inv_11 {s : mS} {v : Int32} (h : m_inv s) : m_inv (m_set s 11 0 v) := h
noncomputable def s_day (s : mS) : mS := s_mvs (ls_l (m_set s 11 0 (s 11 0 + 1)) (mA s))
noncomputable def s_dys (s : mS) : Nat → mS
  | 0 => s
  | i + 1 => s_day (s_dys s i)
theorem ls_l_A (s : mS) (i : Nat) : mA (ls_l s i) = mA s := by unfold mA; rw [ls_l_o s (by decide) i]
theorem day_inv {s : mS} (h : m_inv s) : m_inv (s_day s) ∧ mA (s_day s) = mA s := by
  have := mvs_inv (ls_l_inv (inv_11 (v := s 11 0 + 1) h) (mA s))
  exact ⟨this.1, this.2.trans (ls_l_A _ _)⟩
theorem dys_inv {s : mS} (h : m_inv s) : ∀ i, m_inv (s_dys s i) ∧ mA (s_dys s i) = mA s
  | 0 => ⟨h, rfl⟩
  | i + 1 => by
    have ih := dys_inv h i
    have := day_inv ih.1
    exact ⟨this.1, this.2.trans ih.2⟩
noncomputable def sp_days (s : mS) (v : Int32) : mS × Int32 := cif (wi v 1 60 ∧ s 11 0 + v ≤ 5000) (s_dys s (ix v), s_dys s (ix v) 11 0) (s, -1)
theorem wi_n {v : Int32} {lo hi : Int32} {M9 : Nat} (h : wi v lo hi) (hl : 0 ≤ lo) (hm : hi = nI M9) (hM : M9 < 2 ^ 31) : ∃ j, v = nI j ∧ j ≤ M9 := by
  obtain ⟨j, hj, rfl⟩ := nI_of (x := v) (fun q => absurd (Int32.lt_of_lt_of_le q (hl)) (Int32.not_lt.mpr h.1))
  refine ⟨j, rfl, ?_⟩
  have := h.2
  rw [hm] at this
  exact (nI_leI hj hM).mp this

set_option maxHeartbeats 4000000 in
set_option maxRecDepth 100000 in
theorem c9_days {g : gT} {nq_ : Nat} {s : mS} {r : mH} (v : Int32) (hI : m_inv (m_set s 0 0 0)) : M g 5 0 0 kX9_days [.ref 24, .int v] nq_ (hm s r) (m_S (.int (sp_days (m_set s 0 0 0) v).2) nq_ (sp_days (m_set s 0 0 0) v).1 r) := by
  refine M_of_G (by decide +kernel) (Nat.le_of_ble_eq_true rfl) ?_
  refine G_aload_n dX9_days_0 rfl rfl ?_
  refine G_iconst (v := 0) dX9_days_1 rfl ?_
  refine GM_put dX9_days_2 fp_X9_97 ms_0 ?_
  generalize e0 : m_set s 0 0 0 = s0 at hI ⊢
  obtain ⟨hK, hT, hB, hP9, hA, hkf, haf, hbf⟩ := id hI
  refine G_iload_n dX9_days_5 rfl rfl ?_
  refine G_iconst (v := 1) dX9_days_6 rfl ?_
  refine G_bipush (v := 60) dX9_days_7 rfl ?_
  refine GM_calls (c9_within _ _ _) dX9_days_9 (mc_X9_100 rfl) tw_1021 rfl rfl (Nat.le_of_ble_eq_true rfl) (Nat.le_of_ble_eq_true rfl) ?_
  rintro _ n9_ _ ⟨rfl, e9_, rfl⟩
  obtain rfl := e9_.symm
  refine G_if_eq (tgt := 27) dX9_days_12 (by decide) (fun c12 => ?_) (fun c12 => ?_)
  · skip
    refine G_iconst (v := -1) dX9_days_27 rfl ?_
    refine G_iret dX9_days_28 rfl ?_
    first | exact m_close (cif_f (fun q => b1_0.mp c12 q.1)) | exact m_close (cif_f (fun q => c24 q.2))
  · skip
    obtain ⟨j, rfl, hj⟩ := wi_n (M9 := 60) (b1_1 c12) (by decide) rfl (by decide)
    have ej : ix (nI j) = j := nI_clamp (by omega)
    refine G_aload_n dX9_days_15 rfl rfl ?_
    refine GM_get dX9_days_16 fg_X9_164 ms_11 ?_
    refine G_iload_n dX9_days_19 rfl rfl ?_
    refine G_iadd dX9_days_20 ?_
    refine G_sipush (v := 5000) dX9_days_21 rfl ?_
    refine G_icmp_le (tgt := 29) dX9_days_24 (by decide) (fun c24 => ?_) (fun c24 => ?_)
    · skip
      refine G_iconst (v := 0) dX9_days_29 rfl ?_
      refine G_istore_n dX9_days_30 rfl (Nat.le_of_ble_eq_true rfl) rfl ?_
      have inner : ∀ u i9, m_inv u → (∀ i, i = mA u → G g 5 0 0 kX9_days 92 [.ref 24, .int (nI j), .int (nI i9), .int (nI i)] [] nq_ (hm (ls_l u i) r) (m_S (.int (sp_days s0 (nI j)).2) nq_ (sp_days s0 (nI j)).1 r)) → ∀ m i, i + m = mA u → G g 5 0 0 kX9_days 48 [.ref 24, .int (nI j), .int (nI i9), .int (nI i)] [] nq_ (hm (ls_l u i) r) (m_S (.int (sp_days s0 (nI j)).2) nq_ (sp_days s0 (nI j)).1 r) := by
        intro u i9 hIu K9
        have hAu := hIu.2.2.2.2.1.2
        intro m
        induction m with
        | zero =>
          intro i hi0 
          rw [Nat.add_zero] at hi0
          refine G_iload_n dX9_days_48 rfl rfl ?_
          refine G_aload_n dX9_days_49 rfl rfl ?_
          refine GM_get dX9_days_50 fg_X9_171 ms_23 ?_
          refine G_top (w := .int (nI (mA u))) (congrArg Value.int ((congrFun (ls_l_o u (by decide) i) 0).trans hIu.2.2.2.2.1.1)) ?_
          refine G_icmp_ge (tgt := 92) dX9_days_53 (by decide) (fun c53 => ?_) (fun c53 => ?_)
          · skip
            skip
            exact K9 i hi0
          · skip
            exact absurd (nI_le (Nat.le_of_eq hi0.symm) (by omega)) c53
        | succ m ih =>
          intro i hi0 
          refine G_iload_n dX9_days_48 rfl rfl ?_
          refine G_aload_n dX9_days_49 rfl rfl ?_
          refine GM_get dX9_days_50 fg_X9_171 ms_23 ?_
          refine G_top (w := .int (nI (mA u))) (congrArg Value.int ((congrFun (ls_l_o u (by decide) i) 0).trans hIu.2.2.2.2.1.1)) ?_
          refine G_icmp_ge (tgt := 92) dX9_days_53 (by decide) (fun c53 => ?_) (fun c53 => ?_)
          · skip
            exact absurd c53 (by rw [nI_leI (by omega) (by omega)]; omega)
          · skip
            refine G_aload_n dX9_days_56 rfl rfl ?_
            refine GM_ref dX9_days_57 fg_X9_45 (fun _ => rfl) ?_
            refine G_iload_n dX9_days_60 rfl rfl ?_
            refine GM_ld dX9_days_61 mt_24 (by decide) ⟨rfl, by omega⟩ ?_
            refine G_top (w := .int (u 24 i)) (congrArg Value.int (ls_l_24 u i i (Nat.le_refl i))) ?_
            refine G_iconst (v := 1) dX9_days_62 rfl ?_
            refine G_icmp_ne (tgt := 86) dX9_days_63 (by decide) (fun c63 => ?_) (fun c63 => ?_)
            · skip
              have eL : ls_l u (i + 1) = ls_l u i := cif_f (fun q => c63 q.1)
              refine G_iinc (b := nI (i + 1)) dX9_days_86 rfl (nI_1 i) rfl ?_
              refine G_goto (tgt := 48) dX9_days_89 (by decide) ?_
              exact G_hp (s' := ls_l u (i + 1)) eL.symm (ih (i + 1) (by omega))
            · skip
              refine G_aload_n dX9_days_66 rfl rfl ?_
              refine GM_ref dX9_days_67 fg_X9_66 (fun _ => rfl) ?_
              refine G_iload_n dX9_days_70 rfl rfl ?_
              refine GM_ld dX9_days_71 mt_31 (by decide) ⟨rfl, by omega⟩ ?_
              refine G_top (w := .int (u 31 i)) (congrArg Value.int (congrFun (ls_l_o u (by decide) i) i)) ?_
              refine G_aload_n dX9_days_72 rfl rfl ?_
              refine GM_get dX9_days_73 fg_X9_164 ms_11 ?_
              refine G_top (w := .int (u 11 0)) (congrArg Value.int (congrFun (ls_l_o u (by decide) i) 0)) ?_
              refine G_icmp_ge (tgt := 86) dX9_days_76 (by decide) (fun c76 => ?_) (fun c76 => ?_)
              · skip
                have eL : ls_l u (i + 1) = ls_l u i := cif_f (fun q => absurd q.2 (Int32.not_lt.mpr c76))
                refine G_iinc (b := nI (i + 1)) dX9_days_86 rfl (nI_1 i) rfl ?_
                refine G_goto (tgt := 48) dX9_days_89 (by decide) ?_
                exact G_hp (s' := ls_l u (i + 1)) eL.symm (ih (i + 1) (by omega))
              · skip
                have eL : ls_l u (i + 1) = m_set (ls_l u i) 24 i 5 := cif_t ⟨c63, Int32.not_le.mp c76⟩
                refine G_aload_n dX9_days_79 rfl rfl ?_
                refine GM_ref dX9_days_80 fg_X9_45 (fun _ => rfl) ?_
                refine G_iload_n dX9_days_83 rfl rfl ?_
                refine G_iconst (v := 5) dX9_days_84 rfl ?_
                refine GM_st dX9_days_85 mt_24 ma_24 (by decide) ⟨rfl, by omega⟩ ?_
                refine G_iinc (b := nI (i + 1)) dX9_days_86 rfl (nI_1 i) rfl ?_
                refine G_goto (tgt := 48) dX9_days_89 (by decide) ?_
                exact G_hp (s' := ls_l u (i + 1)) eL.symm (ih (i + 1) (by omega))
      have loop : ∀ m i, i + m = j → ∀ z3 : Value, z3.category = 1 → G g 5 0 0 kX9_days 31 [.ref 24, .int (nI j), .int (nI i), z3] [] nq_ (hm (s_dys s0 i) r) (m_S (.int (sp_days s0 (nI j)).2) nq_ (sp_days s0 (nI j)).1 r) := by
        intro m
        induction m with
        | zero =>
          intro i hi0 z3 hz3
          rw [Nat.add_zero] at hi0
          refine G_iload_n dX9_days_31 rfl rfl ?_
          refine G_iload_n dX9_days_32 rfl rfl ?_
          refine G_icmp_ge (tgt := 102) dX9_days_33 (by decide) (fun c33 => ?_) (fun c33 => ?_)
          · skip
            skip
            refine G_aload_n dX9_days_102 rfl rfl ?_
            refine GM_get dX9_days_103 fg_X9_164 ms_11 ?_
            refine G_iret dX9_days_106 rfl ?_
            refine m_close ?_; rw [sp_days, cif_t ⟨b1_1 c12, c24⟩, ej, hi0]
          · skip
            exact absurd (nI_le (Nat.le_of_eq hi0.symm) (by omega)) c33
        | succ m ih =>
          intro i hi0 z3 hz3
          refine G_iload_n dX9_days_31 rfl rfl ?_
          refine G_iload_n dX9_days_32 rfl rfl ?_
          refine G_icmp_ge (tgt := 102) dX9_days_33 (by decide) (fun c33 => ?_) (fun c33 => ?_)
          · skip
            exact absurd c33 (by rw [nI_leI (by omega) (by omega)]; omega)
          · skip
            refine G_aload_n dX9_days_36 rfl rfl ?_
            refine G_dup dX9_days_37 rfl ?_
            refine GM_get dX9_days_38 fg_X9_164 ms_11 ?_
            refine G_iconst (v := 1) dX9_days_41 rfl ?_
            refine G_iadd dX9_days_42 ?_
            refine GM_put dX9_days_43 fp_X9_164 ms_11 ?_
            refine G_iconst (v := 0) dX9_days_46 rfl ?_
            refine G_istore_n dX9_days_47 rfl (Nat.le_of_ble_eq_true rfl) rfl ?_
            refine inner (m_set (s_dys s0 i) 11 0 ((s_dys s0 i) 11 0 + 1)) i (inv_11 (dys_inv hI i).1) (fun a9 ha9 => ?_) (mA (m_set (s_dys s0 i) 11 0 ((s_dys s0 i) 11 0 + 1))) 0 (by omega)
            refine G_aload_n dX9_days_92 rfl rfl ?_
            refine GM_call (c9_moves (s := ls_l (m_set (s_dys s0 i) 11 0 ((s_dys s0 i) 11 0 + 1)) a9) (ls_l_inv (inv_11 (dys_inv hI i).1) a9)) dX9_days_93 (mc_X9_211 rfl) tw_1160 tw_48 rfl rfl rfl (Nat.le_of_ble_eq_true rfl) (Nat.le_of_ble_eq_true rfl) ?_
            rintro _ n9_ _ ⟨rfl, e9_, rfl⟩
            obtain rfl := e9_.symm
            refine G_hp (s' := s_dys s0 (i + 1)) (by rw [ha9]; rfl) ?_
            refine G_iinc (b := nI (i + 1)) dX9_days_96 rfl (nI_1 i) rfl ?_
            refine G_goto (tgt := 31) dX9_days_99 (by decide) ?_
            exact ih (i + 1) (by omega) _ rfl
      exact loop j 0 (by omega) _ rfl
    · skip
      refine G_iconst (v := -1) dX9_days_27 rfl ?_
      refine G_iret dX9_days_28 rfl ?_
      first | exact m_close (cif_f (fun q => b1_0.mp c12 q.1)) | exact m_close (cif_f (fun q => c24 q.2))
def by_ok (s : mS) (k a : Nat) : Prop := s 24 a = 2 ∧ s_fits s k a
noncomputable def by_n (s : mS) (k a : Nat) : Nat := ct (by_ok s k) a
noncomputable def by_i (s : mS) (a : Nat) : Nat → mS → mS
  | 0, u => m_set u 41 0 (nI a)
  | p + 1, u => cif (s 31 a < s 31 (ix (u 41 p))) (by_i s a p (m_set u 41 (p + 1) (u 41 p))) (m_set u 41 (p + 1) (nI a))
noncomputable def by_o (s : mS) (k : Nat) : Nat → mS
  | 0 => s
  | a + 1 => cif (by_ok s k a) (by_i s a (by_n s k a) (by_o s k a)) (by_o s k a)
def o_ok (s : mS) (n : Nat) (u : mS) : Prop := s_sm u s ∧ ∀ p, p < n → u 41 p = nI (ix (u 41 p)) ∧ ix (u 41 p) < mA s
theorem by_i_ok (s : mS) {a : Nat} (ha : a < mA s) (hA : mA s ≤ 120) : ∀ p u, o_ok s p u → o_ok s (p + 1) (by_i s a p u) ∧ ∀ q, p < q → by_i s a p u 41 q = u 41 q
  | 0, u, h => by
    refine ⟨⟨h.1.st (Or.inr (by decide)), fun q hq => ?_⟩, fun q hq => by show m_set _ _ _ _ _ _ = _; simp only [m_set]; rw [if_neg (by omega)]⟩
    have e : q = 0 := by omega
    subst e
    show m_set _ _ _ _ _ _ = nI (ix (m_set _ _ _ _ _ _)) ∧ ix (m_set _ _ _ _ _ _) < _
    rw [m_set_at, ixn (by omega)]
    exact ⟨rfl, ha⟩
  | p + 1, u, h => by
    show o_ok s (p + 2) (cif _ _ _) ∧ ∀ q, p + 1 < q → (cif _ _ _ : mS) 41 q = _
    have hp := h.2 p (by omega)
    by_cases z : s 31 a < s 31 (ix (u 41 p))
    · rw [cif_t z]
      have h2 : o_ok s p (m_set u 41 (p + 1) (u 41 p)) := ⟨h.1.st (Or.inr (by decide)), fun q hq => by
        have e : m_set u 41 (p + 1) (u 41 p) 41 q = u 41 q := by simp only [m_set]; rw [if_neg (by omega)]
        rw [e]; exact h.2 q (by omega)⟩
      obtain ⟨⟨i1, i2⟩, i3⟩ := by_i_ok s ha hA p _ h2
      refine ⟨⟨i1, fun q hq => ?_⟩, fun q hq => ?_⟩
      · by_cases e : q = p + 1
        · subst e
          rw [i3 (p + 1) (by omega), m_set_at]
          exact hp
        · exact i2 q (by omega)
      · rw [i3 q (by omega)]
        simp only [m_set]; rw [if_neg (by omega)]
    · rw [cif_f z]
      refine ⟨⟨h.1.st (Or.inr (by decide)), fun q hq => ?_⟩, fun q hq => by simp only [m_set]; rw [if_neg (by omega)]⟩
      by_cases e : q = p + 1
      · subst e
        rw [m_set_at, ixn (by omega)]
        exact ⟨rfl, ha⟩
      · have e2 : m_set u 41 (p + 1) (nI a) 41 q = u 41 q := by simp only [m_set]; rw [if_neg (fun z => e z.2)]
        rw [e2]; exact h.2 q (by omega)
theorem by_o_ok (s : mS) (k : Nat) (hA : mA s ≤ 120) : ∀ a, a ≤ mA s → o_ok s (by_n s k a) (by_o s k a)
  | 0, _ => ⟨s_sm.rf, fun p hp => absurd hp (Nat.not_lt_zero p)⟩
  | a + 1, h => by
    have ih := by_o_ok s k hA a (by omega)
    show o_ok s (ct _ (a + 1)) (cif _ _ _)
    by_cases z : by_ok s k a
    · rw [cif_t z, ct_t z]; exact (by_i_ok s (by omega) hA _ _ ih).1
    · rw [cif_f z, ct_f z]; exact ih
noncomputable def dp_j (s u : mS) (k : Nat) (w : mS) (i : Nat) : Nat → mS
  | 0 => m_set w 42 i 1
  | j + 1 => cif (s 31 (ix (u 41 j)) + s 2 k < s 30 (ix (u 41 i)) ∧ dp_j s u k w i j 42 i < dp_j s u k w i j 42 j + 1) (m_set (dp_j s u k w i j) 42 i (dp_j s u k w i j 42 j + 1)) (dp_j s u k w i j)
noncomputable def dp (s u : mS) (k : Nat) : Nat → mS
  | 0 => u
  | i + 1 => dp_j s u k (dp s u k i) i i
noncomputable def dp_m (s u : mS) (k : Nat) : Nat → Int32
  | 0 => 0
  | i + 1 => cif (dp_m s u k i < dp s u k (i + 1) 42 i) (dp s u k (i + 1) 42 i) (dp_m s u k i)
theorem dp_j_o (s u : mS) (k : Nat) (w : mS) (i : Nat) {b : Nat} (hb : b ≠ 42) : ∀ j, dp_j s u k w i j b = w b
  | 0 => m_set_ne _ _ _ hb
  | j + 1 => by
    show (cif _ _ _ : mS) b = _
    by_cases z : s 31 (ix (u 41 j)) + s 2 k < s 30 (ix (u 41 i)) ∧ dp_j s u k w i j 42 i < dp_j s u k w i j 42 j + 1
    · rw [cif_t z, m_set_ne _ _ _ hb]; exact dp_j_o s u k w i hb j
    · rw [cif_f z]; exact dp_j_o s u k w i hb j
theorem dp_o (s u : mS) (k : Nat) {b : Nat} (hb : b ≠ 42) : ∀ i, dp s u k i b = u b
  | 0 => rfl
  | i + 1 => (dp_j_o s u k _ i hb i).trans (dp_o s u k hb i)
noncomputable def sp_buy (s : mS) (k : Int32) : mS × Int32 := cif (wi k 0 (s 1 0 - 1)) (dp s (by_o s (ix k) (mA s)) (ix k) (by_n s (ix k) (mA s)), dp_m s (by_o s (ix k) (mA s)) (ix k) (by_n s (ix k) (mA s))) (s, -1)

set_option maxHeartbeats 4000000 in
set_option maxRecDepth 100000 in
theorem c9_buy {g : gT} {nq_ : Nat} {s : mS} {r : mH} (v : Int32) (hI : m_inv (m_set s 0 0 0)) : M g 2 0 0 kX9_buy [.ref 24, .int v] nq_ (hm s r) (m_S (.int (sp_buy (m_set s 0 0 0) v).2) nq_ (sp_buy (m_set s 0 0 0) v).1 r) := by
  refine M_of_G (by decide +kernel) (Nat.le_of_ble_eq_true rfl) ?_
  refine G_aload_n dX9_buy_0 rfl rfl ?_
  refine G_iconst (v := 0) dX9_buy_1 rfl ?_
  refine GM_put dX9_buy_2 fp_X9_97 ms_0 ?_
  generalize e0 : m_set s 0 0 0 = s0 at hI ⊢
  obtain ⟨hK, hT, hB, hP9, hA, hkf, haf, hbf⟩ := id hI
  refine G_aload_n dX9_buy_5 rfl rfl ?_
  refine G_iload_n dX9_buy_6 rfl rfl ?_
  refine GM_call (c9_isKind _) dX9_buy_7 (mc_X9_113 rfl) tw_1029 tw_30 rfl rfl rfl (Nat.le_of_ble_eq_true rfl) (Nat.le_of_ble_eq_true rfl) ?_
  rintro _ n9_ _ ⟨rfl, e9_, rfl⟩
  obtain rfl := e9_.symm
  refine G_if_ne (tgt := 15) dX9_buy_10 (by decide) (fun c10 => ?_) (fun c10 => ?_)
  · skip
    obtain ⟨j, hj, rfl⟩ := m_ixe hK (by decide) (b1_1 c10)
    have ej : ix (nI j) = j := nI_clamp (by omega)
    have hO := by_o_ok s0 j hA.2 (mA s0) (Nat.le_refl _)
    have hNN : by_n s0 j (mA s0) ≤ mA s0 := ct_le _ _
    refine G_iconst (v := 0) dX9_buy_15 rfl ?_
    refine G_istore_n dX9_buy_16 rfl (Nat.le_of_ble_eq_true rfl) rfl ?_
    refine G_iconst (v := 0) dX9_buy_17 rfl ?_
    refine G_istore_n dX9_buy_18 rfl (Nat.le_of_ble_eq_true rfl) rfl ?_
    have ins : ∀ a9 n9 z5 W9, a9 < mA s0 → n9 < 120 → Value.category z5 = 1 → (∀ z4, Value.category z4 = 1 → G g 2 0 0 kX9_buy 113 [.ref 24, .int (nI j), .int (nI (n9 + 1)), .int (nI a9), z4, z5] [] nq_ (hm W9 r) (m_S (.int (sp_buy s0 (nI j)).2) nq_ (sp_buy s0 (nI j)).1 r)) →
        ∀ p9 u, p9 ≤ n9 → o_ok s0 p9 u → W9 = by_i s0 a9 p9 u → G g 2 0 0 kX9_buy 52 [.ref 24, .int (nI j), .int (nI n9), .int (nI a9), .int (nI p9), z5] [] nq_ (hm u r) (m_S (.int (sp_buy s0 (nI j)).2) nq_ (sp_buy s0 (nI j)).1 r) := by
      intro a9 n9 z5 W9 ha9 hn9 hz5 K9 p9
      induction p9 with
      | zero =>
        intro u hpn hu heq
        refine G_iload dX9_buy_52 rfl ?_
        refine G_if_le (tgt := 102) dX9_buy_54 (by decide) (fun c54 => ?_) (fun c54 => ?_)
        · skip
          refine G_aload_n dX9_buy_102 rfl rfl ?_
          refine GM_ref dX9_buy_103 fg_X9_91 (fun _ => rfl) ?_
          refine G_iload dX9_buy_106 rfl ?_
          refine G_iload_n dX9_buy_108 rfl rfl ?_
          refine GM_st dX9_buy_109 mt_41 ma_41 (by decide) ⟨rfl, by omega⟩ ?_
          refine G_iinc (b := nI (n9 + 1)) dX9_buy_110 rfl (nI_1 n9) rfl ?_
          exact G_hp (s' := W9) heq.symm (K9 _ rfl)
        · skip
          exact absurd (by decide) c54
      | succ p9 ihp =>
        intro u hpn hu heq
        refine G_iload dX9_buy_52 rfl ?_
        refine G_if_le (tgt := 102) dX9_buy_54 (by decide) (fun c54 => ?_) (fun c54 => ?_)
        · skip
          exact absurd c54 (nI_nle (by omega) (by omega))
        · skip
          refine G_aload_n dX9_buy_57 rfl rfl ?_
          refine GM_ref dX9_buy_58 fg_X9_66 (fun _ => rfl) ?_
          refine G_aload_n dX9_buy_61 rfl rfl ?_
          refine GM_ref dX9_buy_62 fg_X9_91 (fun _ => rfl) ?_
          refine G_iload dX9_buy_65 rfl ?_
          refine G_iconst (v := 1) dX9_buy_67 rfl ?_
          refine G_isub dX9_buy_68 ?_
          refine G_top (w := .int (nI p9)) (congrArg Value.int (nI_pred p9)) ?_
          refine GM_ld dX9_buy_69 mt_41 (by decide) ⟨rfl, by omega⟩ ?_
          refine GM_ld dX9_buy_70 mt_31 (by decide) ⟨(hu.2 p9 (by omega)).1, by have := (hu.2 p9 (by omega)).2; omega⟩ ?_
          refine G_top (w := .int (s0 31 (ix (u 41 p9)))) (congrArg Value.int (congrFun (hu.1 31 (by decide) (by decide)) _)) ?_
          refine G_aload_n dX9_buy_71 rfl rfl ?_
          refine GM_ref dX9_buy_72 fg_X9_66 (fun _ => rfl) ?_
          refine G_iload_n dX9_buy_75 rfl rfl ?_
          refine GM_ld dX9_buy_76 mt_31 (by decide) ⟨rfl, by omega⟩ ?_
          refine G_top (w := .int (s0 31 a9)) (congrArg Value.int (congrFun (hu.1 31 (by decide) (by decide)) a9)) ?_
          refine G_icmp_le (tgt := 102) dX9_buy_77 (by decide) (fun c77 => ?_) (fun c77 => ?_)
          · skip
            refine G_aload_n dX9_buy_102 rfl rfl ?_
            refine GM_ref dX9_buy_103 fg_X9_91 (fun _ => rfl) ?_
            refine G_iload dX9_buy_106 rfl ?_
            refine G_iload_n dX9_buy_108 rfl rfl ?_
            refine GM_st dX9_buy_109 mt_41 ma_41 (by decide) ⟨rfl, by omega⟩ ?_
            refine G_iinc (b := nI (n9 + 1)) dX9_buy_110 rfl (nI_1 n9) rfl ?_
            exact G_hp (s' := W9) (heq.trans (cif_f (Int32.not_lt.mpr c77))).symm (K9 _ rfl)
          · skip
            refine G_aload_n dX9_buy_80 rfl rfl ?_
            refine GM_ref dX9_buy_81 fg_X9_91 (fun _ => rfl) ?_
            refine G_iload dX9_buy_84 rfl ?_
            refine G_aload_n dX9_buy_86 rfl rfl ?_
            refine GM_ref dX9_buy_87 fg_X9_91 (fun _ => rfl) ?_
            refine G_iload dX9_buy_90 rfl ?_
            refine G_iconst (v := 1) dX9_buy_92 rfl ?_
            refine G_isub dX9_buy_93 ?_
            refine G_top (w := .int (nI p9)) (congrArg Value.int (nI_pred p9)) ?_
            refine GM_ld dX9_buy_94 mt_41 (by decide) ⟨rfl, by omega⟩ ?_
            refine GM_st dX9_buy_95 mt_41 ma_41 (by decide) ⟨rfl, by omega⟩ ?_
            refine G_iinc (b := nI p9) dX9_buy_96 rfl (pk_m1 p9) rfl ?_
            refine G_goto (tgt := 52) dX9_buy_99 (by decide) ?_
            exact ihp (m_set u 41 (p9 + 1) (u 41 p9)) (by omega) ⟨hu.1.st (Or.inr (by decide)), fun q hq => by have e : m_set u 41 (p9 + 1) (u 41 p9) 41 q = u 41 q := (by simp only [m_set]; rw [if_neg (by omega)]); rw [e]; exact hu.2 q (by omega)⟩ (heq.trans (cif_t (Int32.not_le.mp c77)))
    have jl : ∀ i9 m9, i9 < by_n s0 j (mA s0) → (∀ i, i = i9 → G g 2 0 0 kX9_buy 223 [.ref 24, .int (nI j), .int (nI (by_n s0 j (mA s0))), .int m9, .int (nI i9), .int (nI i)] [] nq_ (hm (dp_j s0 (by_o s0 j (mA s0)) j (dp s0 (by_o s0 j (mA s0)) j i9) i9 i) r) (m_S (.int (sp_buy s0 (nI j)).2) nq_ (sp_buy s0 (nI j)).1 r)) → ∀ m i, i + m = i9 → G g 2 0 0 kX9_buy 141 [.ref 24, .int (nI j), .int (nI (by_n s0 j (mA s0))), .int m9, .int (nI i9), .int (nI i)] [] nq_ (hm (dp_j s0 (by_o s0 j (mA s0)) j (dp s0 (by_o s0 j (mA s0)) j i9) i9 i) r) (m_S (.int (sp_buy s0 (nI j)).2) nq_ (sp_buy s0 (nI j)).1 r) := by
      intro i9 m9 hi9 K9
      intro m
      induction m with
      | zero =>
        intro i hi0 
        rw [Nat.add_zero] at hi0
        refine G_iload dX9_buy_141 rfl ?_
        refine G_iload dX9_buy_143 rfl ?_
        refine G_icmp_ge (tgt := 223) dX9_buy_145 (by decide) (fun c145 => ?_) (fun c145 => ?_)
        · skip
          skip
          exact K9 i hi0
        · skip
          exact absurd (nI_le (Nat.le_of_eq hi0.symm) (by omega)) c145
      | succ m ih =>
        intro i hi0 
        refine G_iload dX9_buy_141 rfl ?_
        refine G_iload dX9_buy_143 rfl ?_
        refine G_icmp_ge (tgt := 223) dX9_buy_145 (by decide) (fun c145 => ?_) (fun c145 => ?_)
        · skip
          exact absurd c145 (by rw [nI_leI (by omega) (by omega)]; omega)
        · skip
          refine G_aload_n dX9_buy_148 rfl rfl ?_
          refine GM_ref dX9_buy_149 fg_X9_63 (fun _ => rfl) ?_
          refine G_aload_n dX9_buy_152 rfl rfl ?_
          refine GM_ref dX9_buy_153 fg_X9_91 (fun _ => rfl) ?_
          refine G_iload dX9_buy_156 rfl ?_
          refine GM_ld dX9_buy_158 mt_41 (by decide) ⟨rfl, by omega⟩ ?_
          refine G_top (w := .int (nI (ix ((by_o s0 j (mA s0)) 41 i9)))) (congrArg Value.int ((congrFun ((dp_j_o s0 (by_o s0 j (mA s0)) j _ i9 (by decide) i).trans (dp_o s0 (by_o s0 j (mA s0)) j (by decide) i9)) i9).trans (hO.2 i9 (by omega)).1)) ?_
          refine GM_ld dX9_buy_159 mt_30 (by decide) ⟨rfl, by have := (hO.2 i9 (by omega)).2; omega⟩ ?_
          refine G_top (w := .int (s0 30 (ix ((by_o s0 j (mA s0)) 41 i9)))) (congrArg Value.int ((congrFun ((dp_j_o s0 (by_o s0 j (mA s0)) j _ i9 (by decide) i).trans (dp_o s0 (by_o s0 j (mA s0)) j (by decide) i9)) _).trans (congrFun (hO.1 30 (by decide) (by decide)) _))) ?_
          refine G_aload_n dX9_buy_160 rfl rfl ?_
          refine GM_ref dX9_buy_161 fg_X9_66 (fun _ => rfl) ?_
          refine G_aload_n dX9_buy_164 rfl rfl ?_
          refine GM_ref dX9_buy_165 fg_X9_91 (fun _ => rfl) ?_
          refine G_iload dX9_buy_168 rfl ?_
          refine GM_ld dX9_buy_170 mt_41 (by decide) ⟨rfl, by omega⟩ ?_
          refine G_top (w := .int (nI (ix ((by_o s0 j (mA s0)) 41 i)))) (congrArg Value.int ((congrFun ((dp_j_o s0 (by_o s0 j (mA s0)) j _ i9 (by decide) i).trans (dp_o s0 (by_o s0 j (mA s0)) j (by decide) i9)) i).trans (hO.2 i (by omega)).1)) ?_
          refine GM_ld dX9_buy_171 mt_31 (by decide) ⟨rfl, by have := (hO.2 i (by omega)).2; omega⟩ ?_
          refine G_top (w := .int (s0 31 (ix ((by_o s0 j (mA s0)) 41 i)))) (congrArg Value.int ((congrFun ((dp_j_o s0 (by_o s0 j (mA s0)) j _ i9 (by decide) i).trans (dp_o s0 (by_o s0 j (mA s0)) j (by decide) i9)) _).trans (congrFun (hO.1 31 (by decide) (by decide)) _))) ?_
          refine G_aload_n dX9_buy_172 rfl rfl ?_
          refine GM_ref dX9_buy_173 fg_X9_7 (fun _ => rfl) ?_
          refine G_iload_n dX9_buy_176 rfl rfl ?_
          refine GM_ld dX9_buy_177 mt_2 (by decide) ⟨rfl, by omega⟩ ?_
          refine G_top (w := .int (s0 2 j)) (congrArg Value.int ((congrFun ((dp_j_o s0 (by_o s0 j (mA s0)) j _ i9 (by decide) i).trans (dp_o s0 (by_o s0 j (mA s0)) j (by decide) i9)) j).trans (congrFun (hO.1 2 (by decide) (by decide)) j))) ?_
          refine G_iadd dX9_buy_178 ?_
          refine G_icmp_le (tgt := 217) dX9_buy_179 (by decide) (fun c179 => ?_) (fun c179 => ?_)
          · skip
            have eJ : dp_j s0 (by_o s0 j (mA s0)) j (dp s0 (by_o s0 j (mA s0)) j i9) i9 (i + 1) = (dp_j s0 (by_o s0 j (mA s0)) j (dp s0 (by_o s0 j (mA s0)) j i9) i9 i) := cif_f (fun q => absurd q.1 (Int32.not_lt.mpr c179))
            refine G_iinc (b := nI (i + 1)) dX9_buy_217 rfl (nI_1 i) rfl ?_
            refine G_goto (tgt := 141) dX9_buy_220 (by decide) ?_
            exact G_hp (s' := dp_j s0 (by_o s0 j (mA s0)) j (dp s0 (by_o s0 j (mA s0)) j i9) i9 (i + 1)) eJ.symm (ih (i + 1) (by omega))
          · skip
            refine G_aload_n dX9_buy_182 rfl rfl ?_
            refine GM_ref dX9_buy_183 fg_X9_94 (fun _ => rfl) ?_
            refine G_iload dX9_buy_186 rfl ?_
            refine GM_ld dX9_buy_188 mt_42 (by decide) ⟨rfl, by omega⟩ ?_
            refine G_iconst (v := 1) dX9_buy_189 rfl ?_
            refine G_iadd dX9_buy_190 ?_
            refine G_aload_n dX9_buy_191 rfl rfl ?_
            refine GM_ref dX9_buy_192 fg_X9_94 (fun _ => rfl) ?_
            refine G_iload dX9_buy_195 rfl ?_
            refine GM_ld dX9_buy_197 mt_42 (by decide) ⟨rfl, by omega⟩ ?_
            refine G_icmp_le (tgt := 217) dX9_buy_198 (by decide) (fun c198 => ?_) (fun c198 => ?_)
            · skip
              have eJ : dp_j s0 (by_o s0 j (mA s0)) j (dp s0 (by_o s0 j (mA s0)) j i9) i9 (i + 1) = (dp_j s0 (by_o s0 j (mA s0)) j (dp s0 (by_o s0 j (mA s0)) j i9) i9 i) := cif_f (fun q => absurd q.2 (Int32.not_lt.mpr c198))
              refine G_iinc (b := nI (i + 1)) dX9_buy_217 rfl (nI_1 i) rfl ?_
              refine G_goto (tgt := 141) dX9_buy_220 (by decide) ?_
              exact G_hp (s' := dp_j s0 (by_o s0 j (mA s0)) j (dp s0 (by_o s0 j (mA s0)) j i9) i9 (i + 1)) eJ.symm (ih (i + 1) (by omega))
            · skip
              have eJ : dp_j s0 (by_o s0 j (mA s0)) j (dp s0 (by_o s0 j (mA s0)) j i9) i9 (i + 1) = m_set (dp_j s0 (by_o s0 j (mA s0)) j (dp s0 (by_o s0 j (mA s0)) j i9) i9 i) 42 i9 ((dp_j s0 (by_o s0 j (mA s0)) j (dp s0 (by_o s0 j (mA s0)) j i9) i9 i) 42 i + 1) := cif_t ⟨Int32.not_le.mp c179, Int32.not_le.mp c198⟩
              refine G_aload_n dX9_buy_201 rfl rfl ?_
              refine GM_ref dX9_buy_202 fg_X9_94 (fun _ => rfl) ?_
              refine G_iload dX9_buy_205 rfl ?_
              refine G_aload_n dX9_buy_207 rfl rfl ?_
              refine GM_ref dX9_buy_208 fg_X9_94 (fun _ => rfl) ?_
              refine G_iload dX9_buy_211 rfl ?_
              refine GM_ld dX9_buy_213 mt_42 (by decide) ⟨rfl, by omega⟩ ?_
              refine G_iconst (v := 1) dX9_buy_214 rfl ?_
              refine G_iadd dX9_buy_215 ?_
              refine GM_st dX9_buy_216 mt_42 ma_42 (by decide) ⟨rfl, by omega⟩ ?_
              refine G_iinc (b := nI (i + 1)) dX9_buy_217 rfl (nI_1 i) rfl ?_
              refine G_goto (tgt := 141) dX9_buy_220 (by decide) ?_
              exact G_hp (s' := dp_j s0 (by_o s0 j (mA s0)) j (dp s0 (by_o s0 j (mA s0)) j i9) i9 (i + 1)) eJ.symm (ih (i + 1) (by omega))
    have dpl : ∀ m i, i + m = by_n s0 j (mA s0) → ∀ z5 : Value, z5.category = 1 → G g 2 0 0 kX9_buy 124 [.ref 24, .int (nI j), .int (nI (by_n s0 j (mA s0))), .int (dp_m s0 (by_o s0 j (mA s0)) j i), .int (nI i), z5] [] nq_ (hm (dp s0 (by_o s0 j (mA s0)) j i) r) (m_S (.int (sp_buy s0 (nI j)).2) nq_ (sp_buy s0 (nI j)).1 r) := by
      intro m
      induction m with
      | zero =>
        intro i hi0 z5 hz5
        rw [Nat.add_zero] at hi0
        refine G_iload dX9_buy_124 rfl ?_
        refine G_iload_n dX9_buy_126 rfl rfl ?_
        refine G_icmp_ge (tgt := 252) dX9_buy_127 (by decide) (fun c127 => ?_) (fun c127 => ?_)
        · skip
          skip
          refine G_iload_n dX9_buy_252 rfl rfl ?_
          refine G_iret dX9_buy_253 rfl ?_
          refine m_close ?_; rw [sp_buy, ej, cif_t (b1_1 c10), hi0]
        · skip
          exact absurd (nI_le (Nat.le_of_eq hi0.symm) (by omega)) c127
      | succ m ih =>
        intro i hi0 z5 hz5
        refine G_iload dX9_buy_124 rfl ?_
        refine G_iload_n dX9_buy_126 rfl rfl ?_
        refine G_icmp_ge (tgt := 252) dX9_buy_127 (by decide) (fun c127 => ?_) (fun c127 => ?_)
        · skip
          exact absurd c127 (by rw [nI_leI (by omega) (by omega)]; omega)
        · skip
          refine G_aload_n dX9_buy_130 rfl rfl ?_
          refine GM_ref dX9_buy_131 fg_X9_94 (fun _ => rfl) ?_
          refine G_iload dX9_buy_134 rfl ?_
          refine G_iconst (v := 1) dX9_buy_136 rfl ?_
          refine GM_st dX9_buy_137 mt_42 ma_42 (by decide) ⟨rfl, by omega⟩ ?_
          refine G_iconst (v := 0) dX9_buy_138 rfl ?_
          refine G_istore dX9_buy_139 (Nat.le_of_ble_eq_true rfl) rfl ?_
          refine jl i (dp_m s0 (by_o s0 j (mA s0)) j i) (by omega) (fun q9 hq9 => ?_) i 0 (by omega)
          refine G_hp (s' := dp s0 (by_o s0 j (mA s0)) j (i + 1)) (by rw [hq9]; rfl) ?_
          refine G_aload_n dX9_buy_223 rfl rfl ?_
          refine GM_ref dX9_buy_224 fg_X9_94 (fun _ => rfl) ?_
          refine G_iload dX9_buy_227 rfl ?_
          refine GM_ld dX9_buy_229 mt_42 (by decide) ⟨rfl, by omega⟩ ?_
          refine G_iload_n dX9_buy_230 rfl rfl ?_
          refine G_icmp_le (tgt := 244) dX9_buy_231 (by decide) (fun c231 => ?_) (fun c231 => ?_)
          · skip
            refine G_iload_n dX9_buy_244 rfl rfl ?_
            refine G_top (w := .int (dp_m s0 (by_o s0 j (mA s0)) j (i + 1))) (congrArg Value.int (by first | exact (cif_t (Int32.not_le.mp c231)).symm | exact (cif_f (Int32.not_lt.mpr c231)).symm)) ?_
            refine G_istore_n dX9_buy_245 rfl (Nat.le_of_ble_eq_true rfl) rfl ?_
            refine G_iinc (b := nI (i + 1)) dX9_buy_246 rfl (nI_1 i) rfl ?_
            refine G_goto (tgt := 124) dX9_buy_249 (by decide) ?_
            exact ih (i + 1) (by omega) _ rfl
          · skip
            refine G_aload_n dX9_buy_234 rfl rfl ?_
            refine GM_ref dX9_buy_235 fg_X9_94 (fun _ => rfl) ?_
            refine G_iload dX9_buy_238 rfl ?_
            refine GM_ld dX9_buy_240 mt_42 (by decide) ⟨rfl, by omega⟩ ?_
            refine G_goto (tgt := 245) dX9_buy_241 (by decide) ?_
            refine G_top (w := .int (dp_m s0 (by_o s0 j (mA s0)) j (i + 1))) (congrArg Value.int (by first | exact (cif_t (Int32.not_le.mp c231)).symm | exact (cif_f (Int32.not_lt.mpr c231)).symm)) ?_
            refine G_istore_n dX9_buy_245 rfl (Nat.le_of_ble_eq_true rfl) rfl ?_
            refine G_iinc (b := nI (i + 1)) dX9_buy_246 rfl (nI_1 i) rfl ?_
            refine G_goto (tgt := 124) dX9_buy_249 (by decide) ?_
            exact ih (i + 1) (by omega) _ rfl
    have loop : ∀ m i, i + m = mA s0 → ∀ z4 z5 : Value, z4.category = 1 → z5.category = 1 → G g 2 0 0 kX9_buy 19 [.ref 24, .int (nI j), .int (nI (by_n s0 j i)), .int (nI i), z4, z5] [] nq_ (hm (by_o s0 j i) r) (m_S (.int (sp_buy s0 (nI j)).2) nq_ (sp_buy s0 (nI j)).1 r) := by
      intro m
      induction m with
      | zero =>
        intro i hi0 z4 z5 hz4 hz5
        rw [Nat.add_zero] at hi0
        refine G_iload_n dX9_buy_19 rfl rfl ?_
        refine G_aload_n dX9_buy_20 rfl rfl ?_
        refine GM_get dX9_buy_21 fg_X9_171 ms_23 ?_
        refine G_top (w := .int (s0 23 0)) (congrArg Value.int (congrFun ((by_o_ok s0 j hA.2 i (by omega)).1 23 (by decide) (by decide)) 0)) ?_
        refine G_icmp_ge (tgt := 119) dX9_buy_24 (by decide) (fun c24 => ?_) (fun c24 => ?_)
        · skip
          skip
          refine G_iconst (v := 0) dX9_buy_119 rfl ?_
          refine G_istore_n dX9_buy_120 rfl (Nat.le_of_ble_eq_true rfl) rfl ?_
          refine G_iconst (v := 0) dX9_buy_121 rfl ?_
          refine G_istore dX9_buy_122 (Nat.le_of_ble_eq_true rfl) rfl ?_
          exact G_loc (by rw [hi0]; rfl) (G_hp (by rw [hi0]; rfl) (dpl (by_n s0 j (mA s0)) 0 (by omega) _ hz5))
        · skip
          exact absurd (by rw [hA.1]; exact nI_le (Nat.le_of_eq hi0.symm) (by omega)) c24
      | succ m ih =>
        intro i hi0 z4 z5 hz4 hz5
        refine G_iload_n dX9_buy_19 rfl rfl ?_
        refine G_aload_n dX9_buy_20 rfl rfl ?_
        refine GM_get dX9_buy_21 fg_X9_171 ms_23 ?_
        refine G_top (w := .int (s0 23 0)) (congrArg Value.int (congrFun ((by_o_ok s0 j hA.2 i (by omega)).1 23 (by decide) (by decide)) 0)) ?_
        refine G_icmp_ge (tgt := 119) dX9_buy_24 (by decide) (fun c24 => ?_) (fun c24 => ?_)
        · skip
          exact absurd c24 (by rw [hA.1, nI_leI (by omega) (by omega)]; omega)
        · skip
          refine G_aload_n dX9_buy_27 rfl rfl ?_
          refine GM_ref dX9_buy_28 fg_X9_45 (fun _ => rfl) ?_
          refine G_iload_n dX9_buy_31 rfl rfl ?_
          refine GM_ld dX9_buy_32 mt_24 (by decide) ⟨rfl, by omega⟩ ?_
          refine G_top (w := .int (s0 24 i)) (congrArg Value.int (congrFun ((by_o_ok s0 j hA.2 i (by omega)).1 24 (by decide) (by decide)) i)) ?_
          refine G_iconst (v := 2) dX9_buy_33 rfl ?_
          refine G_icmp_ne (tgt := 113) dX9_buy_34 (by decide) (fun c34 => ?_) (fun c34 => ?_)
          · skip
            have eO : by_o s0 j (i + 1) = by_o s0 j i := cif_f (fun q => c34 q.1)
            have eN : by_n s0 j (i + 1) = by_n s0 j i := ct_f (fun q => c34 q.1)
            refine G_iinc (b := nI (i + 1)) dX9_buy_113 rfl (nI_1 i) rfl ?_
            refine G_goto (tgt := 19) dX9_buy_116 (by decide) ?_
            exact G_loc (L' := [.ref 24, .int (nI j), .int (nI (by_n s0 j (i + 1))), .int (nI (i + 1)), z4, z5]) (by rw [eN]; rfl) (G_hp (s' := by_o s0 j (i + 1)) eO.symm (ih (i + 1) (by omega) _ _ hz4 hz5))
          · skip
            refine G_aload_n dX9_buy_37 rfl rfl ?_
            refine G_iload_n dX9_buy_38 rfl rfl ?_
            refine G_iload_n dX9_buy_39 rfl rfl ?_
            refine GM_call (c9_fits j i (s := (by_o s0 j i)) (sm_inv (by_o_ok s0 j hA.2 i (by omega)).1 hI) (by rw [sm_K (by_o_ok s0 j hA.2 i (by omega)).1]; exact hj) (by rw [sm_A (by_o_ok s0 j hA.2 i (by omega)).1]; omega)) dX9_buy_40 (mc_X9_204 rfl) tw_1113 tw_42 rfl rfl rfl (Nat.le_of_ble_eq_true rfl) (Nat.le_of_ble_eq_true rfl) ?_
            rintro _ n9_ _ ⟨rfl, e9_, rfl⟩
            obtain rfl := e9_.symm
            refine G_if_ne (tgt := 49) dX9_buy_43 (by decide) (fun c43 => ?_) (fun c43 => ?_)
            · skip
              have hk9 : by_ok s0 j i := ⟨c34, by rw [← sm_fits (by_o_ok s0 j hA.2 i (by omega)).1]; exact b1_1 c43⟩
              have eO : by_o s0 j (i + 1) = by_i s0 i (by_n s0 j i) (by_o s0 j i) := cif_t hk9
              have eN : by_n s0 j (i + 1) = by_n s0 j i + 1 := ct_t hk9
              have hcn : by_n s0 j i ≤ i := ct_le _ _
              refine G_iload_n dX9_buy_49 rfl rfl ?_
              refine G_istore dX9_buy_50 (Nat.le_of_ble_eq_true rfl) rfl ?_
              refine ins i (by_n s0 j i) z5 (by_o s0 j (i + 1)) (by omega) (by omega) hz5 (fun z4 hz4 => ?_) (by_n s0 j i) (by_o s0 j i) (Nat.le_refl _) (by_o_ok s0 j hA.2 i (by omega)) eO
              refine G_iinc (b := nI (i + 1)) dX9_buy_113 rfl (nI_1 i) rfl ?_
              refine G_goto (tgt := 19) dX9_buy_116 (by decide) ?_
              exact G_loc (L' := [.ref 24, .int (nI j), .int (nI (by_n s0 j (i + 1))), .int (nI (i + 1)), z4, z5]) (by rw [eN]; rfl) (ih (i + 1) (by omega) _ _ hz4 hz5)
            · skip
              have hk9 : ¬ by_ok s0 j i := fun q => b1_0.mp c43 (by rw [sm_fits (by_o_ok s0 j hA.2 i (by omega)).1]; exact q.2)
              have eO : by_o s0 j (i + 1) = by_o s0 j i := cif_f hk9
              have eN : by_n s0 j (i + 1) = by_n s0 j i := ct_f hk9
              refine G_goto (tgt := 113) dX9_buy_46 (by decide) ?_
              refine G_iinc (b := nI (i + 1)) dX9_buy_113 rfl (nI_1 i) rfl ?_
              refine G_goto (tgt := 19) dX9_buy_116 (by decide) ?_
              exact G_loc (L' := [.ref 24, .int (nI j), .int (nI (by_n s0 j (i + 1))), .int (nI (i + 1)), z4, z5]) (by rw [eN]; rfl) (G_hp (s' := by_o s0 j (i + 1)) eO.symm (ih (i + 1) (by omega) _ _ hz4 hz5))
    exact loop (mA s0) 0 (by omega) _ _ rfl rfl
  · skip
    refine G_iconst (v := -1) dX9_buy_13 rfl ?_
    refine G_iret dX9_buy_14 rfl ?_
    exact m_close (cif_f (b1_0.mp c10))
