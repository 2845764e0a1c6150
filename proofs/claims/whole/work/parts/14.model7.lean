theorem mvl_inv : ∀ (m : Nat) (u : mS), m_inv u → mv_J u → m_inv (mv_l m u) ∧ mA (mv_l m u) = mA u
  | 0, u, h, _ => ⟨h, rfl⟩
  | m + 1, u, h, hJ => by
    show m_inv (match mv_p u (mA u) with | none => u | some a => mv_l m (mv_1 u a)) ∧ mA (match mv_p u (mA u) with | none => u | some a => mv_l m (mv_1 u a)) = mA u
    cases e : mv_p u (mA u) with
    | none => exact ⟨h, rfl⟩
    | some a =>
      have hl := mv_p_lt u (mA u) a e
      have ok := mv_1_ok h hJ hl.1 hl.2
      have ih := mvl_inv m (mv_1 u a) ok.1 ok.2.1
      exact ⟨ih.1, ih.2.trans ok.2.2.1⟩
theorem mvs_inv {s : mS} (h : m_inv s) : m_inv (s_mvs s) ∧ mA (s_mvs s) = mA s := by
  have hs := mv_d_sm s (mA s)
  have hJ : mv_J (mv_d s (mA s)) := fun b hb q => by
    rw [sm_A hs] at hb
    rw [mv_d_at s _ b hb] at q
    rw [hs 24 (by decide) (by decide)]
    exact Classical.not_not.mp (fun z => b1_0.mp q (Or.inl z))
  have := mvl_inv (mA s + 1) (mv_d s (mA s)) (sm_inv hs h) hJ
  exact ⟨this.1, this.2.trans (sm_A hs)⟩
noncomputable def ls_l (s : mS) : Nat → mS
  | 0 => s
  | a + 1 => cif (s 24 a = 1 ∧ s 31 a < s 11 0) (m_set (ls_l s a) 24 a 5) (ls_l s a)
theorem ls_l_o (s : mS) {j : Nat} (hj : j ≠ 24) : ∀ i, ls_l s i j = s j
  | 0 => rfl
  | i + 1 => by
    show (cif _ _ _ : mS) j = _
    by_cases z : s 24 i = 1 ∧ s 31 i < s 11 0
    · rw [cif_t z, m_set_ne _ _ _ hj]; exact ls_l_o s hj i
    · rw [cif_f z]; exact ls_l_o s hj i
theorem ls_l_24 (s : mS) : ∀ i b, i ≤ b → ls_l s i 24 b = s 24 b
  | 0, b, _ => rfl
  | i + 1, b, h => by
    show (cif _ _ _ : mS) 24 b = _
    by_cases z : s 24 i = 1 ∧ s 31 i < s 11 0
    · rw [cif_t z]; simp only [m_set]; rw [if_neg (by omega)]; exact ls_l_24 s i b (by omega)
    · rw [cif_f z]; exact ls_l_24 s i b (by omega)
theorem ls_l_inv {s : mS} (h : m_inv s) : ∀ i, m_inv (ls_l s i)
  | 0 => h
  | i + 1 => by
    show m_inv (cif _ _ _)
    by_cases z : s 24 i = 1 ∧ s 31 i < s 11 0
    · rw [cif_t z]; exact m_inv_st (ls_l_inv h i) (by decide) (by decide)
    · rw [cif_f z]; exact ls_l_inv h i
theorem inv_11 {s : mS} {v : Int32} (h : m_inv s) : m_inv (m_set s 11 0 v) := h
noncomputable def s_day (s : mS) : mS := s_mvs (ls_l (m_set s 11 0 (s 11 0 + 1)) (mA s))
noncomputable def s_dys (s : mS) : Nat → mS
  | 0 => s
  | i + 1 => s_day (s_dys s i)
theorem ls_l_A (s : mS) (i : Nat) : mA (ls_l s i) = mA s := by unfold mA; rw [ls_l_o s (by decide) i]
theorem day_inv {s : mS} (h : m_inv s) : m_inv (s_day s) ∧ mA (s_day s) = mA s := by
  have := mvs_inv (ls_l_inv (inv_11 (v := s 11 0 + 1) h) (mA s))
  exact ⟨this.1, this.2.trans (ls_l_A _ _)⟩
theorem dys_inv {s : mS} (h : m_inv s) : ∀ i, m_inv (s_dys s i) ∧ mA (s_dys s i) = mA s
  | 0 => ⟨h, rfl⟩
  | i + 1 => by
    have ih := dys_inv h i
    have := day_inv ih.1
    exact ⟨this.1, this.2.trans ih.2⟩
noncomputable def sp_days (s : mS) (v : Int32) : mS × Int32 := cif (wi v 1 60 ∧ s 11 0 + v ≤ 5000) (s_dys s (ix v), s_dys s (ix v) 11 0) (s, -1)
theorem wi_n {v : Int32} {lo hi : Int32} {M9 : Nat} (h : wi v lo hi) (hl : 0 ≤ lo) (hm : hi = nI M9) (hM : M9 < 2 ^ 31) : ∃ j, v = nI j ∧ j ≤ M9 := by
  obtain ⟨j, hj, rfl⟩ := nI_of (x := v) (fun q => absurd (Int32.lt_of_lt_of_le q (hl)) (Int32.not_lt.mpr h.1))
  refine ⟨j, rfl, ?_⟩
  have := h.2
  rw [hm] at this
  exact (nI_leI hj hM).mp this

set_option maxHeartbeats 4000000 in
set_option maxRecDepth 100000 in
theorem c9_days {g : gT} {nq_ : Nat} {s : mS} {r : mH} (v : Int32) (hI : m_inv (m_set s 0 0 0)) : M g 5 0 0 kX9_days [.ref 24, .int v] nq_ (hm s r) (m_S (.int (sp_days (m_set s 0 0 0) v).2) nq_ (sp_days (m_set s 0 0 0) v).1 r) := by
  refine M_of_G (by decide +kernel) (Nat.le_of_ble_eq_true rfl) ?_
  refine G_aload_n dX9_days_0 rfl rfl ?_
  refine G_iconst (v := 0) dX9_days_1 rfl ?_
  refine GM_put dX9_days_2 fp_X9_97 ms_0 ?_
  generalize e0 : m_set s 0 0 0 = s0 at hI ⊢
  obtain ⟨hK, hT, hB, hP9, hA, hkf, haf, hbf⟩ := id hI
  refine G_iload_n dX9_days_5 rfl rfl ?_
  refine G_iconst (v := 1) dX9_days_6 rfl ?_
  refine G_bipush (v := 60) dX9_days_7 rfl ?_
  refine GM_calls (c9_within _ _ _) dX9_days_9 (mc_X9_100 rfl) tw_1020 rfl rfl (Nat.le_of_ble_eq_true rfl) (Nat.le_of_ble_eq_true rfl) ?_
  rintro _ n9_ _ ⟨rfl, e9_, rfl⟩
  obtain rfl := e9_.symm
  refine G_if_eq (tgt := 27) dX9_days_12 (by decide) (fun c12 => ?_) (fun c12 => ?_)
  · skip
    refine G_iconst (v := -1) dX9_days_27 rfl ?_
    refine G_iret dX9_days_28 rfl ?_
    first | exact m_close (cif_f (fun q => b1_0.mp c12 q.1)) | exact m_close (cif_f (fun q => c24 q.2))
  · skip
    obtain ⟨j, rfl, hj⟩ := wi_n (M9 := 60) (b1_1 c12) (by decide) rfl (by decide)
    have ej : ix (nI j) = j := nI_clamp (by omega)
    refine G_aload_n dX9_days_15 rfl rfl ?_
    refine GM_get dX9_days_16 fg_X9_164 ms_11 ?_
    refine G_iload_n dX9_days_19 rfl rfl ?_
    refine G_iadd dX9_days_20 ?_
    refine G_sipush (v := 5000) dX9_days_21 rfl ?_
    refine G_icmp_le (tgt := 29) dX9_days_24 (by decide) (fun c24 => ?_) (fun c24 => ?_)
    · skip
      refine G_iconst (v := 0) dX9_days_29 rfl ?_
      refine G_istore_n dX9_days_30 rfl (Nat.le_of_ble_eq_true rfl) rfl ?_
      have inner : ∀ u i9, m_inv u → (∀ i, i = mA u → G g 5 0 0 kX9_days 92 [.ref 24, .int (nI j), .int (nI i9), .int (nI i)] [] nq_ (hm (ls_l u i) r) (m_S (.int (sp_days s0 (nI j)).2) nq_ (sp_days s0 (nI j)).1 r)) → ∀ m i, i + m = mA u → G g 5 0 0 kX9_days 48 [.ref 24, .int (nI j), .int (nI i9), .int (nI i)] [] nq_ (hm (ls_l u i) r) (m_S (.int (sp_days s0 (nI j)).2) nq_ (sp_days s0 (nI j)).1 r) := by
        intro u i9 hIu K9
        have hAu := hIu.2.2.2.2.1.2
        intro m
        induction m with
        | zero =>
          intro i hi0 
          rw [Nat.add_zero] at hi0
          refine G_iload_n dX9_days_48 rfl rfl ?_
          refine G_aload_n dX9_days_49 rfl rfl ?_
          refine GM_get dX9_days_50 fg_X9_171 ms_23 ?_
          refine G_top (w := .int (nI (mA u))) (congrArg Value.int ((congrFun (ls_l_o u (by decide) i) 0).trans hIu.2.2.2.2.1.1)) ?_
          refine G_icmp_ge (tgt := 92) dX9_days_53 (by decide) (fun c53 => ?_) (fun c53 => ?_)
          · skip
            skip
            exact K9 i hi0
          · skip
            exact absurd (nI_le (Nat.le_of_eq hi0.symm) (by omega)) c53
        | succ m ih =>
          intro i hi0 
          refine G_iload_n dX9_days_48 rfl rfl ?_
          refine G_aload_n dX9_days_49 rfl rfl ?_
          refine GM_get dX9_days_50 fg_X9_171 ms_23 ?_
          refine G_top (w := .int (nI (mA u))) (congrArg Value.int ((congrFun (ls_l_o u (by decide) i) 0).trans hIu.2.2.2.2.1.1)) ?_
          refine G_icmp_ge (tgt := 92) dX9_days_53 (by decide) (fun c53 => ?_) (fun c53 => ?_)
          · skip
            exact absurd c53 (by rw [nI_leI (by omega) (by omega)]; omega)
          · skip
            refine G_aload_n dX9_days_56 rfl rfl ?_
            refine GM_ref dX9_days_57 fg_X9_45 (fun _ => rfl) ?_
            refine G_iload_n dX9_days_60 rfl rfl ?_
            refine GM_ld dX9_days_61 mt_24 (by decide) ⟨rfl, by omega⟩ ?_
            refine G_top (w := .int (u 24 i)) (congrArg Value.int (ls_l_24 u i i (Nat.le_refl i))) ?_
            refine G_iconst (v := 1) dX9_days_62 rfl ?_
            refine G_icmp_ne (tgt := 86) dX9_days_63 (by decide) (fun c63 => ?_) (fun c63 => ?_)
            · skip
              have eL : ls_l u (i + 1) = ls_l u i := cif_f (fun q => c63 q.1)
              refine G_iinc (b := nI (i + 1)) dX9_days_86 rfl (nI_1 i) rfl ?_
              refine G_goto (tgt := 48) dX9_days_89 (by decide) ?_
              exact G_hp (s' := ls_l u (i + 1)) eL.symm (ih (i + 1) (by omega))
            · skip
              refine G_aload_n dX9_days_66 rfl rfl ?_
              refine GM_ref dX9_days_67 fg_X9_66 (fun _ => rfl) ?_
              refine G_iload_n dX9_days_70 rfl rfl ?_
              refine GM_ld dX9_days_71 mt_31 (by decide) ⟨rfl, by omega⟩ ?_
              refine G_top (w := .int (u 31 i)) (congrArg Value.int (congrFun (ls_l_o u (by decide) i) i)) ?_
              refine G_aload_n dX9_days_72 rfl rfl ?_
              refine GM_get dX9_days_73 fg_X9_164 ms_11 ?_
              refine G_top (w := .int (u 11 0)) (congrArg Value.int (congrFun (ls_l_o u (by decide) i) 0)) ?_
              refine G_icmp_ge (tgt := 86) dX9_days_76 (by decide) (fun c76 => ?_) (fun c76 => ?_)
              · skip
                have eL : ls_l u (i + 1) = ls_l u i := cif_f (fun q => absurd q.2 (Int32.not_lt.mpr c76))
                refine G_iinc (b := nI (i + 1)) dX9_days_86 rfl (nI_1 i) rfl ?_
                refine G_goto (tgt := 48) dX9_days_89 (by decide) ?_
                exact G_hp (s' := ls_l u (i + 1)) eL.symm (ih (i + 1) (by omega))
              · skip
                have eL : ls_l u (i + 1) = m_set (ls_l u i) 24 i 5 := cif_t ⟨c63, Int32.not_le.mp c76⟩
                refine G_aload_n dX9_days_79 rfl rfl ?_
                refine GM_ref dX9_days_80 fg_X9_45 (fun _ => rfl) ?_
                refine G_iload_n dX9_days_83 rfl rfl ?_
                refine G_iconst (v := 5) dX9_days_84 rfl ?_
                refine GM_st dX9_days_85 mt_24 ma_24 (by decide) ⟨rfl, by omega⟩ ?_
                refine G_iinc (b := nI (i + 1)) dX9_days_86 rfl (nI_1 i) rfl ?_
                refine G_goto (tgt := 48) dX9_days_89 (by decide) ?_
                exact G_hp (s' := ls_l u (i + 1)) eL.symm (ih (i + 1) (by omega))
      have loop : ∀ m i, i + m = j → ∀ z3 : Value, z3.category = 1 → G g 5 0 0 kX9_days 31 [.ref 24, .int (nI j), .int (nI i), z3] [] nq_ (hm (s_dys s0 i) r) (m_S (.int (sp_days s0 (nI j)).2) nq_ (sp_days s0 (nI j)).1 r) := by
        intro m
        induction m with
        | zero =>
          intro i hi0 z3 hz3
          rw [Nat.add_zero] at hi0
          refine G_iload_n dX9_days_31 rfl rfl ?_
          refine G_iload_n dX9_days_32 rfl rfl ?_
          refine G_icmp_ge (tgt := 102) dX9_days_33 (by decide) (fun c33 => ?_) (fun c33 => ?_)
          · skip
            skip
            refine G_aload_n dX9_days_102 rfl rfl ?_
            refine GM_get dX9_days_103 fg_X9_164 ms_11 ?_
            refine G_iret dX9_days_106 rfl ?_
            refine m_close ?_; rw [sp_days, cif_t ⟨b1_1 c12, c24⟩, ej, hi0]
          · skip
            exact absurd (nI_le (Nat.le_of_eq hi0.symm) (by omega)) c33
        | succ m ih =>
          intro i hi0 z3 hz3
          refine G_iload_n dX9_days_31 rfl rfl ?_
          refine G_iload_n dX9_days_32 rfl rfl ?_
          refine G_icmp_ge (tgt := 102) dX9_days_33 (by decide) (fun c33 => ?_) (fun c33 => ?_)
          · skip
            exact absurd c33 (by rw [nI_leI (by omega) (by omega)]; omega)
          · skip
            refine G_aload_n dX9_days_36 rfl rfl ?_
            refine G_dup dX9_days_37 rfl ?_
            refine GM_get dX9_days_38 fg_X9_164 ms_11 ?_
            refine G_iconst (v := 1) dX9_days_41 rfl ?_
            refine G_iadd dX9_days_42 ?_
            refine GM_put dX9_days_43 fp_X9_164 ms_11 ?_
            refine G_iconst (v := 0) dX9_days_46 rfl ?_
            refine G_istore_n dX9_days_47 rfl (Nat.le_of_ble_eq_true rfl) rfl ?_
            refine inner (m_set (s_dys s0 i) 11 0 ((s_dys s0 i) 11 0 + 1)) i (inv_11 (dys_inv hI i).1) (fun a9 ha9 => ?_) (mA (m_set (s_dys s0 i) 11 0 ((s_dys s0 i) 11 0 + 1))) 0 (by omega)
            refine G_aload_n dX9_days_92 rfl rfl ?_
            refine GM_call (c9_moves (s := ls_l (m_set (s_dys s0 i) 11 0 ((s_dys s0 i) 11 0 + 1)) a9) (ls_l_inv (inv_11 (dys_inv hI i).1) a9)) dX9_days_93 (mc_X9_211 rfl) tw_1159 tw_48 rfl rfl rfl (Nat.le_of_ble_eq_true rfl) (Nat.le_of_ble_eq_true rfl) ?_
            rintro _ n9_ _ ⟨rfl, e9_, rfl⟩
            obtain rfl := e9_.symm
            refine G_hp (s' := s_dys s0 (i + 1)) (by rw [ha9]; rfl) ?_
            refine G_iinc (b := nI (i + 1)) dX9_days_96 rfl (nI_1 i) rfl ?_
            refine G_goto (tgt := 31) dX9_days_99 (by decide) ?_
            exact ih (i + 1) (by omega) _ rfl
      exact loop j 0 (by omega) _ rfl
    · skip
      refine G_iconst (v := -1) dX9_days_27 rfl ?_
      refine G_iret dX9_days_28 rfl ?_
      first | exact m_close (cif_f (fun q => b1_0.mp c12 q.1)) | exact m_close (cif_f (fun q => c24 q.2))
