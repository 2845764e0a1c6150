theorem G_loc {g : gT} {d x y : Nat} {k : mM} {pc : Nat} {L L' st : List Value} {nq_ : Nat} {h : mH} {P : Option Value → Nat → mH → Prop} (e : L = L') (K : G g d x y k pc L' st nq_ h P) : G g d x y k pc L st nq_ h P := by rw [e]; exact K
def mQ (s : mS) : Nat := (s 35 0).toNatClampNeg
/-- while a plan is sought: the row's asks, and what is tried up to place i -/
def p_inv (i : Nat) (s : mS) : Prop := m_inv s ∧ (s 35 0 = nI (mQ s) ∧ mQ s ≤ 5) ∧ (∀ j, j < mQ s → s 34 j = nI (ix (s 34 j)) ∧ ix (s 34 j) < mA s) ∧ (∀ j, j < i → s 36 j = -1 ∨ (s 36 j = nI (ix (s 36 j)) ∧ ix (s 36 j) < mT s))
noncomputable def w_rk (s : mS) (i : Nat) : Int32 := cif (s 32 (ix (s 34 i)) = 2) 10000 (cif (s 32 (ix (s 34 i)) = 1) 1000 100)
noncomputable def w_sb (s : mS) (i : Nat) : Int32 := cif (s 6 (ix (s 36 i)) = s 28 (ix (s 34 i))) 0 1
noncomputable def s_wor (s : mS) : Nat → Int32
  | 0 => 0
  | i + 1 => cif (s 36 i = -1) (s_wor s i) (s_wor s i + w_rk s i - w_sb s i)
def s_rn (s : mS) (i j t : Nat) : Prop := s_near (s 30 (ix (s 34 i))).toInt64 (s 31 (ix (s 34 i))).toInt64 (s 30 (ix (s 34 j))).toInt64 (s 31 (ix (s 34 j))).toInt64 (s 2 (ix (s 6 t)))
def s_sta (s : mS) (i t : Nat) : Prop := ¬ s 39 (12 * i + t) = 0 ∧ ∀ j, j < i → ¬ (s 36 j = nI t ∧ s_rn s i j t)
def s_cpb (w : mS) : Nat → mS
  | 0 => w
  | j + 1 => m_set (s_cpb w j) 37 j (w 36 j)
theorem s_cpb_o (w : mS) {a : Nat} (h : a ≠ 37) : ∀ i b, s_cpb w i a b = w a b
  | 0, b => rfl
  | i + 1, b => by show m_set _ _ _ _ _ _ = _; rw [m_set_ne _ _ _ h]; exact s_cpb_o w h i b
noncomputable def s_leaf (s : mS) : mS := cif (s 38 0 < s_wor s (mQ s)) (s_cpb (m_set s 38 0 (s_wor s (mQ s))) (mQ s)) s
noncomputable def s_lp (f : mS → mS) (i : Nat) : Nat → mS → mS
  | 0, s => s
  | t + 1, s => cif (s_sta (s_lp f i t s) i t) (f (m_set (s_lp f i t s) 36 i (nI t))) (s_lp f i t s)
noncomputable def s_tr : Nat → Nat → mS → mS
  | 0, _, s => s_leaf s
  | d + 1, i, s => s_tr d (i + 1) (m_set (s_lp (s_tr d (i + 1)) i (mT s) s) 36 i (-1))
/-- a search leaves all but its own numbers, and what is tried ahead of it -/
def s_keep (i : Nat) (s u : mS) : Prop := (∀ a b, a ≠ 36 → a ≠ 37 → a ≠ 38 → u a b = s a b) ∧ ∀ j, j < i → u 36 j = s 36 j
theorem s_keep.rf {i : Nat} {s : mS} : s_keep i s s := ⟨fun _ _ _ _ _ => rfl, fun _ _ => rfl⟩
theorem s_keep.tr {i i2 : Nat} {s u w : mS} (h : s_keep i s u) (h2 : s_keep i2 u w) (hi : i ≤ i2) : s_keep i s w := ⟨fun a b q1 q2 q3 => (h2.1 a b q1 q2 q3).trans (h.1 a b q1 q2 q3), fun j hj => (h2.2 j (by omega)).trans (h.2 j hj)⟩
theorem s_keep.st {i : Nat} {s : mS} {v : Int32} : s_keep i s (m_set s 36 i v) := ⟨fun a b q1 _ _ => by rw [m_set_ne _ _ _ q1], fun j hj => by simp only [m_set]; rw [if_neg (by omega)]⟩
theorem s_leaf_keep (i : Nat) (s : mS) : s_keep i s (s_leaf s) := by
  unfold s_leaf
  by_cases h : s 38 0 < s_wor s (mQ s)
  · rw [cif_t h]
    refine ⟨fun a b q1 q2 q3 => ?_, fun j hj => ?_⟩
    · rw [s_cpb_o _ q2, m_set_ne _ _ _ q3]
    · rw [s_cpb_o _ (by decide), m_set_ne _ _ _ (by decide)]
  · rw [cif_f h]; exact s_keep.rf
theorem s_lp_keep {f : mS → mS} {i : Nat} (hf : ∀ s, s_keep (i + 1) s (f s)) : ∀ t s, s_keep i s (s_lp f i t s)
  | 0, s => s_keep.rf
  | t + 1, s => by
    have ih := s_lp_keep hf t s
    show s_keep i s (cif _ _ _)
    by_cases h : s_sta (s_lp f i t s) i t
    · rw [cif_t h]
      exact (ih.tr s_keep.st (Nat.le_refl i)).tr (hf _) (by omega)
    · rw [cif_f h]; exact ih
theorem s_tr_keep : ∀ d i s, s_keep i s (s_tr d i s)
  | 0, i, s => s_leaf_keep i s
  | d + 1, i, s => ((s_lp_keep (s_tr_keep d (i + 1)) (mT s) s).tr s_keep.st (Nat.le_refl i)).tr (s_tr_keep d (i + 1) _) (by omega)
theorem m_inv_eq {s u : mS} (h : ∀ a b, a ≠ 36 → a ≠ 37 → a ≠ 38 → u a b = s a b) (hI : m_inv s) : m_inv u := by
  have e1 : u 1 0 = s 1 0 := h 1 0 (by decide) (by decide) (by decide)
  have e5 : u 5 0 = s 5 0 := h 5 0 (by decide) (by decide) (by decide)
  have e8 : u 8 0 = s 8 0 := h 8 0 (by decide) (by decide) (by decide)
  have e13 : u 13 0 = s 13 0 := h 13 0 (by decide) (by decide) (by decide)
  have e23 : u 23 0 = s 23 0 := h 23 0 (by decide) (by decide) (by decide)
  have e6 : ∀ b, u 6 b = s 6 b := fun b => h 6 b (by decide) (by decide) (by decide)
  have e24 : ∀ b, u 24 b = s 24 b := fun b => h 24 b (by decide) (by decide) (by decide)
  have e25 : ∀ b, u 25 b = s 25 b := fun b => h 25 b (by decide) (by decide) (by decide)
  have e27 : ∀ b, u 27 b = s 27 b := fun b => h 27 b (by decide) (by decide) (by decide)
  have e28 : ∀ b, u 28 b = s 28 b := fun b => h 28 b (by decide) (by decide) (by decide)
  unfold m_inv mK mT mB mP mA at *
  simp only [e1, e5, e8, e13, e23, e6, e24, e25, e27, e28]
  exact hI
theorem p_inv_keep {i i2 : Nat} {s u : mS} (h : s_keep i s u) (hp : p_inv i2 s) (hi : i2 ≤ i) : p_inv i2 u := by
  obtain ⟨h1, h2, h3, h4⟩ := hp
  have e35 : u 35 0 = s 35 0 := h.1 35 0 (by decide) (by decide) (by decide)
  have e34 : ∀ b, u 34 b = s 34 b := fun b => h.1 34 b (by decide) (by decide) (by decide)
  have eA : mA u = mA s := by unfold mA; rw [h.1 23 0 (by decide) (by decide) (by decide)]
  have eT : mT u = mT s := by unfold mT; rw [h.1 5 0 (by decide) (by decide) (by decide)]
  have eQ : mQ u = mQ s := by unfold mQ; rw [e35]
  refine ⟨m_inv_eq h.1 h1, by rw [e35, eQ]; exact h2, fun j hj => ?_, fun j hj => ?_⟩
  · rw [e34, eA]; exact h3 j (by rw [← eQ]; exact hj)
  · rw [h.2 j (by omega), eT]; exact h4 j hj
theorem p_inv_st {i : Nat} {s : mS} {v : Int32} (hp : p_inv i s) (hv : v = -1 ∨ (v = nI (ix v) ∧ ix v < mT s)) : p_inv (i + 1) (m_set s 36 i v) := by
  have h := p_inv_keep (s_keep.st (s := s) (i := i) (v := v)) hp (Nat.le_refl i)
  refine ⟨h.1, h.2.1, h.2.2.1, fun j hj => ?_⟩
  by_cases e : j = i
  · subst e
    have e2 : m_set s 36 j v 36 j = v := m_set_at _ _ _ _
    rw [e2]
    exact hv
  · exact h.2.2.2 j (by omega)

set_option maxHeartbeats 4000000 in
set_option maxRecDepth 100000 in
theorem c9_worth {g : gT} {nq_ : Nat} {s : mS} {r : mH} (hp : p_inv (mQ s) s) : M g 0 0 0 kX9_worth [.ref 24] nq_ (hm s r) (m_Q (.int (s_wor s (mQ s))) nq_ (hm s r)) := by
  refine M_of_G (by decide +kernel) (Nat.le_of_ble_eq_true rfl) ?_
  obtain ⟨hI, hQ, hro, hta⟩ := id hp
  obtain ⟨hK, hT, hB, hP9, hA, hkf, haf, hbf⟩ := id hI
  have loop : ∀ m i, i + m = mQ s → G g 0 0 0 kX9_worth 4 [.ref 24, .int (s_wor s i), .int (nI i)] [] nq_ (hm s r) (m_Q (.int (s_wor s (mQ s))) nq_ (hm s r)) := by
    intro m
    induction m with
    | zero =>
      intro i hi0 
      rw [Nat.add_zero] at hi0
      refine G_iload_n dX9_worth_4 rfl rfl ?_
      refine G_aload_n dX9_worth_5 rfl rfl ?_
      refine GM_get dX9_worth_6 fg_X9_187 ms_35 ?_
      refine G_icmp_ge (tgt := 111) dX9_worth_9 (by decide) (fun c9 => ?_) (fun c9 => ?_)
      · skip
        skip
        refine G_iload_n dX9_worth_111 rfl rfl ?_
        refine G_iret dX9_worth_112 rfl ?_
        exact q_e (by rw [hi0])
      · skip
        exact absurd (by rw [hQ.1]; exact nI_le (Nat.le_of_eq hi0.symm) (by omega)) c9
    | succ m ih =>
      intro i hi0 
      refine G_iload_n dX9_worth_4 rfl rfl ?_
      refine G_aload_n dX9_worth_5 rfl rfl ?_
      refine GM_get dX9_worth_6 fg_X9_187 ms_35 ?_
      refine G_icmp_ge (tgt := 111) dX9_worth_9 (by decide) (fun c9 => ?_) (fun c9 => ?_)
      · skip
        exact absurd c9 (by rw [hQ.1, nI_leI (by omega) (by omega)]; omega)
      · skip
        have htr := hta i (by omega)
        refine G_aload_n dX9_worth_12 rfl rfl ?_
        refine GM_ref dX9_worth_13 fg_X9_78 (fun _ => rfl) ?_
        refine G_iload_n dX9_worth_16 rfl rfl ?_
        refine GM_ld dX9_worth_17 mt_36 (by decide) ⟨rfl, by omega⟩ ?_
        refine G_iconst (v := -1) dX9_worth_18 rfl ?_
        refine G_icmp_ne (tgt := 25) dX9_worth_19 (by decide) (fun c19 => ?_) (fun c19 => ?_)
        · skip
          refine G_iload_n dX9_worth_25 rfl rfl ?_
          refine G_aload_n dX9_worth_26 rfl rfl ?_
          refine GM_ref dX9_worth_27 fg_X9_69 (fun _ => rfl) ?_
          refine G_aload_n dX9_worth_30 rfl rfl ?_
          refine GM_ref dX9_worth_31 fg_X9_75 (fun _ => rfl) ?_
          refine G_iload_n dX9_worth_34 rfl rfl ?_
          refine GM_ld dX9_worth_35 mt_34 (by decide) ⟨rfl, by omega⟩ ?_
          refine GM_ld dX9_worth_36 mt_32 (by decide) ⟨(hro i (by omega)).1, by have := (hro i (by omega)).2; omega⟩ ?_
          refine G_iconst (v := 2) dX9_worth_37 rfl ?_
          refine G_icmp_ne (tgt := 47) dX9_worth_38 (by decide) (fun c38 => ?_) (fun c38 => ?_)
          · skip
            refine G_aload_n dX9_worth_47 rfl rfl ?_
            refine GM_ref dX9_worth_48 fg_X9_69 (fun _ => rfl) ?_
            refine G_aload_n dX9_worth_51 rfl rfl ?_
            refine GM_ref dX9_worth_52 fg_X9_75 (fun _ => rfl) ?_
            refine G_iload_n dX9_worth_55 rfl rfl ?_
            refine GM_ld dX9_worth_56 mt_34 (by decide) ⟨rfl, by omega⟩ ?_
            refine GM_ld dX9_worth_57 mt_32 (by decide) ⟨(hro i (by omega)).1, by have := (hro i (by omega)).2; omega⟩ ?_
            refine G_iconst (v := 1) dX9_worth_58 rfl ?_
            refine G_icmp_ne (tgt := 68) dX9_worth_59 (by decide) (fun c59 => ?_) (fun c59 => ?_)
            · skip
              refine G_bipush (v := 100) dX9_worth_68 rfl ?_
              refine G_iadd dX9_worth_70 ?_
              refine G_top (w := .int (s_wor s i + w_rk s i)) (congrArg (fun z => Value.int (s_wor s i + z)) (by first | exact (cif_t c38).symm | exact ((cif_f c38).trans (cif_t c59)).symm | exact ((cif_f c38).trans (cif_f c59)).symm)) ?_
              refine G_istore_n dX9_worth_71 rfl (Nat.le_of_ble_eq_true rfl) rfl ?_
              refine G_iload_n dX9_worth_72 rfl rfl ?_
              refine G_aload_n dX9_worth_73 rfl rfl ?_
              refine GM_ref dX9_worth_74 fg_X9_19 (fun _ => rfl) ?_
              refine G_aload_n dX9_worth_77 rfl rfl ?_
              refine GM_ref dX9_worth_78 fg_X9_78 (fun _ => rfl) ?_
              refine G_iload_n dX9_worth_81 rfl rfl ?_
              refine GM_ld dX9_worth_82 mt_36 (by decide) ⟨rfl, by omega⟩ ?_
              refine GM_ld dX9_worth_83 mt_6 (by decide) ⟨(htr.resolve_left c19).1, by have := (htr.resolve_left c19).2; omega⟩ ?_
              refine G_aload_n dX9_worth_84 rfl rfl ?_
              refine GM_ref dX9_worth_85 fg_X9_57 (fun _ => rfl) ?_
              refine G_aload_n dX9_worth_88 rfl rfl ?_
              refine GM_ref dX9_worth_89 fg_X9_75 (fun _ => rfl) ?_
              refine G_iload_n dX9_worth_92 rfl rfl ?_
              refine GM_ld dX9_worth_93 mt_34 (by decide) ⟨rfl, by omega⟩ ?_
              refine GM_ld dX9_worth_94 mt_28 (by decide) ⟨(hro i (by omega)).1, by have := (hro i (by omega)).2; omega⟩ ?_
              refine G_icmp_ne (tgt := 102) dX9_worth_95 (by decide) (fun c95 => ?_) (fun c95 => ?_)
              · skip
                refine G_iconst (v := 1) dX9_worth_102 rfl ?_
                refine G_isub dX9_worth_103 ?_
                refine G_top (w := .int (s_wor s (i + 1))) (congrArg Value.int ((congrArg (fun z => s_wor s i + w_rk s i - z) (by first | exact (cif_t c95).symm | exact (cif_f c95).symm)).trans (cif_f c19).symm)) ?_
                refine G_istore_n dX9_worth_104 rfl (Nat.le_of_ble_eq_true rfl) rfl ?_
                refine G_iinc (b := nI (i + 1)) dX9_worth_105 rfl (nI_1 i) rfl ?_
                refine G_goto (tgt := 4) dX9_worth_108 (by decide) ?_
                first | exact ih (i + 1) (by omega) | exact G_loc (L' := [.ref 24, .int (s_wor s (i + 1)), .int (nI (i + 1))]) (by rw [e19]; rfl) (ih (i + 1) (by omega))
              · skip
                refine G_iconst (v := 0) dX9_worth_98 rfl ?_
                refine G_goto (tgt := 103) dX9_worth_99 (by decide) ?_
                refine G_isub dX9_worth_103 ?_
                refine G_top (w := .int (s_wor s (i + 1))) (congrArg Value.int ((congrArg (fun z => s_wor s i + w_rk s i - z) (by first | exact (cif_t c95).symm | exact (cif_f c95).symm)).trans (cif_f c19).symm)) ?_
                refine G_istore_n dX9_worth_104 rfl (Nat.le_of_ble_eq_true rfl) rfl ?_
                refine G_iinc (b := nI (i + 1)) dX9_worth_105 rfl (nI_1 i) rfl ?_
                refine G_goto (tgt := 4) dX9_worth_108 (by decide) ?_
                first | exact ih (i + 1) (by omega) | exact G_loc (L' := [.ref 24, .int (s_wor s (i + 1)), .int (nI (i + 1))]) (by rw [e19]; rfl) (ih (i + 1) (by omega))
            · skip
              refine G_sipush (v := 1000) dX9_worth_62 rfl ?_
              refine G_goto (tgt := 70) dX9_worth_65 (by decide) ?_
              refine G_iadd dX9_worth_70 ?_
              refine G_top (w := .int (s_wor s i + w_rk s i)) (congrArg (fun z => Value.int (s_wor s i + z)) (by first | exact (cif_t c38).symm | exact ((cif_f c38).trans (cif_t c59)).symm | exact ((cif_f c38).trans (cif_f c59)).symm)) ?_
              refine G_istore_n dX9_worth_71 rfl (Nat.le_of_ble_eq_true rfl) rfl ?_
              refine G_iload_n dX9_worth_72 rfl rfl ?_
              refine G_aload_n dX9_worth_73 rfl rfl ?_
              refine GM_ref dX9_worth_74 fg_X9_19 (fun _ => rfl) ?_
              refine G_aload_n dX9_worth_77 rfl rfl ?_
              refine GM_ref dX9_worth_78 fg_X9_78 (fun _ => rfl) ?_
              refine G_iload_n dX9_worth_81 rfl rfl ?_
              refine GM_ld dX9_worth_82 mt_36 (by decide) ⟨rfl, by omega⟩ ?_
              refine GM_ld dX9_worth_83 mt_6 (by decide) ⟨(htr.resolve_left c19).1, by have := (htr.resolve_left c19).2; omega⟩ ?_
              refine G_aload_n dX9_worth_84 rfl rfl ?_
              refine GM_ref dX9_worth_85 fg_X9_57 (fun _ => rfl) ?_
              refine G_aload_n dX9_worth_88 rfl rfl ?_
              refine GM_ref dX9_worth_89 fg_X9_75 (fun _ => rfl) ?_
              refine G_iload_n dX9_worth_92 rfl rfl ?_
              refine GM_ld dX9_worth_93 mt_34 (by decide) ⟨rfl, by omega⟩ ?_
              refine GM_ld dX9_worth_94 mt_28 (by decide) ⟨(hro i (by omega)).1, by have := (hro i (by omega)).2; omega⟩ ?_
              refine G_icmp_ne (tgt := 102) dX9_worth_95 (by decide) (fun c95 => ?_) (fun c95 => ?_)
              · skip
                refine G_iconst (v := 1) dX9_worth_102 rfl ?_
                refine G_isub dX9_worth_103 ?_
                refine G_top (w := .int (s_wor s (i + 1))) (congrArg Value.int ((congrArg (fun z => s_wor s i + w_rk s i - z) (by first | exact (cif_t c95).symm | exact (cif_f c95).symm)).trans (cif_f c19).symm)) ?_
                refine G_istore_n dX9_worth_104 rfl (Nat.le_of_ble_eq_true rfl) rfl ?_
                refine G_iinc (b := nI (i + 1)) dX9_worth_105 rfl (nI_1 i) rfl ?_
                refine G_goto (tgt := 4) dX9_worth_108 (by decide) ?_
                first | exact ih (i + 1) (by omega) | exact G_loc (L' := [.ref 24, .int (s_wor s (i + 1)), .int (nI (i + 1))]) (by rw [e19]; rfl) (ih (i + 1) (by omega))
              · skip
                refine G_iconst (v := 0) dX9_worth_98 rfl ?_
                refine G_goto (tgt := 103) dX9_worth_99 (by decide) ?_
                refine G_isub dX9_worth_103 ?_
                refine G_top (w := .int (s_wor s (i + 1))) (congrArg Value.int ((congrArg (fun z => s_wor s i + w_rk s i - z) (by first | exact (cif_t c95).symm | exact (cif_f c95).symm)).trans (cif_f c19).symm)) ?_
                refine G_istore_n dX9_worth_104 rfl (Nat.le_of_ble_eq_true rfl) rfl ?_
                refine G_iinc (b := nI (i + 1)) dX9_worth_105 rfl (nI_1 i) rfl ?_
                refine G_goto (tgt := 4) dX9_worth_108 (by decide) ?_
                first | exact ih (i + 1) (by omega) | exact G_loc (L' := [.ref 24, .int (s_wor s (i + 1)), .int (nI (i + 1))]) (by rw [e19]; rfl) (ih (i + 1) (by omega))
          · skip
            refine G_sipush (v := 10000) dX9_worth_41 rfl ?_
            refine G_goto (tgt := 70) dX9_worth_44 (by decide) ?_
            refine G_iadd dX9_worth_70 ?_
            refine G_top (w := .int (s_wor s i + w_rk s i)) (congrArg (fun z => Value.int (s_wor s i + z)) (by first | exact (cif_t c38).symm | exact ((cif_f c38).trans (cif_t c59)).symm | exact ((cif_f c38).trans (cif_f c59)).symm)) ?_
            refine G_istore_n dX9_worth_71 rfl (Nat.le_of_ble_eq_true rfl) rfl ?_
            refine G_iload_n dX9_worth_72 rfl rfl ?_
            refine G_aload_n dX9_worth_73 rfl rfl ?_
            refine GM_ref dX9_worth_74 fg_X9_19 (fun _ => rfl) ?_
            refine G_aload_n dX9_worth_77 rfl rfl ?_
            refine GM_ref dX9_worth_78 fg_X9_78 (fun _ => rfl) ?_
            refine G_iload_n dX9_worth_81 rfl rfl ?_
            refine GM_ld dX9_worth_82 mt_36 (by decide) ⟨rfl, by omega⟩ ?_
            refine GM_ld dX9_worth_83 mt_6 (by decide) ⟨(htr.resolve_left c19).1, by have := (htr.resolve_left c19).2; omega⟩ ?_
            refine G_aload_n dX9_worth_84 rfl rfl ?_
            refine GM_ref dX9_worth_85 fg_X9_57 (fun _ => rfl) ?_
            refine G_aload_n dX9_worth_88 rfl rfl ?_
            refine GM_ref dX9_worth_89 fg_X9_75 (fun _ => rfl) ?_
            refine G_iload_n dX9_worth_92 rfl rfl ?_
            refine GM_ld dX9_worth_93 mt_34 (by decide) ⟨rfl, by omega⟩ ?_
            refine GM_ld dX9_worth_94 mt_28 (by decide) ⟨(hro i (by omega)).1, by have := (hro i (by omega)).2; omega⟩ ?_
            refine G_icmp_ne (tgt := 102) dX9_worth_95 (by decide) (fun c95 => ?_) (fun c95 => ?_)
            · skip
              refine G_iconst (v := 1) dX9_worth_102 rfl ?_
              refine G_isub dX9_worth_103 ?_
              refine G_top (w := .int (s_wor s (i + 1))) (congrArg Value.int ((congrArg (fun z => s_wor s i + w_rk s i - z) (by first | exact (cif_t c95).symm | exact (cif_f c95).symm)).trans (cif_f c19).symm)) ?_
              refine G_istore_n dX9_worth_104 rfl (Nat.le_of_ble_eq_true rfl) rfl ?_
              refine G_iinc (b := nI (i + 1)) dX9_worth_105 rfl (nI_1 i) rfl ?_
              refine G_goto (tgt := 4) dX9_worth_108 (by decide) ?_
              first | exact ih (i + 1) (by omega) | exact G_loc (L' := [.ref 24, .int (s_wor s (i + 1)), .int (nI (i + 1))]) (by rw [e19]; rfl) (ih (i + 1) (by omega))
            · skip
              refine G_iconst (v := 0) dX9_worth_98 rfl ?_
              refine G_goto (tgt := 103) dX9_worth_99 (by decide) ?_
              refine G_isub dX9_worth_103 ?_
              refine G_top (w := .int (s_wor s (i + 1))) (congrArg Value.int ((congrArg (fun z => s_wor s i + w_rk s i - z) (by first | exact (cif_t c95).symm | exact (cif_f c95).symm)).trans (cif_f c19).symm)) ?_
              refine G_istore_n dX9_worth_104 rfl (Nat.le_of_ble_eq_true rfl) rfl ?_
              refine G_iinc (b := nI (i + 1)) dX9_worth_105 rfl (nI_1 i) rfl ?_
              refine G_goto (tgt := 4) dX9_worth_108 (by decide) ?_
              first | exact ih (i + 1) (by omega) | exact G_loc (L' := [.ref 24, .int (s_wor s (i + 1)), .int (nI (i + 1))]) (by rw [e19]; rfl) (ih (i + 1) (by omega))
        · skip
          have e19 : s_wor s (i + 1) = s_wor s i := cif_t c19
          refine G_goto (tgt := 105) dX9_worth_22 (by decide) ?_
          refine G_iinc (b := nI (i + 1)) dX9_worth_105 rfl (nI_1 i) rfl ?_
          refine G_goto (tgt := 4) dX9_worth_108 (by decide) ?_
          first | exact ih (i + 1) (by omega) | exact G_loc (L' := [.ref 24, .int (s_wor s (i + 1)), .int (nI (i + 1))]) (by rw [e19]; rfl) (ih (i + 1) (by omega))
  refine G_iconst (v := 0) dX9_worth_0 rfl ?_
  refine G_istore_n dX9_worth_1 rfl (Nat.le_of_ble_eq_true rfl) rfl ?_
  refine G_iconst (v := 0) dX9_worth_2 rfl ?_
  refine G_istore_n dX9_worth_3 rfl (Nat.le_of_ble_eq_true rfl) rfl ?_
  exact loop (mQ s) 0 (by omega)
set_option maxHeartbeats 4000000 in
set_option maxRecDepth 100000 in
theorem c9_stands {g : gT} {nq_ : Nat} {s : mS} {r : mH} (i0 t0 : Nat) (hp : p_inv i0 s) (hi9 : i0 < mQ s) (ht9 : t0 < mT s) : M g 1 0 0 kX9_stands [.ref 24, .int (nI i0), .int (nI t0)] nq_ (hm s r) (m_Q (.int (b1 (s_sta s i0 t0))) nq_ (hm s r)) := by
  refine M_of_G (by decide +kernel) (Nat.le_of_ble_eq_true rfl) ?_
  obtain ⟨hI, hQ, hro, hta⟩ := id hp
  obtain ⟨hK, hT, hB, hP9, hA, hkf, haf, hbf⟩ := id hI
  refine G_aload_n dX9_stands_0 rfl rfl ?_
  refine GM_ref dX9_stands_1 fg_X9_84 (fun _ => rfl) ?_
  refine G_bipush (v := 12) dX9_stands_4 rfl ?_
  refine G_iload_n dX9_stands_6 rfl rfl ?_
  refine G_imul dX9_stands_7 ?_
  refine G_iload_n dX9_stands_8 rfl rfl ?_
  refine G_iadd dX9_stands_9 ?_
  refine G_top (w := .int (nI (12 * i0 + t0))) (congrArg Value.int (by rw [show (12 : Int32) = nI 12 from rfl, pk_mul, nI_add])) ?_
  refine GM_ldz dX9_stands_10 mt_39 (by decide) ⟨rfl, by omega⟩ ?_
  refine G_if_ne (tgt := 16) dX9_stands_11 (by decide) (fun c11 => ?_) (fun c11 => ?_)
  · skip
    refine G_iconst (v := 0) dX9_stands_16 rfl ?_
    refine G_istore_n dX9_stands_17 rfl (Nat.le_of_ble_eq_true rfl) rfl ?_
    have loop : ∀ m i, i + m = i0 → (∀ j, j < i → ¬ (s 36 j = nI t0 ∧ s_rn s i0 j t0)) → G g 1 0 0 kX9_stands 18 [.ref 24, .int (nI i0), .int (nI t0), .int (nI i)] [] nq_ (hm s r) (m_Q (.int (b1 (s_sta s i0 t0))) nq_ (hm s r)) := by
      intro m
      induction m with
      | zero =>
        intro i hi0 hn
        rw [Nat.add_zero] at hi0
        refine G_iload_n dX9_stands_18 rfl rfl ?_
        refine G_iload_n dX9_stands_19 rfl rfl ?_
        refine G_icmp_ge (tgt := 106) dX9_stands_20 (by decide) (fun c20 => ?_) (fun c20 => ?_)
        · skip
          skip
          refine G_iconst (v := 1) dX9_stands_106 rfl ?_
          refine G_zret dX9_stands_107 rfl rfl ?_
          exact q_t ⟨c11, fun j hj => hn j (by omega)⟩
        · skip
          exact absurd (nI_le (Nat.le_of_eq hi0.symm) (by omega)) c20
      | succ m ih =>
        intro i hi0 hn
        refine G_iload_n dX9_stands_18 rfl rfl ?_
        refine G_iload_n dX9_stands_19 rfl rfl ?_
        refine G_icmp_ge (tgt := 106) dX9_stands_20 (by decide) (fun c20 => ?_) (fun c20 => ?_)
        · skip
          exact absurd c20 (by rw [nI_leI (by omega) (by omega)]; omega)
        · skip
          refine G_aload_n dX9_stands_23 rfl rfl ?_
          refine GM_ref dX9_stands_24 fg_X9_78 (fun _ => rfl) ?_
          refine G_iload_n dX9_stands_27 rfl rfl ?_
          refine GM_ld dX9_stands_28 mt_36 (by decide) ⟨rfl, by omega⟩ ?_
          refine G_iload_n dX9_stands_29 rfl rfl ?_
          refine G_icmp_ne (tgt := 100) dX9_stands_30 (by decide) (fun c30 => ?_) (fun c30 => ?_)
          · skip
            refine G_iinc (b := nI (i + 1)) dX9_stands_100 rfl (nI_1 i) rfl ?_
            refine G_goto (tgt := 18) dX9_stands_103 (by decide) ?_
            refine ih (i + 1) (by omega) (fun j hj q => ?_)
            rcases Nat.lt_or_ge j i with z | z
            · exact hn j z q
            · have e : j = i := by omega
              subst e
              first | exact c30 q.1 | exact b1_0.mp c95 q.2
          · skip
            refine G_aload_n dX9_stands_33 rfl rfl ?_
            refine GM_ref dX9_stands_34 fg_X9_63 (fun _ => rfl) ?_
            refine G_aload_n dX9_stands_37 rfl rfl ?_
            refine GM_ref dX9_stands_38 fg_X9_75 (fun _ => rfl) ?_
            refine G_iload_n dX9_stands_41 rfl rfl ?_
            refine GM_ld dX9_stands_42 mt_34 (by decide) ⟨rfl, by omega⟩ ?_
            refine GM_ld dX9_stands_43 mt_30 (by decide) ⟨(hro i0 hi9).1, by have := (hro i0 hi9).2; omega⟩ ?_
            refine G_i2l dX9_stands_44 ?_
            refine G_aload_n dX9_stands_45 rfl rfl ?_
            refine GM_ref dX9_stands_46 fg_X9_66 (fun _ => rfl) ?_
            refine G_aload_n dX9_stands_49 rfl rfl ?_
            refine GM_ref dX9_stands_50 fg_X9_75 (fun _ => rfl) ?_
            refine G_iload_n dX9_stands_53 rfl rfl ?_
            refine GM_ld dX9_stands_54 mt_34 (by decide) ⟨rfl, by omega⟩ ?_
            refine GM_ld dX9_stands_55 mt_31 (by decide) ⟨(hro i0 hi9).1, by have := (hro i0 hi9).2; omega⟩ ?_
            refine G_i2l dX9_stands_56 ?_
            refine G_aload_n dX9_stands_57 rfl rfl ?_
            refine GM_ref dX9_stands_58 fg_X9_63 (fun _ => rfl) ?_
            refine G_aload_n dX9_stands_61 rfl rfl ?_
            refine GM_ref dX9_stands_62 fg_X9_75 (fun _ => rfl) ?_
            refine G_iload_n dX9_stands_65 rfl rfl ?_
            refine GM_ld dX9_stands_66 mt_34 (by decide) ⟨rfl, by omega⟩ ?_
            refine GM_ld dX9_stands_67 mt_30 (by decide) ⟨(hro i (by omega)).1, by have := (hro i (by omega)).2; omega⟩ ?_
            refine G_i2l dX9_stands_68 ?_
            refine G_aload_n dX9_stands_69 rfl rfl ?_
            refine GM_ref dX9_stands_70 fg_X9_66 (fun _ => rfl) ?_
            refine G_aload_n dX9_stands_73 rfl rfl ?_
            refine GM_ref dX9_stands_74 fg_X9_75 (fun _ => rfl) ?_
            refine G_iload_n dX9_stands_77 rfl rfl ?_
            refine GM_ld dX9_stands_78 mt_34 (by decide) ⟨rfl, by omega⟩ ?_
            refine GM_ld dX9_stands_79 mt_31 (by decide) ⟨(hro i (by omega)).1, by have := (hro i (by omega)).2; omega⟩ ?_
            refine G_i2l dX9_stands_80 ?_
            refine G_aload_n dX9_stands_81 rfl rfl ?_
            refine GM_ref dX9_stands_82 fg_X9_7 (fun _ => rfl) ?_
            refine G_aload_n dX9_stands_85 rfl rfl ?_
            refine GM_ref dX9_stands_86 fg_X9_19 (fun _ => rfl) ?_
            refine G_iload_n dX9_stands_89 rfl rfl ?_
            refine GM_ld dX9_stands_90 mt_6 (by decide) ⟨rfl, by omega⟩ ?_
            refine GM_ld dX9_stands_91 mt_2 (by decide) ⟨(hkf t0 ht9).1, by have := (hkf t0 ht9).2; omega⟩ ?_
            refine GM_calls (c9_areNear _ _ _ _ _) dX9_stands_92 (mc_X9_183 rfl) tw_1124 rfl rfl (Nat.le_of_ble_eq_true rfl) (Nat.le_of_ble_eq_true rfl) ?_
            rintro _ n9_ _ ⟨rfl, e9_, rfl⟩
            obtain rfl := e9_.symm
            refine G_if_eq (tgt := 100) dX9_stands_95 (by decide) (fun c95 => ?_) (fun c95 => ?_)
            · skip
              refine G_iinc (b := nI (i + 1)) dX9_stands_100 rfl (nI_1 i) rfl ?_
              refine G_goto (tgt := 18) dX9_stands_103 (by decide) ?_
              refine ih (i + 1) (by omega) (fun j hj q => ?_)
              rcases Nat.lt_or_ge j i with z | z
              · exact hn j z q
              · have e : j = i := by omega
                subst e
                first | exact c30 q.1 | exact b1_0.mp c95 q.2
            · skip
              refine G_iconst (v := 0) dX9_stands_98 rfl ?_
              refine G_zret dX9_stands_99 rfl rfl ?_
              exact q_f (fun q => q.2 i (by omega) ⟨c30, b1_1 c95⟩)
    exact loop i0 0 (by omega) (fun j hj => absurd hj (Nat.not_lt_zero j))
  · skip
    refine G_iconst (v := 0) dX9_stands_14 rfl ?_
    refine G_zret dX9_stands_15 rfl rfl ?_
    exact q_f (fun q => q.1 c11)
set_option maxHeartbeats 4000000 in
set_option maxRecDepth 100000 in
theorem c9_tries {g : gT} {r : mH} : ∀ (d9 : Nat) {nq_ : Nat} {s : mS} (i0 : Nat), i0 + d9 = mQ s → p_inv i0 s → M g (3 + d9) 0 0 kX9_tries [.ref 24, .int (nI i0)] nq_ (hm s r) (m_V nq_ (s_tr d9 i0 s) r) := by
  intro d9
  induction d9 with
  | zero =>
    intro nq_ s i0 hd0 hp
    rw [Nat.add_zero] at hd0
    refine M_of_G (by decide +kernel) (Nat.le_of_ble_eq_true rfl) ?_
    obtain ⟨hI, hQ, hro, hta⟩ := id hp
    obtain ⟨hK, hT, hB, hP9, hA, hkf, haf, hbf⟩ := id hI
    refine G_iload_n dX9_tries_0 rfl rfl ?_
    refine G_aload_n dX9_tries_1 rfl rfl ?_
    refine GM_get dX9_tries_2 fg_X9_187 ms_35 ?_
    refine G_icmp_ne (tgt := 56) dX9_tries_5 (by decide) (fun c5 => ?_) (fun c5 => ?_)
    · skip
      exact absurd (by rw [hQ.1]; exact congrArg nI (by omega)) c5
    · skip
      refine G_aload_n dX9_tries_8 rfl rfl ?_
      refine GM_call (c9_worth (by rw [← hd0]; exact hp)) dX9_tries_9 (mc_X9_190 rfl) tw_1132 tw_46 rfl rfl rfl (Nat.le_of_ble_eq_true rfl) (by omega) ?_
      rintro _ n9_ _ ⟨rfl, e9_, rfl⟩
      obtain rfl := e9_.symm
      refine G_istore_n dX9_tries_12 rfl (Nat.le_of_ble_eq_true rfl) rfl ?_
      refine G_iload_n dX9_tries_13 rfl rfl ?_
      refine G_aload_n dX9_tries_14 rfl rfl ?_
      refine GM_get dX9_tries_15 fg_X9_194 ms_38 ?_
      refine G_icmp_gt (tgt := 22) dX9_tries_18 (by decide) (fun c18 => ?_) (fun c18 => ?_)
      · skip
        refine G_aload_n dX9_tries_22 rfl rfl ?_
        refine G_iload_n dX9_tries_23 rfl rfl ?_
        refine GM_put dX9_tries_24 fp_X9_194 ms_38 ?_
        refine G_iconst (v := 0) dX9_tries_27 rfl ?_
        refine G_istore_n dX9_tries_28 rfl (Nat.le_of_ble_eq_true rfl) rfl ?_
        have loop : ∀ m i, i + m = mQ s → G g 3 0 0 kX9_tries 29 [.ref 24, .int (nI i0), .int (s_wor s (mQ s)), .int (nI i)] [] nq_ (hm (s_cpb (m_set s 38 0 (s_wor s (mQ s))) i) r) (m_V nq_ (s_tr 0 i0 s) r) := by
          intro m
          induction m with
          | zero =>
            intro i hi0 
            rw [Nat.add_zero] at hi0
            refine G_iload_n dX9_tries_29 rfl rfl ?_
            refine G_aload_n dX9_tries_30 rfl rfl ?_
            refine GM_get dX9_tries_31 fg_X9_187 ms_35 ?_
            refine G_top (w := .int (s 35 0)) (congrArg Value.int (s_cpb_o _ (by decide) i 0)) ?_
            refine G_icmp_ge (tgt := 55) dX9_tries_34 (by decide) (fun c34 => ?_) (fun c34 => ?_)
            · skip
              skip
              refine G_vret dX9_tries_55 rfl ?_
              exact v_cl ((cif_t c18).trans (by rw [hi0]))
            · skip
              exact absurd (by rw [hQ.1]; exact nI_le (Nat.le_of_eq hi0.symm) (by omega)) c34
          | succ m ih =>
            intro i hi0 
            refine G_iload_n dX9_tries_29 rfl rfl ?_
            refine G_aload_n dX9_tries_30 rfl rfl ?_
            refine GM_get dX9_tries_31 fg_X9_187 ms_35 ?_
            refine G_top (w := .int (s 35 0)) (congrArg Value.int (s_cpb_o _ (by decide) i 0)) ?_
            refine G_icmp_ge (tgt := 55) dX9_tries_34 (by decide) (fun c34 => ?_) (fun c34 => ?_)
            · skip
              exact absurd c34 (by rw [hQ.1, nI_leI (by omega) (by omega)]; omega)
            · skip
              refine G_aload_n dX9_tries_37 rfl rfl ?_
              refine GM_ref dX9_tries_38 fg_X9_81 (fun _ => rfl) ?_
              refine G_iload_n dX9_tries_41 rfl rfl ?_
              refine G_aload_n dX9_tries_42 rfl rfl ?_
              refine GM_ref dX9_tries_43 fg_X9_78 (fun _ => rfl) ?_
              refine G_iload_n dX9_tries_46 rfl rfl ?_
              refine GM_ld dX9_tries_47 mt_36 (by decide) ⟨rfl, by omega⟩ ?_
              refine G_top (w := .int (m_set s 38 0 (s_wor s (mQ s)) 36 i)) (congrArg Value.int (s_cpb_o _ (by decide) i i)) ?_
              refine GM_st dX9_tries_48 mt_37 ma_37 (by decide) ⟨rfl, by omega⟩ ?_
              refine G_hp (s' := s_cpb (m_set s 38 0 (s_wor s (mQ s))) (i + 1)) rfl ?_
              refine G_iinc (b := nI (i + 1)) dX9_tries_49 rfl (nI_1 i) rfl ?_
              refine G_goto (tgt := 29) dX9_tries_52 (by decide) ?_
              exact ih (i + 1) (by omega)
        exact loop (mQ s) 0 (by omega)
      · skip
        refine G_vret dX9_tries_21 rfl ?_
        exact v_cl (cif_f c18)
  | succ d9 ihd =>
    intro nq_ s i0 hd0 hp
    refine M_of_G (by decide +kernel) (Nat.le_of_ble_eq_true rfl) ?_
    obtain ⟨hI, hQ, hro, hta⟩ := id hp
    obtain ⟨hK, hT, hB, hP9, hA, hkf, haf, hbf⟩ := id hI
    have hkp : ∀ i, s_lp (s_tr d9 (i0 + 1)) i0 i s 5 0 = s 5 0 ∧ p_inv i0 (s_lp (s_tr d9 (i0 + 1)) i0 i s) ∧ mQ (s_lp (s_tr d9 (i0 + 1)) i0 i s) = mQ s ∧ mT (s_lp (s_tr d9 (i0 + 1)) i0 i s) = mT s := fun i => by
      have hk9 := s_lp_keep (s_tr_keep d9 (i0 + 1)) i s
      exact ⟨hk9.1 5 0 (by decide) (by decide) (by decide), p_inv_keep hk9 hp (Nat.le_refl i0), by unfold mQ; rw [hk9.1 35 0 (by decide) (by decide) (by decide)], by unfold mT; rw [hk9.1 5 0 (by decide) (by decide) (by decide)]⟩
    refine G_iload_n dX9_tries_0 rfl rfl ?_
    refine G_aload_n dX9_tries_1 rfl rfl ?_
    refine GM_get dX9_tries_2 fg_X9_187 ms_35 ?_
    refine G_icmp_ne (tgt := 56) dX9_tries_5 (by decide) (fun c5 => ?_) (fun c5 => ?_)
    · skip
      refine G_iconst (v := 0) dX9_tries_56 rfl ?_
      refine G_istore_n dX9_tries_57 rfl (Nat.le_of_ble_eq_true rfl) rfl ?_
      have loop : ∀ m i, i + m = mT s → G g (3 + (d9 + 1)) 0 0 kX9_tries 58 [.ref 24, .int (nI i0), .int (nI i), .retAddr 0] [] nq_ (hm (s_lp (s_tr d9 (i0 + 1)) i0 i s) r) (m_V nq_ (s_tr (d9 + 1) i0 s) r) := by
        intro m
        induction m with
        | zero =>
          intro i hi0 
          rw [Nat.add_zero] at hi0
          refine G_iload_n dX9_tries_58 rfl rfl ?_
          refine G_aload_n dX9_tries_59 rfl rfl ?_
          refine GM_get dX9_tries_60 fg_X9_107 ms_5 ?_
          refine G_top (w := .int (s 5 0)) (congrArg Value.int (hkp i).1) ?_
          refine G_icmp_ge (tgt := 98) dX9_tries_63 (by decide) (fun c63 => ?_) (fun c63 => ?_)
          · skip
            skip
            refine G_aload_n dX9_tries_98 rfl rfl ?_
            refine GM_ref dX9_tries_99 fg_X9_78 (fun _ => rfl) ?_
            refine G_iload_n dX9_tries_102 rfl rfl ?_
            refine G_iconst (v := -1) dX9_tries_103 rfl ?_
            refine GM_st dX9_tries_104 mt_36 ma_36 (by decide) ⟨rfl, by omega⟩ ?_
            refine G_aload_n dX9_tries_105 rfl rfl ?_
            refine G_iload_n dX9_tries_106 rfl rfl ?_
            refine G_iconst (v := 1) dX9_tries_107 rfl ?_
            refine G_iadd dX9_tries_108 ?_
            refine G_top (w := .int (nI (i0 + 1))) (congrArg Value.int (nI_1 i0)) ?_
            refine GM_call (ihd (s := m_set (s_lp (s_tr d9 (i0 + 1)) i0 i s) 36 i0 (-1)) (i0 + 1) (by show _ = mQ (s_lp (s_tr d9 (i0 + 1)) i0 i s); rw [(hkp i).2.2.1]; omega) (p_inv_st (hkp i).2.1 (Or.inl rfl))) dX9_tries_109 (mc_X9_200 rfl) tw_1128 tw_45 rfl rfl rfl (Nat.le_of_ble_eq_true rfl) (by omega) ?_
            rintro _ n9_ _ ⟨rfl, e9_, rfl⟩
            obtain rfl := e9_.symm
            refine G_vret dX9_tries_112 rfl ?_
            exact v_cl (by rw [hi0]; rfl)
          · skip
            exact absurd (by rw [hT.1]; exact nI_le (Nat.le_of_eq hi0.symm) (by omega)) c63
        | succ m ih =>
          intro i hi0 
          refine G_iload_n dX9_tries_58 rfl rfl ?_
          refine G_aload_n dX9_tries_59 rfl rfl ?_
          refine GM_get dX9_tries_60 fg_X9_107 ms_5 ?_
          refine G_top (w := .int (s 5 0)) (congrArg Value.int (hkp i).1) ?_
          refine G_icmp_ge (tgt := 98) dX9_tries_63 (by decide) (fun c63 => ?_) (fun c63 => ?_)
          · skip
            exact absurd c63 (by rw [hT.1, nI_leI (by omega) (by omega)]; omega)
          · skip
            refine G_aload_n dX9_tries_66 rfl rfl ?_
            refine G_iload_n dX9_tries_67 rfl rfl ?_
            refine G_iload_n dX9_tries_68 rfl rfl ?_
            refine GM_call (c9_stands i0 i (s := (s_lp (s_tr d9 (i0 + 1)) i0 i s)) (hkp i).2.1 (by rw [(hkp i).2.2.1]; omega) (by rw [(hkp i).2.2.2]; omega)) dX9_tries_69 (mc_X9_197 rfl) tw_1136 tw_47 rfl rfl rfl (Nat.le_of_ble_eq_true rfl) (by omega) ?_
            rintro _ n9_ _ ⟨rfl, e9_, rfl⟩
            obtain rfl := e9_.symm
            refine G_if_ne (tgt := 78) dX9_tries_72 (by decide) (fun c72 => ?_) (fun c72 => ?_)
            · skip
              have e72 : s_lp (s_tr d9 (i0 + 1)) i0 (i + 1) s = s_tr d9 (i0 + 1) (m_set (s_lp (s_tr d9 (i0 + 1)) i0 i s) 36 i0 (nI i)) := cif_t (b1_1 c72)
              refine G_aload_n dX9_tries_78 rfl rfl ?_
              refine GM_ref dX9_tries_79 fg_X9_78 (fun _ => rfl) ?_
              refine G_iload_n dX9_tries_82 rfl rfl ?_
              refine G_iload_n dX9_tries_83 rfl rfl ?_
              refine GM_st dX9_tries_84 mt_36 ma_36 (by decide) ⟨rfl, by omega⟩ ?_
              refine G_aload_n dX9_tries_85 rfl rfl ?_
              refine G_iload_n dX9_tries_86 rfl rfl ?_
              refine G_iconst (v := 1) dX9_tries_87 rfl ?_
              refine G_iadd dX9_tries_88 ?_
              refine G_top (w := .int (nI (i0 + 1))) (congrArg Value.int (nI_1 i0)) ?_
              refine GM_call (ihd (s := m_set (s_lp (s_tr d9 (i0 + 1)) i0 i s) 36 i0 (nI i)) (i0 + 1) (by show _ = mQ (s_lp (s_tr d9 (i0 + 1)) i0 i s); rw [(hkp i).2.2.1]; omega) (p_inv_st (hkp i).2.1 (Or.inr ⟨by rw [ixn (by omega)], by rw [ixn (by omega), (hkp i).2.2.2]; omega⟩))) dX9_tries_89 (mc_X9_200 rfl) tw_1128 tw_45 rfl rfl rfl (Nat.le_of_ble_eq_true rfl) (by omega) ?_
              rintro _ n9_ _ ⟨rfl, e9_, rfl⟩
              obtain rfl := e9_.symm
              refine G_iinc (b := nI (i + 1)) dX9_tries_92 rfl (nI_1 i) rfl ?_
              refine G_goto (tgt := 58) dX9_tries_95 (by decide) ?_
              exact G_hp (s' := s_lp (s_tr d9 (i0 + 1)) i0 (i + 1) s) e72.symm (ih (i + 1) (by omega))
            · skip
              have e72 : s_lp (s_tr d9 (i0 + 1)) i0 (i + 1) s = (s_lp (s_tr d9 (i0 + 1)) i0 i s) := cif_f (b1_0.mp c72)
              refine G_goto (tgt := 92) dX9_tries_75 (by decide) ?_
              refine G_iinc (b := nI (i + 1)) dX9_tries_92 rfl (nI_1 i) rfl ?_
              refine G_goto (tgt := 58) dX9_tries_95 (by decide) ?_
              exact G_hp (s' := s_lp (s_tr d9 (i0 + 1)) i0 (i + 1) s) e72.symm (ih (i + 1) (by omega))
      exact loop (mT s) 0 (by omega)
    · skip
      exact absurd (by rw [← c5, nI_eq (by omega) (by omega)] at hQ; exact hQ.1) (by omega)
