/-- the same house: all numbers but the scratch ones (0, and 34 on) -/
def s_sm (u s : mS) : Prop := ∀ a, 1 ≤ a → a < 34 → u a = s a
theorem s_sm.rf {s : mS} : s_sm s s := fun _ _ _ => rfl
theorem s_sm.st {u s : mS} {j i : Nat} {v : Int32} (h : s_sm u s) (hj : j = 0 ∨ 34 ≤ j) : s_sm (m_set u j i v) s := fun a h1 h2 => (m_set_ne _ _ _ (by omega)).trans (h a h1 h2)
theorem s_sm.tr {u w s : mS} (h : s_sm u w) (h2 : s_sm w s) : s_sm u s := fun a q1 q2 => (h a q1 q2).trans (h2 a q1 q2)
theorem s_sm.sy {u s : mS} (h : s_sm u s) : s_sm s u := fun a q1 q2 => (h a q1 q2).symm
theorem s_sm.kp {i : Nat} {u s : mS} (h : s_keep i s u) : s_sm u s := fun a h1 h2 => funext (fun b => h.1 a b (by omega) (by omega) (by omega))
theorem sm_T {u s : mS} (h : s_sm u s) : mT u = mT s := by unfold mT; rw [h 5 (by decide) (by decide)]
theorem sm_A {u s : mS} (h : s_sm u s) : mA u = mA s := by unfold mA; rw [h 23 (by decide) (by decide)]
theorem sm_K {u s : mS} (h : s_sm u s) : mK u = mK s := by unfold mK; rw [h 1 (by decide) (by decide)]
theorem sm_inv {u s : mS} (h : s_sm u s) (hI : m_inv s) : m_inv u := by
  unfold m_inv mK mT mB mP mA at *
  rw [h 1 (by decide) (by decide), h 5 (by decide) (by decide), h 8 (by decide) (by decide), h 13 (by decide) (by decide), h 23 (by decide) (by decide), h 6 (by decide) (by decide), h 24 (by decide) (by decide), h 25 (by decide) (by decide), h 27 (by decide) (by decide), h 28 (by decide) (by decide)]
  exact hI
theorem sm_fits {u s : mS} (h : s_sm u s) (k a : Nat) : s_fits u k a = s_fits s k a := by
  unfold s_fits
  rw [h 28 (by decide) (by decide), h 29 (by decide) (by decide), h 3 (by decide) (by decide)]
theorem sm_free {u s : mS} (h : s_sm u s) (t f l b : Int32) : s_free u t f l b = s_free s t f l b := by
  unfold s_free s_holds s_end s_care mA
  rw [h 23 (by decide) (by decide), h 25 (by decide) (by decide), h 24 (by decide) (by decide), h 30 (by decide) (by decide), h 31 (by decide) (by decide), h 33 (by decide) (by decide), h 11 (by decide) (by decide), h 2 (by decide) (by decide), h 6 (by decide) (by decide)]
theorem sm_ow {u s : mS} (h : s_sm u s) (t : Int32) : s_ow u t = s_ow s t := by
  unfold s_ow mA
  rw [h 23 (by decide) (by decide), h 25 (by decide) (by decide), h 24 (by decide) (by decide)]
theorem sm_late {u s : mS} (h : s_sm u s) (t : Int32) : s_late u t = s_late s t := by
  unfold s_late
  rw [sm_ow h, h 31 (by decide) (by decide), h 11 (by decide) (by decide)]
theorem sm_ahead {u s : mS} (h : s_sm u s) (a b : Nat) : s_ahead u a b = s_ahead s a b := by
  unfold s_ahead
  rw [h 32 (by decide) (by decide), h 30 (by decide) (by decide)]
/-- what ask a may have of thing t -/
def s_may (s : mS) (a t : Nat) : Prop := s_fits s (ix (s 6 t)) a ∧ s_free s (nI t) (s 30 a) (s 31 a) (nI a)
noncomputable def s_pd (s : mS) (a : Nat) : Nat := ct (fun b => s 24 b = 0) a
noncomputable def pl_c (s u : mS) (a q : Nat) : Nat → mS
  | 0 => u
  | t + 1 => m_set (pl_c s u a q t) 39 (12 * q + t) (b1 (s_may s a t))
noncomputable def pl_r (s : mS) : Nat → mS
  | 0 => m_set s 35 0 0
  | a + 1 => cif (s 24 a = 0) (m_set (pl_c s (m_set (pl_r s a) 34 (s_pd s a) (nI a)) a (s_pd s a) (mT s)) 35 0 (nI (s_pd s a + 1))) (pl_r s a)
noncomputable def pl_f (u : mS) : Nat → mS
  | 0 => u
  | i + 1 => m_set (m_set (pl_f u i) 25 (ix (u 34 i)) (u 37 i)) 24 (ix (u 34 i)) (cif (u 37 i = -1) 2 1)
noncomputable def pl_u (s : mS) : mS := s_tr (s_pd s (mA s)) 0 (m_set (pl_r s (mA s)) 38 0 (-1))
noncomputable def sp_plan (s : mS) : mS × Int32 := (pl_f (pl_u s) (s_pd s (mA s)), nI (ct (fun i => ¬ pl_u s 37 i = -1) (s_pd s (mA s))))
theorem pl_c_sm {s u : mS} {a q : Nat} (h : s_sm u s) : ∀ t, s_sm (pl_c s u a q t) s
  | 0 => h
  | t + 1 => (pl_c_sm h t).st (Or.inr (by decide))
theorem pl_r_sm (s : mS) : ∀ a, s_sm (pl_r s a) s
  | 0 => s_sm.rf.st (Or.inr (by decide))
  | a + 1 => by
    show s_sm (cif _ _ _) s
    by_cases h : s 24 a = 0
    · rw [cif_t h]; exact (pl_c_sm ((pl_r_sm s a).st (Or.inr (by decide))) _).st (Or.inr (by decide))
    · rw [cif_f h]; exact pl_r_sm s a
theorem pl_c_o (s u : mS) (a q : Nat) {j : Nat} (hj : j ≠ 39) : ∀ t, pl_c s u a q t j = u j
  | 0 => rfl
  | t + 1 => (m_set_ne _ _ _ hj).trans (pl_c_o s u a q hj t)
theorem pl_r_35 (s : mS) : ∀ a, pl_r s a 35 0 = nI (s_pd s a)
  | 0 => by show m_set _ _ _ _ _ _ = _; rw [m_set_at]; rfl
  | a + 1 => by
    show (cif _ _ _ : mS) 35 0 = nI (ct _ (a + 1))
    by_cases h : s 24 a = 0
    · rw [cif_t h, m_set_at, ct_t h]; rfl
    · rw [cif_f h, ct_f h]; exact pl_r_35 s a
theorem pd_le (s : mS) {a : Nat} : ∀ {b : Nat}, a ≤ b → s_pd s a ≤ s_pd s b
  | 0, h => by rw [show a = 0 by omega]; exact Nat.le_refl _
  | b + 1, h => by
    rcases Nat.lt_or_ge a (b + 1) with q | q
    · have ih := pd_le s (a := a) (b := b) (by omega)
      show _ ≤ ct _ (b + 1)
      by_cases z : s 24 b = 0
      · rw [ct_t z]; exact Nat.le_succ_of_le ih
      · rw [ct_f z]; exact ih
    · rw [show a = b + 1 by omega]; exact Nat.le_refl _
theorem pl_r_34 (s : mS) : ∀ a j, j < s_pd s a → ∃ b, b < a ∧ pl_r s a 34 j = nI b ∧ s 24 b = 0 ∧ s_pd s b = j
  | 0, j, h => absurd h (Nat.not_lt_zero j)
  | a + 1, j, h => by
    by_cases z : s 24 a = 0
    · have e : pl_r s (a + 1) = m_set (pl_c s (m_set (pl_r s a) 34 (s_pd s a) (nI a)) a (s_pd s a) (mT s)) 35 0 (nI (s_pd s a + 1)) := cif_t z
      have e2 : pl_r s (a + 1) 34 = m_set (pl_r s a) 34 (s_pd s a) (nI a) 34 := by rw [e, m_set_ne _ _ _ (by decide), pl_c_o _ _ _ _ (by decide)]
      rw [e2]
      have hj : j < s_pd s a + 1 := by
        have : s_pd s (a + 1) = s_pd s a + 1 := ct_t z
        omega
      by_cases q : j = s_pd s a
      · exact ⟨a, by omega, by rw [q, m_set_at], z, q.symm⟩
      · obtain ⟨b, b1_, b2, b3, b4⟩ := pl_r_34 s a j (by omega)
        exact ⟨b, by omega, by simp only [m_set]; rw [if_neg (fun w => q w.2)]; exact b2, b3, b4⟩
    · have e : pl_r s (a + 1) = pl_r s a := cif_f z
      have e3 : s_pd s (a + 1) = s_pd s a := ct_f z
      rw [e]
      obtain ⟨b, b1_, b2⟩ := pl_r_34 s a j (by omega)
      exact ⟨b, by omega, b2⟩

set_option maxHeartbeats 4000000 in
set_option maxRecDepth 100000 in
theorem c9_plan {g : gT} {nq_ : Nat} {s : mS} {r : mH}  (hI : m_inv (m_set s 0 0 0)) (hpn : s_pd (m_set s 0 0 0) (mA (m_set s 0 0 0)) ≤ 5) : M g 9 0 0 kX9_plan [.ref 24] nq_ (hm s r) (m_S (.int (sp_plan (m_set s 0 0 0)).2) nq_ (sp_plan (m_set s 0 0 0)).1 r) := by
  refine M_of_G (by decide +kernel) (Nat.le_of_ble_eq_true rfl) ?_
  refine G_aload_n dX9_plan_0 rfl rfl ?_
  refine G_iconst (v := 0) dX9_plan_1 rfl ?_
  refine GM_put dX9_plan_2 fp_X9_97 ms_0 ?_
  generalize e0 : m_set s 0 0 0 = s0 at hI hpn ⊢
  obtain ⟨hK, hT, hB, hP9, hA, hkf, haf, hbf⟩ := id hI
  have hpi : p_inv 0 (m_set (pl_r s0 (mA s0)) 38 0 (-1)) := by
    have hsm : s_sm (m_set (pl_r s0 (mA s0)) 38 0 (-1)) s0 := (pl_r_sm s0 (mA s0)).st (Or.inr (by decide))
    have e35 : m_set (pl_r s0 (mA s0)) 38 0 (-1) 35 0 = nI (s_pd s0 (mA s0)) := pl_r_35 s0 (mA s0)
    have eQ : mQ (m_set (pl_r s0 (mA s0)) 38 0 (-1)) = s_pd s0 (mA s0) := by unfold mQ; rw [e35]; exact nI_clamp (by omega)
    refine ⟨sm_inv hsm hI, ⟨by rw [eQ]; exact e35, by omega⟩, fun j hj => ?_, fun j hj => absurd hj (Nat.not_lt_zero j)⟩
    obtain ⟨b, b1_, b2, -⟩ := pl_r_34 s0 (mA s0) j (by omega)
    have e34 : m_set (pl_r s0 (mA s0)) 38 0 (-1) 34 j = nI b := b2
    rw [e34, ixn (by omega), sm_A hsm]
    exact ⟨rfl, b1_⟩
  have hkp := s_tr_keep (s_pd s0 (mA s0)) 0 (m_set (pl_r s0 (mA s0)) 38 0 (-1))
  have hu35 : pl_u s0 35 0 = nI (s_pd s0 (mA s0)) := (hkp.1 35 0 (by decide) (by decide) (by decide)).trans (pl_r_35 s0 (mA s0))
  have hu34 : ∀ i, i < s_pd s0 (mA s0) → pl_u s0 34 i = nI (ix (pl_u s0 34 i)) ∧ ix (pl_u s0 34 i) < mA s0 := fun i hi => by
    obtain ⟨b, b1_, b2, -⟩ := pl_r_34 s0 (mA s0) i hi
    have e34 : pl_u s0 34 i = nI b := (hkp.1 34 i (by decide) (by decide) (by decide)).trans b2
    rw [e34, ixn (by omega)]
    exact ⟨rfl, b1_⟩
  have hpf : ∀ i j, j ≠ 24 → j ≠ 25 → ∀ b, pl_f (pl_u s0) i j b = pl_u s0 j b := fun i => by
    induction i with
    | zero => intro j h1 h2 b; rfl
    | succ i ih => intro j h1 h2 b; show m_set _ _ _ _ _ _ = _; rw [m_set_ne _ _ _ h1, m_set_ne _ _ _ h2]; exact ih j h1 h2 b
  have inner : ∀ a9, a9 < mA s0 → s_pd s0 a9 < 5 → (∀ i, i = mT s0 → G g 9 0 0 kX9_plan 112 [.ref 24, .int (nI a9), .int (nI i), .retAddr 0] [] nq_ (hm (pl_c s0 (m_set (pl_r s0 a9) 34 (s_pd s0 a9) (nI a9)) a9 (s_pd s0 a9) i) r) (m_S (.int (sp_plan s0).2) nq_ (sp_plan s0).1 r)) → ∀ m i, i + m = mT s0 → G g 9 0 0 kX9_plan 44 [.ref 24, .int (nI a9), .int (nI i), .retAddr 0] [] nq_ (hm (pl_c s0 (m_set (pl_r s0 a9) 34 (s_pd s0 a9) (nI a9)) a9 (s_pd s0 a9) i) r) (m_S (.int (sp_plan s0).2) nq_ (sp_plan s0).1 r) := by
    intro a9 ha9 hq9 K9
    have hcs : ∀ i, s_sm (pl_c s0 (m_set (pl_r s0 a9) 34 (s_pd s0 a9) (nI a9)) a9 (s_pd s0 a9) i) s0 := fun i => pl_c_sm ((pl_r_sm s0 a9).st (Or.inr (by decide))) i
    intro m
    induction m with
    | zero =>
      intro i hi0 
      rw [Nat.add_zero] at hi0
      refine G_iload_n dX9_plan_44 rfl rfl ?_
      refine G_aload_n dX9_plan_45 rfl rfl ?_
      refine GM_get dX9_plan_46 fg_X9_107 ms_5 ?_
      refine G_top (w := .int (s0 5 0)) (congrArg Value.int (congrFun ((hcs i) 5 (by decide) (by decide)) 0)) ?_
      refine G_icmp_ge (tgt := 112) dX9_plan_49 (by decide) (fun c49 => ?_) (fun c49 => ?_)
      · skip
        skip
        exact K9 i hi0
      · skip
        exact absurd (by rw [hT.1]; exact nI_le (Nat.le_of_eq hi0.symm) (by omega)) c49
    | succ m ih =>
      intro i hi0 
      refine G_iload_n dX9_plan_44 rfl rfl ?_
      refine G_aload_n dX9_plan_45 rfl rfl ?_
      refine GM_get dX9_plan_46 fg_X9_107 ms_5 ?_
      refine G_top (w := .int (s0 5 0)) (congrArg Value.int (congrFun ((hcs i) 5 (by decide) (by decide)) 0)) ?_
      refine G_icmp_ge (tgt := 112) dX9_plan_49 (by decide) (fun c49 => ?_) (fun c49 => ?_)
      · skip
        exact absurd c49 (by rw [hT.1, nI_leI (by omega) (by omega)]; omega)
      · skip
        refine G_aload_n dX9_plan_52 rfl rfl ?_
        refine GM_ref dX9_plan_53 fg_X9_84 (fun _ => rfl) ?_
        refine G_bipush (v := 12) dX9_plan_56 rfl ?_
        refine G_aload_n dX9_plan_58 rfl rfl ?_
        refine GM_get dX9_plan_59 fg_X9_187 ms_35 ?_
        refine G_top (w := .int (nI (s_pd s0 a9))) (congrArg Value.int ((congrFun (pl_c_o s0 (m_set (pl_r s0 a9) 34 (s_pd s0 a9) (nI a9)) a9 (s_pd s0 a9) (by decide) i) 0).trans (pl_r_35 s0 a9))) ?_
        refine G_imul dX9_plan_62 ?_
        refine G_iload_n dX9_plan_63 rfl rfl ?_
        refine G_iadd dX9_plan_64 ?_
        refine G_top (w := .int (nI (12 * s_pd s0 a9 + i))) (congrArg Value.int (by rw [show (12 : Int32) = nI 12 from rfl, pk_mul, nI_add])) ?_
        refine G_aload_n dX9_plan_65 rfl rfl ?_
        refine G_aload_n dX9_plan_66 rfl rfl ?_
        refine GM_ref dX9_plan_67 fg_X9_19 (fun _ => rfl) ?_
        refine G_iload_n dX9_plan_70 rfl rfl ?_
        refine GM_ld dX9_plan_71 mt_6 (by decide) ⟨rfl, by omega⟩ ?_
        refine G_top (w := .int (nI (ix (s0 6 i)))) (congrArg Value.int ((congrFun ((hcs i) 6 (by decide) (by decide)) i).trans (hkf i (by omega)).1)) ?_
        refine G_iload_n dX9_plan_72 rfl rfl ?_
        refine GM_call (c9_fits (ix (s0 6 i)) a9 (s := (pl_c s0 (m_set (pl_r s0 a9) 34 (s_pd s0 a9) (nI a9)) a9 (s_pd s0 a9) i)) (sm_inv (hcs i) hI) (by rw [sm_K (hcs i)]; exact (hkf i (by omega)).2) (by rw [sm_A (hcs i)]; exact ha9)) dX9_plan_73 (mc_X9_204 rfl) tw_1113 tw_42 rfl rfl rfl (Nat.le_of_ble_eq_true rfl) (Nat.le_of_ble_eq_true rfl) ?_
        rintro _ n9_ _ ⟨rfl, e9_, rfl⟩
        obtain rfl := e9_.symm
        refine G_if_eq (tgt := 104) dX9_plan_76 (by decide) (fun c76 => ?_) (fun c76 => ?_)
        · skip
          refine G_iconst (v := 0) dX9_plan_104 rfl ?_
          refine GM_stz dX9_plan_105 mt_39 ma_39 (by decide) ⟨rfl, by omega⟩ ?_
          refine G_hp (s' := pl_c s0 (m_set (pl_r s0 a9) 34 (s_pd s0 a9) (nI a9)) a9 (s_pd s0 a9) (i + 1)) (congrArg (m_set (pl_c s0 (m_set (pl_r s0 a9) 34 (s_pd s0 a9) (nI a9)) a9 (s_pd s0 a9) i) 39 (12 * s_pd s0 a9 + i)) (by first | exact (b1_t ⟨by rw [← sm_fits (hcs i)]; exact b1_1 c76, by rw [← sm_free (hcs i)]; exact b1_1 c97⟩).symm | exact (b1_f (fun q => b1_0.mp c76 (by rw [sm_fits (hcs i)]; exact q.1))).symm | exact (b1_f (fun q => b1_0.mp c97 (by rw [sm_free (hcs i)]; exact q.2))).symm)) ?_
          refine G_iinc (b := nI (i + 1)) dX9_plan_106 rfl (nI_1 i) rfl ?_
          refine G_goto (tgt := 44) dX9_plan_109 (by decide) ?_
          exact ih (i + 1) (by omega)
        · skip
          refine G_aload_n dX9_plan_79 rfl rfl ?_
          refine G_iload_n dX9_plan_80 rfl rfl ?_
          refine G_aload_n dX9_plan_81 rfl rfl ?_
          refine GM_ref dX9_plan_82 fg_X9_63 (fun _ => rfl) ?_
          refine G_iload_n dX9_plan_85 rfl rfl ?_
          refine GM_ld dX9_plan_86 mt_30 (by decide) ⟨rfl, by omega⟩ ?_
          refine G_top (w := .int (s0 30 a9)) (congrArg Value.int (congrFun ((hcs i) 30 (by decide) (by decide)) a9)) ?_
          refine G_aload_n dX9_plan_87 rfl rfl ?_
          refine GM_ref dX9_plan_88 fg_X9_66 (fun _ => rfl) ?_
          refine G_iload_n dX9_plan_91 rfl rfl ?_
          refine GM_ld dX9_plan_92 mt_31 (by decide) ⟨rfl, by omega⟩ ?_
          refine G_top (w := .int (s0 31 a9)) (congrArg Value.int (congrFun ((hcs i) 31 (by decide) (by decide)) a9)) ?_
          refine G_iload_n dX9_plan_93 rfl rfl ?_
          refine GM_call (c9_isFreeFor i (s0 30 a9) (s0 31 a9) (nI a9) (s := (pl_c s0 (m_set (pl_r s0 a9) 34 (s_pd s0 a9) (nI a9)) a9 (s_pd s0 a9) i)) (sm_inv (hcs i) hI) (by rw [sm_T (hcs i)]; omega)) dX9_plan_94 (mc_X9_207 rfl) tw_1117 tw_43 rfl rfl rfl (Nat.le_of_ble_eq_true rfl) (Nat.le_of_ble_eq_true rfl) ?_
          rintro _ n9_ _ ⟨rfl, e9_, rfl⟩
          obtain rfl := e9_.symm
          refine G_if_eq (tgt := 104) dX9_plan_97 (by decide) (fun c97 => ?_) (fun c97 => ?_)
          · skip
            refine G_iconst (v := 0) dX9_plan_104 rfl ?_
            refine GM_stz dX9_plan_105 mt_39 ma_39 (by decide) ⟨rfl, by omega⟩ ?_
            refine G_hp (s' := pl_c s0 (m_set (pl_r s0 a9) 34 (s_pd s0 a9) (nI a9)) a9 (s_pd s0 a9) (i + 1)) (congrArg (m_set (pl_c s0 (m_set (pl_r s0 a9) 34 (s_pd s0 a9) (nI a9)) a9 (s_pd s0 a9) i) 39 (12 * s_pd s0 a9 + i)) (by first | exact (b1_t ⟨by rw [← sm_fits (hcs i)]; exact b1_1 c76, by rw [← sm_free (hcs i)]; exact b1_1 c97⟩).symm | exact (b1_f (fun q => b1_0.mp c76 (by rw [sm_fits (hcs i)]; exact q.1))).symm | exact (b1_f (fun q => b1_0.mp c97 (by rw [sm_free (hcs i)]; exact q.2))).symm)) ?_
            refine G_iinc (b := nI (i + 1)) dX9_plan_106 rfl (nI_1 i) rfl ?_
            refine G_goto (tgt := 44) dX9_plan_109 (by decide) ?_
            exact ih (i + 1) (by omega)
          · skip
            refine G_iconst (v := 1) dX9_plan_100 rfl ?_
            refine G_goto (tgt := 105) dX9_plan_101 (by decide) ?_
            refine GM_stz dX9_plan_105 mt_39 ma_39 (by decide) ⟨rfl, by omega⟩ ?_
            refine G_hp (s' := pl_c s0 (m_set (pl_r s0 a9) 34 (s_pd s0 a9) (nI a9)) a9 (s_pd s0 a9) (i + 1)) (congrArg (m_set (pl_c s0 (m_set (pl_r s0 a9) 34 (s_pd s0 a9) (nI a9)) a9 (s_pd s0 a9) i) 39 (12 * s_pd s0 a9 + i)) (by first | exact (b1_t ⟨by rw [← sm_fits (hcs i)]; exact b1_1 c76, by rw [← sm_free (hcs i)]; exact b1_1 c97⟩).symm | exact (b1_f (fun q => b1_0.mp c76 (by rw [sm_fits (hcs i)]; exact q.1))).symm | exact (b1_f (fun q => b1_0.mp c97 (by rw [sm_free (hcs i)]; exact q.2))).symm)) ?_
            refine G_iinc (b := nI (i + 1)) dX9_plan_106 rfl (nI_1 i) rfl ?_
            refine G_goto (tgt := 44) dX9_plan_109 (by decide) ?_
            exact ih (i + 1) (by omega)
  have fin : ∀ m i, i + m = s_pd s0 (mA s0) → ∀ z3 : Value, z3.category = 1 → G g 9 0 0 kX9_plan 142 [.ref 24, .int (nI (ct (fun i => ¬ pl_u s0 37 i = -1) i)), .int (nI i), z3] [] nq_ (hm (pl_f (pl_u s0) i) r) (m_S (.int (sp_plan s0).2) nq_ (sp_plan s0).1 r) := by
    intro m
    induction m with
    | zero =>
      intro i hi0 z3 hz3
      rw [Nat.add_zero] at hi0
      refine G_iload_n dX9_plan_142 rfl rfl ?_
      refine G_aload_n dX9_plan_143 rfl rfl ?_
      refine GM_get dX9_plan_144 fg_X9_187 ms_35 ?_
      refine G_top (w := .int (nI (s_pd s0 (mA s0)))) (congrArg Value.int ((hpf i 35 (by decide) (by decide) 0).trans hu35)) ?_
      refine G_icmp_ge (tgt := 214) dX9_plan_147 (by decide) (fun c147 => ?_) (fun c147 => ?_)
      · skip
        skip
        refine G_iload_n dX9_plan_214 rfl rfl ?_
        refine G_iret dX9_plan_215 rfl ?_
        refine m_close ?_; rw [hi0]; rfl
      · skip
        exact absurd (nI_le (Nat.le_of_eq hi0.symm) (by omega)) c147
    | succ m ih =>
      intro i hi0 z3 hz3
      refine G_iload_n dX9_plan_142 rfl rfl ?_
      refine G_aload_n dX9_plan_143 rfl rfl ?_
      refine GM_get dX9_plan_144 fg_X9_187 ms_35 ?_
      refine G_top (w := .int (nI (s_pd s0 (mA s0)))) (congrArg Value.int ((hpf i 35 (by decide) (by decide) 0).trans hu35)) ?_
      refine G_icmp_ge (tgt := 214) dX9_plan_147 (by decide) (fun c147 => ?_) (fun c147 => ?_)
      · skip
        exact absurd c147 (by rw [nI_leI (by omega) (by omega)]; omega)
      · skip
        refine G_aload_n dX9_plan_150 rfl rfl ?_
        refine GM_ref dX9_plan_151 fg_X9_75 (fun _ => rfl) ?_
        refine G_iload_n dX9_plan_154 rfl rfl ?_
        refine GM_ld dX9_plan_155 mt_34 (by decide) ⟨rfl, by omega⟩ ?_
        refine G_top (w := .int (nI (ix (pl_u s0 34 i)))) (congrArg Value.int ((hpf i 34 (by decide) (by decide) i).trans (hu34 i (by omega)).1)) ?_
        refine G_istore_n dX9_plan_156 rfl (Nat.le_of_ble_eq_true rfl) rfl ?_
        refine G_aload_n dX9_plan_157 rfl rfl ?_
        refine GM_ref dX9_plan_158 fg_X9_48 (fun _ => rfl) ?_
        refine G_iload_n dX9_plan_161 rfl rfl ?_
        refine G_aload_n dX9_plan_162 rfl rfl ?_
        refine GM_ref dX9_plan_163 fg_X9_81 (fun _ => rfl) ?_
        refine G_iload_n dX9_plan_166 rfl rfl ?_
        refine GM_ld dX9_plan_167 mt_37 (by decide) ⟨rfl, by omega⟩ ?_
        refine G_top (w := .int (pl_u s0 37 i)) (congrArg Value.int (hpf i 37 (by decide) (by decide) i)) ?_
        refine GM_st dX9_plan_168 mt_25 ma_25 (by decide) ⟨rfl, by have := (hu34 i (by omega)).2; omega⟩ ?_
        refine G_aload_n dX9_plan_169 rfl rfl ?_
        refine GM_ref dX9_plan_170 fg_X9_45 (fun _ => rfl) ?_
        refine G_iload_n dX9_plan_173 rfl rfl ?_
        refine G_aload_n dX9_plan_174 rfl rfl ?_
        refine GM_ref dX9_plan_175 fg_X9_81 (fun _ => rfl) ?_
        refine G_iload_n dX9_plan_178 rfl rfl ?_
        refine GM_ld dX9_plan_179 mt_37 (by decide) ⟨rfl, by omega⟩ ?_
        refine G_top (w := .int (pl_u s0 37 i)) (congrArg Value.int ((congrFun (m_set_ne _ _ _ (by decide)) i).trans (hpf i 37 (by decide) (by decide) i))) ?_
        refine G_iconst (v := -1) dX9_plan_180 rfl ?_
        refine G_icmp_ne (tgt := 188) dX9_plan_181 (by decide) (fun c181 => ?_) (fun c181 => ?_)
        · skip
          refine G_iconst (v := 1) dX9_plan_188 rfl ?_
          refine GM_st dX9_plan_189 mt_24 ma_24 (by decide) ⟨rfl, by have := (hu34 i (by omega)).2; omega⟩ ?_
          refine G_hp (s' := pl_f (pl_u s0) (i + 1)) (congrArg (m_set (m_set (pl_f (pl_u s0) i) 25 (ix (pl_u s0 34 i)) (pl_u s0 37 i)) 24 (ix (pl_u s0 34 i))) (by first | exact (cif_t c181).symm | exact (cif_f c181).symm)) ?_
          refine G_iload_n dX9_plan_190 rfl rfl ?_
          refine G_aload_n dX9_plan_191 rfl rfl ?_
          refine GM_ref dX9_plan_192 fg_X9_81 (fun _ => rfl) ?_
          refine G_iload_n dX9_plan_195 rfl rfl ?_
          refine GM_ld dX9_plan_196 mt_37 (by decide) ⟨rfl, by omega⟩ ?_
          refine G_top (w := .int (pl_u s0 37 i)) (congrArg Value.int (hpf (i + 1) 37 (by decide) (by decide) i)) ?_
          refine G_iconst (v := -1) dX9_plan_197 rfl ?_
          refine G_icmp_ne (tgt := 205) dX9_plan_198 (by decide) (fun c198 => ?_) (fun c198 => ?_)
          · skip
            refine G_iconst (v := 1) dX9_plan_205 rfl ?_
            refine G_iadd dX9_plan_206 ?_
            refine G_top (w := .int (nI (ct (fun i => ¬ pl_u s0 37 i = -1) (i + 1)))) (congrArg Value.int (by first | exact ct_add_t (p := fun i => ¬ pl_u s0 37 i = -1) c198 | exact ct_add_f (p := fun i => ¬ pl_u s0 37 i = -1) (fun z => z c198))) ?_
            refine G_istore_n dX9_plan_207 rfl (Nat.le_of_ble_eq_true rfl) rfl ?_
            refine G_iinc (b := nI (i + 1)) dX9_plan_208 rfl (nI_1 i) rfl ?_
            refine G_goto (tgt := 142) dX9_plan_211 (by decide) ?_
            exact ih (i + 1) (by omega) _ rfl
          · skip
            refine G_iconst (v := 0) dX9_plan_201 rfl ?_
            refine G_goto (tgt := 206) dX9_plan_202 (by decide) ?_
            refine G_iadd dX9_plan_206 ?_
            refine G_top (w := .int (nI (ct (fun i => ¬ pl_u s0 37 i = -1) (i + 1)))) (congrArg Value.int (by first | exact ct_add_t (p := fun i => ¬ pl_u s0 37 i = -1) c198 | exact ct_add_f (p := fun i => ¬ pl_u s0 37 i = -1) (fun z => z c198))) ?_
            refine G_istore_n dX9_plan_207 rfl (Nat.le_of_ble_eq_true rfl) rfl ?_
            refine G_iinc (b := nI (i + 1)) dX9_plan_208 rfl (nI_1 i) rfl ?_
            refine G_goto (tgt := 142) dX9_plan_211 (by decide) ?_
            exact ih (i + 1) (by omega) _ rfl
        · skip
          refine G_iconst (v := 2) dX9_plan_184 rfl ?_
          refine G_goto (tgt := 189) dX9_plan_185 (by decide) ?_
          refine GM_st dX9_plan_189 mt_24 ma_24 (by decide) ⟨rfl, by have := (hu34 i (by omega)).2; omega⟩ ?_
          refine G_hp (s' := pl_f (pl_u s0) (i + 1)) (congrArg (m_set (m_set (pl_f (pl_u s0) i) 25 (ix (pl_u s0 34 i)) (pl_u s0 37 i)) 24 (ix (pl_u s0 34 i))) (by first | exact (cif_t c181).symm | exact (cif_f c181).symm)) ?_
          refine G_iload_n dX9_plan_190 rfl rfl ?_
          refine G_aload_n dX9_plan_191 rfl rfl ?_
          refine GM_ref dX9_plan_192 fg_X9_81 (fun _ => rfl) ?_
          refine G_iload_n dX9_plan_195 rfl rfl ?_
          refine GM_ld dX9_plan_196 mt_37 (by decide) ⟨rfl, by omega⟩ ?_
          refine G_top (w := .int (pl_u s0 37 i)) (congrArg Value.int (hpf (i + 1) 37 (by decide) (by decide) i)) ?_
          refine G_iconst (v := -1) dX9_plan_197 rfl ?_
          refine G_icmp_ne (tgt := 205) dX9_plan_198 (by decide) (fun c198 => ?_) (fun c198 => ?_)
          · skip
            refine G_iconst (v := 1) dX9_plan_205 rfl ?_
            refine G_iadd dX9_plan_206 ?_
            refine G_top (w := .int (nI (ct (fun i => ¬ pl_u s0 37 i = -1) (i + 1)))) (congrArg Value.int (by first | exact ct_add_t (p := fun i => ¬ pl_u s0 37 i = -1) c198 | exact ct_add_f (p := fun i => ¬ pl_u s0 37 i = -1) (fun z => z c198))) ?_
            refine G_istore_n dX9_plan_207 rfl (Nat.le_of_ble_eq_true rfl) rfl ?_
            refine G_iinc (b := nI (i + 1)) dX9_plan_208 rfl (nI_1 i) rfl ?_
            refine G_goto (tgt := 142) dX9_plan_211 (by decide) ?_
            exact ih (i + 1) (by omega) _ rfl
          · skip
            refine G_iconst (v := 0) dX9_plan_201 rfl ?_
            refine G_goto (tgt := 206) dX9_plan_202 (by decide) ?_
            refine G_iadd dX9_plan_206 ?_
            refine G_top (w := .int (nI (ct (fun i => ¬ pl_u s0 37 i = -1) (i + 1)))) (congrArg Value.int (by first | exact ct_add_t (p := fun i => ¬ pl_u s0 37 i = -1) c198 | exact ct_add_f (p := fun i => ¬ pl_u s0 37 i = -1) (fun z => z c198))) ?_
            refine G_istore_n dX9_plan_207 rfl (Nat.le_of_ble_eq_true rfl) rfl ?_
            refine G_iinc (b := nI (i + 1)) dX9_plan_208 rfl (nI_1 i) rfl ?_
            refine G_goto (tgt := 142) dX9_plan_211 (by decide) ?_
            exact ih (i + 1) (by omega) _ rfl
  have loop : ∀ m i, i + m = mA s0 → ∀ z2 : Value, z2.category = 1 → G g 9 0 0 kX9_plan 12 [.ref 24, .int (nI i), z2, .retAddr 0] [] nq_ (hm (pl_r s0 i) r) (m_S (.int (sp_plan s0).2) nq_ (sp_plan s0).1 r) := by
    intro m
    induction m with
    | zero =>
      intro i hi0 z2 hz2
      rw [Nat.add_zero] at hi0
      refine G_iload_n dX9_plan_12 rfl rfl ?_
      refine G_aload_n dX9_plan_13 rfl rfl ?_
      refine GM_get dX9_plan_14 fg_X9_171 ms_23 ?_
      refine G_top (w := .int (s0 23 0)) (congrArg Value.int (congrFun ((pl_r_sm s0 i) 23 (by decide) (by decide)) 0)) ?_
      refine G_icmp_ge (tgt := 128) dX9_plan_17 (by decide) (fun c17 => ?_) (fun c17 => ?_)
      · skip
        skip
        refine G_aload_n dX9_plan_128 rfl rfl ?_
        refine G_iconst (v := -1) dX9_plan_129 rfl ?_
        refine GM_put dX9_plan_130 fp_X9_194 ms_38 ?_
        refine G_aload_n dX9_plan_133 rfl rfl ?_
        refine G_iconst (v := 0) dX9_plan_134 rfl ?_
        refine GM_call (c9_tries (s_pd s0 (mA s0)) (s := m_set (pl_r s0 i) 38 0 (-1)) 0 (by rw [hi0]; show 0 + _ = ix (pl_r s0 (mA s0) 35 0); rw [pl_r_35, ixn (by omega)]; omega) (by rw [hi0]; exact hpi)) dX9_plan_135 (mc_X9_200 rfl) tw_1128 tw_45 rfl rfl rfl (Nat.le_of_ble_eq_true rfl) (by omega) ?_
        rintro _ n9_ _ ⟨rfl, e9_, rfl⟩
        obtain rfl := e9_.symm
        refine G_hp (s' := pl_f (pl_u s0) 0) (by rw [hi0]; rfl) ?_
        refine G_iconst (v := 0) dX9_plan_138 rfl ?_
        refine G_istore_n dX9_plan_139 rfl (Nat.le_of_ble_eq_true rfl) rfl ?_
        refine G_iconst (v := 0) dX9_plan_140 rfl ?_
        refine G_istore_n dX9_plan_141 rfl (Nat.le_of_ble_eq_true rfl) rfl ?_
        exact fin (s_pd s0 (mA s0)) 0 (by omega) _ rfl
      · skip
        exact absurd (by rw [hA.1]; exact nI_le (Nat.le_of_eq hi0.symm) (by omega)) c17
    | succ m ih =>
      intro i hi0 z2 hz2
      refine G_iload_n dX9_plan_12 rfl rfl ?_
      refine G_aload_n dX9_plan_13 rfl rfl ?_
      refine GM_get dX9_plan_14 fg_X9_171 ms_23 ?_
      refine G_top (w := .int (s0 23 0)) (congrArg Value.int (congrFun ((pl_r_sm s0 i) 23 (by decide) (by decide)) 0)) ?_
      refine G_icmp_ge (tgt := 128) dX9_plan_17 (by decide) (fun c17 => ?_) (fun c17 => ?_)
      · skip
        exact absurd c17 (by rw [hA.1, nI_leI (by omega) (by omega)]; omega)
      · skip
        refine G_aload_n dX9_plan_20 rfl rfl ?_
        refine GM_ref dX9_plan_21 fg_X9_45 (fun _ => rfl) ?_
        refine G_iload_n dX9_plan_24 rfl rfl ?_
        refine GM_ld dX9_plan_25 mt_24 (by decide) ⟨rfl, by omega⟩ ?_
        refine G_top (w := .int (s0 24 i)) (congrArg Value.int (congrFun ((pl_r_sm s0 i) 24 (by decide) (by decide)) i)) ?_
        refine G_if_eq (tgt := 32) dX9_plan_26 (by decide) (fun c26 => ?_) (fun c26 => ?_)
        · skip
          have hpd : s_pd s0 i < 5 := by
            have z1 : s_pd s0 (i + 1) = s_pd s0 i + 1 := ct_t c26
            have z2 := pd_le s0 (a := i + 1) (b := mA s0) (by omega)
            omega
          refine G_aload_n dX9_plan_32 rfl rfl ?_
          refine GM_ref dX9_plan_33 fg_X9_75 (fun _ => rfl) ?_
          refine G_aload_n dX9_plan_36 rfl rfl ?_
          refine GM_get dX9_plan_37 fg_X9_187 ms_35 ?_
          refine G_top (w := .int (nI (s_pd s0 i))) (congrArg Value.int (pl_r_35 s0 i)) ?_
          refine G_iload_n dX9_plan_40 rfl rfl ?_
          refine GM_st dX9_plan_41 mt_34 ma_34 (by decide) ⟨rfl, by omega⟩ ?_
          refine G_iconst (v := 0) dX9_plan_42 rfl ?_
          refine G_istore_n dX9_plan_43 rfl (Nat.le_of_ble_eq_true rfl) rfl ?_
          refine inner i (by omega) hpd (fun t9 ht9 => ?_) (mT s0) 0 (by omega)
          refine G_aload_n dX9_plan_112 rfl rfl ?_
          refine G_dup dX9_plan_113 rfl ?_
          refine GM_get dX9_plan_114 fg_X9_187 ms_35 ?_
          refine G_top (w := .int (nI (s_pd s0 i))) (congrArg Value.int ((congrFun (pl_c_o s0 (m_set (pl_r s0 i) 34 (s_pd s0 i) (nI i)) i (s_pd s0 i) (by decide) t9) 0).trans (pl_r_35 s0 i))) ?_
          refine G_iconst (v := 1) dX9_plan_117 rfl ?_
          refine G_iadd dX9_plan_118 ?_
          refine GM_put dX9_plan_119 fp_X9_187 ms_35 ?_
          refine G_hp (s' := pl_r s0 (i + 1)) (by rw [nI_1, ht9]; exact (cif_t c26).symm) ?_
          refine G_iinc (b := nI (i + 1)) dX9_plan_122 rfl (nI_1 i) rfl ?_
          refine G_goto (tgt := 12) dX9_plan_125 (by decide) ?_
          exact ih (i + 1) (by omega) _ rfl
        · skip
          have e26 : pl_r s0 (i + 1) = pl_r s0 i := cif_f c26
          refine G_goto (tgt := 122) dX9_plan_29 (by decide) ?_
          refine G_iinc (b := nI (i + 1)) dX9_plan_122 rfl (nI_1 i) rfl ?_
          refine G_goto (tgt := 12) dX9_plan_125 (by decide) ?_
          exact G_hp (s' := pl_r s0 (i + 1)) e26.symm (ih (i + 1) (by omega) _ hz2)
  skip
  refine G_aload_n dX9_plan_5 rfl rfl ?_
  refine G_iconst (v := 0) dX9_plan_6 rfl ?_
  refine GM_put dX9_plan_7 fp_X9_187 ms_35 ?_
  refine G_hp (s' := pl_r s0 0) rfl ?_
  refine G_iconst (v := 0) dX9_plan_10 rfl ?_
  refine G_istore_n dX9_plan_11 rfl (Nat.le_of_ble_eq_true rfl) rfl ?_
  exact loop (mA s0) 0 (by omega) _ rfl
