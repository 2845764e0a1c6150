def s_mok (s : mS) (a t : Nat) : Prop := ¬ nI t = s 25 a ∧ ¬ s_late s (nI t) ∧ s_may s a t
noncomputable def s_mvt (s : mS) (a : Nat) : Option Nat := fnd (s_mok s a) (mT s)
noncomputable def s_mv1 (s : mS) (a : Nat) : mS := match s_mvt s a with
  | some t => m_set (m_set s 25 a (nI t)) 26 a (s 26 a + 1)
  | none => m_set s 24 a 5

set_option maxHeartbeats 4000000 in
set_option maxRecDepth 100000 in
theorem c9_moves_ {g : gT} {nq_ : Nat} {s : mS} {r : mH} (a9 : Nat) (hI : m_inv s) (ha9 : a9 < mA s) : M g 2 0 0 kX9_moves_ [.ref 24, .int (nI a9)] nq_ (hm s r) (m_V nq_ (s_mv1 s a9) r) := by
  refine M_of_G (by decide +kernel) (Nat.le_of_ble_eq_true rfl) ?_
  obtain ⟨hK, hT, hB, hP9, hA, hkf, haf, hbf⟩ := id hI
  have loop : ∀ m i, i + m = mT s → (∀ j, j < i → ¬ s_mok s a9 j) → G g 2 0 0 kX9_moves_ 2 [.ref 24, .int (nI a9), .int (nI i)] [] nq_ (hm s r) (m_V nq_ (s_mv1 s a9) r) := by
    intro m
    induction m with
    | zero =>
      intro i hi0 hn
      rw [Nat.add_zero] at hi0
      refine G_iload_n dX9_moves__2 rfl rfl ?_
      refine G_aload_n dX9_moves__3 rfl rfl ?_
      refine GM_get dX9_moves__4 fg_X9_107 ms_5 ?_
      refine G_icmp_ge (tgt := 90) dX9_moves__7 (by decide) (fun c7 => ?_) (fun c7 => ?_)
      · skip
        skip
        refine G_aload_n dX9_moves__90 rfl rfl ?_
        refine GM_ref dX9_moves__91 fg_X9_45 (fun _ => rfl) ?_
        refine G_iload_n dX9_moves__94 rfl rfl ?_
        refine G_iconst (v := 5) dX9_moves__95 rfl ?_
        refine GM_st dX9_moves__96 mt_24 ma_24 (by decide) ⟨rfl, by omega⟩ ?_
        refine G_vret dX9_moves__97 rfl ?_
        exact v_cl (by rw [s_mv1, show s_mvt s a9 = none from fnd_none (fun j hj => hn j (by omega))])
      · skip
        exact absurd (by rw [hT.1]; exact nI_le (Nat.le_of_eq hi0.symm) (by omega)) c7
    | succ m ih =>
      intro i hi0 hn
      refine G_iload_n dX9_moves__2 rfl rfl ?_
      refine G_aload_n dX9_moves__3 rfl rfl ?_
      refine GM_get dX9_moves__4 fg_X9_107 ms_5 ?_
      refine G_icmp_ge (tgt := 90) dX9_moves__7 (by decide) (fun c7 => ?_) (fun c7 => ?_)
      · skip
        exact absurd c7 (by rw [hT.1, nI_leI (by omega) (by omega)]; omega)
      · skip
        refine G_iload_n dX9_moves__10 rfl rfl ?_
        refine G_aload_n dX9_moves__11 rfl rfl ?_
        refine GM_ref dX9_moves__12 fg_X9_48 (fun _ => rfl) ?_
        refine G_iload_n dX9_moves__15 rfl rfl ?_
        refine GM_ld dX9_moves__16 mt_25 (by decide) ⟨rfl, by omega⟩ ?_
        refine G_icmp_eq (tgt := 84) dX9_moves__17 (by decide) (fun c17 => ?_) (fun c17 => ?_)
        · skip
          refine G_iinc (b := nI (i + 1)) dX9_moves__84 rfl (nI_1 i) rfl ?_
          refine G_goto (tgt := 2) dX9_moves__87 (by decide) ?_
          refine ih (i + 1) (by omega) (fun j hj q => ?_)
          rcases Nat.lt_or_ge j i with z | z
          · exact hn j z q
          · have e : j = i := by omega
            subst e
            first | exact q.1 c17 | exact q.2.1 (b1_1 c25) | exact b1_0.mp c39 q.2.2.1 | exact b1_0.mp c60 q.2.2.2
        · skip
          refine G_aload_n dX9_moves__20 rfl rfl ?_
          refine G_iload_n dX9_moves__21 rfl rfl ?_
          refine GM_call (c9_isLate (nI i) hI) dX9_moves__22 (mc_X9_214 rfl) tw_1164 tw_49 rfl rfl rfl (Nat.le_of_ble_eq_true rfl) (Nat.le_of_ble_eq_true rfl) ?_
          rintro _ n9_ _ ⟨rfl, e9_, rfl⟩
          obtain rfl := e9_.symm
          refine G_if_ne (tgt := 84) dX9_moves__25 (by decide) (fun c25 => ?_) (fun c25 => ?_)
          · skip
            refine G_iinc (b := nI (i + 1)) dX9_moves__84 rfl (nI_1 i) rfl ?_
            refine G_goto (tgt := 2) dX9_moves__87 (by decide) ?_
            refine ih (i + 1) (by omega) (fun j hj q => ?_)
            rcases Nat.lt_or_ge j i with z | z
            · exact hn j z q
            · have e : j = i := by omega
              subst e
              first | exact q.1 c17 | exact q.2.1 (b1_1 c25) | exact b1_0.mp c39 q.2.2.1 | exact b1_0.mp c60 q.2.2.2
          · skip
            refine G_aload_n dX9_moves__28 rfl rfl ?_
            refine G_aload_n dX9_moves__29 rfl rfl ?_
            refine GM_ref dX9_moves__30 fg_X9_19 (fun _ => rfl) ?_
            refine G_iload_n dX9_moves__33 rfl rfl ?_
            refine GM_ld dX9_moves__34 mt_6 (by decide) ⟨rfl, by omega⟩ ?_
            refine G_top (congrArg Value.int (hkf i (by omega)).1) ?_
            refine G_iload_n dX9_moves__35 rfl rfl ?_
            refine GM_call (c9_fits (ix (s 6 i)) a9 hI (hkf i (by omega)).2 ha9) dX9_moves__36 (mc_X9_204 rfl) tw_1113 tw_42 rfl rfl rfl (Nat.le_of_ble_eq_true rfl) (Nat.le_of_ble_eq_true rfl) ?_
            rintro _ n9_ _ ⟨rfl, e9_, rfl⟩
            obtain rfl := e9_.symm
            refine G_if_eq (tgt := 84) dX9_moves__39 (by decide) (fun c39 => ?_) (fun c39 => ?_)
            · skip
              refine G_iinc (b := nI (i + 1)) dX9_moves__84 rfl (nI_1 i) rfl ?_
              refine G_goto (tgt := 2) dX9_moves__87 (by decide) ?_
              refine ih (i + 1) (by omega) (fun j hj q => ?_)
              rcases Nat.lt_or_ge j i with z | z
              · exact hn j z q
              · have e : j = i := by omega
                subst e
                first | exact q.1 c17 | exact q.2.1 (b1_1 c25) | exact b1_0.mp c39 q.2.2.1 | exact b1_0.mp c60 q.2.2.2
            · skip
              refine G_aload_n dX9_moves__42 rfl rfl ?_
              refine G_iload_n dX9_moves__43 rfl rfl ?_
              refine G_aload_n dX9_moves__44 rfl rfl ?_
              refine GM_ref dX9_moves__45 fg_X9_63 (fun _ => rfl) ?_
              refine G_iload_n dX9_moves__48 rfl rfl ?_
              refine GM_ld dX9_moves__49 mt_30 (by decide) ⟨rfl, by omega⟩ ?_
              refine G_aload_n dX9_moves__50 rfl rfl ?_
              refine GM_ref dX9_moves__51 fg_X9_66 (fun _ => rfl) ?_
              refine G_iload_n dX9_moves__54 rfl rfl ?_
              refine GM_ld dX9_moves__55 mt_31 (by decide) ⟨rfl, by omega⟩ ?_
              refine G_iload_n dX9_moves__56 rfl rfl ?_
              refine GM_call (c9_isFreeFor i (s 30 a9) (s 31 a9) (nI a9) hI (by omega)) dX9_moves__57 (mc_X9_207 rfl) tw_1117 tw_43 rfl rfl rfl (Nat.le_of_ble_eq_true rfl) (Nat.le_of_ble_eq_true rfl) ?_
              rintro _ n9_ _ ⟨rfl, e9_, rfl⟩
              obtain rfl := e9_.symm
              refine G_if_ne (tgt := 66) dX9_moves__60 (by decide) (fun c60 => ?_) (fun c60 => ?_)
              · skip
                refine G_aload_n dX9_moves__66 rfl rfl ?_
                refine GM_ref dX9_moves__67 fg_X9_48 (fun _ => rfl) ?_
                refine G_iload_n dX9_moves__70 rfl rfl ?_
                refine G_iload_n dX9_moves__71 rfl rfl ?_
                refine GM_st dX9_moves__72 mt_25 ma_25 (by decide) ⟨rfl, by omega⟩ ?_
                refine G_aload_n dX9_moves__73 rfl rfl ?_
                refine GM_ref dX9_moves__74 fg_X9_51 (fun _ => rfl) ?_
                refine G_iload_n dX9_moves__77 rfl rfl ?_
                refine G_dup2 dX9_moves__78 rfl rfl ?_
                refine GM_ld dX9_moves__79 mt_26 (by decide) ⟨rfl, by omega⟩ ?_
                refine G_iconst (v := 1) dX9_moves__80 rfl ?_
                refine G_iadd dX9_moves__81 ?_
                refine GM_st dX9_moves__82 mt_26 ma_26 (by decide) ⟨rfl, by omega⟩ ?_
                refine G_vret dX9_moves__83 rfl ?_
                exact v_cl (by rw [s_mv1, show s_mvt s a9 = some i from fnd_at hn ⟨c17, b1_0.mp c25, b1_1 c39, b1_1 c60⟩ (by omega)]; rfl)
              · skip
                refine G_goto (tgt := 84) dX9_moves__63 (by decide) ?_
                refine G_iinc (b := nI (i + 1)) dX9_moves__84 rfl (nI_1 i) rfl ?_
                refine G_goto (tgt := 2) dX9_moves__87 (by decide) ?_
                refine ih (i + 1) (by omega) (fun j hj q => ?_)
                rcases Nat.lt_or_ge j i with z | z
                · exact hn j z q
                · have e : j = i := by omega
                  subst e
                  first | exact q.1 c17 | exact q.2.1 (b1_1 c25) | exact b1_0.mp c39 q.2.2.1 | exact b1_0.mp c60 q.2.2.2
  refine G_iconst (v := 0) dX9_moves__0 rfl ?_
  refine G_istore_n dX9_moves__1 rfl (Nat.le_of_ble_eq_true rfl) rfl ?_
  exact loop (mT s) 0 (by omega) (fun j hj => absurd hj (Nat.not_lt_zero j))
theorem m_inv_on {s : mS} {a t : Nat} (h : m_inv s) (ht : t < mT s) : m_inv (m_set s 25 a (nI t)) := by
  obtain ⟨h1, h2, h3, h4, h5, h6, h7, h8⟩ := h
  have hT := h2.2
  refine ⟨h1, h2, h3, h4, h5, h6, fun b hb => ⟨(h7 b hb).1, (h7 b hb).2.1, ?_⟩, fun b hb hs => ?_⟩
  · by_cases e : b = a
    · subst e
      rw [m_set_at, ixn (by omega)]
      exact Or.inr ⟨rfl, ht⟩
    · have e2 : m_set s 25 a (nI t) 25 b = s 25 b := by simp only [m_set]; rw [if_neg (fun q => e q.2)]
      rw [e2]
      exact (h7 b hb).2.2
  · by_cases e : b = a
    · subst e
      rw [m_set_at, ixn (by omega)]
      exact ⟨rfl, ht⟩
    · have e2 : m_set s 25 a (nI t) 25 b = s 25 b := by simp only [m_set]; rw [if_neg (fun q => e q.2)]
      rw [e2]
      exact h8 b hb hs
theorem m_inv_26 {s : mS} {a : Nat} {v : Int32} (h : m_inv s) : m_inv (m_set s 26 a v) := h
theorem m_inv_st {s : mS} {a : Nat} {v : Int32} (h : m_inv s) (h1 : ¬ v = 1) (h3 : ¬ v = 3) : m_inv (m_set s 24 a v) := by
  obtain ⟨g1, g2, g3, g4, g5, g6, g7, g8⟩ := h
  refine ⟨g1, g2, g3, g4, g5, g6, g7, fun b hb hs => ?_⟩
  by_cases e : b = a
  · subst e
    have e2 : m_set s 24 b v 24 b = v := m_set_at _ _ _ _
    rw [e2] at hs
    exact absurd hs (fun q => q.elim h1 h3)
  · have e2 : m_set s 24 a v 24 b = s 24 b := by simp only [m_set]; rw [if_neg (fun q => e q.2)]
    rw [e2] at hs
    exact g8 b hb hs
theorem mv1_inv {s : mS} {a : Nat} (h : m_inv s) : m_inv (s_mv1 s a) ∧ mA (s_mv1 s a) = mA s ∧ (∀ b, s_mv1 s a 40 b = s 40 b) ∧ (∀ b, b ≠ a → s_mv1 s a 24 b = s 24 b) := by
  unfold s_mv1
  cases e : s_mvt s a with
  | none => exact ⟨m_inv_st h (by decide) (by decide), rfl, fun b => rfl, fun b hb => by simp only [m_set]; rw [if_neg (fun q => hb q.2)]⟩
  | some t => exact ⟨m_inv_26 (m_inv_on h (fnd_spec e).1), rfl, fun b => rfl, fun b hb => rfl⟩
theorem ct_lt {p q : Nat → Prop} (h : ∀ b, q b → p b) : ∀ {n a : Nat}, a < n → p a → ¬ q a → ct q n < ct p n
  | 0, a, h1, _, _ => absurd h1 (Nat.not_lt_zero a)
  | n + 1, a, h1, h2, h3 => by
    have hle : ∀ m, ct q m ≤ ct p m := by
      intro m
      induction m with
      | zero => exact Nat.le_refl 0
      | succ m ih =>
        by_cases z : q m
        · rw [ct_t z, ct_t (h m z)]; omega
        · rw [ct_f z]
          by_cases w : p m
          · rw [ct_t w]; omega
          · rw [ct_f w]; exact ih
    by_cases e : a = n
    · subst e
      rw [ct_f h3, ct_t h2]
      have := hle a
      omega
    · have ih := ct_lt h (n := n) (a := a) (by omega) h2 h3
      by_cases z : q n
      · rw [ct_t z, ct_t (h n z)]; omega
      · rw [ct_f z]
        by_cases w : p n
        · rw [ct_t w]; omega
        · rw [ct_f w]; exact ih
noncomputable def mv_d (s : mS) : Nat → mS
  | 0 => s
  | a + 1 => m_set (mv_d s a) 40 a (b1 (¬ s 24 a = 1 ∨ ¬ s_late s (s 25 a)))
noncomputable def mv_p (s : mS) : Nat → Option Nat
  | 0 => none
  | a + 1 => cif (s 40 a = 0) (match mv_p s a with | none => some a | some b => cif (s_ahead s a b) (some a) (some b)) (mv_p s a)
noncomputable def mv_1 (s : mS) (a : Nat) : mS := cif (s_free s (s 25 a) (s 30 a) (s 31 a) (nI a)) (m_set s 40 a 1) (s_mv1 (m_set s 40 a 1) a)
noncomputable def mv_l : Nat → mS → mS
  | 0, s => s
  | m + 1, s => match mv_p s (mA s) with
    | none => s
    | some a => mv_l m (mv_1 s a)
noncomputable def s_mvs (s : mS) : mS := mv_l (mA s + 1) (mv_d s (mA s))
theorem mv_d_sm (s : mS) : ∀ a, s_sm (mv_d s a) s
  | 0 => s_sm.rf
  | a + 1 => (mv_d_sm s a).st (Or.inr (by decide))
theorem mv_d_at (s : mS) : ∀ a b, b < a → mv_d s a 40 b = b1 (¬ s 24 b = 1 ∨ ¬ s_late s (s 25 b))
  | 0, b, h => absurd h (Nat.not_lt_zero b)
  | a + 1, b, h => by
    show m_set _ _ _ _ _ _ = _
    by_cases e : b = a
    · rw [e, m_set_at]
    · simp only [m_set]
      rw [if_neg (fun q => e q.2)]
      exact mv_d_at s a b (by omega)
theorem mv_p_lt (s : mS) : ∀ n b, mv_p s n = some b → b < n ∧ s 40 b = 0
  | 0, b, h => by cases h
  | n + 1, b, h => by
    have h : cif (s 40 n = 0) (match mv_p s n with | none => some n | some b => cif (s_ahead s n b) (some n) (some b)) (mv_p s n) = some b := h
    by_cases z : s 40 n = 0
    · rw [cif_t z] at h
      cases e : mv_p s n with
      | none =>
        rw [e] at h
        cases h
        exact ⟨by omega, z⟩
      | some c =>
        rw [e] at h
        dsimp only at h
        have ih := mv_p_lt s n c e
        by_cases w : s_ahead s n c
        · rw [cif_t w] at h; cases h; exact ⟨by omega, z⟩
        · rw [cif_f w] at h; cases h; exact ⟨by omega, ih.2⟩
    · rw [cif_f z] at h
      have ih := mv_p_lt s n b h
      exact ⟨by omega, ih.2⟩
theorem mv_p_iff {s : mS} {n : Nat} (hn : n ≤ 120) : oI (mv_p s n) = -1 ↔ mv_p s n = none := by
  cases e : mv_p s n with
  | none => exact ⟨fun _ => rfl, fun _ => rfl⟩
  | some a => exact ⟨fun q => absurd q (oI_ne (by have := (mv_p_lt s n a e).1; omega)), fun q => by cases q⟩
def mv_J (s : mS) : Prop := ∀ a, a < mA s → s 40 a = 0 → s 24 a = 1
theorem mv_1_ok {s : mS} {a : Nat} (hI : m_inv s) (hJ : mv_J s) (ha : a < mA s) (h0 : s 40 a = 0) : m_inv (mv_1 s a) ∧ mv_J (mv_1 s a) ∧ mA (mv_1 s a) = mA s ∧ ct (fun b => mv_1 s a 40 b = 0) (mA s) < ct (fun b => s 40 b = 0) (mA s) := by
  have hI1 : m_inv (m_set s 40 a 1) := sm_inv (s_sm.rf.st (Or.inr (by decide))) hI
  have e40 : ∀ b, b ≠ a → m_set s 40 a 1 40 b = s 40 b := fun b hb => by simp only [m_set]; rw [if_neg (fun q => hb q.2)]
  have key : m_inv (mv_1 s a) ∧ mA (mv_1 s a) = mA s ∧ (∀ b, mv_1 s a 40 b = m_set s 40 a 1 40 b) ∧ (∀ b, b ≠ a → mv_1 s a 24 b = s 24 b) := by
    unfold mv_1
    by_cases z : s_free s (s 25 a) (s 30 a) (s 31 a) (nI a)
    · rw [cif_t z]; exact ⟨hI1, rfl, fun _ => rfl, fun _ _ => rfl⟩
    · rw [cif_f z]
      have h := mv1_inv (a := a) hI1
      exact ⟨h.1, h.2.1, h.2.2.1, fun b hb => h.2.2.2 b hb⟩
  obtain ⟨k1, k2, k3, k4⟩ := key
  refine ⟨k1, fun b hb q => ?_, k2, ?_⟩
  · by_cases e : b = a
    · subst e
      rw [k3, m_set_at] at q
      exact absurd q (by decide)
    · rw [k4 b e]
      rw [k3, e40 b e] at q
      exact hJ b (by rw [← k2]; exact hb) q
  · refine ct_lt (a := a) (fun b q => ?_) ha h0 (fun q => ?_)
    · by_cases e : b = a
      · subst e; exact h0
      · rw [k3, e40 b e] at q; exact q
    · rw [k3, m_set_at] at q; exact absurd q (by decide)

set_option maxHeartbeats 4000000 in
set_option maxRecDepth 100000 in
theorem c9_moves {g : gT} {nq_ : Nat} {s : mS} {r : mH}  (hI : m_inv s) : M g 4 0 0 kX9_moves [.ref 24] nq_ (hm s r) (m_V nq_ (s_mvs s) r) := by
  refine M_of_G (by decide +kernel) (Nat.le_of_ble_eq_true rfl) ?_
  obtain ⟨hK, hT, hB, hP9, hA, hkf, haf, hbf⟩ := id hI
  have ml : ∀ m u z1 z2, m_inv u → mv_J u → ct (fun b => u 40 b = 0) (mA u) < m → s_mvs s = mv_l m u → Value.category z1 = 1 → Value.category z2 = 1 → G g 4 0 0 kX9_moves 52 [.ref 24, z1, z2] [] nq_ (hm u r) (m_V nq_ (s_mvs s) r) := by
    intro m
    induction m with
    | zero => intro u z1 z2 hIu hJu hct; exact absurd hct (Nat.not_lt_zero _)
    | succ m ihm =>
      intro u z1 z2 hIu hJu hct htg hz1 hz2
      have hAu := hIu.2.2.2.2.1.2
      have pick : ∀ m9 i, i + m9 = mA u → G g 4 0 0 kX9_moves 56 [.ref 24, .int (oI (mv_p u i)), .int (nI i)] [] nq_ (hm u r) (m_V nq_ (s_mvs s) r) := by
        intro m9
        induction m9 with
        | zero =>
          intro i hi0 
          rw [Nat.add_zero] at hi0
          refine G_iload_n dX9_moves_56 rfl rfl ?_
          refine G_aload_n dX9_moves_57 rfl rfl ?_
          refine GM_get dX9_moves_58 fg_X9_171 ms_23 ?_
          refine G_top (w := .int (nI (mA u))) (congrArg Value.int (hIu.2.2.2.2.1.1)) ?_
          refine G_icmp_ge (tgt := 95) dX9_moves_61 (by decide) (fun c61 => ?_) (fun c61 => ?_)
          · skip
            skip
            refine G_iload_n dX9_moves_95 rfl rfl ?_
            refine G_iconst (v := -1) dX9_moves_96 rfl ?_
            refine G_icmp_ne (tgt := 103) dX9_moves_97 (by decide) (fun c97 => ?_) (fun c97 => ?_)
            · skip
              obtain ⟨a9, ha9⟩ : ∃ a9, mv_p u i = some a9 := by
                cases e : mv_p u i with
                | none => exact absurd ((mv_p_iff (by omega)).mpr e) c97
                | some b => exact ⟨b, rfl⟩
              have hl9 := mv_p_lt u i a9 ha9
              have hok := mv_1_ok hIu hJu (a := a9) (by omega) hl9.2
              have hon := hIu.2.2.2.2.2.2.2 a9 (by omega) (Or.inl (hJu a9 (by omega) hl9.2))
              refine G_loc (L' := [.ref 24, .int (nI a9), .int (nI i)]) (by rw [ha9]; rfl) ?_
              have emv : s_mvs s = mv_l m (mv_1 u a9) := by
                rw [htg]
                show (match mv_p u (mA u) with | none => u | some a => mv_l m (mv_1 u a)) = _
                rw [← hi0, ha9]
              refine G_aload_n dX9_moves_103 rfl rfl ?_
              refine GM_ref dX9_moves_104 fg_X9_88 (fun _ => rfl) ?_
              refine G_iload_n dX9_moves_107 rfl rfl ?_
              refine G_iconst (v := 1) dX9_moves_108 rfl ?_
              refine GM_stz dX9_moves_109 mt_40 ma_40 (by decide) ⟨rfl, by omega⟩ ?_
              refine G_hp (s' := (m_set u 40 a9 1)) rfl ?_
              refine G_aload_n dX9_moves_110 rfl rfl ?_
              refine G_aload_n dX9_moves_111 rfl rfl ?_
              refine GM_ref dX9_moves_112 fg_X9_48 (fun _ => rfl) ?_
              refine G_iload_n dX9_moves_115 rfl rfl ?_
              refine GM_ld dX9_moves_116 mt_25 (by decide) ⟨rfl, by omega⟩ ?_
              refine G_top (w := .int (nI (ix (u 25 a9)))) (congrArg Value.int hon.1) ?_
              refine G_aload_n dX9_moves_117 rfl rfl ?_
              refine GM_ref dX9_moves_118 fg_X9_63 (fun _ => rfl) ?_
              refine G_iload_n dX9_moves_121 rfl rfl ?_
              refine GM_ld dX9_moves_122 mt_30 (by decide) ⟨rfl, by omega⟩ ?_
              refine G_aload_n dX9_moves_123 rfl rfl ?_
              refine GM_ref dX9_moves_124 fg_X9_66 (fun _ => rfl) ?_
              refine G_iload_n dX9_moves_127 rfl rfl ?_
              refine GM_ld dX9_moves_128 mt_31 (by decide) ⟨rfl, by omega⟩ ?_
              refine G_iload_n dX9_moves_129 rfl rfl ?_
              refine GM_call (c9_isFreeFor (ix (u 25 a9)) (u 30 a9) (u 31 a9) (nI a9) (s := (m_set u 40 a9 1)) (sm_inv (s_sm.rf.st (Or.inr (by decide))) hIu) hon.2) dX9_moves_130 (mc_X9_207 rfl) tw_1117 tw_43 rfl rfl rfl (Nat.le_of_ble_eq_true rfl) (Nat.le_of_ble_eq_true rfl) ?_
              rintro _ n9_ _ ⟨rfl, e9_, rfl⟩
              obtain rfl := e9_.symm
              refine G_if_ne (tgt := 141) dX9_moves_133 (by decide) (fun c133 => ?_) (fun c133 => ?_)
              · skip
                have e1 : mv_1 u a9 = m_set u 40 a9 1 := cif_t (by rw [hon.1, ← sm_free (s_sm.rf.st (j := 40) (i := a9) (v := 1) (Or.inr (by decide)))]; exact b1_1 c133)
                refine G_hp (s' := mv_1 u a9) e1.symm ?_
                refine G_iload_n dX9_moves_141 rfl rfl ?_
                refine G_iconst (v := -1) dX9_moves_142 rfl ?_
                refine G_icmp_ne (tgt := 52) dX9_moves_143 (by decide) (fun _ => ?_) (fun c143 => absurd c143 (oI_ne (by omega)))
                exact ihm (mv_1 u a9) _ _ hok.1 hok.2.1 (by rw [hok.2.2.1]; have := hok.2.2.2; omega) emv rfl rfl
              · skip
                have e1 : mv_1 u a9 = s_mv1 (m_set u 40 a9 1) a9 := cif_f (fun q => b1_0.mp c133 (by rw [sm_free (s_sm.rf.st (j := 40) (i := a9) (v := 1) (Or.inr (by decide))), ← hon.1]; exact q))
                refine G_aload_n dX9_moves_136 rfl rfl ?_
                refine G_iload_n dX9_moves_137 rfl rfl ?_
                refine GM_call (c9_moves_ a9 (s := (m_set u 40 a9 1)) (sm_inv (s_sm.rf.st (Or.inr (by decide))) hIu) (by show a9 < mA u; omega)) dX9_moves_138 (mc_X9_220 rfl) tw_1172 tw_51 rfl rfl rfl (Nat.le_of_ble_eq_true rfl) (Nat.le_of_ble_eq_true rfl) ?_
                rintro _ n9_ _ ⟨rfl, e9_, rfl⟩
                obtain rfl := e9_.symm
                refine G_hp (s' := mv_1 u a9) e1.symm ?_
                refine G_iload_n dX9_moves_141 rfl rfl ?_
                refine G_iconst (v := -1) dX9_moves_142 rfl ?_
                refine G_icmp_ne (tgt := 52) dX9_moves_143 (by decide) (fun _ => ?_) (fun c143 => absurd c143 (oI_ne (by omega)))
                exact ihm (mv_1 u a9) _ _ hok.1 hok.2.1 (by rw [hok.2.2.1]; have := hok.2.2.2; omega) emv rfl rfl
            · skip
              have hN : mv_p u i = none := (mv_p_iff (by omega)).mp c97
              refine G_goto (tgt := 141) dX9_moves_100 (by decide) ?_
              refine G_iload_n dX9_moves_141 rfl rfl ?_
              refine G_iconst (v := -1) dX9_moves_142 rfl ?_
              refine G_icmp_ne (tgt := 52) dX9_moves_143 (by decide) (fun c143 => absurd (by rw [hN]; rfl) c143) (fun _ => ?_)
              refine G_vret dX9_moves_146 rfl ?_
              exact v_cl (by rw [htg]; show (match mv_p u (mA u) with | none => u | some a => mv_l m (mv_1 u a)) = _; rw [← hi0, hN])
          · skip
            exact absurd (nI_le (Nat.le_of_eq hi0.symm) (by omega)) c61
        | succ m9 ih =>
          intro i hi0 
          refine G_iload_n dX9_moves_56 rfl rfl ?_
          refine G_aload_n dX9_moves_57 rfl rfl ?_
          refine GM_get dX9_moves_58 fg_X9_171 ms_23 ?_
          refine G_top (w := .int (nI (mA u))) (congrArg Value.int (hIu.2.2.2.2.1.1)) ?_
          refine G_icmp_ge (tgt := 95) dX9_moves_61 (by decide) (fun c61 => ?_) (fun c61 => ?_)
          · skip
            exact absurd c61 (by rw [nI_leI (by omega) (by omega)]; omega)
          · skip
            refine G_aload_n dX9_moves_64 rfl rfl ?_
            refine GM_ref dX9_moves_65 fg_X9_88 (fun _ => rfl) ?_
            refine G_iload_n dX9_moves_68 rfl rfl ?_
            refine GM_ldz dX9_moves_69 mt_40 (by decide) ⟨rfl, by omega⟩ ?_
            refine G_if_ne (tgt := 89) dX9_moves_70 (by decide) (fun c70 => ?_) (fun c70 => ?_)
            · skip
              have eN : mv_p u (i + 1) = mv_p u i := cif_f c70
              refine G_iinc (b := nI (i + 1)) dX9_moves_89 rfl (nI_1 i) rfl ?_
              refine G_goto (tgt := 56) dX9_moves_92 (by decide) ?_
              exact G_loc (L' := [.ref 24, .int (oI (mv_p u (i + 1))), .int (nI (i + 1))]) (by rw [eN]; rfl) (ih (i + 1) (by omega))
            · skip
              refine G_iload_n dX9_moves_73 rfl rfl ?_
              refine G_iconst (v := -1) dX9_moves_74 rfl ?_
              refine G_icmp_eq (tgt := 87) dX9_moves_75 (by decide) (fun c75 => ?_) (fun c75 => ?_)
              · skip
                have hN : mv_p u i = none := (mv_p_iff (by omega)).mp c75
                have eN : mv_p u (i + 1) = some i := by show cif _ _ _ = _; rw [cif_t c70, hN]
                refine G_iload_n dX9_moves_87 rfl rfl ?_
                refine G_istore_n dX9_moves_88 rfl (Nat.le_of_ble_eq_true rfl) rfl ?_
                refine G_iinc (b := nI (i + 1)) dX9_moves_89 rfl (nI_1 i) rfl ?_
                refine G_goto (tgt := 56) dX9_moves_92 (by decide) ?_
                exact G_loc (L' := [.ref 24, .int (oI (mv_p u (i + 1))), .int (nI (i + 1))]) (by rw [eN]; rfl) (ih (i + 1) (by omega))
              · skip
                obtain ⟨b9, hb9⟩ : ∃ b9, mv_p u i = some b9 := by
                  cases e : mv_p u i with
                  | none => exact absurd ((mv_p_iff (by omega)).mpr e) c75
                  | some b => exact ⟨b, rfl⟩
                have hlt9 := (mv_p_lt u i b9 hb9).1
                refine G_aload_n dX9_moves_78 rfl rfl ?_
                refine G_iload_n dX9_moves_79 rfl rfl ?_
                refine G_iload_n dX9_moves_80 rfl rfl ?_
                refine G_top (w := .int (nI b9)) (by rw [hb9]; rfl) ?_
                refine GM_call (c9_isAhead i b9 hIu (by omega) (by omega)) dX9_moves_81 (mc_X9_217 rfl) tw_1168 tw_50 rfl rfl rfl (Nat.le_of_ble_eq_true rfl) (Nat.le_of_ble_eq_true rfl) ?_
                rintro _ n9_ _ ⟨rfl, e9_, rfl⟩
                obtain rfl := e9_.symm
                refine G_if_eq (tgt := 89) dX9_moves_84 (by decide) (fun c84 => ?_) (fun c84 => ?_)
                · skip
                  have eN : mv_p u (i + 1) = mv_p u i := by show cif _ _ _ = _; rw [cif_t c70, hb9]; exact cif_f (b1_0.mp c84)
                  refine G_iinc (b := nI (i + 1)) dX9_moves_89 rfl (nI_1 i) rfl ?_
                  refine G_goto (tgt := 56) dX9_moves_92 (by decide) ?_
                  exact G_loc (L' := [.ref 24, .int (oI (mv_p u (i + 1))), .int (nI (i + 1))]) (by rw [eN]; rfl) (ih (i + 1) (by omega))
                · skip
                  have eN : mv_p u (i + 1) = some i := by show cif _ _ _ = _; rw [cif_t c70, hb9]; exact cif_t (b1_1 c84)
                  refine G_iload_n dX9_moves_87 rfl rfl ?_
                  refine G_istore_n dX9_moves_88 rfl (Nat.le_of_ble_eq_true rfl) rfl ?_
                  refine G_iinc (b := nI (i + 1)) dX9_moves_89 rfl (nI_1 i) rfl ?_
                  refine G_goto (tgt := 56) dX9_moves_92 (by decide) ?_
                  exact G_loc (L' := [.ref 24, .int (oI (mv_p u (i + 1))), .int (nI (i + 1))]) (by rw [eN]; rfl) (ih (i + 1) (by omega))
      refine G_iconst (v := -1) dX9_moves_52 rfl ?_
      refine G_istore_n dX9_moves_53 rfl (Nat.le_of_ble_eq_true rfl) rfl ?_
      refine G_iconst (v := 0) dX9_moves_54 rfl ?_
      refine G_istore_n dX9_moves_55 rfl (Nat.le_of_ble_eq_true rfl) rfl ?_
      exact pick (mA u) 0 (by omega)
  have loop : ∀ m i, i + m = mA s → G g 4 0 0 kX9_moves 2 [.ref 24, .int (nI i), .retAddr 0] [] nq_ (hm (mv_d s i) r) (m_V nq_ (s_mvs s) r) := by
    intro m
    induction m with
    | zero =>
      intro i hi0 
      rw [Nat.add_zero] at hi0
      refine G_iload_n dX9_moves_2 rfl rfl ?_
      refine G_aload_n dX9_moves_3 rfl rfl ?_
      refine GM_get dX9_moves_4 fg_X9_171 ms_23 ?_
      refine G_top (w := .int (s 23 0)) (congrArg Value.int (congrFun (mv_d_sm s i 23 (by decide) (by decide)) 0)) ?_
      refine G_icmp_ge (tgt := 50) dX9_moves_7 (by decide) (fun c7 => ?_) (fun c7 => ?_)
      · skip
        skip
        refine G_iconst (v := -1) dX9_moves_50 rfl ?_
        refine G_istore_n dX9_moves_51 rfl (Nat.le_of_ble_eq_true rfl) rfl ?_
        have hJ0 : mv_J (mv_d s i) := fun b hb q => by
          have hb2 : b < i := by rw [sm_A (mv_d_sm s i)] at hb; omega
          rw [mv_d_at s i b hb2] at q
          rw [mv_d_sm s i 24 (by decide) (by decide)]
          exact Classical.not_not.mp (fun z => b1_0.mp q (Or.inl z))
        exact ml (mA s + 1) (mv_d s i) _ _ (sm_inv (mv_d_sm s i) hI) hJ0 (by rw [sm_A (mv_d_sm s i)]; have := ct_le (fun b => mv_d s i 40 b = 0) (mA s); omega) (by rw [hi0]; rfl) rfl rfl
      · skip
        exact absurd (by rw [hA.1]; exact nI_le (Nat.le_of_eq hi0.symm) (by omega)) c7
    | succ m ih =>
      intro i hi0 
      refine G_iload_n dX9_moves_2 rfl rfl ?_
      refine G_aload_n dX9_moves_3 rfl rfl ?_
      refine GM_get dX9_moves_4 fg_X9_171 ms_23 ?_
      refine G_top (w := .int (s 23 0)) (congrArg Value.int (congrFun (mv_d_sm s i 23 (by decide) (by decide)) 0)) ?_
      refine G_icmp_ge (tgt := 50) dX9_moves_7 (by decide) (fun c7 => ?_) (fun c7 => ?_)
      · skip
        exact absurd c7 (by rw [hA.1, nI_leI (by omega) (by omega)]; omega)
      · skip
        refine G_aload_n dX9_moves_10 rfl rfl ?_
        refine GM_ref dX9_moves_11 fg_X9_88 (fun _ => rfl) ?_
        refine G_iload_n dX9_moves_14 rfl rfl ?_
        refine G_aload_n dX9_moves_15 rfl rfl ?_
        refine GM_ref dX9_moves_16 fg_X9_45 (fun _ => rfl) ?_
        refine G_iload_n dX9_moves_19 rfl rfl ?_
        refine GM_ld dX9_moves_20 mt_24 (by decide) ⟨rfl, by omega⟩ ?_
        refine G_top (w := .int (s 24 i)) (congrArg Value.int (congrFun (mv_d_sm s i 24 (by decide) (by decide)) i)) ?_
        refine G_iconst (v := 1) dX9_moves_21 rfl ?_
        refine G_icmp_ne (tgt := 38) dX9_moves_22 (by decide) (fun c22 => ?_) (fun c22 => ?_)
        · skip
          refine G_iconst (v := 1) dX9_moves_38 rfl ?_
          refine G_goto (tgt := 43) dX9_moves_39 (by decide) ?_
          refine GM_stz dX9_moves_43 mt_40 ma_40 (by decide) ⟨rfl, by omega⟩ ?_
          refine G_hp (s' := mv_d s (i + 1)) (congrArg (m_set (mv_d s i) 40 i) (by first | exact (b1_t (Or.inl c22)).symm | exact (b1_t (Or.inr (fun q => b1_0.mp c35 (by rw [sm_late (mv_d_sm s i)]; exact q)))).symm | exact (b1_f (fun q => q.elim (fun z => z c22) (fun z => z (by rw [← sm_late (mv_d_sm s i)]; exact b1_1 c35)))).symm)) ?_
          refine G_iinc (b := nI (i + 1)) dX9_moves_44 rfl (nI_1 i) rfl ?_
          refine G_goto (tgt := 2) dX9_moves_47 (by decide) ?_
          exact ih (i + 1) (by omega)
        · skip
          refine G_aload_n dX9_moves_25 rfl rfl ?_
          refine G_aload_n dX9_moves_26 rfl rfl ?_
          refine GM_ref dX9_moves_27 fg_X9_48 (fun _ => rfl) ?_
          refine G_iload_n dX9_moves_30 rfl rfl ?_
          refine GM_ld dX9_moves_31 mt_25 (by decide) ⟨rfl, by omega⟩ ?_
          refine G_top (w := .int (s 25 i)) (congrArg Value.int (congrFun (mv_d_sm s i 25 (by decide) (by decide)) i)) ?_
          refine GM_call (c9_isLate (s 25 i) (s := (mv_d s i)) (sm_inv (mv_d_sm s i) hI)) dX9_moves_32 (mc_X9_214 rfl) tw_1164 tw_49 rfl rfl rfl (Nat.le_of_ble_eq_true rfl) (Nat.le_of_ble_eq_true rfl) ?_
          rintro _ n9_ _ ⟨rfl, e9_, rfl⟩
          obtain rfl := e9_.symm
          refine G_if_ne (tgt := 42) dX9_moves_35 (by decide) (fun c35 => ?_) (fun c35 => ?_)
          · skip
            refine G_iconst (v := 0) dX9_moves_42 rfl ?_
            refine GM_stz dX9_moves_43 mt_40 ma_40 (by decide) ⟨rfl, by omega⟩ ?_
            refine G_hp (s' := mv_d s (i + 1)) (congrArg (m_set (mv_d s i) 40 i) (by first | exact (b1_t (Or.inl c22)).symm | exact (b1_t (Or.inr (fun q => b1_0.mp c35 (by rw [sm_late (mv_d_sm s i)]; exact q)))).symm | exact (b1_f (fun q => q.elim (fun z => z c22) (fun z => z (by rw [← sm_late (mv_d_sm s i)]; exact b1_1 c35)))).symm)) ?_
            refine G_iinc (b := nI (i + 1)) dX9_moves_44 rfl (nI_1 i) rfl ?_
            refine G_goto (tgt := 2) dX9_moves_47 (by decide) ?_
            exact ih (i + 1) (by omega)
          · skip
            refine G_iconst (v := 1) dX9_moves_38 rfl ?_
            refine G_goto (tgt := 43) dX9_moves_39 (by decide) ?_
            refine GM_stz dX9_moves_43 mt_40 ma_40 (by decide) ⟨rfl, by omega⟩ ?_
            refine G_hp (s' := mv_d s (i + 1)) (congrArg (m_set (mv_d s i) 40 i) (by first | exact (b1_t (Or.inl c22)).symm | exact (b1_t (Or.inr (fun q => b1_0.mp c35 (by rw [sm_late (mv_d_sm s i)]; exact q)))).symm | exact (b1_f (fun q => q.elim (fun z => z c22) (fun z => z (by rw [← sm_late (mv_d_sm s i)]; exact b1_1 c35)))).symm)) ?_
            refine G_iinc (b := nI (i + 1)) dX9_moves_44 rfl (nI_1 i) rfl ?_
            refine G_goto (tgt := 2) dX9_moves_47 (by decide) ?_
            exact ih (i + 1) (by omega)
  refine G_iconst (v := 0) dX9_moves_0 rfl ?_
  refine G_istore_n dX9_moves_1 rfl (Nat.le_of_ble_eq_true rfl) rfl ?_
  exact loop (mA s) 0 (by omega)
