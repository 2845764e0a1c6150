def s_mok (s : mS) (a t : Nat) : Prop := ¬ nI t = s 25 a ∧ ¬ s_late s (nI t) ∧ s_may s a t
noncomputable def s_mvt (s : mS) (a : Nat) : Option Nat := fnd (s_mok s a) (mT s)
noncomputable def s_mv1 (s : mS) (a : Nat) : mS := match s_mvt s a with
  | some t => m_set (m_set s 25 a (nI t)) 26 a (s 26 a + 1)
  | none => m_set s 24 a 5

set_option maxHeartbeats 4000000 in
set_option maxRecDepth 100000 in
theorem c9_moves_ {g : gT} {nq_ : Nat} {s : mS} {r : mH} (a9 : Nat) (hI : m_inv s) (ha9 : a9 < mA s) : M g 2 0 0 kX9_moves_ [.ref 24, .int (nI a9)] nq_ (hm s r) (m_V nq_ (s_mv1 s a9) r) := by
  refine M_of_G (by decide +kernel) (Nat.le_of_ble_eq_true rfl) ?_
  obtain ⟨hK, hT, hB, hP9, hA, hkf, haf, hbf⟩ := id hI
  have loop : ∀ m i, i + m = mT s → (∀ j, j < i → ¬ s_mok s a9 j) → G g 2 0 0 kX9_moves_ 2 [.ref 24, .int (nI a9), .int (nI i)] [] nq_ (hm s r) (m_V nq_ (s_mv1 s a9) r) := by
    intro m
    induction m with
    | zero =>
      intro i hi0 hn
      rw [Nat.add_zero] at hi0
      refine G_iload_n dX9_moves__2 rfl rfl ?_
      refine G_aload_n dX9_moves__3 rfl rfl ?_
      refine GM_get dX9_moves__4 fg_X9_107 ms_5 ?_
      refine G_icmp_ge (tgt := 90) dX9_moves__7 (by decide) (fun c7 => ?_) (fun c7 => ?_)
      · skip
        skip
        refine G_aload_n dX9_moves__90 rfl rfl ?_
        refine GM_ref dX9_moves__91 fg_X9_45 (fun _ => rfl) ?_
        refine G_iload_n dX9_moves__94 rfl rfl ?_
        refine G_iconst (v := 5) dX9_moves__95 rfl ?_
        refine GM_st dX9_moves__96 mt_24 ma_24 (by decide) ⟨rfl, by omega⟩ ?_
        refine G_vret dX9_moves__97 rfl ?_
        exact v_cl (by rw [s_mv1, show s_mvt s a9 = none from fnd_none (fun j hj => hn j (by omega))])
      · skip
        exact absurd (by rw [hT.1]; exact nI_le (Nat.le_of_eq hi0.symm) (by omega)) c7
    | succ m ih =>
      intro i hi0 hn
      refine G_iload_n dX9_moves__2 rfl rfl ?_
      refine G_aload_n dX9_moves__3 rfl rfl ?_
      refine GM_get dX9_moves__4 fg_X9_107 ms_5 ?_
      refine G_icmp_ge (tgt := 90) dX9_moves__7 (by decide) (fun c7 => ?_) (fun c7 => ?_)
      · skip
        exact absurd c7 (by rw [hT.1, nI_leI (by omega) (by omega)]; omega)
      · skip
        refine G_iload_n dX9_moves__10 rfl rfl ?_
        refine G_aload_n dX9_moves__11 rfl rfl ?_
        refine GM_ref dX9_moves__12 fg_X9_48 (fun _ => rfl) ?_
        refine G_iload_n dX9_moves__15 rfl rfl ?_
        refine GM_ld dX9_moves__16 mt_25 (by decide) ⟨rfl, by omega⟩ ?_
        refine G_icmp_eq (tgt := 84) dX9_moves__17 (by decide) (fun c17 => ?_) (fun c17 => ?_)
        · skip
          refine G_iinc (b := nI (i + 1)) dX9_moves__84 rfl (nI_1 i) rfl ?_
          refine G_goto (tgt := 2) dX9_moves__87 (by decide) ?_
          refine ih (i + 1) (by omega) (fun j hj q => ?_)
          rcases Nat.lt_or_ge j i with z | z
          · exact hn j z q
          · have e : j = i := by omega
            subst e
            first | exact q.1 c17 | exact q.2.1 (b1_1 c25) | exact b1_0.mp c39 q.2.2.1 | exact b1_0.mp c60 q.2.2.2
        · skip
          refine G_aload_n dX9_moves__20 rfl rfl ?_
          refine G_iload_n dX9_moves__21 rfl rfl ?_
          refine GM_call (c9_isLate (nI i) hI) dX9_moves__22 (mc_X9_214 rfl) tw_1163 tw_49 rfl rfl rfl (Nat.le_of_ble_eq_true rfl) (Nat.le_of_ble_eq_true rfl) ?_
          rintro _ n9_ _ ⟨rfl, e9_, rfl⟩
          obtain rfl := e9_.symm
          refine G_if_ne (tgt := 84) dX9_moves__25 (by decide) (fun c25 => ?_) (fun c25 => ?_)
          · skip
            refine G_iinc (b := nI (i + 1)) dX9_moves__84 rfl (nI_1 i) rfl ?_
            refine G_goto (tgt := 2) dX9_moves__87 (by decide) ?_
            refine ih (i + 1) (by omega) (fun j hj q => ?_)
            rcases Nat.lt_or_ge j i with z | z
            · exact hn j z q
            · have e : j = i := by omega
              subst e
              first | exact q.1 c17 | exact q.2.1 (b1_1 c25) | exact b1_0.mp c39 q.2.2.1 | exact b1_0.mp c60 q.2.2.2
          · skip
            refine G_aload_n dX9_moves__28 rfl rfl ?_
            refine G_aload_n dX9_moves__29 rfl rfl ?_
            refine GM_ref dX9_moves__30 fg_X9_19 (fun _ => rfl) ?_
            refine G_iload_n dX9_moves__33 rfl rfl ?_
            refine GM_ld dX9_moves__34 mt_6 (by decide) ⟨rfl, by omega⟩ ?_
            refine G_top (congrArg Value.int (hkf i (by omega)).1) ?_
            refine G_iload_n dX9_moves__35 rfl rfl ?_
            refine GM_call (c9_fits (ix (s 6 i)) a9 hI (hkf i (by omega)).2 ha9) dX9_moves__36 (mc_X9_204 rfl) tw_1112 tw_42 rfl rfl rfl (Nat.le_of_ble_eq_true rfl) (Nat.le_of_ble_eq_true rfl) ?_
            rintro _ n9_ _ ⟨rfl, e9_, rfl⟩
            obtain rfl := e9_.symm
            refine G_if_eq (tgt := 84) dX9_moves__39 (by decide) (fun c39 => ?_) (fun c39 => ?_)
            · skip
              refine G_iinc (b := nI (i + 1)) dX9_moves__84 rfl (nI_1 i) rfl ?_
              refine G_goto (tgt := 2) dX9_moves__87 (by decide) ?_
              refine ih (i + 1) (by omega) (fun j hj q => ?_)
              rcases Nat.lt_or_ge j i with z | z
              · exact hn j z q
              · have e : j = i := by omega
                subst e
                first | exact q.1 c17 | exact q.2.1 (b1_1 c25) | exact b1_0.mp c39 q.2.2.1 | exact b1_0.mp c60 q.2.2.2
            · skip
              refine G_aload_n dX9_moves__42 rfl rfl ?_
              refine G_iload_n dX9_moves__43 rfl rfl ?_
              refine G_aload_n dX9_moves__44 rfl rfl ?_
              refine GM_ref dX9_moves__45 fg_X9_63 (fun _ => rfl) ?_
              refine G_iload_n dX9_moves__48 rfl rfl ?_
              refine GM_ld dX9_moves__49 mt_30 (by decide) ⟨rfl, by omega⟩ ?_
              refine G_aload_n dX9_moves__50 rfl rfl ?_
              refine GM_ref dX9_moves__51 fg_X9_66 (fun _ => rfl) ?_
              refine G_iload_n dX9_moves__54 rfl rfl ?_
              refine GM_ld dX9_moves__55 mt_31 (by decide) ⟨rfl, by omega⟩ ?_
              refine G_iload_n dX9_moves__56 rfl rfl ?_
              refine GM_call (c9_isFreeFor i (s 30 a9) (s 31 a9) (nI a9) hI (by omega)) dX9_moves__57 (mc_X9_207 rfl) tw_1116 tw_43 rfl rfl rfl (Nat.le_of_ble_eq_true rfl) (Nat.le_of_ble_eq_true rfl) ?_
              rintro _ n9_ _ ⟨rfl, e9_, rfl⟩
              obtain rfl := e9_.symm
              refine G_if_ne (tgt := 66) dX9_moves__60 (by decide) (fun c60 => ?_) (fun c60 => ?_)
              · skip
                refine G_aload_n dX9_moves__66 rfl rfl ?_
                refine GM_ref dX9_moves__67 fg_X9_48 (fun _ => rfl) ?_
                refine G_iload_n dX9_moves__70 rfl rfl ?_
                refine G_iload_n dX9_moves__71 rfl rfl ?_
                refine GM_st dX9_moves__72 mt_25 ma_25 (by decide) ⟨rfl, by omega⟩ ?_
                refine G_aload_n dX9_moves__73 rfl rfl ?_
                refine GM_ref dX9_moves__74 fg_X9_51 (fun _ => rfl) ?_
                refine G_iload_n dX9_moves__77 rfl rfl ?_
                refine G_dup2 dX9_moves__78 rfl rfl ?_
                refine GM_ld dX9_moves__79 mt_26 (by decide) ⟨rfl, by omega⟩ ?_
                refine G_iconst (v := 1) dX9_moves__80 rfl ?_
                refine G_iadd dX9_moves__81 ?_
                refine GM_st dX9_moves__82 mt_26 ma_26 (by decide) ⟨rfl, by omega⟩ ?_
                refine G_vret dX9_moves__83 rfl ?_
                exact v_cl (by rw [s_mv1, show s_mvt s a9 = some i from fnd_at hn ⟨c17, b1_0.mp c25, b1_1 c39, b1_1 c60⟩ (by omega)]; rfl)
              · skip
                refine G_goto (tgt := 84) dX9_moves__63 (by decide) ?_
                refine G_iinc (b := nI (i + 1)) dX9_moves__84 rfl (nI_1 i) rfl ?_
                refine G_goto (tgt := 2) dX9_moves__87 (by decide) ?_
                refine ih (i + 1) (by omega) (fun j hj q => ?_)
                rcases Nat.lt_or_ge j i with z | z
                · exact hn j z q
                · have e : j = i := by omega
                  subst e
                  first | exact q.1 c17 | exact q.2.1 (b1_1 c25) | exact b1_0.mp c39 q.2.2.1 | exact b1_0.mp c60 q.2.2.2
  refine G_iconst (v := 0) dX9_moves__0 rfl ?_
  refine G_istore_n dX9_moves__1 rfl (Nat.le_of_ble_eq_true rfl) rfl ?_
  exact loop (mT s) 0 (by omega) (fun j hj => absurd hj (Nat.not_lt_zero j))
