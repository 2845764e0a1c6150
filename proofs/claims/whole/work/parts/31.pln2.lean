theorem G_bud {g : gT} {d x y x' y' : Nat} {k : mM} {pc : Nat} {L st : List Value} {n : Nat} {h : mH} {P : Option Value → Nat → mH → Prop} (hx : x' ≤ x) (hy : y' ≤ y) (K : G g d x' y' k pc L st n h P) : G g d x y k pc L st n h P := by
  intro p e R s m args below meth c H locs cells slots ls S B C F E
  exact K p e R s m args below meth c H locs cells slots ls S ⟨B.1, B.2.1, Nat.le_trans (Nat.add_le_add_left hx _) B.2.2.1, Nat.le_trans (Nat.add_le_add_left hy _) B.2.2.2⟩ C F E
theorem G_hp0 {g : gT} {d x y : Nat} {k : mM} {pc : Nat} {L L' st : List Value} {n : Nat} {h : mH} {P : Option Value → Nat → mH → Prop} (e : L = L') (K : G g d x y k pc L' st n h P) : G g d x y k pc L st n h P := by rw [e]; exact K
noncomputable def c_rm (c : mS) (z t : Nat) : Nat → Nat
  | 0 => 0
  | i + 1 => cif (i < z ∧ s_may c (ix (c 70 i)) t) (c_rm c z t i + 2 ^ i) (c_rm c z t i)
theorem c_rm_lt (c : mS) (z t : Nat) : ∀ i, c_rm c z t i < 2 ^ i
  | 0 => Nat.zero_lt_one
  | i + 1 => by
    have ih := c_rm_lt c z t i
    have e : 2 ^ (i + 1) = 2 ^ i + 2 ^ i := by rw [Nat.pow_succ]; omega
    show cif _ _ _ < _
    by_cases h : i < z ∧ s_may c (ix (c 70 i)) t
    · rw [cif_t h]; omega
    · rw [cif_f h]; omega
set_option maxHeartbeats 4000000 in
set_option maxRecDepth 100000 in
theorem cx_rtm {g : gT} {nq_ n9 : Nat} {sm : mS} {Y : cY} {c : mS} (z t : Nat) (hY : Yok Y c n9) (hC9 : c_inv c) (hp : p_ok c z) (ht : t < mT c) : M g 5 0 0 kX8_rowThatMayHave [.ref 8, .ref (y_a Y 7 t)] nq_ (hh sm Y c) (m_Q (.int (nI (c_rm c z t 5))) nq_ (hh sm Y c)) := by
  refine M_of_G (by decide +kernel) (Nat.le_of_ble_eq_true rfl) ?_
  obtain ⟨hI, hG, hgv, hov, hrw, hps⟩ := id hC9
  obtain ⟨hK, hT, hB, hP9, hA, hkf, haf, hbf⟩ := id hI
  have hA2 := hA.2
  have hT2 := hT.2
  have hK2 := hK.2
  have hB2 := hB.2
  have hG2 := hG.2
  have hP2 := hP9.2
  have loop : ∀ m i, i + m = 5 → ∀ w9 : Value, w9.category = 1 → G g 5 0 0 kX8_rowThatMayHave 4 [.ref 8, .ref (y_a Y 7 t), .int (nI (c_rm c z t i)), .int (nI i), w9] [] nq_ (hh sm Y c) (m_Q (.int (nI (c_rm c z t 5))) nq_ (hh sm Y c)) := by
    intro m
    induction m with
    | zero =>
      intro i hi0 w9 hw9
      rw [Nat.add_zero] at hi0
      subst hi0
      refine G_iload_n dX8_rowThatMayHave_4 rfl rfl ?_
      refine G_iconst (v := 5) dX8_rowThatMayHave_5 rfl ?_
      refine G_icmp_ge (tgt := 58) dX8_rowThatMayHave_6 (by decide) (fun c6 => ?_) (fun c6 => ?_)
      · skip
        refine G_iload_n dX8_rowThatMayHave_58 rfl rfl ?_
        refine G_iret dX8_rowThatMayHave_59 rfl ?_
        exact ⟨rfl, rfl, rfl⟩
      · skip
        exact absurd (show (5 : Int32) ≤ nI 5 by decide) c6
    | succ m ih =>
      intro i hi0 w9 hw9
      have hl := c_rm_lt c z t i
      refine G_iload_n dX8_rowThatMayHave_4 rfl rfl ?_
      refine G_iconst (v := 5) dX8_rowThatMayHave_5 rfl ?_
      refine G_icmp_ge (tgt := 58) dX8_rowThatMayHave_6 (by decide) (fun c6 => ?_) (fun c6 => ?_)
      · skip
        exact absurd c6 (by rw [show (5 : Int32) = nI 5 from rfl, nI_leI (by decide) (by omega)]; omega)
      · skip
        refine G_aload_n dX8_rowThatMayHave_9 rfl rfl ?_
        refine G_get dX8_rowThatMayHave_10 fg_X8_52 (hx_8 _ _ _) rfl ?_
        refine G_iload_n dX8_rowThatMayHave_13 rfl rfl ?_
        by_cases hiz : i < z
        · refine G_callV (cx_rowS z i hY hC9 hp hiz) dX8_rowThatMayHave_14 (mc_X8_296 rfl) tw_633 tw_634 (hx_20 _ _ _) rfl rfl rfl (Nat.le_of_ble_eq_true rfl) (Nat.le_of_ble_eq_true rfl) (Nat.le_of_ble_eq_true rfl) (Nat.le_of_ble_eq_true rfl) ?_
          rintro _ n9_ _ ⟨rfl, e9_, rfl⟩
          obtain rfl := e9_.symm
          refine G_astore dX8_rowThatMayHave_17 (Nat.le_of_ble_eq_true rfl) rfl ?_
          refine G_aload dX8_rowThatMayHave_19 rfl ?_
          refine G_ifnull dX8_rowThatMayHave_21 ?_
          refine G_aload_n dX8_rowThatMayHave_24 rfl rfl ?_
          refine G_get dX8_rowThatMayHave_25 fg_X8_210 (hx_T hY ht) rfl ?_
          refine G_aload dX8_rowThatMayHave_28 rfl ?_
          refine G_callV (cx_fits (ix (c 6 t)) (ix (c 70 i)) hY hC9 (hkf t ht).2 (hp.2.2 i hiz).2) dX8_rowThatMayHave_30 (mc_X8_236 rfl) tw_637 tw_638 (hx_K hY (hkf _ ht).2) rfl rfl rfl (Nat.le_of_ble_eq_true rfl) (Nat.le_of_ble_eq_true rfl) (Nat.le_of_ble_eq_true rfl) (Nat.le_of_ble_eq_true rfl) ?_
          rintro _ n9_ _ ⟨rfl, e9_, rfl⟩
          obtain rfl := e9_.symm
          refine G_if_eq (tgt := 52) dX8_rowThatMayHave_33 (by decide) (fun c33 => ?_) (fun c33 => ?_)
          · skip
            refine G_iinc (b := nI (i + 1)) dX8_rowThatMayHave_52 rfl (nI_1 i) rfl ?_
            refine G_goto (tgt := 4) dX8_rowThatMayHave_55 (by decide) ?_
            first | exact G_hp0 (show _ = [.ref 8, .ref (y_a Y 7 t), .int (nI (c_rm c z t (i + 1))), .int (nI (i + 1)), .null] by rw [show c_rm c z t (i + 1) = c_rm c z t i from cif_f (fun q => hiz q.1)]; rfl) (ih (i + 1) (by omega) _ rfl) | exact G_hp0 (show _ = [.ref 8, .ref (y_a Y 7 t), .int (nI (c_rm c z t (i + 1))), .int (nI (i + 1)), .ref (y_a Y 0 (ix (c 70 i)))] by rw [show c_rm c z t (i + 1) = c_rm c z t i from cif_f (fun q => b1_0.mp c33 q.2.1)]; rfl) (ih (i + 1) (by omega) _ rfl) | exact G_hp0 (show _ = [.ref 8, .ref (y_a Y 7 t), .int (nI (c_rm c z t (i + 1))), .int (nI (i + 1)), .ref (y_a Y 0 (ix (c 70 i)))] by rw [show c_rm c z t (i + 1) = c_rm c z t i from cif_f (fun q => b1_0.mp c43 q.2.2)]; rfl) (ih (i + 1) (by omega) _ rfl) | exact G_hp0 (show _ = [.ref 8, .ref (y_a Y 7 t), .int (nI (c_rm c z t (i + 1))), .int (nI (i + 1)), .ref (y_a Y 0 (ix (c 70 i)))] by rw [show c_rm c z t (i + 1) = c_rm c z t i + 2 ^ i from cif_t ⟨hiz, b1_1 c33, b1_1 c43⟩]; rfl) (ih (i + 1) (by omega) _ rfl)
          · skip
            refine G_aload_n dX8_rowThatMayHave_36 rfl rfl ?_
            refine G_aload dX8_rowThatMayHave_37 rfl ?_
            refine G_aload_n dX8_rowThatMayHave_39 rfl rfl ?_
            refine G_callV (cx_freeFor (ix (c 70 i)) t hY hC9 (hp.2.2 i hiz).2 ht) dX8_rowThatMayHave_40 (mc_X8_299 rfl) tw_642 tw_13 (hx_8 _ _ _) rfl rfl rfl (Nat.le_of_ble_eq_true rfl) (Nat.le_of_ble_eq_true rfl) (Nat.le_of_ble_eq_true rfl) (Nat.le_of_ble_eq_true rfl) ?_
            rintro _ n9_ _ ⟨rfl, e9_, rfl⟩
            obtain rfl := e9_.symm
            refine G_if_eq (tgt := 52) dX8_rowThatMayHave_43 (by decide) (fun c43 => ?_) (fun c43 => ?_)
            · skip
              refine G_iinc (b := nI (i + 1)) dX8_rowThatMayHave_52 rfl (nI_1 i) rfl ?_
              refine G_goto (tgt := 4) dX8_rowThatMayHave_55 (by decide) ?_
              first | exact G_hp0 (show _ = [.ref 8, .ref (y_a Y 7 t), .int (nI (c_rm c z t (i + 1))), .int (nI (i + 1)), .null] by rw [show c_rm c z t (i + 1) = c_rm c z t i from cif_f (fun q => hiz q.1)]; rfl) (ih (i + 1) (by omega) _ rfl) | exact G_hp0 (show _ = [.ref 8, .ref (y_a Y 7 t), .int (nI (c_rm c z t (i + 1))), .int (nI (i + 1)), .ref (y_a Y 0 (ix (c 70 i)))] by rw [show c_rm c z t (i + 1) = c_rm c z t i from cif_f (fun q => b1_0.mp c33 q.2.1)]; rfl) (ih (i + 1) (by omega) _ rfl) | exact G_hp0 (show _ = [.ref 8, .ref (y_a Y 7 t), .int (nI (c_rm c z t (i + 1))), .int (nI (i + 1)), .ref (y_a Y 0 (ix (c 70 i)))] by rw [show c_rm c z t (i + 1) = c_rm c z t i from cif_f (fun q => b1_0.mp c43 q.2.2)]; rfl) (ih (i + 1) (by omega) _ rfl) | exact G_hp0 (show _ = [.ref 8, .ref (y_a Y 7 t), .int (nI (c_rm c z t (i + 1))), .int (nI (i + 1)), .ref (y_a Y 0 (ix (c 70 i)))] by rw [show c_rm c z t (i + 1) = c_rm c z t i + 2 ^ i from cif_t ⟨hiz, b1_1 c33, b1_1 c43⟩]; rfl) (ih (i + 1) (by omega) _ rfl)
            · skip
              refine G_iload_n dX8_rowThatMayHave_46 rfl rfl ?_
              refine G_iconst (v := 1) dX8_rowThatMayHave_47 rfl ?_
              refine G_iload_n dX8_rowThatMayHave_48 rfl rfl ?_
              refine G_ishl dX8_rowThatMayHave_49 ?_
              refine G_ior dX8_rowThatMayHave_50 ?_
              refine G_top (w := .int (nI (c_rm c z t i + 2 ^ i))) (congrArg Value.int (by rw [bt_sh i (by omega), bt_or i (by omega) _ hl])) ?_
              refine G_istore_n dX8_rowThatMayHave_51 rfl (Nat.le_of_ble_eq_true rfl) rfl ?_
              refine G_iinc (b := nI (i + 1)) dX8_rowThatMayHave_52 rfl (nI_1 i) rfl ?_
              refine G_goto (tgt := 4) dX8_rowThatMayHave_55 (by decide) ?_
              first | exact G_hp0 (show _ = [.ref 8, .ref (y_a Y 7 t), .int (nI (c_rm c z t (i + 1))), .int (nI (i + 1)), .null] by rw [show c_rm c z t (i + 1) = c_rm c z t i from cif_f (fun q => hiz q.1)]; rfl) (ih (i + 1) (by omega) _ rfl) | exact G_hp0 (show _ = [.ref 8, .ref (y_a Y 7 t), .int (nI (c_rm c z t (i + 1))), .int (nI (i + 1)), .ref (y_a Y 0 (ix (c 70 i)))] by rw [show c_rm c z t (i + 1) = c_rm c z t i from cif_f (fun q => b1_0.mp c33 q.2.1)]; rfl) (ih (i + 1) (by omega) _ rfl) | exact G_hp0 (show _ = [.ref 8, .ref (y_a Y 7 t), .int (nI (c_rm c z t (i + 1))), .int (nI (i + 1)), .ref (y_a Y 0 (ix (c 70 i)))] by rw [show c_rm c z t (i + 1) = c_rm c z t i from cif_f (fun q => b1_0.mp c43 q.2.2)]; rfl) (ih (i + 1) (by omega) _ rfl) | exact G_hp0 (show _ = [.ref 8, .ref (y_a Y 7 t), .int (nI (c_rm c z t (i + 1))), .int (nI (i + 1)), .ref (y_a Y 0 (ix (c 70 i)))] by rw [show c_rm c z t (i + 1) = c_rm c z t i + 2 ^ i from cif_t ⟨hiz, b1_1 c33, b1_1 c43⟩]; rfl) (ih (i + 1) (by omega) _ rfl)
        · refine G_callV (cx_rowN z i hY hC9 hp (by omega) (by omega)) dX8_rowThatMayHave_14 (mc_X8_296 rfl) tw_633 tw_634 (hx_20 _ _ _) rfl rfl rfl (Nat.le_of_ble_eq_true rfl) (Nat.le_of_ble_eq_true rfl) (Nat.le_of_ble_eq_true rfl) (Nat.le_of_ble_eq_true rfl) ?_
          rintro _ n9_ _ ⟨rfl, e9_, rfl⟩
          obtain rfl := e9_.symm
          refine G_astoreN dX8_rowThatMayHave_17 (Nat.le_of_ble_eq_true rfl) rfl ?_
          refine G_aloadN dX8_rowThatMayHave_19 rfl ?_
          refine G_ifnullN (tgt := 52) dX8_rowThatMayHave_21 (by decide) ?_
          refine G_iinc (b := nI (i + 1)) dX8_rowThatMayHave_52 rfl (nI_1 i) rfl ?_
          refine G_goto (tgt := 4) dX8_rowThatMayHave_55 (by decide) ?_
          first | exact G_hp0 (show _ = [.ref 8, .ref (y_a Y 7 t), .int (nI (c_rm c z t (i + 1))), .int (nI (i + 1)), .null] by rw [show c_rm c z t (i + 1) = c_rm c z t i from cif_f (fun q => hiz q.1)]; rfl) (ih (i + 1) (by omega) _ rfl) | exact G_hp0 (show _ = [.ref 8, .ref (y_a Y 7 t), .int (nI (c_rm c z t (i + 1))), .int (nI (i + 1)), .ref (y_a Y 0 (ix (c 70 i)))] by rw [show c_rm c z t (i + 1) = c_rm c z t i from cif_f (fun q => b1_0.mp c33 q.2.1)]; rfl) (ih (i + 1) (by omega) _ rfl) | exact G_hp0 (show _ = [.ref 8, .ref (y_a Y 7 t), .int (nI (c_rm c z t (i + 1))), .int (nI (i + 1)), .ref (y_a Y 0 (ix (c 70 i)))] by rw [show c_rm c z t (i + 1) = c_rm c z t i from cif_f (fun q => b1_0.mp c43 q.2.2)]; rfl) (ih (i + 1) (by omega) _ rfl) | exact G_hp0 (show _ = [.ref 8, .ref (y_a Y 7 t), .int (nI (c_rm c z t (i + 1))), .int (nI (i + 1)), .ref (y_a Y 0 (ix (c 70 i)))] by rw [show c_rm c z t (i + 1) = c_rm c z t i + 2 ^ i from cif_t ⟨hiz, b1_1 c33, b1_1 c43⟩]; rfl) (ih (i + 1) (by omega) _ rfl)
  refine G_iconst (v := 0) dX8_rowThatMayHave_0 rfl ?_
  refine G_istore_n dX8_rowThatMayHave_1 rfl (Nat.le_of_ble_eq_true rfl) rfl ?_
  refine G_iconst (v := 0) dX8_rowThatMayHave_2 rfl ?_
  refine G_istore_n dX8_rowThatMayHave_3 rfl (Nat.le_of_ble_eq_true rfl) rfl ?_
  exact loop 5 0 rfl (.retAddr 0) rfl
noncomputable def c_at (c : mS) (a : Nat) : Nat → Nat → Nat
  | 0, i => i
  | m + 1, i => cif (c 31 (ix (c 80 i)) ≤ c 31 a) (c_at c a m (i + 1)) i
theorem c_at_b (c : mS) (a : Nat) : ∀ m i, i ≤ c_at c a m i ∧ c_at c a m i ≤ i + m
  | 0, i => ⟨Nat.le_refl _, Nat.le_refl _⟩
  | m + 1, i => by
    have ih := c_at_b c a m (i + 1)
    show i ≤ cif _ _ _ ∧ cif _ _ _ ≤ i + (m + 1)
    by_cases h : c 31 (ix (c 80 i)) ≤ c 31 a
    · rw [cif_t h]; omega
    · rw [cif_f h]; omega
def lE (c : mS) (p a : Nat) : Nat → Int32 := fun i => if i < p then c 80 i else if i = p then nI a else c 80 (i - 1)
def c_lg (c : mS) (p a : Nat) : mS := m_set (m_set (c80 c (lE c p a)) 81 0 (nI (mL c + 1))) 90 4 (c 90 4 + 1)
noncomputable def c_ref (c : mS) (a : Nat) : mS := c_lg (m_set c 24 a 2) (c_at (m_set c 24 a 2) a (mL c) 0) a
theorem c_lg_o (c : mS) (p a : Nat) {j : Nat} (h : j ≠ 80 ∧ j ≠ 81 ∧ j ≠ 90) : c_lg c p a j = c j := by
  funext i
  simp [c_lg, m_set, c80, h.1, h.2.1, h.2.2]
theorem c_lg_80 (c : mS) (p a : Nat) : c_lg c p a 80 = lE c p a := by
  funext i
  simp [c_lg, m_set, c80]
theorem c_lg_81 (c : mS) (p a : Nat) : c_lg c p a 81 0 = nI (mL c + 1) := by
  simp [c_lg, m_set]
set_option maxHeartbeats 4000000 in
set_option maxRecDepth 100000 in
theorem push_log {Y : cY} {c : mS} {sm : mS} {nq_ : Nat} (p a : Nat) {n' : Nat} {h' : mH} (hY : Yok Y c nq_) (hn : 53 ≤ nq_) (hG : c 81 0 = nI (mL c) ∧ mL c < 120) (hpl : p ≤ mL c) (ha : a < 1000) (hz : la_P (hh sm Y c) nq_ 13 (y_a Y 20 4) (y_c Y 4) (mL c) p (y_a Y 0 a) (f_arr Y c 4) (c 90 4 + 1) n' h') : ∃ Y2, h' = hh sm Y2 (c_lg c p a) ∧ Yok Y2 (c_lg c p a) n' ∧ nq_ ≤ n' := by
  obtain ⟨q', N', hcase, rfl⟩ := hz
  obtain ⟨hl0, hs0⟩ := (Yok_iff _ _ _).mp hY
  have hs1 := hs0 4 (by decide)
  have e2 : mL (c_lg c p a) = mL c + 1 := by
    unfold mL
    rw [c_lg_81]
    exact nI_clamp (by omega)
  have hA1 : Yl Y (c_lg c p a) nq_ := by
    have ec : ∀ t, cn (c_lg c p a) t = cn c t := by
      intro t
      have ea : mA (c_lg c p a) = mA c := by unfold mA; rw [c_lg_o _ _ _ (by decide)]
      have eb : mK (c_lg c p a) = mK c := by unfold mK; rw [c_lg_o _ _ _ (by decide)]
      have ed : mB (c_lg c p a) = mB c := by unfold mB; rw [c_lg_o _ _ _ (by decide)]
      have ee : mT (c_lg c p a) = mT c := by unfold mT; rw [c_lg_o _ _ _ (by decide)]
      unfold cn
      rw [ea, eb, ed, ee]
    exact ⟨fun b t i z => by rw [ec]; exact hl0.1 b t i z, fun t i ht hi => hl0.2.1 t i ht (by rw [ec] at hi; exact hi), hl0.2.2⟩
  have hqq : (q' = y_a Y 20 4 ∧ y_l Y q' = some (20, 4) ∧ n' = nq_) ∨ (nq_ ≤ q' ∧ 53 ≤ q' ∧ q' < n') := by
    rcases hcase with ⟨w1, w2, w3, w4⟩ | ⟨w1, w2, w3, w4, w5⟩
    · refine Or.inl ⟨w2, ?_, w1⟩
      rcases hA1.2.2.1 4 (by decide) with u | u
      · have : y_c Y 4 = 0 := u.2
        omega
      · rw [w2]; exact u.1
    · exact Or.inr ⟨by omega, by omega, by omega⟩
  have hsz : mL c ≤ y_c Y 4 := hs1.1
  have hN1 : 1 ≤ N' ∧ mL c + 1 ≤ N' ∧ N' ≤ 200 := by
    rcases hcase with ⟨w1, w2, w3, w4⟩ | ⟨w1, w2, w3, w4, w5⟩ <;> omega
  have hB1 := Yl_B (x := hh sm Y c (y_a Y 20 4)) hA1 (show 4 < 5 by decide) hqq hN1.1
  have hq53 : 53 ≤ q' := by
    rcases hqq with u | u
    · exact (hA1.1 _ _ _ u.2.1).1
    · exact u.2.1
  refine ⟨_, mvl_4 (E := lE c p a) hA1 hq53 ?_, (Yok_iff _ _ _).mpr ⟨hB1, fun l2 hl2 => ?_⟩, ?_⟩
  · funext i
    have ey : ∀ x, y_a (yB Y q' N' 4 (hh sm Y c (y_a Y 20 4))) 0 x = y_a Y 0 x := fun x => y_up_n (y_a Y) (t := 20) (i := 4) (a := 0) (b := x) q' (fun q => absurd q.1 (by decide))
    show ins (f_arr Y c 4) p (mL c) (y_a Y 0 a) i = if i < ix (c_sz (c_lg c p a) 4) then some (y_a (yB Y q' N' 4 (hh sm Y c (y_a Y 20 4))) 0 (ix (c_lg c p a 80 i))) else none
    rw [show ix (c_sz (c_lg c p a) 4) = mL c + 1 from e2, ey, c_lg_80]
    have ef : ∀ j, f_arr Y c 4 j = if j < mL c then some (y_a Y 0 (ix (c 80 j))) else none := fun j => rfl
    unfold ins lE
    by_cases h1 : i < p
    · rw [if_pos h1, if_pos h1, ef, if_pos (by omega), if_pos (by omega)]
    · rw [if_neg h1, if_neg h1]
      by_cases h2 : i = p
      · rw [if_pos h2, if_pos h2, if_pos (by omega), show ix (nI a) = a from nI_clamp (by omega)]
      · rw [if_neg h2, if_neg h2]
        by_cases h3 : i ≤ mL c
        · rw [if_pos h3, if_pos (by omega), ef, if_pos (by omega)]
        · rw [if_neg h3, if_neg (by omega)]
  · have hss : ∀ l, l ≠ 4 → ∀ l5 : l < 5, c_sz (c_lg c p a) l = c_sz c l := by
      intro l hl l5
      rcases f5 l5 with rfl | rfl | rfl | rfl | rfl
      · exact congrFun (c_lg_o c p a (j := 1) (by decide)) 0
      · exact congrFun (c_lg_o c p a (j := 5) (by decide)) 0
      · exact congrFun (c_lg_o c p a (j := 8) (by decide)) 0
      · exact congrFun (c_lg_o c p a (j := 23) (by decide)) 0
      · exact absurd rfl hl
    by_cases e4 : l2 = 4
    · subst e4
      rw [show ix (c_sz (c_lg c p a) 4) = mL c + 1 from e2, yB_c]
      omega
    · rw [hss l2 e4 hl2, show y_c (yB Y q' N' 4 (hh sm Y c (y_a Y 20 4))) l2 = y_c Y l2 from va_up_ne (y_c Y) N' e4]
      exact hs0 l2 hl2
  · rcases hcase with w | w <;> omega
set_option maxHeartbeats 4000000 in
set_option maxRecDepth 100000 in
theorem arg_log {Y : cY} {c : mS} {sm : mS} {nq_ : Nat} (hY : Yok Y c nq_) (hG : c 81 0 = nI (mL c) ∧ mL c < 120) (hgv : ∀ i, i < mL c → c 80 i = nI (ix (c 80 i)) ∧ ix (c 80 i) < mA c) : hh sm Y c 13 = some (.inr (10, [.int (c 90 4), .ref (y_a Y 20 4), .int (nI (mL c))])) ∧ ((y_a Y 20 4 = 1 ∧ y_c Y 4 = 0) ∨ (hh sm Y c (y_a Y 20 4) = some (.inl (4, y_c Y 4, rfs (f_arr Y c 4))) ∧ 1 ≤ y_c Y 4)) ∧ y_c Y 4 ≤ 200 ∧ mL c ≤ y_c Y 4 ∧ (∀ i, mL c ≤ i → f_arr Y c 4 i = none) ∧ l_el (hh sm Y c) 13 (f_arr Y c 4) := by
  obtain ⟨hl0, hs0⟩ := (Yok_iff _ _ _).mp hY
  have hs1 := hs0 4 (by decide)
  refine ⟨?_, ?_, hs1.2, hs1.1, fun i hi => ?_, fun i y hy => ?_⟩
  · have := hx_13 sm Y c
    rw [hG.1] at this
    exact this
  · rcases hl0.2.2.1 4 (by decide) with u | u
    · exact Or.inl u
    · have hb := (hl0.1 _ _ _ u.1)
      refine Or.inr ⟨?_, u.2⟩
      rw [hh_hi _ _ _ (by omega), c_dy_20 (i := 4) u.1]
  · show (if i < mL c then _ else none) = none
    rw [if_neg (by omega)]
  · have hy0 : (if i < mL c then some (y_a Y 0 (ix (c 80 i))) else none) = some y := hy
    by_cases hi : i < mL c
    · rw [if_pos hi] at hy0
      have hy2 : y = y_a Y 0 (ix (c 80 i)) := (Option.some.inj hy0).symm
      have hx := hx_A (sm := sm) hY (hgv i hi).2
      have hya := ya_A hY (hgv i hi).2
      rw [hy2]
      exact ⟨by omega, 0, _, _, hx, rfl, tw_1200⟩
    · rw [if_neg hi] at hy0; cases hy0
def c_AV (n : Nat) (sm : mS) (X : mS) : Option Value → Nat → mH → Prop := fun v' n' h' => v' = none ∧ ∃ Y', h' = hh sm Y' X ∧ Yok Y' X n' ∧ n ≤ n'
set_option maxHeartbeats 4000000 in
set_option maxRecDepth 100000 in
theorem cx_refuse {g : gT} {nq_ : Nat} {sm : mS} {Y : cY} {c fin : mS} (a : Nat) (hY : Yok Y c nq_) (hn : 53 ≤ nq_) (hA : c 23 0 = nI (mA c) ∧ mA c ≤ 120) (hG : c 81 0 = nI (mL c) ∧ mL c < 120) (hgv : ∀ i, i < mL c → c 80 i = nI (ix (c 80 i)) ∧ ix (c 80 i) < mA c) (ha : a < mA c) (he : fin = c_ref c a) : M g 7 1 310 kX8_refuse [.ref 8, .ref (y_a Y 0 a)] nq_ (hh sm Y c) (c_AV nq_ sm fin) := by
  refine M_of_G (by decide +kernel) (Nat.le_of_ble_eq_true rfl) ?_
  have loop : ∀ (c : mS), Yok Y c nq_ → (c 23 0 = nI (mA c) ∧ mA c ≤ 120) → (c 81 0 = nI (mL c) ∧ mL c < 120) → (∀ i, i < mL c → c 80 i = nI (ix (c 80 i)) ∧ ix (c 80 i) < mA c) → a < mA c → ∀ m i, i + m = mL c → fin = c_lg c (c_at c a m i) a → G g 7 1 310 kX8_refuse 7 [.ref 8, .ref (y_a Y 0 a), .int (nI i)] [] nq_ (hh sm Y c) (c_AV nq_ sm fin) := by
    intro c hY hA hG hgv ha m
    have hA2 := hA.2
    have hG2 := hG.2
    induction m with
    | zero =>
      intro i hi0 hs
      rw [Nat.add_zero] at hi0
      have hs : fin = c_lg c i a := hs
      refine G_iload_n dX8_refuse_7 rfl rfl ?_
      refine G_aload_n dX8_refuse_8 rfl rfl ?_
      refine G_get dX8_refuse_9 fg_X8_25 (hx_8 _ _ _) rfl ?_
      refine GL_size4 dX8_refuse_12 (mc_X8_60 rfl) (Nat.le_of_ble_eq_true rfl) (Nat.le_of_ble_eq_true rfl) ?_
      refine G_icmp_ge (tgt := 45) dX8_refuse_15 (by decide) (fun c15 => ?_) (fun c15 => ?_)
      · skip
        refine G_aload_n dX8_refuse_45 rfl rfl ?_
        refine G_get dX8_refuse_46 fg_X8_25 (hx_8 _ _ _) rfl ?_
        refine G_iload_n dX8_refuse_49 rfl rfl ?_
        refine G_aload_n dX8_refuse_50 rfl rfl ?_
        obtain ⟨a1, a2, a3, a4, a5, a6⟩ := arg_log (sm := sm) hY hG hgv
        refine G_callV (cj_addi i a1 a2 a3 a4 a5 a6 (hx_A hY ha) (by have := (ya_A hY ha).1; omega) rfl tw_1200 (by omega)) dX8_refuse_51 (mc_X8_309 rfl) tw_699 tw_700 a1 rfl rfl rfl (Nat.le_of_ble_eq_true rfl) (Nat.le_of_ble_eq_true rfl) (Nat.le_of_ble_eq_true rfl) (Nat.le_of_ble_eq_true rfl) ?_
        rintro _ n8_ h8_ ⟨rfl, hz⟩
        obtain ⟨Y2, rfl, hY2, hn2⟩ := push_log i a hY hn hG (by omega) (by omega) hz
        refine G_vret dX8_refuse_54 rfl ?_
        first | exact ⟨rfl, Y2, by rw [hs], by rw [hs]; exact hY2, hn2⟩
      · skip
        exact absurd (by rw [hG.1]; exact nI_le (by omega) (by omega)) c15
    | succ m ih =>
      intro i hi0 hs
      have hi : i < mL c := by omega
      refine G_iload_n dX8_refuse_7 rfl rfl ?_
      refine G_aload_n dX8_refuse_8 rfl rfl ?_
      refine G_get dX8_refuse_9 fg_X8_25 (hx_8 _ _ _) rfl ?_
      refine GL_size4 dX8_refuse_12 (mc_X8_60 rfl) (Nat.le_of_ble_eq_true rfl) (Nat.le_of_ble_eq_true rfl) ?_
      refine G_icmp_ge (tgt := 45) dX8_refuse_15 (by decide) (fun c15 => ?_) (fun c15 => ?_)
      · skip
        exact absurd c15 (by rw [hG.1, nI_leI (by omega) (by omega)]; omega)
      · skip
        refine G_aload_n dX8_refuse_18 rfl rfl ?_
        refine G_get dX8_refuse_19 fg_X8_25 (hx_8 _ _ _) rfl ?_
        refine G_iload_n dX8_refuse_22 rfl rfl ?_
        refine GL_get4 (i := i) (sz := mL c) dX8_refuse_23 (mc_X8_158 rfl) hY hG.1 hi (by omega) (Nat.le_of_ble_eq_true rfl) (Nat.le_of_ble_eq_true rfl) ?_
        refine G_cast (ci := 0) dX8_refuse_26 rfl tw_558 (hx_A hY (hgv _ hi).2) ?_
        refine G_get dX8_refuse_29 fg_X8_198 (hx_A hY (hgv _ hi).2) rfl ?_
        refine G_aload_n dX8_refuse_32 rfl rfl ?_
        refine G_get dX8_refuse_33 fg_X8_198 (hx_A hY ha) rfl ?_
        refine G_icmp_gt (tgt := 45) dX8_refuse_36 (by decide) (fun c36 => ?_) (fun c36 => ?_)
        · skip
          have hs : fin = c_lg c i a := hs.trans (by show c_lg c (cif _ _ _) a = _; rw [cif_f (Int32.not_le.mpr c36)])
          refine G_aload_n dX8_refuse_45 rfl rfl ?_
          refine G_get dX8_refuse_46 fg_X8_25 (hx_8 _ _ _) rfl ?_
          refine G_iload_n dX8_refuse_49 rfl rfl ?_
          refine G_aload_n dX8_refuse_50 rfl rfl ?_
          obtain ⟨a1, a2, a3, a4, a5, a6⟩ := arg_log (sm := sm) hY hG hgv
          refine G_callV (cj_addi i a1 a2 a3 a4 a5 a6 (hx_A hY ha) (by have := (ya_A hY ha).1; omega) rfl tw_1200 (by omega)) dX8_refuse_51 (mc_X8_309 rfl) tw_699 tw_700 a1 rfl rfl rfl (Nat.le_of_ble_eq_true rfl) (Nat.le_of_ble_eq_true rfl) (Nat.le_of_ble_eq_true rfl) (Nat.le_of_ble_eq_true rfl) ?_
          rintro _ n8_ h8_ ⟨rfl, hz⟩
          obtain ⟨Y2, rfl, hY2, hn2⟩ := push_log i a hY hn hG (by omega) (by omega) hz
          refine G_vret dX8_refuse_54 rfl ?_
          first | exact ⟨rfl, Y2, by rw [hs], by rw [hs]; exact hY2, hn2⟩
        · skip
          refine G_iinc (b := nI (i + 1)) dX8_refuse_39 rfl (nI_1 i) rfl ?_
          refine G_goto (tgt := 7) dX8_refuse_42 (by decide) ?_
          exact ih (i + 1) (by omega) (hs.trans (by show c_lg c (cif _ _ _) a = _; rw [cif_t (Int32.not_lt.mp c36)]))
  refine G_aload_n dX8_refuse_0 rfl rfl ?_
  refine G_iconst (v := 2) dX8_refuse_1 rfl ?_
  refine GC_state dX8_refuse_2 fp_X8_162 hY ha ?_
  refine G_iconst (v := 0) dX8_refuse_5 rfl ?_
  refine G_istore_n dX8_refuse_6 rfl (Nat.le_of_ble_eq_true rfl) rfl ?_
  exact loop (m_set c 24 a 2) (hY.same rfl rfl rfl rfl rfl) hA hG hgv ha (mL c) 0 (by show _ = mL c; omega) he
theorem c_ref_o (c : mS) (a : Nat) {j : Nat} (h : j ≠ 24 ∧ j ≠ 80 ∧ j ≠ 81 ∧ j ≠ 90) : c_ref c a j = c j := (c_lg_o _ _ _ ⟨h.2.1, h.2.2.1, h.2.2.2⟩).trans (m_set_ne _ _ _ h.1)
theorem c_ref_L {c : mS} {a : Nat} (h : mL c < 120) : c_ref c a 81 0 = nI (mL c + 1) ∧ mL (c_ref c a) = mL c + 1 := by
  have e : c_ref c a 81 0 = nI (mL c + 1) := c_lg_81 _ _ _
  refine ⟨e, ?_⟩
  unfold mL at *
  rw [e]
  exact nI_clamp (by omega)
theorem c_ref_24 (c : mS) (a : Nat) : c_ref c a 24 = upd (c 24) a 2 := (c_lg_o _ _ _ (by decide)).trans (m_set_eq _ _ _ _)
theorem c_inv_ref {c : mS} {a : Nat} (h : c_inv c) (ha : a < mA c) (hL : mL c < 120) : c_inv (c_ref (m_set c 25 a (-1)) a) := by
  obtain ⟨h1, h2, h3, h4, h5, h6⟩ := h
  obtain ⟨hK, hT, hB, hP9, hA, hkf, haf, hbf⟩ := h1
  have hA2 := hA.2
  have eo : ∀ j, j ≠ 25 → j ≠ 24 ∧ j ≠ 80 ∧ j ≠ 81 ∧ j ≠ 90 → c_ref (m_set c 25 a (-1)) a j = c j := fun j q w => (c_ref_o _ _ w).trans (m_set_ne _ _ _ q)
  have e25 : ∀ b, c_ref (m_set c 25 a (-1)) a 25 b = if b = a then -1 else c 25 b := fun b => by
    rw [c_ref_o _ _ (by decide)]
    by_cases e : b = a
    · subst e; rw [m_set_at, if_pos rfl]
    · rw [ms_ne e, if_neg e]
  have e24 : ∀ b, c_ref (m_set c 25 a (-1)) a 24 b = if b = a then 2 else c 24 b := fun b => by
    rw [c_ref_24, m_set_ne _ _ _ (by decide)]
    rfl
  have eL := c_ref_L (c := m_set c 25 a (-1)) (a := a) hL
  have eA : mA (c_ref (m_set c 25 a (-1)) a) = mA c := by unfold mA; rw [eo 23 (by decide) (by decide)]
  have eK : mK (c_ref (m_set c 25 a (-1)) a) = mK c := by unfold mK; rw [eo 1 (by decide) (by decide)]
  have eT : mT (c_ref (m_set c 25 a (-1)) a) = mT c := by unfold mT; rw [eo 5 (by decide) (by decide)]
  have eB : mB (c_ref (m_set c 25 a (-1)) a) = mB c := by unfold mB; rw [eo 8 (by decide) (by decide)]
  have eP : mP (c_ref (m_set c 25 a (-1)) a) = mP c := by unfold mP; rw [eo 13 (by decide) (by decide)]
  refine ⟨⟨?_, ?_, ?_, ?_, ?_, ?_, ?_, ?_⟩, ?_, ?_, ?_, ?_, ?_⟩
  · rw [eK, eo 1 (by decide) (by decide)]; exact hK
  · rw [eT, eo 5 (by decide) (by decide)]; exact hT
  · rw [eB, eo 8 (by decide) (by decide)]; exact hB
  · rw [eP, eo 13 (by decide) (by decide)]; exact hP9
  · rw [eA, eo 23 (by decide) (by decide)]; exact hA
  · rw [eT, eK, eo 6 (by decide) (by decide)]; exact hkf
  · intro b hb
    rw [eA] at hb
    rw [eK, eB, eT, eo 28 (by decide) (by decide), eo 27 (by decide) (by decide), e25]
    refine ⟨(haf b hb).1, (haf b hb).2.1, ?_⟩
    by_cases e : b = a
    · rw [if_pos e]; exact Or.inl rfl
    · rw [if_neg e]; exact (haf b hb).2.2
  · intro b hb q
    rw [eA] at hb
    rw [e24] at q
    rw [e25, eT]
    by_cases e : b = a
    · rw [if_pos e] at q; exact absurd q (by decide)
    · rw [if_neg e] at q ⊢; exact hbf b hb q
  · rw [eL.2, eL.1]
    have e9 : mL (m_set c 25 a (-1)) = mL c := rfl
    exact ⟨rfl, by omega⟩
  · intro i hi
    have e9 : mL (m_set c 25 a (-1)) = mL c := rfl
    rw [eL.2, e9] at hi
    have e80 : c_ref (m_set c 25 a (-1)) a 80 = lE (m_set (m_set c 25 a (-1)) 24 a 2) (c_at (m_set (m_set c 25 a (-1)) 24 a 2) a (mL c) 0) a := c_lg_80 _ _ _
    rw [e80, eA]
    have hb := c_at_b (m_set (m_set c 25 a (-1)) 24 a 2) a (mL c) 0
    unfold lE
    by_cases q1 : i < c_at (m_set (m_set c 25 a (-1)) 24 a 2) a (mL c) 0
    · rw [if_pos q1]; exact h3 i (by omega)
    · rw [if_neg q1]
      by_cases q2 : i = c_at (m_set (m_set c 25 a (-1)) 24 a 2) a (mL c) 0
      · rw [if_pos q2, show ix (nI a) = a from nI_clamp (by omega)]; exact ⟨rfl, ha⟩
      · rw [if_neg q2]; exact h3 (i - 1) (by omega)
  · rw [eT, eA, eo 51 (by decide) (by decide)]; exact h4
  · rw [eA, eo 70 (by decide) (by decide)]; exact h5
  · rw [eo 71 (by decide) (by decide)]; exact h6
theorem c_inv_bk {c : mS} {a t : Nat} (h : c_inv c) (ht : t < mT c) : c_inv (m_set (m_set c 25 a (nI t)) 24 a 1) := by
  have h1 := c_inv_on (a := a) h ht
  obtain ⟨⟨hK, hT, hB, hP9, hA, hkf, haf, hbf⟩, h2⟩ := h1
  refine ⟨⟨hK, hT, hB, hP9, hA, hkf, haf, fun b hb q => ?_⟩, h2⟩
  have hb : b < mA c := hb
  by_cases e : b = a
  · subst e
    have hT2 : mT c ≤ 12 := hT.2
    have ez : m_set (m_set c 25 b (nI t)) 24 b 1 25 b = nI t := by simp [m_set]
    rw [ez, show ix (nI t) = t from nI_clamp (by omega)]
    exact ⟨rfl, ht⟩
  · refine hbf b hb ?_
    rw [ms_ne e] at q
    exact q
noncomputable def co1 (z i : Nat) (x : mS × Nat) : mS × Nat := cif (wi (c_tr x.1 z i) 0 (x.1 5 0 - 1)) (m_set (m_set x.1 25 (ix (x.1 70 i)) (c_tr x.1 z i)) 24 (ix (x.1 70 i)) 1, x.2 + 1) (c_ref (m_set x.1 25 (ix (x.1 70 i)) (-1)) (ix (x.1 70 i)), x.2)
noncomputable def coR (z : Nat) : Nat → Nat → mS × Nat → mS × Nat
  | 0, _, x => x
  | m + 1, i, x => coR z m (i + 1) (cif (i < z) (co1 z i x) x)
theorem p_ok_eq {u c : mS} {z : Nat} (h : u 71 = c 71 ∧ u 70 = c 70 ∧ u 23 = c 23) (hp : p_ok c z) : p_ok u z := by
  unfold p_ok mA at *
  rw [h.1, h.2.1, h.2.2]
  exact hp
set_option maxHeartbeats 4000000 in
set_option maxRecDepth 100000 in
theorem cx_carry {g : gT} {n0 : Nat} {sm : mS} {Y : cY} {c : mS} {fin : mS × Nat} (z : Nat) (hY : Yok Y c n0) (hn : 53 ≤ n0) (hC9 : c_inv c) (hp : p_ok c z) (hLz : mL c + z ≤ 120) (he : fin = coR z 5 0 (c, 0)) : M g 8 5 1550 kX8_carryOutPlan [.ref 8] n0 (hh sm Y c) (c_A n0 sm (fin.1, nI fin.2)) := by
  refine M_of_G (by decide +kernel) (Nat.le_of_ble_eq_true rfl) ?_
  have loop : ∀ m i b (c : mS) (Y : cY) (nq_ : Nat) (w9 : Value), w9.category = 1 → c_inv c → Yok Y c nq_ → 53 ≤ nq_ → n0 ≤ nq_ → p_ok c z → mL c + (z - i) ≤ 120 → i + m = 5 → fin = coR z m i (c, b) → G g 8 m (310 * m) kX8_carryOutPlan 4 [.ref 8, .int (nI b), .int (nI i), w9] [] nq_ (hh sm Y c) (c_A n0 sm (fin.1, nI fin.2)) := by
    intro m
    induction m with
    | zero =>
      intro i b c Y nq_ w9 hw9 hC9 hY hn hn0 hp hLz hi0 hs
      rw [Nat.add_zero] at hi0
      subst hi0
      refine G_iload_n dX8_carryOutPlan_4 rfl rfl ?_
      refine G_iconst (v := 5) dX8_carryOutPlan_5 rfl ?_
      refine G_icmp_ge (tgt := 67) dX8_carryOutPlan_6 (by decide) (fun c6 => ?_) (fun c6 => ?_)
      · skip
        refine G_iload_n dX8_carryOutPlan_67 rfl rfl ?_
        refine G_iret dX8_carryOutPlan_68 rfl ?_
        exact ca_close hY hn0 (by rw [hs]; rfl)
      · skip
        exact absurd (show (5 : Int32) ≤ nI 5 by decide) c6
    | succ m ih =>
      intro i b c Y nq_ w9 hw9 hC9 hY hn hn0 hp hLz hi0 hs
      obtain ⟨hI, hG, hgv, hov, hrw, hps⟩ := id hC9
      obtain ⟨hK, hT, hB, hP9, hA, hkf, haf, hbf⟩ := id hI
      have hA2 := hA.2
      have hT2 := hT.2
      have hK2 := hK.2
      have hB2 := hB.2
      have hG2 := hG.2
      have hP2 := hP9.2
      have hz5 := hp.2.1
      refine G_iload_n dX8_carryOutPlan_4 rfl rfl ?_
      refine G_iconst (v := 5) dX8_carryOutPlan_5 rfl ?_
      refine G_icmp_ge (tgt := 67) dX8_carryOutPlan_6 (by decide) (fun c6 => ?_) (fun c6 => ?_)
      · skip
        exact absurd c6 (by rw [show (5 : Int32) = nI 5 from rfl, nI_leI (by decide) (by omega)]; omega)
      · skip
        refine G_aload_n dX8_carryOutPlan_9 rfl rfl ?_
        refine G_get dX8_carryOutPlan_10 fg_X8_52 (hx_8 _ _ _) rfl ?_
        refine G_iload_n dX8_carryOutPlan_13 rfl rfl ?_
        by_cases hiz : i < z
        · refine G_callV (cx_rowS z i hY hC9 hp hiz) dX8_carryOutPlan_14 (mc_X8_296 rfl) tw_633 tw_634 (hx_20 _ _ _) rfl rfl rfl (Nat.le_of_ble_eq_true rfl) (Nat.le_of_ble_eq_true rfl) (Nat.zero_le _) (Nat.zero_le _) ?_
          rintro _ n9_ _ ⟨rfl, e9_, rfl⟩
          obtain rfl := e9_.symm
          have ha := (hp.2.2 i hiz).2
          refine G_astore_n dX8_carryOutPlan_17 rfl (Nat.le_of_ble_eq_true rfl) rfl ?_
          refine G_aload_n dX8_carryOutPlan_18 rfl rfl ?_
          refine G_ifnull dX8_carryOutPlan_19 ?_
          refine G_aload_n dX8_carryOutPlan_22 rfl rfl ?_
          refine G_aload_n dX8_carryOutPlan_23 rfl rfl ?_
          refine G_aload_n dX8_carryOutPlan_24 rfl rfl ?_
          refine G_get dX8_carryOutPlan_25 fg_X8_52 (hx_8 _ _ _) rfl ?_
          refine G_iload_n dX8_carryOutPlan_28 rfl rfl ?_
          refine G_callV (cx_tar z i hp.1 hp.2.1 (by omega)) dX8_carryOutPlan_29 (mc_X8_303 rfl) tw_691 tw_692 (hx_20 _ _ _) rfl rfl rfl (Nat.le_of_ble_eq_true rfl) (Nat.le_of_ble_eq_true rfl) (Nat.zero_le _) (Nat.zero_le _) ?_
          rintro _ n9_ _ ⟨rfl, e9_, rfl⟩
          obtain rfl := e9_.symm
          refine G_callV (cx_thingAt (c_tr c z i) hY hC9) dX8_carryOutPlan_32 (mc_X8_123 rfl) tw_528 tw_8 (hx_8 _ _ _) rfl rfl rfl (Nat.le_of_ble_eq_true rfl) (Nat.le_of_ble_eq_true rfl) (Nat.zero_le _) (Nat.zero_le _) ?_
          rintro _ n9_ _ ⟨rfl, e9_, rfl⟩
          obtain rfl := e9_.symm
          by_cases hw : wi (c_tr c z i) 0 (c 5 0 - 1)
          · obtain ⟨t, ht, hv⟩ := m_ixe hT (by decide) hw
            refine G_top (w := va_rf (oR (y_a Y 7) (nI t))) (by unfold oW; rw [cif_t hw, hv, show ix (nI t) = t from nI_clamp (by omega), oR_nI (by omega)]) ?_
            refine GC_athing dX8_carryOutPlan_35 fp_X8_183 hY ha ?_
            refine G_aload_n dX8_carryOutPlan_38 rfl rfl ?_
            refine G_get dX8_carryOutPlan_39 fg_X8_183 (hx_A (hY.same rfl rfl rfl rfl rfl) ha) rfl ?_
            refine G_top (w := .ref (y_a Y 7 t)) (show va_rf (oR (y_a Y 7) (m_set c 25 (ix (c 70 i)) (nI t) 25 (ix (c 70 i)))) = _ by rw [m_set_at, oR_nI (by omega)]; rfl) ?_
            refine G_ifnonnull (tgt := 53) dX8_carryOutPlan_42 (by decide) ?_
            refine G_aload_n dX8_carryOutPlan_53 rfl rfl ?_
            refine G_iconst (v := 1) dX8_carryOutPlan_54 rfl ?_
            refine GC_state dX8_carryOutPlan_55 fp_X8_162 (hY.same rfl rfl rfl rfl rfl) ha ?_
            refine G_iinc (b := nI (b + 1)) dX8_carryOutPlan_58 rfl (nI_1 b) rfl ?_
            refine G_iinc (b := nI (i + 1)) dX8_carryOutPlan_61 rfl (nI_1 i) rfl ?_
            refine G_goto (tgt := 4) dX8_carryOutPlan_64 (by decide) ?_
            refine G_bud (Nat.le_succ m) (Nat.mul_le_mul_left 310 (Nat.le_succ m)) (ih (i + 1) (b + 1) _ Y _ _ rfl (c_inv_bk hC9 ht) (hY.same rfl rfl rfl rfl rfl) hn hn0 (p_ok_eq ⟨rfl, rfl, rfl⟩ hp) (by show mL c + _ ≤ 120; omega) (by omega) (hs.trans (congrArg (coR z m (i + 1)) ((cif_t hiz).trans ((cif_t hw).trans (by rw [hv]))))))
          · refine G_top (w := va_rf (oR (y_a Y 7) (-1))) (by unfold oW; rw [cif_f hw]; rfl) ?_
            refine GC_athing dX8_carryOutPlan_35 fp_X8_183 hY ha ?_
            refine G_aload_n dX8_carryOutPlan_38 rfl rfl ?_
            refine G_get dX8_carryOutPlan_39 fg_X8_183 (hx_A (hY.same rfl rfl rfl rfl rfl) ha) rfl ?_
            refine G_top (w := .null) (show va_rf (oR (y_a Y 7) (m_set c 25 (ix (c 70 i)) (-1) 25 (ix (c 70 i)))) = _ by rw [m_set_at]; rfl) ?_
            refine G_ifnonnullN dX8_carryOutPlan_42 ?_
            refine G_aload_n dX8_carryOutPlan_45 rfl rfl ?_
            refine G_aload_n dX8_carryOutPlan_46 rfl rfl ?_
            refine G_callV (cx_refuse (c := m_set c 25 (ix (c 70 i)) (-1)) (ix (c 70 i)) (hY.same rfl rfl rfl rfl rfl) hn hA ⟨hG.1, by show mL c < 120; omega⟩ hgv ha rfl) dX8_carryOutPlan_47 (mc_X8_306 rfl) tw_696 tw_19 (hx_8 _ _ _) rfl rfl rfl (Nat.le_of_ble_eq_true rfl) (Nat.le_of_ble_eq_true rfl) (by omega) (by omega) ?_
            rintro _ n8_ h8_ ⟨rfl, Y2, rfl, hY2, hn2⟩
            refine G_goto (tgt := 61) dX8_carryOutPlan_50 (by decide) ?_
            refine G_iinc (b := nI (i + 1)) dX8_carryOutPlan_61 rfl (nI_1 i) rfl ?_
            refine G_goto (tgt := 4) dX8_carryOutPlan_64 (by decide) ?_
            have hLr := (c_ref_L (c := m_set c 25 (ix (c 70 i)) (-1)) (a := (ix (c 70 i))) (by show mL c < 120; omega)).2
            have hL9 : mL (m_set c 25 (ix (c 70 i)) (-1)) = mL c := rfl
            have hpr : p_ok (c_ref (m_set c 25 (ix (c 70 i)) (-1)) (ix (c 70 i))) z := p_ok_eq ⟨(c_ref_o _ _ (by decide)).trans (m_set_ne _ _ _ (by decide)), (c_ref_o _ _ (by decide)).trans (m_set_ne _ _ _ (by decide)), (c_ref_o _ _ (by decide)).trans (m_set_ne _ _ _ (by decide))⟩ hp
            refine G_bud (by omega) (by omega) (ih (i + 1) b _ Y2 _ _ rfl (c_inv_ref hC9 ha (by omega)) hY2 (by omega) (by omega) hpr (by rw [hLr, hL9]; omega) (by omega) (hs.trans (congrArg (coR z m (i + 1)) ((cif_t hiz).trans (cif_f hw)))))
        · refine G_callV (cx_rowN z i hY hC9 hp (by omega) (by omega)) dX8_carryOutPlan_14 (mc_X8_296 rfl) tw_633 tw_634 (hx_20 _ _ _) rfl rfl rfl (Nat.le_of_ble_eq_true rfl) (Nat.le_of_ble_eq_true rfl) (Nat.zero_le _) (Nat.zero_le _) ?_
          rintro _ n9_ _ ⟨rfl, e9_, rfl⟩
          obtain rfl := e9_.symm
          refine G_astore_nN dX8_carryOutPlan_17 rfl (Nat.le_of_ble_eq_true rfl) rfl ?_
          refine G_aload_nN dX8_carryOutPlan_18 rfl rfl ?_
          refine G_ifnullN (tgt := 61) dX8_carryOutPlan_19 (by decide) ?_
          refine G_iinc (b := nI (i + 1)) dX8_carryOutPlan_61 rfl (nI_1 i) rfl ?_
          refine G_goto (tgt := 4) dX8_carryOutPlan_64 (by decide) ?_
          refine G_bud (Nat.le_succ m) (Nat.mul_le_mul_left 310 (Nat.le_succ m)) (ih (i + 1) b c Y nq_ _ rfl hC9 hY hn hn0 hp (by omega) (by omega) (hs.trans (congrArg (coR z m (i + 1)) (cif_f hiz))))
  refine G_iconst (v := 0) dX8_carryOutPlan_0 rfl ?_
  refine G_istore_n dX8_carryOutPlan_1 rfl (Nat.le_of_ble_eq_true rfl) rfl ?_
  refine G_iconst (v := 0) dX8_carryOutPlan_2 rfl ?_
  refine G_istore_n dX8_carryOutPlan_3 rfl (Nat.le_of_ble_eq_true rfl) rfl ?_
  exact loop 5 0 0 c Y n0 (.retAddr 0) rfl hC9 hY hn (Nat.le_refl _) hp (by omega) rfl he
noncomputable def prR : Nat → Nat → Nat → mS → mS
  | 0, _, _, c => c
  | m + 1, a, z, c => cif (c 24 a = 0) (prR m (a + 1) (z + 1) (m_set (m_set c 70 z (nI a)) 71 0 (nI (z + 1)))) (prR m (a + 1) z c)
noncomputable def poR (z : Nat) : Nat → Nat → mS → mS
  | 0, _, c => c
  | m + 1, t, c => poR z m (t + 1) (c_off c t (c_rm c z t 5) z)
noncomputable def c_rest (c : mS) : mS × Nat := coR (ix (c 71 0)) 5 0 (poR (ix (c 71 0)) (mT c) 0 c, 0)
noncomputable def c_pl (c : mS) : mS × Nat := c_rest (prR (mA c) 0 0 (c_beg c))
noncomputable def cp_plan (c : mS) : mS × Int32 := ((c_pl c).1, nI (c_pl c).2)
def k7 (u c : mS) : Prop := ∀ j, j ≠ 72 → j ≠ 73 → u j = c j
theorem k7.inv {u c : mS} (h : k7 u c) (hC : c_inv c) : c_inv u := c_inv_eq (fun j hj => h j (by simp only [List.mem_cons, List.not_mem_nil, or_false] at hj; omega) (by simp only [List.mem_cons, List.not_mem_nil, or_false] at hj; omega)) hC
theorem k7.Y {u c : mS} {Y : cY} {n9 : Nat} (h : k7 u c) (hY : Yok Y c n9) : Yok Y u n9 := hY.same (congrFun (h 1 (by decide) (by decide)) 0) (congrFun (h 5 (by decide) (by decide)) 0) (congrFun (h 8 (by decide) (by decide)) 0) (congrFun (h 23 (by decide) (by decide)) 0) (congrFun (h 81 (by decide) (by decide)) 0)
theorem k7.p {u c : mS} {z : Nat} (h : k7 u c) (hp : p_ok c z) : p_ok u z := p_ok_eq ⟨h 71 (by decide) (by decide), h 70 (by decide) (by decide), h 23 (by decide) (by decide)⟩ hp
theorem off_k {c : mS} {t mh z : Nat} : k7 (c_off c t mh z) c := by
  unfold c_off
  by_cases h : mh = 0
  · rw [cif_t h]; exact fun _ _ _ => rfl
  · rw [cif_f h]
    intro j h72 h73
    have h1 : k73 (c_wg c t mh z) c := gO_k z 0 (fun j hj => m_set_ne _ _ _ hj)
    exact (oO2_k (2 ^ z - 1) (u := c_wg c t mh z) (c := c_wg c t mh z) (fun _ _ => rfl) j h72).trans (h1 j h73)
theorem k7.T {u c : mS} (h : k7 u c) : mT u = mT c := by unfold mT; rw [h 5 (by decide) (by decide)]
theorem k7.L {u c : mS} (h : k7 u c) : mL u = mL c := by unfold mL; rw [h 81 (by decide) (by decide)]
theorem beg_k {c : mS} : ∀ j, j ≠ 71 → j ≠ 72 → c_beg c j = c j := fun j h1 h2 => (m_row_ne _ _ h2).trans (m_set_ne _ _ _ h1)
theorem beg_inv {c : mS} (h : c_inv c) : c_inv (c_beg c) := by
  have h1 := c_inv_psz (z := 0) h (by decide)
  exact c_inv_eq (fun j hj => m_row_ne _ _ (by simp only [List.mem_cons, List.not_mem_nil, or_false] at hj; omega)) h1
theorem ct_mono {p : Nat → Prop} : ∀ {m n : Nat}, m ≤ n → ct p m ≤ ct p n := by
  intro m n h
  induction n with
  | zero => rw [show m = 0 by omega]; exact Nat.le_refl _
  | succ n ih =>
    rcases Nat.lt_or_ge m (n + 1) with q | q
    · have := ih (by omega)
      by_cases w : p n
      · rw [ct_t w]; omega
      · rw [ct_f w]; omega
    · rw [show m = n + 1 by omega]; exact Nat.le_refl _
theorem p_ok_push {c : mS} {z a : Nat} (hp : p_ok c z) (hz : z < 5) (ha : a < mA c) (hA : mA c ≤ 120) : p_ok (m_set (m_set c 70 z (nI a)) 71 0 (nI (z + 1))) (z + 1) := by
  refine ⟨m_set_at _ _ _ _, by omega, fun i hi => ?_⟩
  show m_set (m_set c 70 z (nI a)) 71 0 (nI (z + 1)) 70 i = nI (ix (m_set (m_set c 70 z (nI a)) 71 0 (nI (z + 1)) 70 i)) ∧ ix (m_set (m_set c 70 z (nI a)) 71 0 (nI (z + 1)) 70 i) < mA c
  rw [m_set_ne _ _ _ (by decide)]
  by_cases e : i = z
  · subst e
    rw [m_set_at, show ix (nI a) = a from nI_clamp (by omega)]
    exact ⟨rfl, ha⟩
  · rw [ms_ne e]
    exact hp.2.2 i (by omega)
set_option maxHeartbeats 4000000 in
set_option maxRecDepth 100000 in
theorem cx_plan {g : gT} {n0 : Nat} {sm : mS} {Y : cY} {c : mS} {fin : mS × Nat} (hY : Yok Y c n0) (hn : 53 ≤ n0) (hC9 : c_inv c) (h5 : ct (fun b => c 24 b = 0) (mA c) ≤ 5) (hL : mL c + ct (fun b => c 24 b = 0) (mA c) ≤ 120) (he : fin = c_pl c) : M g 9 5 1550 kX8_plan [.ref 8] n0 (hh sm Y c) (c_A n0 sm (fin.1, nI fin.2)) := by
  refine M_of_G (by decide +kernel) (Nat.le_of_ble_eq_true rfl) ?_
  have loop2 : ∀ m t z (c : mS) (w9 : Value), w9.category = 1 → c_inv c → Yok Y c n0 → p_ok c z → mL c + z ≤ 120 → t + m = mT c → fin = coR z 5 0 (poR z m t c, 0) → G g 9 5 1550 kX8_plan 55 [.ref 8, .int (nI t), w9] [] n0 (hh sm Y c) (c_A n0 sm (fin.1, nI fin.2)) := by
    intro m
    induction m with
    | zero =>
      intro t z c w9 hw9 hC9 hY hp hLz hi0 hs
      obtain ⟨hI, hG, hgv, hov, hrw, hps⟩ := id hC9
      obtain ⟨hK, hT, hB, hP9, hA, hkf, haf, hbf⟩ := id hI
      have hA2 := hA.2
      have hT2 := hT.2
      have hK2 := hK.2
      have hB2 := hB.2
      have hG2 := hG.2
      have hP2 := hP9.2
      refine G_iload_n dX8_plan_55 rfl rfl ?_
      refine G_aload_n dX8_plan_56 rfl rfl ?_
      refine G_get dX8_plan_57 fg_X8_16 (hx_8 _ _ _) rfl ?_
      refine GL_size1 dX8_plan_60 (mc_X8_60 rfl) (Nat.le_of_ble_eq_true rfl) (Nat.le_of_ble_eq_true rfl) ?_
      refine G_icmp_ge (tgt := 97) dX8_plan_63 (by decide) (fun c63 => ?_) (fun c63 => ?_)
      · skip
        refine G_aload_n dX8_plan_97 rfl rfl ?_
        refine G_callV (cx_carry z hY hn hC9 hp hLz hs) dX8_plan_98 (mc_X8_176 rfl) tw_688 tw_18 (hx_8 _ _ _) rfl rfl rfl (Nat.le_of_ble_eq_true rfl) (Nat.le_of_ble_eq_true rfl) (Nat.le_of_ble_eq_true rfl) (Nat.le_of_ble_eq_true rfl) ?_
        rintro _ n8_ h8_ ⟨rfl, Y2, rfl, hY2, hn2⟩
        refine G_iret dX8_plan_101 rfl ?_
        exact ⟨rfl, Y2, rfl, hY2, hn2⟩
      · skip
        exact absurd (by rw [hT.1]; exact nI_le (by omega) (by omega)) c63
    | succ m ih =>
      intro t z c w9 hw9 hC9 hY hp hLz hi0 hs
      obtain ⟨hI, hG, hgv, hov, hrw, hps⟩ := id hC9
      obtain ⟨hK, hT, hB, hP9, hA, hkf, haf, hbf⟩ := id hI
      have hA2 := hA.2
      have hT2 := hT.2
      have hK2 := hK.2
      have hB2 := hB.2
      have hG2 := hG.2
      have hP2 := hP9.2
      have ht : t < mT c := by omega
      have hrl := c_rm_lt c z t 5
      have hk := off_k (c := c) (t := t) (mh := c_rm c z t 5) (z := z)
      refine G_iload_n dX8_plan_55 rfl rfl ?_
      refine G_aload_n dX8_plan_56 rfl rfl ?_
      refine G_get dX8_plan_57 fg_X8_16 (hx_8 _ _ _) rfl ?_
      refine GL_size1 dX8_plan_60 (mc_X8_60 rfl) (Nat.le_of_ble_eq_true rfl) (Nat.le_of_ble_eq_true rfl) ?_
      refine G_icmp_ge (tgt := 97) dX8_plan_63 (by decide) (fun c63 => ?_) (fun c63 => ?_)
      · skip
        exact absurd c63 (by rw [hT.1, nI_leI (by omega) (by omega)]; omega)
      · skip
        refine G_aload_n dX8_plan_66 rfl rfl ?_
        refine G_get dX8_plan_67 fg_X8_16 (hx_8 _ _ _) rfl ?_
        refine G_iload_n dX8_plan_70 rfl rfl ?_
        refine GL_get1 (i := t) (sz := mT c) dX8_plan_71 (mc_X8_158 rfl) hY hT.1 ht (Nat.le_trans hT.2 (by decide)) (Nat.le_of_ble_eq_true rfl) (Nat.le_of_ble_eq_true rfl) ?_
        refine G_cast (ci := 7) dX8_plan_74 rfl tw_344 (hx_T hY ht) ?_
        refine G_astore_n dX8_plan_77 rfl (Nat.le_of_ble_eq_true rfl) rfl ?_
        refine G_aload_n dX8_plan_78 rfl rfl ?_
        refine G_get dX8_plan_79 fg_X8_52 (hx_8 _ _ _) rfl ?_
        refine G_aload_n dX8_plan_82 rfl rfl ?_
        refine G_aload_n dX8_plan_83 rfl rfl ?_
        refine G_aload_n dX8_plan_84 rfl rfl ?_
        refine G_callV (cx_rtm z t hY hC9 hp ht) dX8_plan_85 (mc_X8_168 rfl) tw_630 tw_12 (hx_8 _ _ _) rfl rfl rfl (Nat.le_of_ble_eq_true rfl) (Nat.le_of_ble_eq_true rfl) (Nat.le_of_ble_eq_true rfl) (Nat.le_of_ble_eq_true rfl) ?_
        rintro _ n9_ _ ⟨rfl, e9_, rfl⟩
        obtain rfl := e9_.symm
        refine G_callV (cx_offer t (c_rm c z t 5) z hY hC9 hp ht hrl rfl) dX8_plan_88 (mc_X8_172 rfl) tw_661 tw_662 (hx_20 _ _ _) rfl rfl rfl (Nat.le_of_ble_eq_true rfl) (Nat.le_of_ble_eq_true rfl) (Nat.le_of_ble_eq_true rfl) (Nat.le_of_ble_eq_true rfl) ?_
        rintro _ n9_ _ ⟨rfl, e9_, rfl⟩
        obtain rfl := e9_.symm
        refine G_iinc (b := nI (t + 1)) dX8_plan_91 rfl (nI_1 t) rfl ?_
        refine G_goto (tgt := 55) dX8_plan_94 (by decide) ?_
        exact ih (t + 1) z _ _ rfl (hk.inv hC9) (hk.Y hY) (hk.p hp) (by rw [hk.L]; exact hLz) (by rw [hk.T]; omega) hs
  have loop1 : ∀ m a z (c : mS) (w9 : Value), w9.category = 1 → c_inv c → Yok Y c n0 → p_ok c z → z = ct (fun b => c 24 b = 0) a → ct (fun b => c 24 b = 0) (mA c) ≤ 5 → mL c + ct (fun b => c 24 b = 0) (mA c) ≤ 120 → a + m = mA c → fin = c_rest (prR m a z c) → G g 9 5 1550 kX8_plan 9 [.ref 8, .int (nI a), w9] [] n0 (hh sm Y c) (c_A n0 sm (fin.1, nI fin.2)) := by
    intro m
    induction m with
    | zero =>
      intro a z c w9 hw9 hC9 hY hp hz h5 hL hi0 hs
      obtain ⟨hI, hG, hgv, hov, hrw, hps⟩ := id hC9
      obtain ⟨hK, hT, hB, hP9, hA, hkf, haf, hbf⟩ := id hI
      have hA2 := hA.2
      have hT2 := hT.2
      have hK2 := hK.2
      have hB2 := hB.2
      have hG2 := hG.2
      have hP2 := hP9.2
      rw [Nat.add_zero] at hi0
      have hzL : mL c + z ≤ 120 := by rw [hz, hi0]; exact hL
      have ez : ix (c 71 0) = z := by rw [hp.1]; exact nI_clamp (by have := hp.2.1; omega)
      have hs : fin = coR z 5 0 (poR z (mT c) 0 c, 0) := by
        have e : c_rest c = coR (ix (c 71 0)) 5 0 (poR (ix (c 71 0)) (mT c) 0 c, 0) := rfl
        rw [ez] at e
        exact hs.trans e
      refine G_iload_n dX8_plan_9 rfl rfl ?_
      refine G_aload_n dX8_plan_10 rfl rfl ?_
      refine G_get dX8_plan_11 fg_X8_22 (hx_8 _ _ _) rfl ?_
      refine GL_size3 dX8_plan_14 (mc_X8_60 rfl) (Nat.le_of_ble_eq_true rfl) (Nat.le_of_ble_eq_true rfl) ?_
      refine G_icmp_ge (tgt := 53) dX8_plan_17 (by decide) (fun c17 => ?_) (fun c17 => ?_)
      · skip
        refine G_iconst (v := 0) dX8_plan_53 rfl ?_
        refine G_istore_n dX8_plan_54 rfl (Nat.le_of_ble_eq_true rfl) rfl ?_
        exact loop2 (mT c) 0 z c _ hw9 hC9 hY hp hzL (by omega) hs
      · skip
        exact absurd (by rw [hA.1]; exact nI_le (by omega) (by omega)) c17
    | succ m ih =>
      intro a z c w9 hw9 hC9 hY hp hz h5 hL hi0 hs
      obtain ⟨hI, hG, hgv, hov, hrw, hps⟩ := id hC9
      obtain ⟨hK, hT, hB, hP9, hA, hkf, haf, hbf⟩ := id hI
      have hA2 := hA.2
      have hT2 := hT.2
      have hK2 := hK.2
      have hB2 := hB.2
      have hG2 := hG.2
      have hP2 := hP9.2
      have ha : a < mA c := by omega
      refine G_iload_n dX8_plan_9 rfl rfl ?_
      refine G_aload_n dX8_plan_10 rfl rfl ?_
      refine G_get dX8_plan_11 fg_X8_22 (hx_8 _ _ _) rfl ?_
      refine GL_size3 dX8_plan_14 (mc_X8_60 rfl) (Nat.le_of_ble_eq_true rfl) (Nat.le_of_ble_eq_true rfl) ?_
      refine G_icmp_ge (tgt := 53) dX8_plan_17 (by decide) (fun c17 => ?_) (fun c17 => ?_)
      · skip
        exact absurd c17 (by rw [hA.1, nI_leI (by omega) (by omega)]; omega)
      · skip
        refine G_aload_n dX8_plan_20 rfl rfl ?_
        refine G_get dX8_plan_21 fg_X8_22 (hx_8 _ _ _) rfl ?_
        refine G_iload_n dX8_plan_24 rfl rfl ?_
        refine GL_get3 (i := a) (sz := mA c) dX8_plan_25 (mc_X8_158 rfl) hY hA.1 ha (Nat.le_trans hA.2 (by decide)) (Nat.le_of_ble_eq_true rfl) (Nat.le_of_ble_eq_true rfl) ?_
        refine G_cast (ci := 0) dX8_plan_28 rfl tw_558 (hx_A hY ha) ?_
        refine G_astore_n dX8_plan_31 rfl (Nat.le_of_ble_eq_true rfl) rfl ?_
        refine G_aload_n dX8_plan_32 rfl rfl ?_
        refine G_get dX8_plan_33 fg_X8_162 (hx_A hY ha) rfl ?_
        refine G_if_ne (tgt := 47) dX8_plan_36 (by decide) (fun c36 => ?_) (fun c36 => ?_)
        · skip
          refine G_iinc (b := nI (a + 1)) dX8_plan_47 rfl (nI_1 a) rfl ?_
          refine G_goto (tgt := 9) dX8_plan_50 (by decide) ?_
          first | exact ih (a + 1) z c _ rfl hC9 hY hp (hz.trans (ct_f (p := (fun b => c 24 b = 0)) c36).symm) h5 hL (by omega) (hs.trans (congrArg c_rest (cif_f c36))) | exact ih (a + 1) (z + 1) _ _ rfl (c_inv_psz (c_inv_row hC9 ha) (by omega)) (hY.same rfl rfl rfl rfl rfl) (p_ok_push hp hz4 ha hA2) (by rw [hz]; exact (ct_t (p := (fun b => c 24 b = 0)) c36).symm) h5 hL (by show _ = mA c; omega) (hs.trans (congrArg c_rest (cif_t c36)))
        · skip
          have hz4 : z < 5 := by
            have e1 := ct_t (p := (fun b => c 24 b = 0)) (n := a) c36
            have e2 := ct_mono (p := (fun b => c 24 b = 0)) (show a + 1 ≤ mA c by omega)
            omega
          refine G_aload_n dX8_plan_39 rfl rfl ?_
          refine G_get dX8_plan_40 fg_X8_52 (hx_8 _ _ _) rfl ?_
          refine G_aload_n dX8_plan_43 rfl rfl ?_
          refine G_callV (cx_add a z hY hC9 ha hp.1 hz4) dX8_plan_44 (mc_X8_165 rfl) tw_625 tw_626 (hx_20 _ _ _) rfl rfl rfl (Nat.le_of_ble_eq_true rfl) (Nat.le_of_ble_eq_true rfl) (Nat.le_of_ble_eq_true rfl) (Nat.le_of_ble_eq_true rfl) ?_
          rintro _ n9_ _ ⟨rfl, e9_, rfl⟩
          obtain rfl := e9_.symm
          refine G_iinc (b := nI (a + 1)) dX8_plan_47 rfl (nI_1 a) rfl ?_
          refine G_goto (tgt := 9) dX8_plan_50 (by decide) ?_
          first | exact ih (a + 1) z c _ rfl hC9 hY hp (hz.trans (ct_f (p := (fun b => c 24 b = 0)) c36).symm) h5 hL (by omega) (hs.trans (congrArg c_rest (cif_f c36))) | exact ih (a + 1) (z + 1) _ _ rfl (c_inv_psz (c_inv_row hC9 ha) (by omega)) (hY.same rfl rfl rfl rfl rfl) (p_ok_push hp hz4 ha hA2) (by rw [hz]; exact (ct_t (p := (fun b => c 24 b = 0)) c36).symm) h5 hL (by show _ = mA c; omega) (hs.trans (congrArg c_rest (cif_t c36)))
  have hYb : Yok Y (c_beg c) n0 := hY.same rfl rfl rfl rfl rfl
  have hpb : p_ok (c_beg c) 0 := ⟨rfl, by decide, fun i hi => absurd hi (Nat.not_lt_zero i)⟩
  refine G_aload_n dX8_plan_0 rfl rfl ?_
  refine G_get dX8_plan_1 fg_X8_52 (hx_8 _ _ _) rfl ?_
  refine G_callV (cx_begin) dX8_plan_4 (mc_X8_155 rfl) tw_620 tw_621 (hx_20 _ _ _) rfl rfl rfl (Nat.le_of_ble_eq_true rfl) (Nat.le_of_ble_eq_true rfl) (Nat.le_of_ble_eq_true rfl) (Nat.le_of_ble_eq_true rfl) ?_
  rintro _ n9_ _ ⟨rfl, e9_, rfl⟩
  obtain rfl := e9_.symm
  refine G_iconst (v := 0) dX8_plan_7 rfl ?_
  refine G_istore_n dX8_plan_8 rfl (Nat.le_of_ble_eq_true rfl) rfl ?_
  exact loop1 (mA c) 0 0 (c_beg c) (.retAddr 0) rfl (beg_inv hC9) hYb hpb rfl h5 hL (by show _ = mA c; omega) he
theorem cp9_plan {g : gT} {n0 : Nat} {sm : mS} {Y : cY} {c : mS} (hY : Yok Y c n0) (hn : 53 ≤ n0) (hC9 : c_inv c) (h5 : ct (fun b => c 24 b = 0) (mA c) ≤ 5) (hL : mL c + ct (fun b => c 24 b = 0) (mA c) ≤ 120) : M g 9 5 1550 kX8_plan [.ref 8] n0 (hh sm Y c) (c_A n0 sm (cp_plan c)) := cx_plan hY hn hC9 h5 hL rfl
