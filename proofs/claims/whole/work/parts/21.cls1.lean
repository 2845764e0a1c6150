theorem k28 {c : mS} {Y : cY} {n9 k a : Nat} (hY : Yok Y c n9) (hI : m_inv c) (hk : k < mK c) (ha : a < mA c) : some (y_a Y 1 (ix (c 28 a))) = some (y_a Y 1 k) ↔ nI k = c 28 a := by
  have h := (hI.2.2.2.2.2.2.1 a ha).1
  rw [oe_K hY h.2 hk]
  constructor
  · intro e; rw [← e]; exact h.1.symm
  · intro e; rw [← e]; exact nI_clamp (by have := hI.1.2; omega)
/-- the class's word for ahead: by number at last -/
def c_ahead (c : mS) (a b : Nat) : Prop := c 32 b < c 32 a ∨ (c 32 a = c 32 b ∧ (c 30 a < c 30 b ∨ (c 30 a = c 30 b ∧ nI a < nI b)))
def c_lets (c : mS) (t : Nat) (l : Int32) : Prop := c 15 (ix (c 6 t)) = -1 ∨ (¬ c 7 t = -1 ∧ l - c 7 t ≤ c 15 (ix (c 6 t)))
def c_late (c : mS) (t : Nat) : Prop := ¬ c 51 t = -1 ∧ c 31 (ix (c 51 t)) < c 11 0
def c_cared (c : mS) (t : Nat) : Prop := c 50 t = -1 ∨ c 50 t + c 2 (ix (c 6 t)) < c 11 0
theorem s_end_mx (c : mS) (a : Nat) : cif (c 24 a = 4) (c 33 a) (cif (c 24 a = 3) (mx (c 11 0) (c 31 a)) (c 31 a)) = s_end c a := by
  unfold s_end mx
  by_cases h4 : c 24 a = 4
  · rw [cif_t h4, cif_t h4]
  · rw [cif_f h4, cif_f h4]
    by_cases h3 : c 24 a = 3
    · rw [cif_t h3]
      by_cases h5 : c 11 0 < c 31 a
      · rw [cif_t h5, cif_f (fun q => absurd q.2 (Int32.not_lt.mpr (Int32.le_of_lt h5)))]
      · rw [cif_f h5]
        by_cases h6 : c 31 a < c 11 0
        · rw [cif_t ⟨h3, h6⟩]
        · rw [cif_f (fun q => h6 q.2)]
          exact Int32.le_antisymm (Int32.not_lt.mp h6) (Int32.not_lt.mp h5)
    · rw [cif_f h3, cif_f (fun q => h3 q.1)]
set_option maxHeartbeats 4000000 in
set_option maxRecDepth 100000 in
theorem cx_bon {g : gT} {nq_ n9 : Nat} {sm : mS} {Y : cY} {c : mS} (a t : Nat) (hY : Yok Y c n9) (hC9 : c_inv c) (ha : a < mA c) (ht : t < mT c) : M g 0 0 0 kX0_isBookedOn [.ref (y_a Y 0 a), .ref (y_a Y 7 t)] nq_ (hh sm Y c) (m_Q (.int (b1 (c 24 a = 1 ∧ c 25 a = nI t))) nq_ (hh sm Y c)) := by
  refine M_of_G (by decide +kernel) (Nat.le_of_ble_eq_true rfl) ?_
  obtain ⟨hI, hG, hgv, hov, hrw, hps⟩ := id hC9
  obtain ⟨hK, hT, hB, hP9, hA, hkf, haf, hbf⟩ := id hI
  have hA2 := hA.2
  have hT2 := hT.2
  have hK2 := hK.2
  have hB2 := hB.2
  have hG2 := hG.2
  have hP2 := hP9.2
  refine G_aload_n dX0_isBookedOn_0 rfl rfl ?_
  refine G_get dX0_isBookedOn_1 fg_X0_15 (hx_A hY ha) rfl ?_
  refine G_aload_n dX0_isBookedOn_4 rfl rfl ?_
  refine G_acmp_ne (a := (oR (y_a Y 7) (c 25 a))) (b := (some (y_a Y 7 t))) (tgt := 20) dX0_isBookedOn_5 (by decide) (ap_oo (na_oT hY (haf _ ha).2.2) (na_T hY ht)) (fun c5 => ?_) (fun c5 => ?_)
  · skip
    refine G_iconst (v := 0) dX0_isBookedOn_20 rfl ?_
    refine G_zret dX0_isBookedOn_21 rfl rfl ?_
    first | exact q_t ⟨c13, (oe_T hY ht (Nat.le_trans hT.2 (by decide)) (haf a ha).2.2).mp c5⟩ | exact q_f (fun q => c5 ((oe_T hY ht (Nat.le_trans hT.2 (by decide)) (haf a ha).2.2).mpr q.2)) | exact q_f (fun q => c13 q.1)
  · skip
    refine G_aload_n dX0_isBookedOn_8 rfl rfl ?_
    refine G_get dX0_isBookedOn_9 fg_X0_9 (hx_A hY ha) rfl ?_
    refine G_iconst (v := 1) dX0_isBookedOn_12 rfl ?_
    refine G_icmp_ne (tgt := 20) dX0_isBookedOn_13 (by decide) (fun c13 => ?_) (fun c13 => ?_)
    · skip
      refine G_iconst (v := 0) dX0_isBookedOn_20 rfl ?_
      refine G_zret dX0_isBookedOn_21 rfl rfl ?_
      first | exact q_t ⟨c13, (oe_T hY ht (Nat.le_trans hT.2 (by decide)) (haf a ha).2.2).mp c5⟩ | exact q_f (fun q => c5 ((oe_T hY ht (Nat.le_trans hT.2 (by decide)) (haf a ha).2.2).mpr q.2)) | exact q_f (fun q => c13 q.1)
    · skip
      refine G_iconst (v := 1) dX0_isBookedOn_16 rfl ?_
      refine G_goto (tgt := 21) dX0_isBookedOn_17 (by decide) ?_
      refine G_zret dX0_isBookedOn_21 rfl rfl ?_
      first | exact q_t ⟨c13, (oe_T hY ht (Nat.le_trans hT.2 (by decide)) (haf a ha).2.2).mp c5⟩ | exact q_f (fun q => c5 ((oe_T hY ht (Nat.le_trans hT.2 (by decide)) (haf a ha).2.2).mpr q.2)) | exact q_f (fun q => c13 q.1)
set_option maxHeartbeats 4000000 in
set_option maxRecDepth 100000 in
theorem cx_holds {g : gT} {nq_ n9 : Nat} {sm : mS} {Y : cY} {c : mS} (a t : Nat) (hY : Yok Y c n9) (hC9 : c_inv c) (ha : a < mA c) (ht : t < mT c) : M g 0 0 0 kX0_holds [.ref (y_a Y 0 a), .ref (y_a Y 7 t)] nq_ (hh sm Y c) (m_Q (.int (b1 (s_holds c a (nI t)))) nq_ (hh sm Y c)) := by
  refine M_of_G (by decide +kernel) (Nat.le_of_ble_eq_true rfl) ?_
  obtain ⟨hI, hG, hgv, hov, hrw, hps⟩ := id hC9
  obtain ⟨hK, hT, hB, hP9, hA, hkf, haf, hbf⟩ := id hI
  have hA2 := hA.2
  have hT2 := hT.2
  have hK2 := hK.2
  have hB2 := hB.2
  have hG2 := hG.2
  have hP2 := hP9.2
  refine G_aload_n dX0_holds_0 rfl rfl ?_
  refine G_get dX0_holds_1 fg_X0_15 (hx_A hY ha) rfl ?_
  refine G_aload_n dX0_holds_4 rfl rfl ?_
  refine G_acmp_ne (a := (oR (y_a Y 7) (c 25 a))) (b := (some (y_a Y 7 t))) (tgt := 36) dX0_holds_5 (by decide) (ap_oo (na_oT hY (haf _ ha).2.2) (na_T hY ht)) (fun c5 => ?_) (fun c5 => ?_)
  · skip
    refine G_iconst (v := 0) dX0_holds_36 rfl ?_
    refine G_zret dX0_holds_37 rfl rfl ?_
    first | exact q_t ⟨(oe_T hY ht (Nat.le_trans hT.2 (by decide)) (haf a ha).2.2).mp c5, Or.inl c13⟩ | exact q_t ⟨(oe_T hY ht (Nat.le_trans hT.2 (by decide)) (haf a ha).2.2).mp c5, Or.inr (Or.inl c21)⟩ | exact q_t ⟨(oe_T hY ht (Nat.le_trans hT.2 (by decide)) (haf a ha).2.2).mp c5, Or.inr (Or.inr c29)⟩ | exact q_f (fun q => c5 ((oe_T hY ht (Nat.le_trans hT.2 (by decide)) (haf a ha).2.2).mpr q.1)) | exact q_f (fun q => q.2.elim c13 (fun z => z.elim c21 c29))
  · skip
    refine G_aload_n dX0_holds_8 rfl rfl ?_
    refine G_get dX0_holds_9 fg_X0_9 (hx_A hY ha) rfl ?_
    refine G_iconst (v := 1) dX0_holds_12 rfl ?_
    refine G_icmp_eq (tgt := 32) dX0_holds_13 (by decide) (fun c13 => ?_) (fun c13 => ?_)
    · skip
      refine G_iconst (v := 1) dX0_holds_32 rfl ?_
      refine G_goto (tgt := 37) dX0_holds_33 (by decide) ?_
      refine G_zret dX0_holds_37 rfl rfl ?_
      first | exact q_t ⟨(oe_T hY ht (Nat.le_trans hT.2 (by decide)) (haf a ha).2.2).mp c5, Or.inl c13⟩ | exact q_t ⟨(oe_T hY ht (Nat.le_trans hT.2 (by decide)) (haf a ha).2.2).mp c5, Or.inr (Or.inl c21)⟩ | exact q_t ⟨(oe_T hY ht (Nat.le_trans hT.2 (by decide)) (haf a ha).2.2).mp c5, Or.inr (Or.inr c29)⟩ | exact q_f (fun q => c5 ((oe_T hY ht (Nat.le_trans hT.2 (by decide)) (haf a ha).2.2).mpr q.1)) | exact q_f (fun q => q.2.elim c13 (fun z => z.elim c21 c29))
    · skip
      refine G_aload_n dX0_holds_16 rfl rfl ?_
      refine G_get dX0_holds_17 fg_X0_9 (hx_A hY ha) rfl ?_
      refine G_iconst (v := 3) dX0_holds_20 rfl ?_
      refine G_icmp_eq (tgt := 32) dX0_holds_21 (by decide) (fun c21 => ?_) (fun c21 => ?_)
      · skip
        refine G_iconst (v := 1) dX0_holds_32 rfl ?_
        refine G_goto (tgt := 37) dX0_holds_33 (by decide) ?_
        refine G_zret dX0_holds_37 rfl rfl ?_
        first | exact q_t ⟨(oe_T hY ht (Nat.le_trans hT.2 (by decide)) (haf a ha).2.2).mp c5, Or.inl c13⟩ | exact q_t ⟨(oe_T hY ht (Nat.le_trans hT.2 (by decide)) (haf a ha).2.2).mp c5, Or.inr (Or.inl c21)⟩ | exact q_t ⟨(oe_T hY ht (Nat.le_trans hT.2 (by decide)) (haf a ha).2.2).mp c5, Or.inr (Or.inr c29)⟩ | exact q_f (fun q => c5 ((oe_T hY ht (Nat.le_trans hT.2 (by decide)) (haf a ha).2.2).mpr q.1)) | exact q_f (fun q => q.2.elim c13 (fun z => z.elim c21 c29))
      · skip
        refine G_aload_n dX0_holds_24 rfl rfl ?_
        refine G_get dX0_holds_25 fg_X0_9 (hx_A hY ha) rfl ?_
        refine G_iconst (v := 4) dX0_holds_28 rfl ?_
        refine G_icmp_ne (tgt := 36) dX0_holds_29 (by decide) (fun c29 => ?_) (fun c29 => ?_)
        · skip
          refine G_iconst (v := 0) dX0_holds_36 rfl ?_
          refine G_zret dX0_holds_37 rfl rfl ?_
          first | exact q_t ⟨(oe_T hY ht (Nat.le_trans hT.2 (by decide)) (haf a ha).2.2).mp c5, Or.inl c13⟩ | exact q_t ⟨(oe_T hY ht (Nat.le_trans hT.2 (by decide)) (haf a ha).2.2).mp c5, Or.inr (Or.inl c21)⟩ | exact q_t ⟨(oe_T hY ht (Nat.le_trans hT.2 (by decide)) (haf a ha).2.2).mp c5, Or.inr (Or.inr c29)⟩ | exact q_f (fun q => c5 ((oe_T hY ht (Nat.le_trans hT.2 (by decide)) (haf a ha).2.2).mpr q.1)) | exact q_f (fun q => q.2.elim c13 (fun z => z.elim c21 c29))
        · skip
          refine G_iconst (v := 1) dX0_holds_32 rfl ?_
          refine G_goto (tgt := 37) dX0_holds_33 (by decide) ?_
          refine G_zret dX0_holds_37 rfl rfl ?_
          first | exact q_t ⟨(oe_T hY ht (Nat.le_trans hT.2 (by decide)) (haf a ha).2.2).mp c5, Or.inl c13⟩ | exact q_t ⟨(oe_T hY ht (Nat.le_trans hT.2 (by decide)) (haf a ha).2.2).mp c5, Or.inr (Or.inl c21)⟩ | exact q_t ⟨(oe_T hY ht (Nat.le_trans hT.2 (by decide)) (haf a ha).2.2).mp c5, Or.inr (Or.inr c29)⟩ | exact q_f (fun q => c5 ((oe_T hY ht (Nat.le_trans hT.2 (by decide)) (haf a ha).2.2).mpr q.1)) | exact q_f (fun q => q.2.elim c13 (fun z => z.elim c21 c29))
set_option maxHeartbeats 4000000 in
set_option maxRecDepth 100000 in
theorem cx_last {g : gT} {nq_ n9 : Nat} {sm : mS} {Y : cY} {c : mS} (a : Nat) (hY : Yok Y c n9) (hC9 : c_inv c) (ha : a < mA c) : M g 1 0 0 kX0_lastDay [.ref (y_a Y 0 a), .int (c 11 0)] nq_ (hh sm Y c) (m_Q (.int (s_end c a)) nq_ (hh sm Y c)) := by
  refine M_of_G (by decide +kernel) (Nat.le_of_ble_eq_true rfl) ?_
  obtain ⟨hI, hG, hgv, hov, hrw, hps⟩ := id hC9
  obtain ⟨hK, hT, hB, hP9, hA, hkf, haf, hbf⟩ := id hI
  have hA2 := hA.2
  have hT2 := hT.2
  have hK2 := hK.2
  have hB2 := hB.2
  have hG2 := hG.2
  have hP2 := hP9.2
  refine G_aload_n dX0_lastDay_0 rfl rfl ?_
  refine G_get dX0_lastDay_1 fg_X0_9 (hx_A hY ha) rfl ?_
  refine G_iconst (v := 4) dX0_lastDay_4 rfl ?_
  refine G_icmp_ne (tgt := 13) dX0_lastDay_5 (by decide) (fun c5 => ?_) (fun c5 => ?_)
  · skip
    refine G_aload_n dX0_lastDay_13 rfl rfl ?_
    refine G_get dX0_lastDay_14 fg_X0_9 (hx_A hY ha) rfl ?_
    refine G_iconst (v := 3) dX0_lastDay_17 rfl ?_
    refine G_icmp_ne (tgt := 32) dX0_lastDay_18 (by decide) (fun c18 => ?_) (fun c18 => ?_)
    · skip
      refine G_aload_n dX0_lastDay_32 rfl rfl ?_
      refine G_get dX0_lastDay_33 fg_X0_42 (hx_A hY ha) rfl ?_
      refine G_iret dX0_lastDay_36 rfl ?_
      first | exact q_e ((s_end_mx c a).symm.trans ((cif_f c5).trans (cif_t c18))) | exact q_e ((s_end_mx c a).symm.trans ((cif_f c5).trans (cif_f c18)))
    · skip
      refine G_iload_n dX0_lastDay_21 rfl rfl ?_
      refine G_aload_n dX0_lastDay_22 rfl rfl ?_
      refine G_get dX0_lastDay_23 fg_X0_42 (hx_A hY ha) rfl ?_
      refine G_max dX0_lastDay_26 tw_656 (Nat.le_of_ble_eq_true rfl) (Nat.le_of_ble_eq_true rfl) ?_
      refine G_goto (tgt := 36) dX0_lastDay_29 (by decide) ?_
      refine G_iret dX0_lastDay_36 rfl ?_
      first | exact q_e ((s_end_mx c a).symm.trans ((cif_f c5).trans (cif_t c18))) | exact q_e ((s_end_mx c a).symm.trans ((cif_f c5).trans (cif_f c18)))
  · skip
    refine G_aload_n dX0_lastDay_8 rfl rfl ?_
    refine G_get dX0_lastDay_9 fg_X0_22 (hx_A hY ha) rfl ?_
    refine G_iret dX0_lastDay_12 rfl ?_
    exact q_e ((s_end_mx c a).symm.trans (cif_t c5))
set_option maxHeartbeats 4000000 in
set_option maxRecDepth 100000 in
theorem cx_ahead {g : gT} {nq_ n9 : Nat} {sm : mS} {Y : cY} {c : mS} (a b : Nat) (hY : Yok Y c n9) (hC9 : c_inv c) (ha : a < mA c) (hb : b < mA c) : M g 0 0 0 kX0_movesAheadOf [.ref (y_a Y 0 a), .ref (y_a Y 0 b)] nq_ (hh sm Y c) (m_Q (.int (b1 (c_ahead c a b))) nq_ (hh sm Y c)) := by
  refine M_of_G (by decide +kernel) (Nat.le_of_ble_eq_true rfl) ?_
  obtain ⟨hI, hG, hgv, hov, hrw, hps⟩ := id hC9
  obtain ⟨hK, hT, hB, hP9, hA, hkf, haf, hbf⟩ := id hI
  have hA2 := hA.2
  have hT2 := hT.2
  have hK2 := hK.2
  have hB2 := hB.2
  have hG2 := hG.2
  have hP2 := hP9.2
  refine G_aload_n dX0_movesAheadOf_0 rfl rfl ?_
  refine G_get dX0_movesAheadOf_1 fg_X0_45 (hx_A hY ha) rfl ?_
  refine G_aload_n dX0_movesAheadOf_4 rfl rfl ?_
  refine G_get dX0_movesAheadOf_5 fg_X0_45 (hx_A hY hb) rfl ?_
  refine G_icmp_eq (tgt := 28) dX0_movesAheadOf_8 (by decide) (fun c8 => ?_) (fun c8 => ?_)
  · skip
    refine G_aload_n dX0_movesAheadOf_28 rfl rfl ?_
    refine G_get dX0_movesAheadOf_29 fg_X0_39 (hx_A hY ha) rfl ?_
    refine G_aload_n dX0_movesAheadOf_32 rfl rfl ?_
    refine G_get dX0_movesAheadOf_33 fg_X0_39 (hx_A hY hb) rfl ?_
    refine G_icmp_eq (tgt := 58) dX0_movesAheadOf_36 (by decide) (fun c36 => ?_) (fun c36 => ?_)
    · skip
      refine G_aload_n dX0_movesAheadOf_58 rfl rfl ?_
      refine G_get dX0_movesAheadOf_59 fg_X0_25 (hx_A hY ha) rfl ?_
      refine G_aload_n dX0_movesAheadOf_62 rfl rfl ?_
      refine G_get dX0_movesAheadOf_63 fg_X0_25 (hx_A hY hb) rfl ?_
      refine G_icmp_ge (tgt := 73) dX0_movesAheadOf_66 (by decide) (fun c66 => ?_) (fun c66 => ?_)
      · skip
        refine G_iconst (v := 0) dX0_movesAheadOf_73 rfl ?_
        refine G_zret dX0_movesAheadOf_74 rfl rfl ?_
        first | exact q_t (Or.inr ⟨c8, Or.inl (Int32.not_le.mp c47)⟩) | exact q_f (fun q => q.elim (fun z => by rw [c8] at z; exact Int32.lt_irrefl z) (fun z => z.2.elim (fun w => absurd w (Int32.not_lt.mpr c47)) (fun w => c36 w.1))) | exact q_t (Or.inr ⟨c8, Or.inr ⟨c36, Int32.not_le.mp c66⟩⟩) | exact q_f (fun q => q.elim (fun z => by rw [c8] at z; exact Int32.lt_irrefl z) (fun z => z.2.elim (fun w => by rw [c36] at w; exact Int32.lt_irrefl w) (fun w => absurd w.2 (Int32.not_lt.mpr c66))))
      · skip
        refine G_iconst (v := 1) dX0_movesAheadOf_69 rfl ?_
        refine G_goto (tgt := 74) dX0_movesAheadOf_70 (by decide) ?_
        refine G_zret dX0_movesAheadOf_74 rfl rfl ?_
        first | exact q_t (Or.inr ⟨c8, Or.inl (Int32.not_le.mp c47)⟩) | exact q_f (fun q => q.elim (fun z => by rw [c8] at z; exact Int32.lt_irrefl z) (fun z => z.2.elim (fun w => absurd w (Int32.not_lt.mpr c47)) (fun w => c36 w.1))) | exact q_t (Or.inr ⟨c8, Or.inr ⟨c36, Int32.not_le.mp c66⟩⟩) | exact q_f (fun q => q.elim (fun z => by rw [c8] at z; exact Int32.lt_irrefl z) (fun z => z.2.elim (fun w => by rw [c36] at w; exact Int32.lt_irrefl w) (fun w => absurd w.2 (Int32.not_lt.mpr c66))))
    · skip
      refine G_aload_n dX0_movesAheadOf_39 rfl rfl ?_
      refine G_get dX0_movesAheadOf_40 fg_X0_39 (hx_A hY ha) rfl ?_
      refine G_aload_n dX0_movesAheadOf_43 rfl rfl ?_
      refine G_get dX0_movesAheadOf_44 fg_X0_39 (hx_A hY hb) rfl ?_
      refine G_icmp_ge (tgt := 54) dX0_movesAheadOf_47 (by decide) (fun c47 => ?_) (fun c47 => ?_)
      · skip
        refine G_iconst (v := 0) dX0_movesAheadOf_54 rfl ?_
        refine G_goto (tgt := 74) dX0_movesAheadOf_55 (by decide) ?_
        refine G_zret dX0_movesAheadOf_74 rfl rfl ?_
        first | exact q_t (Or.inr ⟨c8, Or.inl (Int32.not_le.mp c47)⟩) | exact q_f (fun q => q.elim (fun z => by rw [c8] at z; exact Int32.lt_irrefl z) (fun z => z.2.elim (fun w => absurd w (Int32.not_lt.mpr c47)) (fun w => c36 w.1))) | exact q_t (Or.inr ⟨c8, Or.inr ⟨c36, Int32.not_le.mp c66⟩⟩) | exact q_f (fun q => q.elim (fun z => by rw [c8] at z; exact Int32.lt_irrefl z) (fun z => z.2.elim (fun w => by rw [c36] at w; exact Int32.lt_irrefl w) (fun w => absurd w.2 (Int32.not_lt.mpr c66))))
      · skip
        refine G_iconst (v := 1) dX0_movesAheadOf_50 rfl ?_
        refine G_goto (tgt := 74) dX0_movesAheadOf_51 (by decide) ?_
        refine G_zret dX0_movesAheadOf_74 rfl rfl ?_
        first | exact q_t (Or.inr ⟨c8, Or.inl (Int32.not_le.mp c47)⟩) | exact q_f (fun q => q.elim (fun z => by rw [c8] at z; exact Int32.lt_irrefl z) (fun z => z.2.elim (fun w => absurd w (Int32.not_lt.mpr c47)) (fun w => c36 w.1))) | exact q_t (Or.inr ⟨c8, Or.inr ⟨c36, Int32.not_le.mp c66⟩⟩) | exact q_f (fun q => q.elim (fun z => by rw [c8] at z; exact Int32.lt_irrefl z) (fun z => z.2.elim (fun w => by rw [c36] at w; exact Int32.lt_irrefl w) (fun w => absurd w.2 (Int32.not_lt.mpr c66))))
  · skip
    refine G_aload_n dX0_movesAheadOf_11 rfl rfl ?_
    refine G_get dX0_movesAheadOf_12 fg_X0_45 (hx_A hY ha) rfl ?_
    refine G_aload_n dX0_movesAheadOf_15 rfl rfl ?_
    refine G_get dX0_movesAheadOf_16 fg_X0_45 (hx_A hY hb) rfl ?_
    refine G_icmp_le (tgt := 26) dX0_movesAheadOf_19 (by decide) (fun c19 => ?_) (fun c19 => ?_)
    · skip
      refine G_iconst (v := 0) dX0_movesAheadOf_26 rfl ?_
      refine G_zret dX0_movesAheadOf_27 rfl rfl ?_
      first | exact q_t (Or.inl (Int32.not_le.mp c19)) | exact q_f (fun q => q.elim (fun z => absurd z (Int32.not_lt.mpr c19)) (fun z => c8 z.1))
    · skip
      refine G_iconst (v := 1) dX0_movesAheadOf_22 rfl ?_
      refine G_goto (tgt := 27) dX0_movesAheadOf_23 (by decide) ?_
      refine G_zret dX0_movesAheadOf_27 rfl rfl ?_
      first | exact q_t (Or.inl (Int32.not_le.mp c19)) | exact q_f (fun q => q.elim (fun z => absurd z (Int32.not_lt.mpr c19)) (fun z => c8 z.1))
set_option maxHeartbeats 4000000 in
set_option maxRecDepth 100000 in
theorem cx_fits {g : gT} {nq_ n9 : Nat} {sm : mS} {Y : cY} {c : mS} (k a : Nat) (hY : Yok Y c n9) (hC9 : c_inv c) (hk9 : k < mK c) (ha : a < mA c) : M g 0 0 0 kX1_fits [.ref (y_a Y 1 k), .ref (y_a Y 0 a)] nq_ (hh sm Y c) (m_Q (.int (b1 (s_fits c k a))) nq_ (hh sm Y c)) := by
  refine M_of_G (by decide +kernel) (Nat.le_of_ble_eq_true rfl) ?_
  obtain ⟨hI, hG, hgv, hov, hrw, hps⟩ := id hC9
  obtain ⟨hK, hT, hB, hP9, hA, hkf, haf, hbf⟩ := id hI
  have hA2 := hA.2
  have hT2 := hT.2
  have hK2 := hK.2
  have hB2 := hB.2
  have hG2 := hG.2
  have hP2 := hP9.2
  refine G_aload_n dX1_fits_0 rfl rfl ?_
  refine G_get dX1_fits_1 fg_X1_22 (hx_A hY ha) rfl ?_
  refine G_aload_n dX1_fits_4 rfl rfl ?_
  refine G_acmp_eq (a := (some (y_a Y 1 (ix (c 28 a))))) (b := (some (y_a Y 1 k))) (tgt := 31) dX1_fits_5 (by decide) (ap_oo (na_K hY (haf _ ha).1.2) (na_K hY hk9)) (fun c5 => ?_) (fun c5 => ?_)
  · skip
    refine G_iconst (v := 1) dX1_fits_31 rfl ?_
    refine G_goto (tgt := 36) dX1_fits_32 (by decide) ?_
    refine G_zret dX1_fits_36 rfl rfl ?_
    first | exact q_t (Or.inl ((k28 hY hI hk9 ha).mp c5)) | exact q_t (Or.inr ⟨c12, c28⟩) | exact q_f (fun q => q.elim (fun z => c5 ((k28 hY hI hk9 ha).mpr z)) (fun z => z.1 c12)) | exact q_f (fun q => q.elim (fun z => c5 ((k28 hY hI hk9 ha).mpr z)) (fun z => c28 z.2))
  · skip
    refine G_aload_n dX1_fits_8 rfl rfl ?_
    refine G_get dX1_fits_9 fg_X1_28 (hx_A hY ha) rfl ?_
    refine G_if_eq (tgt := 35) dX1_fits_12 (by decide) (fun c12 => ?_) (fun c12 => ?_)
    · skip
      refine G_iconst (v := 0) dX1_fits_35 rfl ?_
      refine G_zret dX1_fits_36 rfl rfl ?_
      first | exact q_t (Or.inl ((k28 hY hI hk9 ha).mp c5)) | exact q_t (Or.inr ⟨c12, c28⟩) | exact q_f (fun q => q.elim (fun z => c5 ((k28 hY hI hk9 ha).mpr z)) (fun z => z.1 c12)) | exact q_f (fun q => q.elim (fun z => c5 ((k28 hY hI hk9 ha).mpr z)) (fun z => c28 z.2))
    · skip
      refine G_aload_n dX1_fits_15 rfl rfl ?_
      refine G_get dX1_fits_16 fg_X1_16 (hx_K hY hk9) rfl ?_
      refine G_aload_n dX1_fits_19 rfl rfl ?_
      refine G_get dX1_fits_20 fg_X1_28 (hx_A hY ha) rfl ?_
      refine G_iand dX1_fits_23 ?_
      refine G_aload_n dX1_fits_24 rfl rfl ?_
      refine G_get dX1_fits_25 fg_X1_28 (hx_A hY ha) rfl ?_
      refine G_icmp_ne (tgt := 35) dX1_fits_28 (by decide) (fun c28 => ?_) (fun c28 => ?_)
      · skip
        refine G_iconst (v := 0) dX1_fits_35 rfl ?_
        refine G_zret dX1_fits_36 rfl rfl ?_
        first | exact q_t (Or.inl ((k28 hY hI hk9 ha).mp c5)) | exact q_t (Or.inr ⟨c12, c28⟩) | exact q_f (fun q => q.elim (fun z => c5 ((k28 hY hI hk9 ha).mpr z)) (fun z => z.1 c12)) | exact q_f (fun q => q.elim (fun z => c5 ((k28 hY hI hk9 ha).mpr z)) (fun z => c28 z.2))
      · skip
        refine G_iconst (v := 1) dX1_fits_31 rfl ?_
        refine G_goto (tgt := 36) dX1_fits_32 (by decide) ?_
        refine G_zret dX1_fits_36 rfl rfl ?_
        first | exact q_t (Or.inl ((k28 hY hI hk9 ha).mp c5)) | exact q_t (Or.inr ⟨c12, c28⟩) | exact q_f (fun q => q.elim (fun z => c5 ((k28 hY hI hk9 ha).mpr z)) (fun z => z.1 c12)) | exact q_f (fun q => q.elim (fun z => c5 ((k28 hY hI hk9 ha).mpr z)) (fun z => c28 z.2))
set_option maxHeartbeats 4000000 in
set_option maxRecDepth 100000 in
theorem cx_want {g : gT} {nq_ n9 : Nat} {sm : mS} {Y : cY} {c : mS} (k : Nat) (hY : Yok Y c n9) (hC9 : c_inv c) (hk9 : k < 8) : M g 0 0 0 kX2_daysWanted [.ref 18, .int (nI k)] nq_ (hh sm Y c) (m_Q (.int (c 15 k)) nq_ (hh sm Y c)) := by
  refine M_of_G (by decide +kernel) (Nat.le_of_ble_eq_true rfl) ?_
  obtain ⟨hI, hG, hgv, hov, hrw, hps⟩ := id hC9
  obtain ⟨hK, hT, hB, hP9, hA, hkf, haf, hbf⟩ := id hI
  have hA2 := hA.2
  have hT2 := hT.2
  have hK2 := hK.2
  have hB2 := hB.2
  have hG2 := hG.2
  have hP2 := hP9.2
  refine G_iload_n dX2_daysWanted_0 rfl rfl ?_
  refine G_if_lt (tgt := 19) dX2_daysWanted_1 (by decide) (fun c1 => ?_) (fun c1 => ?_)
  · skip
    exact absurd c1 (nI_pos (by omega))
  · skip
    refine G_iload_n dX2_daysWanted_4 rfl rfl ?_
    refine G_bipush (v := 8) dX2_daysWanted_5 rfl ?_
    refine G_icmp_ge (tgt := 19) dX2_daysWanted_7 (by decide) (fun c7 => ?_) (fun c7 => ?_)
    · skip
      exact absurd c7 (nI_ge (b := 8) hk9 (by decide))
    · skip
      refine G_aload_n dX2_daysWanted_10 rfl rfl ?_
      refine G_get dX2_daysWanted_11 fg_X2_18 (hx_18 _ _ _) rfl ?_
      refine G_iload_n dX2_daysWanted_14 rfl rfl ?_
      refine GR_lwt dX2_daysWanted_15 ⟨rfl, hk9⟩ ?_
      refine G_goto (tgt := 20) dX2_daysWanted_16 (by decide) ?_
      refine G_iret dX2_daysWanted_20 rfl ?_
      exact ⟨rfl, rfl, rfl⟩
set_option maxHeartbeats 4000000 in
set_option maxRecDepth 100000 in
theorem cx_lets {g : gT} {nq_ n9 : Nat} {sm : mS} {Y : cY} {c : mS} (t : Nat) (l : Int32) (hY : Yok Y c n9) (hC9 : c_inv c) (ht : t < mT c) : M g 1 0 0 kX2_lets [.ref 18, .ref (y_a Y 7 t), .int l] nq_ (hh sm Y c) (m_Q (.int (b1 (c_lets c t l))) nq_ (hh sm Y c)) := by
  refine M_of_G (by decide +kernel) (Nat.le_of_ble_eq_true rfl) ?_
  obtain ⟨hI, hG, hgv, hov, hrw, hps⟩ := id hC9
  obtain ⟨hK, hT, hB, hP9, hA, hkf, haf, hbf⟩ := id hI
  have hA2 := hA.2
  have hT2 := hT.2
  have hK2 := hK.2
  have hB2 := hB.2
  have hG2 := hG.2
  have hP2 := hP9.2
  refine G_aload_n dX2_lets_0 rfl rfl ?_
  refine G_aload_n dX2_lets_1 rfl rfl ?_
  refine G_get dX2_lets_2 fg_X2_28 (hx_T hY ht) rfl ?_
  refine G_get dX2_lets_5 fg_X2_34 (hx_K hY (hkf _ ht).2) rfl ?_
  refine G_callV (cx_want (ix (c 6 t)) hY hC9 (by have := (hkf t ht).2; have := hK.2; omega)) dX2_lets_8 (mc_X2_39 rfl) tw_539 tw_540 (hx_18 _ _ _) rfl rfl rfl (Nat.le_of_ble_eq_true rfl) (Nat.le_of_ble_eq_true rfl) (Nat.le_of_ble_eq_true rfl) (Nat.le_of_ble_eq_true rfl) ?_
  rintro _ n9_ _ ⟨rfl, e9_, rfl⟩
  obtain rfl := e9_.symm
  refine G_istore_n dX2_lets_11 rfl (Nat.le_of_ble_eq_true rfl) rfl ?_
  refine G_iload_n dX2_lets_12 rfl rfl ?_
  refine G_iconst (v := -1) dX2_lets_13 rfl ?_
  refine G_icmp_ne (tgt := 19) dX2_lets_14 (by decide) (fun c14 => ?_) (fun c14 => ?_)
  · skip
    refine G_aload_n dX2_lets_19 rfl rfl ?_
    refine G_get dX2_lets_20 fg_X2_43 (hx_T hY ht) rfl ?_
    refine G_iconst (v := -1) dX2_lets_23 rfl ?_
    refine G_icmp_eq (tgt := 41) dX2_lets_24 (by decide) (fun c24 => ?_) (fun c24 => ?_)
    · skip
      refine G_iconst (v := 0) dX2_lets_41 rfl ?_
      refine G_zret dX2_lets_42 rfl rfl ?_
      first | exact q_t (Or.inr ⟨c24, Int32.not_lt.mp c34⟩) | exact q_f (fun q => q.elim c14 (fun z => z.1 c24)) | exact q_f (fun q => q.elim c14 (fun z => absurd z.2 (Int32.not_le.mpr c34)))
    · skip
      refine G_iload_n dX2_lets_27 rfl rfl ?_
      refine G_aload_n dX2_lets_28 rfl rfl ?_
      refine G_get dX2_lets_29 fg_X2_43 (hx_T hY ht) rfl ?_
      refine G_isub dX2_lets_32 ?_
      refine G_iload_n dX2_lets_33 rfl rfl ?_
      refine G_icmp_gt (tgt := 41) dX2_lets_34 (by decide) (fun c34 => ?_) (fun c34 => ?_)
      · skip
        refine G_iconst (v := 0) dX2_lets_41 rfl ?_
        refine G_zret dX2_lets_42 rfl rfl ?_
        first | exact q_t (Or.inr ⟨c24, Int32.not_lt.mp c34⟩) | exact q_f (fun q => q.elim c14 (fun z => z.1 c24)) | exact q_f (fun q => q.elim c14 (fun z => absurd z.2 (Int32.not_le.mpr c34)))
      · skip
        refine G_iconst (v := 1) dX2_lets_37 rfl ?_
        refine G_goto (tgt := 42) dX2_lets_38 (by decide) ?_
        refine G_zret dX2_lets_42 rfl rfl ?_
        first | exact q_t (Or.inr ⟨c24, Int32.not_lt.mp c34⟩) | exact q_f (fun q => q.elim c14 (fun z => z.1 c24)) | exact q_f (fun q => q.elim c14 (fun z => absurd z.2 (Int32.not_le.mpr c34)))
  · skip
    refine G_iconst (v := 1) dX2_lets_17 rfl ?_
    refine G_zret dX2_lets_18 rfl rfl ?_
    exact q_t (Or.inl c14)
set_option maxHeartbeats 4000000 in
set_option maxRecDepth 100000 in
theorem cx_late {g : gT} {nq_ n9 : Nat} {sm : mS} {Y : cY} {c : mS} (t : Nat) (hY : Yok Y c n9) (hC9 : c_inv c) (ht : t < mT c) : M g 0 0 0 kX7_isLate [.ref (y_a Y 7 t), .int (c 11 0)] nq_ (hh sm Y c) (m_Q (.int (b1 (c_late c t))) nq_ (hh sm Y c)) := by
  refine M_of_G (by decide +kernel) (Nat.le_of_ble_eq_true rfl) ?_
  obtain ⟨hI, hG, hgv, hov, hrw, hps⟩ := id hC9
  obtain ⟨hK, hT, hB, hP9, hA, hkf, haf, hbf⟩ := id hI
  have hA2 := hA.2
  have hT2 := hT.2
  have hK2 := hK.2
  have hB2 := hB.2
  have hG2 := hG.2
  have hP2 := hP9.2
  refine G_aload_n dX7_isLate_0 rfl rfl ?_
  refine G_get dX7_isLate_1 fg_X7_18 (hx_T hY ht) rfl ?_
  refine G_ifnullR (o := (oR (y_a Y 0) (c 51 t))) (tgt := 22) dX7_isLate_4 (by decide) (fun c4 => ?_) (fun i4 c4 => ?_)
  · skip
    have e4 := oR_no.mp c4
    refine G_iconst (v := 0) dX7_isLate_22 rfl ?_
    refine G_zret dX7_isLate_23 rfl rfl ?_
    first | exact q_t ⟨e4, Int32.not_le.mp c15⟩ | exact q_f (fun q => q.1 e4) | exact q_f (fun q => absurd q.2 (Int32.not_lt.mpr c15))
  · skip
    obtain ⟨e4, rfl⟩ := oR_so c4
    refine G_aload_n dX7_isLate_7 rfl rfl ?_
    refine G_get dX7_isLate_8 fg_X7_18 (hx_T hY ht) rfl ?_
    refine G_top (w := .ref (y_a Y 0 (ix (c 51 t)))) (congrArg va_rf (oR_at e4)) ?_
    refine G_get dX7_isLate_11 fg_X7_29 (hx_A hY ((hov _ ht).resolve_left e4).2) rfl ?_
    refine G_iload_n dX7_isLate_14 rfl rfl ?_
    refine G_icmp_ge (tgt := 22) dX7_isLate_15 (by decide) (fun c15 => ?_) (fun c15 => ?_)
    · skip
      refine G_iconst (v := 0) dX7_isLate_22 rfl ?_
      refine G_zret dX7_isLate_23 rfl rfl ?_
      first | exact q_t ⟨e4, Int32.not_le.mp c15⟩ | exact q_f (fun q => q.1 e4) | exact q_f (fun q => absurd q.2 (Int32.not_lt.mpr c15))
    · skip
      refine G_iconst (v := 1) dX7_isLate_18 rfl ?_
      refine G_goto (tgt := 23) dX7_isLate_19 (by decide) ?_
      refine G_zret dX7_isLate_23 rfl rfl ?_
      first | exact q_t ⟨e4, Int32.not_le.mp c15⟩ | exact q_f (fun q => q.1 e4) | exact q_f (fun q => absurd q.2 (Int32.not_lt.mpr c15))
set_option maxHeartbeats 4000000 in
set_option maxRecDepth 100000 in
theorem cx_cared {g : gT} {nq_ n9 : Nat} {sm : mS} {Y : cY} {c : mS} (t : Nat) (hY : Yok Y c n9) (hC9 : c_inv c) (ht : t < mT c) : M g 0 0 0 kX7_isCaredFor [.ref (y_a Y 7 t), .int (c 11 0)] nq_ (hh sm Y c) (m_Q (.int (b1 (c_cared c t))) nq_ (hh sm Y c)) := by
  refine M_of_G (by decide +kernel) (Nat.le_of_ble_eq_true rfl) ?_
  obtain ⟨hI, hG, hgv, hov, hrw, hps⟩ := id hC9
  obtain ⟨hK, hT, hB, hP9, hA, hkf, haf, hbf⟩ := id hI
  have hA2 := hA.2
  have hT2 := hT.2
  have hK2 := hK.2
  have hB2 := hB.2
  have hG2 := hG.2
  have hP2 := hP9.2
  refine G_aload_n dX7_isCaredFor_0 rfl rfl ?_
  refine G_get dX7_isCaredFor_1 fg_X7_15 (hx_T hY ht) rfl ?_
  refine G_iconst (v := -1) dX7_isCaredFor_4 rfl ?_
  refine G_icmp_eq (tgt := 24) dX7_isCaredFor_5 (by decide) (fun c5 => ?_) (fun c5 => ?_)
  · skip
    refine G_iconst (v := 1) dX7_isCaredFor_24 rfl ?_
    refine G_goto (tgt := 29) dX7_isCaredFor_25 (by decide) ?_
    refine G_zret dX7_isCaredFor_29 rfl rfl ?_
    first | exact q_t (Or.inl c5) | exact q_t (Or.inr (Int32.not_le.mp c21)) | exact q_f (fun q => q.elim c5 (fun z => absurd z (Int32.not_lt.mpr c21)))
  · skip
    refine G_iload_n dX7_isCaredFor_8 rfl rfl ?_
    refine G_aload_n dX7_isCaredFor_9 rfl rfl ?_
    refine G_get dX7_isCaredFor_10 fg_X7_15 (hx_T hY ht) rfl ?_
    refine G_aload_n dX7_isCaredFor_13 rfl rfl ?_
    refine G_get dX7_isCaredFor_14 fg_X7_25 (hx_T hY ht) rfl ?_
    refine G_get dX7_isCaredFor_17 fg_X7_34 (hx_K hY (hkf _ ht).2) rfl ?_
    refine G_iadd dX7_isCaredFor_20 ?_
    refine G_icmp_le (tgt := 28) dX7_isCaredFor_21 (by decide) (fun c21 => ?_) (fun c21 => ?_)
    · skip
      refine G_iconst (v := 0) dX7_isCaredFor_28 rfl ?_
      refine G_zret dX7_isCaredFor_29 rfl rfl ?_
      first | exact q_t (Or.inl c5) | exact q_t (Or.inr (Int32.not_le.mp c21)) | exact q_f (fun q => q.elim c5 (fun z => absurd z (Int32.not_lt.mpr c21)))
    · skip
      refine G_iconst (v := 1) dX7_isCaredFor_24 rfl ?_
      refine G_goto (tgt := 29) dX7_isCaredFor_25 (by decide) ?_
      refine G_zret dX7_isCaredFor_29 rfl rfl ?_
      first | exact q_t (Or.inl c5) | exact q_t (Or.inr (Int32.not_le.mp c21)) | exact q_f (fun q => q.elim c5 (fun z => absurd z (Int32.not_lt.mpr c21)))
set_option maxHeartbeats 4000000 in
set_option maxRecDepth 100000 in
theorem cx_owe {g : gT} {nq_ n9 : Nat} {sm : mS} {Y : cY} {c : mS} (m : Nat) (u w : Int32) (hY : Yok Y c n9) (hC9 : c_inv c) (hm9 : m < mB c) : M g 0 0 0 kX4_owe [.ref (y_a Y 4 m), .int u, .int w] nq_ (hh sm Y c) (c_V nq_ sm Y (m_set (m_set c 9 m (c 9 m + u)) 10 m (c 10 m + u * w))) := by
  refine M_of_G (by decide +kernel) (Nat.le_of_ble_eq_true rfl) ?_
  obtain ⟨hI, hG, hgv, hov, hrw, hps⟩ := id hC9
  obtain ⟨hK, hT, hB, hP9, hA, hkf, haf, hbf⟩ := id hI
  have hA2 := hA.2
  have hT2 := hT.2
  have hK2 := hK.2
  have hB2 := hB.2
  have hG2 := hG.2
  have hP2 := hP9.2
  refine G_aload_n dX4_owe_0 rfl rfl ?_
  refine G_dup dX4_owe_1 rfl ?_
  refine G_get dX4_owe_2 fg_X4_7 (hx_B hY hm9) rfl ?_
  refine G_iload_n dX4_owe_5 rfl rfl ?_
  refine G_iadd dX4_owe_6 ?_
  refine GC_hours dX4_owe_7 fp_X4_7 hY hm9 ?_
  refine G_aload_n dX4_owe_10 rfl rfl ?_
  refine G_dup dX4_owe_11 rfl ?_
  refine G_get dX4_owe_12 fg_X4_13 (hx_B (hY.same rfl rfl rfl rfl rfl) hm9) rfl ?_
  refine G_iload_n dX4_owe_15 rfl rfl ?_
  refine G_iload_n dX4_owe_16 rfl rfl ?_
  refine G_imul dX4_owe_17 ?_
  refine G_iadd dX4_owe_18 ?_
  refine GC_fees dX4_owe_19 fp_X4_13 (hY.same rfl rfl rfl rfl rfl) hm9 ?_
  refine G_vret dX4_owe_22 rfl ?_
  exact ⟨rfl, rfl, rfl⟩
set_option maxHeartbeats 4000000 in
set_option maxRecDepth 100000 in
theorem cx_room {g : gT} {nq_ n9 : Nat} {sm : mS} {Y : cY} {c : mS}  (hY : Yok Y c n9) (hC9 : c_inv c) : M g 0 0 0 kX6_hasRoom [.ref 14] nq_ (hh sm Y c) (m_Q (.int (b1 (c 13 0 + 20 ≤ 200))) nq_ (hh sm Y c)) := by
  refine M_of_G (by decide +kernel) (Nat.le_of_ble_eq_true rfl) ?_
  obtain ⟨hI, hG, hgv, hov, hrw, hps⟩ := id hC9
  obtain ⟨hK, hT, hB, hP9, hA, hkf, haf, hbf⟩ := id hI
  have hA2 := hA.2
  have hT2 := hT.2
  have hK2 := hK.2
  have hB2 := hB.2
  have hG2 := hG.2
  have hP2 := hP9.2
  refine G_aload_n dX6_hasRoom_0 rfl rfl ?_
  refine G_get dX6_hasRoom_1 fg_X6_15 (hx_14 _ _ _) rfl ?_
  refine G_bipush (v := 20) dX6_hasRoom_4 rfl ?_
  refine G_iadd dX6_hasRoom_6 ?_
  refine G_sipush (v := 200) dX6_hasRoom_7 rfl ?_
  refine G_icmp_gt (tgt := 17) dX6_hasRoom_10 (by decide) (fun c10 => ?_) (fun c10 => ?_)
  · skip
    refine G_iconst (v := 0) dX6_hasRoom_17 rfl ?_
    refine G_zret dX6_hasRoom_18 rfl rfl ?_
    first | exact q_t (Int32.not_lt.mp c10) | exact q_f (Int32.not_le.mpr c10)
  · skip
    refine G_iconst (v := 1) dX6_hasRoom_13 rfl ?_
    refine G_goto (tgt := 18) dX6_hasRoom_14 (by decide) ?_
    refine G_zret dX6_hasRoom_18 rfl rfl ?_
    first | exact q_t (Int32.not_lt.mp c10) | exact q_f (Int32.not_le.mpr c10)
noncomputable def c_byte (c : mS) (i : Nat) : Int32 := cif (i < mP c) (c 12 i) (-1)
set_option maxHeartbeats 4000000 in
set_option maxRecDepth 100000 in
theorem cx_byte {g : gT} {nq_ n9 : Nat} {sm : mS} {Y : cY} {c : mS} (i : Nat) (hY : Yok Y c n9) (hC9 : c_inv c) (hi : i < 2 ^ 31) : M g 0 0 0 kX6_byteAt [.ref 14, .int (nI i)] nq_ (hh sm Y c) (m_Q (.int (c_byte c i)) nq_ (hh sm Y c)) := by
  refine M_of_G (by decide +kernel) (Nat.le_of_ble_eq_true rfl) ?_
  obtain ⟨hI, hG, hgv, hov, hrw, hps⟩ := id hC9
  obtain ⟨hK, hT, hB, hP9, hA, hkf, haf, hbf⟩ := id hI
  have hA2 := hA.2
  have hT2 := hT.2
  have hK2 := hK.2
  have hB2 := hB.2
  have hG2 := hG.2
  have hP2 := hP9.2
  refine G_iload_n dX6_byteAt_0 rfl rfl ?_
  refine G_if_lt (tgt := 28) dX6_byteAt_1 (by decide) (fun c1 => ?_) (fun c1 => ?_)
  · skip
    exact absurd c1 (nI_pos hi)
  · skip
    refine G_iload_n dX6_byteAt_4 rfl rfl ?_
    refine G_aload_n dX6_byteAt_5 rfl rfl ?_
    refine G_get dX6_byteAt_6 fg_X6_15 (hx_14 _ _ _) rfl ?_
    refine G_icmp_ge (tgt := 28) dX6_byteAt_9 (by decide) (fun c9 => ?_) (fun c9 => ?_)
    · skip
      rw [hP9.1, nI_leI (by have := hP9.2; omega) hi] at c9
      refine G_iconst (v := -1) dX6_byteAt_28 rfl ?_
      refine G_iret dX6_byteAt_29 rfl ?_
      first | exact q_e (cif_t (Nat.not_le.mp c9)) | exact q_e (cif_f (Nat.not_lt.mpr c9))
    · skip
      rw [hP9.1, nI_leI (by have := hP9.2; omega) hi] at c9
      refine G_iload_n dX6_byteAt_12 rfl rfl ?_
      refine G_sipush (v := 200) dX6_byteAt_13 rfl ?_
      refine G_icmp_ge (tgt := 28) dX6_byteAt_16 (by decide) (fun c16 => ?_) (fun c16 => ?_)
      · skip
        exact absurd c16 (nI_ge (b := 200) (by have := hP9.2; omega) (by decide))
      · skip
        refine G_aload_n dX6_byteAt_19 rfl rfl ?_
        refine G_get dX6_byteAt_20 fg_X6_9 (hx_14 _ _ _) rfl ?_
        refine G_iload_n dX6_byteAt_23 rfl rfl ?_
        refine GR_byt dX6_byteAt_24 ⟨rfl, by have := hP9.2; omega⟩ ?_
        refine G_goto (tgt := 29) dX6_byteAt_25 (by decide) ?_
        refine G_iret dX6_byteAt_29 rfl ?_
        first | exact q_e (cif_t (Nat.not_le.mp c9)) | exact q_e (cif_f (Nat.not_lt.mpr c9))
set_option maxHeartbeats 4000000 in
set_option maxRecDepth 100000 in
theorem cx_within {g : gT} {nq_ : Nat} {h : mH} (v lo hi : Int32) : M g 0 0 0 kX8_isWithin [.int v, .int lo, .int hi] nq_ h (m_Q (.int (b1 (wi v lo hi))) nq_ h) := by
  refine M_of_G (by decide +kernel) (Nat.le_of_ble_eq_true rfl) ?_
  refine G_iload_n dX8_isWithin_0 rfl rfl ?_
  refine G_iload_n dX8_isWithin_1 rfl rfl ?_
  refine G_icmp_lt (tgt := 14) dX8_isWithin_2 (by decide) (fun c2 => ?_) (fun c2 => ?_)
  · skip
    refine G_iconst (v := 0) dX8_isWithin_14 rfl ?_
    refine G_zret dX8_isWithin_15 rfl rfl ?_
    first | exact q_t ⟨Int32.not_lt.mp c2, Int32.not_lt.mp c7⟩ | exact q_f (fun q => absurd q.1 (Int32.not_le.mpr c2)) | exact q_f (fun q => absurd q.2 (Int32.not_le.mpr c7))
  · skip
    refine G_iload_n dX8_isWithin_5 rfl rfl ?_
    refine G_iload_n dX8_isWithin_6 rfl rfl ?_
    refine G_icmp_gt (tgt := 14) dX8_isWithin_7 (by decide) (fun c7 => ?_) (fun c7 => ?_)
    · skip
      refine G_iconst (v := 0) dX8_isWithin_14 rfl ?_
      refine G_zret dX8_isWithin_15 rfl rfl ?_
      first | exact q_t ⟨Int32.not_lt.mp c2, Int32.not_lt.mp c7⟩ | exact q_f (fun q => absurd q.1 (Int32.not_le.mpr c2)) | exact q_f (fun q => absurd q.2 (Int32.not_le.mpr c7))
    · skip
      refine G_iconst (v := 1) dX8_isWithin_10 rfl ?_
      refine G_goto (tgt := 15) dX8_isWithin_11 (by decide) ?_
      refine G_zret dX8_isWithin_15 rfl rfl ?_
      first | exact q_t ⟨Int32.not_lt.mp c2, Int32.not_lt.mp c7⟩ | exact q_f (fun q => absurd q.1 (Int32.not_le.mpr c2)) | exact q_f (fun q => absurd q.2 (Int32.not_le.mpr c7))
set_option maxHeartbeats 4000000 in
set_option maxRecDepth 100000 in
theorem cx_near {g : gT} {nq_ : Nat} {h : mH} (f l f2 l2 w : Int32) : M g 0 0 0 kX8_areNear [.int f, .int l, .int f2, .int l2, .int w] nq_ h (m_Q (.int (b1 (s_near f.toInt64 l.toInt64 f2.toInt64 l2.toInt64 w))) nq_ h) := by
  refine M_of_G (by decide +kernel) (Nat.le_of_ble_eq_true rfl) ?_
  refine G_iload_n dX8_areNear_0 rfl rfl ?_
  refine G_i2l dX8_areNear_1 ?_
  refine G_iload_n dX8_areNear_2 rfl rfl ?_
  refine G_i2l dX8_areNear_3 ?_
  refine G_iload dX8_areNear_4 rfl ?_
  refine G_i2l dX8_areNear_6 ?_
  refine G_ladd dX8_areNear_7 ?_
  refine G_lcmp dX8_areNear_8 ?_
  refine G_if_gt (tgt := 28) dX8_areNear_9 (by decide) (fun c9 => ?_) (fun c9 => ?_)
  · skip
    refine G_iconst (v := 0) dX8_areNear_28 rfl ?_
    refine G_zret dX8_areNear_29 rfl rfl ?_
    first | exact q_t ⟨lg_le c9, lg_le c21⟩ | exact q_f (fun q => (lg_gt _ _).mp c9 q.1) | exact q_f (fun q => (lg_gt _ _).mp c21 q.2)
  · skip
    refine G_iload_n dX8_areNear_12 rfl rfl ?_
    refine G_i2l dX8_areNear_13 ?_
    refine G_iload_n dX8_areNear_14 rfl rfl ?_
    refine G_i2l dX8_areNear_15 ?_
    refine G_iload dX8_areNear_16 rfl ?_
    refine G_i2l dX8_areNear_18 ?_
    refine G_ladd dX8_areNear_19 ?_
    refine G_lcmp dX8_areNear_20 ?_
    refine G_if_gt (tgt := 28) dX8_areNear_21 (by decide) (fun c21 => ?_) (fun c21 => ?_)
    · skip
      refine G_iconst (v := 0) dX8_areNear_28 rfl ?_
      refine G_zret dX8_areNear_29 rfl rfl ?_
      first | exact q_t ⟨lg_le c9, lg_le c21⟩ | exact q_f (fun q => (lg_gt _ _).mp c9 q.1) | exact q_f (fun q => (lg_gt _ _).mp c21 q.2)
    · skip
      refine G_iconst (v := 1) dX8_areNear_24 rfl ?_
      refine G_goto (tgt := 29) dX8_areNear_25 (by decide) ?_
      refine G_zret dX8_areNear_29 rfl rfl ?_
      first | exact q_t ⟨lg_le c9, lg_le c21⟩ | exact q_f (fun q => (lg_gt _ _).mp c9 q.1) | exact q_f (fun q => (lg_gt _ _).mp c21 q.2)
noncomputable def oW (f : Nat → Nat) (x hi : Int32) : Option Nat := cif (wi x 0 (hi - 1)) (some (f (ix x))) none
theorem m_nwi {T N : Nat} {t x : Int32} (h : x = nI T ∧ T ≤ N) (hN : N < 2 ^ 30) (c : t < 0 ∨ x ≤ t) : ¬ wi t 0 (x - 1) := fun q => by
  obtain ⟨e, hj⟩ := m_ix h hN q
  rcases c with c | c
  · exact absurd q.1 (Int32.not_le.mpr c)
  · rw [e, h.1, nI_leI (by omega) (by omega)] at c
    omega
theorem m_wi' {T N : Nat} {t x : Int32} (h : x = nI T ∧ T ≤ N) (hN : N < 2 ^ 30) (c1 : ¬ t < 0) (c2 : ¬ x ≤ t) : ∃ j, j < T ∧ t = nI j ∧ ix t = j ∧ wi t 0 (x - 1) := by
  obtain ⟨j, hj, rfl⟩ := nI_of c1
  rw [h.1, nI_leI (by omega) hj] at c2
  exact ⟨j, by omega, rfl, nI_clamp hj, m_wi h hN (by omega)⟩
set_option maxHeartbeats 4000000 in
set_option maxRecDepth 100000 in
theorem cx_kindAt {g : gT} {nq_ n9 : Nat} {sm : mS} {Y : cY} {c : mS} (v : Int32) (hY : Yok Y c n9) (hC9 : c_inv c) : M g 3 0 0 kX8_kindAt [.ref 8, .int v] nq_ (hh sm Y c) (m_Q (va_rf (oW (y_a Y 1) v (c 1 0))) nq_ (hh sm Y c)) := by
  refine M_of_G (by decide +kernel) (Nat.le_of_ble_eq_true rfl) ?_
  obtain ⟨hI, hG, hgv, hov, hrw, hps⟩ := id hC9
  obtain ⟨hK, hT, hB, hP9, hA, hkf, haf, hbf⟩ := id hI
  have hA2 := hA.2
  have hT2 := hT.2
  have hK2 := hK.2
  have hB2 := hB.2
  have hG2 := hG.2
  have hP2 := hP9.2
  refine G_iload_n dX8_kindAt_0 rfl rfl ?_
  refine G_if_lt (tgt := 29) dX8_kindAt_1 (by decide) (fun c1 => ?_) (fun c1 => ?_)
  · skip
    refine G_null dX8_kindAt_29 ?_
    refine G_aret (o := none) dX8_kindAt_30 rfl (Or.inl ⟨_, rfl⟩) ?_
    first | exact ⟨congrArg (fun z => some (va_rf z)) (by unfold oW; rw [cif_t hw, ej]), rfl, rfl⟩ | exact ⟨congrArg (fun z => some (va_rf z)) (show none = oW _ _ _ from (cif_f (m_nwi hK (by decide) (Or.inl c1))).symm), rfl, rfl⟩ | exact ⟨congrArg (fun z => some (va_rf z)) (show none = oW _ _ _ from (cif_f (m_nwi hK (by decide) (Or.inr c12))).symm), rfl, rfl⟩
  · skip
    refine G_iload_n dX8_kindAt_4 rfl rfl ?_
    refine G_aload_n dX8_kindAt_5 rfl rfl ?_
    refine G_get dX8_kindAt_6 fg_X8_10 (hx_8 _ _ _) rfl ?_
    refine GL_size0 dX8_kindAt_9 (mc_X8_60 rfl) (Nat.le_of_ble_eq_true rfl) (Nat.le_of_ble_eq_true rfl) ?_
    refine G_icmp_ge (tgt := 29) dX8_kindAt_12 (by decide) (fun c12 => ?_) (fun c12 => ?_)
    · skip
      refine G_null dX8_kindAt_29 ?_
      refine G_aret (o := none) dX8_kindAt_30 rfl (Or.inl ⟨_, rfl⟩) ?_
      first | exact ⟨congrArg (fun z => some (va_rf z)) (by unfold oW; rw [cif_t hw, ej]), rfl, rfl⟩ | exact ⟨congrArg (fun z => some (va_rf z)) (show none = oW _ _ _ from (cif_f (m_nwi hK (by decide) (Or.inl c1))).symm), rfl, rfl⟩ | exact ⟨congrArg (fun z => some (va_rf z)) (show none = oW _ _ _ from (cif_f (m_nwi hK (by decide) (Or.inr c12))).symm), rfl, rfl⟩
    · skip
      obtain ⟨j, hj, rfl, ej, hw⟩ := m_wi' hK (by decide) c1 c12
      refine G_aload_n dX8_kindAt_15 rfl rfl ?_
      refine G_get dX8_kindAt_16 fg_X8_10 (hx_8 _ _ _) rfl ?_
      refine G_iload_n dX8_kindAt_19 rfl rfl ?_
      refine GL_get0 (i := j) (sz := mK c) dX8_kindAt_20 (mc_X8_158 rfl) hY hK.1 hj (Nat.le_trans hK.2 (by decide)) (Nat.le_of_ble_eq_true rfl) (Nat.le_of_ble_eq_true rfl) ?_
      refine G_cast (ci := 1) dX8_kindAt_23 rfl tw_238 (hx_K hY hj) ?_
      refine G_goto (tgt := 30) dX8_kindAt_26 (by decide) ?_
      refine G_aret (o := (some (y_a Y 1 j))) dX8_kindAt_30 rfl (Or.inl ⟨_, rfl⟩) ?_
      first | exact ⟨congrArg (fun z => some (va_rf z)) (by unfold oW; rw [cif_t hw, ej]), rfl, rfl⟩ | exact ⟨congrArg (fun z => some (va_rf z)) (show none = oW _ _ _ from (cif_f (m_nwi hK (by decide) (Or.inl c1))).symm), rfl, rfl⟩ | exact ⟨congrArg (fun z => some (va_rf z)) (show none = oW _ _ _ from (cif_f (m_nwi hK (by decide) (Or.inr c12))).symm), rfl, rfl⟩
set_option maxHeartbeats 4000000 in
set_option maxRecDepth 100000 in
theorem cx_thingAt {g : gT} {nq_ n9 : Nat} {sm : mS} {Y : cY} {c : mS} (v : Int32) (hY : Yok Y c n9) (hC9 : c_inv c) : M g 3 0 0 kX8_thingAt [.ref 8, .int v] nq_ (hh sm Y c) (m_Q (va_rf (oW (y_a Y 7) v (c 5 0))) nq_ (hh sm Y c)) := by
  refine M_of_G (by decide +kernel) (Nat.le_of_ble_eq_true rfl) ?_
  obtain ⟨hI, hG, hgv, hov, hrw, hps⟩ := id hC9
  obtain ⟨hK, hT, hB, hP9, hA, hkf, haf, hbf⟩ := id hI
  have hA2 := hA.2
  have hT2 := hT.2
  have hK2 := hK.2
  have hB2 := hB.2
  have hG2 := hG.2
  have hP2 := hP9.2
  refine G_iload_n dX8_thingAt_0 rfl rfl ?_
  refine G_if_lt (tgt := 29) dX8_thingAt_1 (by decide) (fun c1 => ?_) (fun c1 => ?_)
  · skip
    refine G_null dX8_thingAt_29 ?_
    refine G_aret (o := none) dX8_thingAt_30 rfl (Or.inl ⟨_, rfl⟩) ?_
    first | exact ⟨congrArg (fun z => some (va_rf z)) (by unfold oW; rw [cif_t hw, ej]), rfl, rfl⟩ | exact ⟨congrArg (fun z => some (va_rf z)) (show none = oW _ _ _ from (cif_f (m_nwi hT (by decide) (Or.inl c1))).symm), rfl, rfl⟩ | exact ⟨congrArg (fun z => some (va_rf z)) (show none = oW _ _ _ from (cif_f (m_nwi hT (by decide) (Or.inr c12))).symm), rfl, rfl⟩
  · skip
    refine G_iload_n dX8_thingAt_4 rfl rfl ?_
    refine G_aload_n dX8_thingAt_5 rfl rfl ?_
    refine G_get dX8_thingAt_6 fg_X8_16 (hx_8 _ _ _) rfl ?_
    refine GL_size1 dX8_thingAt_9 (mc_X8_60 rfl) (Nat.le_of_ble_eq_true rfl) (Nat.le_of_ble_eq_true rfl) ?_
    refine G_icmp_ge (tgt := 29) dX8_thingAt_12 (by decide) (fun c12 => ?_) (fun c12 => ?_)
    · skip
      refine G_null dX8_thingAt_29 ?_
      refine G_aret (o := none) dX8_thingAt_30 rfl (Or.inl ⟨_, rfl⟩) ?_
      first | exact ⟨congrArg (fun z => some (va_rf z)) (by unfold oW; rw [cif_t hw, ej]), rfl, rfl⟩ | exact ⟨congrArg (fun z => some (va_rf z)) (show none = oW _ _ _ from (cif_f (m_nwi hT (by decide) (Or.inl c1))).symm), rfl, rfl⟩ | exact ⟨congrArg (fun z => some (va_rf z)) (show none = oW _ _ _ from (cif_f (m_nwi hT (by decide) (Or.inr c12))).symm), rfl, rfl⟩
    · skip
      obtain ⟨j, hj, rfl, ej, hw⟩ := m_wi' hT (by decide) c1 c12
      refine G_aload_n dX8_thingAt_15 rfl rfl ?_
      refine G_get dX8_thingAt_16 fg_X8_16 (hx_8 _ _ _) rfl ?_
      refine G_iload_n dX8_thingAt_19 rfl rfl ?_
      refine GL_get1 (i := j) (sz := mT c) dX8_thingAt_20 (mc_X8_158 rfl) hY hT.1 hj (Nat.le_trans hT.2 (by decide)) (Nat.le_of_ble_eq_true rfl) (Nat.le_of_ble_eq_true rfl) ?_
      refine G_cast (ci := 7) dX8_thingAt_23 rfl tw_344 (hx_T hY hj) ?_
      refine G_goto (tgt := 30) dX8_thingAt_26 (by decide) ?_
      refine G_aret (o := (some (y_a Y 7 j))) dX8_thingAt_30 rfl (Or.inl ⟨_, rfl⟩) ?_
      first | exact ⟨congrArg (fun z => some (va_rf z)) (by unfold oW; rw [cif_t hw, ej]), rfl, rfl⟩ | exact ⟨congrArg (fun z => some (va_rf z)) (show none = oW _ _ _ from (cif_f (m_nwi hT (by decide) (Or.inl c1))).symm), rfl, rfl⟩ | exact ⟨congrArg (fun z => some (va_rf z)) (show none = oW _ _ _ from (cif_f (m_nwi hT (by decide) (Or.inr c12))).symm), rfl, rfl⟩
set_option maxHeartbeats 4000000 in
set_option maxRecDepth 100000 in
theorem cx_memberAt {g : gT} {nq_ n9 : Nat} {sm : mS} {Y : cY} {c : mS} (v : Int32) (hY : Yok Y c n9) (hC9 : c_inv c) : M g 3 0 0 kX8_memberAt [.ref 8, .int v] nq_ (hh sm Y c) (m_Q (va_rf (oW (y_a Y 4) v (c 8 0))) nq_ (hh sm Y c)) := by
  refine M_of_G (by decide +kernel) (Nat.le_of_ble_eq_true rfl) ?_
  obtain ⟨hI, hG, hgv, hov, hrw, hps⟩ := id hC9
  obtain ⟨hK, hT, hB, hP9, hA, hkf, haf, hbf⟩ := id hI
  have hA2 := hA.2
  have hT2 := hT.2
  have hK2 := hK.2
  have hB2 := hB.2
  have hG2 := hG.2
  have hP2 := hP9.2
  refine G_iload_n dX8_memberAt_0 rfl rfl ?_
  refine G_if_lt (tgt := 29) dX8_memberAt_1 (by decide) (fun c1 => ?_) (fun c1 => ?_)
  · skip
    refine G_null dX8_memberAt_29 ?_
    refine G_aret (o := none) dX8_memberAt_30 rfl (Or.inl ⟨_, rfl⟩) ?_
    first | exact ⟨congrArg (fun z => some (va_rf z)) (by unfold oW; rw [cif_t hw, ej]), rfl, rfl⟩ | exact ⟨congrArg (fun z => some (va_rf z)) (show none = oW _ _ _ from (cif_f (m_nwi hB (by decide) (Or.inl c1))).symm), rfl, rfl⟩ | exact ⟨congrArg (fun z => some (va_rf z)) (show none = oW _ _ _ from (cif_f (m_nwi hB (by decide) (Or.inr c12))).symm), rfl, rfl⟩
  · skip
    refine G_iload_n dX8_memberAt_4 rfl rfl ?_
    refine G_aload_n dX8_memberAt_5 rfl rfl ?_
    refine G_get dX8_memberAt_6 fg_X8_19 (hx_8 _ _ _) rfl ?_
    refine GL_size2 dX8_memberAt_9 (mc_X8_60 rfl) (Nat.le_of_ble_eq_true rfl) (Nat.le_of_ble_eq_true rfl) ?_
    refine G_icmp_ge (tgt := 29) dX8_memberAt_12 (by decide) (fun c12 => ?_) (fun c12 => ?_)
    · skip
      refine G_null dX8_memberAt_29 ?_
      refine G_aret (o := none) dX8_memberAt_30 rfl (Or.inl ⟨_, rfl⟩) ?_
      first | exact ⟨congrArg (fun z => some (va_rf z)) (by unfold oW; rw [cif_t hw, ej]), rfl, rfl⟩ | exact ⟨congrArg (fun z => some (va_rf z)) (show none = oW _ _ _ from (cif_f (m_nwi hB (by decide) (Or.inl c1))).symm), rfl, rfl⟩ | exact ⟨congrArg (fun z => some (va_rf z)) (show none = oW _ _ _ from (cif_f (m_nwi hB (by decide) (Or.inr c12))).symm), rfl, rfl⟩
    · skip
      obtain ⟨j, hj, rfl, ej, hw⟩ := m_wi' hB (by decide) c1 c12
      refine G_aload_n dX8_memberAt_15 rfl rfl ?_
      refine G_get dX8_memberAt_16 fg_X8_19 (hx_8 _ _ _) rfl ?_
      refine G_iload_n dX8_memberAt_19 rfl rfl ?_
      refine GL_get2 (i := j) (sz := mB c) dX8_memberAt_20 (mc_X8_158 rfl) hY hB.1 hj (Nat.le_trans hB.2 (by decide)) (Nat.le_of_ble_eq_true rfl) (Nat.le_of_ble_eq_true rfl) ?_
      refine G_cast (ci := 4) dX8_memberAt_23 rfl tw_379 (hx_B hY hj) ?_
      refine G_goto (tgt := 30) dX8_memberAt_26 (by decide) ?_
      refine G_aret (o := (some (y_a Y 4 j))) dX8_memberAt_30 rfl (Or.inl ⟨_, rfl⟩) ?_
      first | exact ⟨congrArg (fun z => some (va_rf z)) (by unfold oW; rw [cif_t hw, ej]), rfl, rfl⟩ | exact ⟨congrArg (fun z => some (va_rf z)) (show none = oW _ _ _ from (cif_f (m_nwi hB (by decide) (Or.inl c1))).symm), rfl, rfl⟩ | exact ⟨congrArg (fun z => some (va_rf z)) (show none = oW _ _ _ from (cif_f (m_nwi hB (by decide) (Or.inr c12))).symm), rfl, rfl⟩
set_option maxHeartbeats 4000000 in
set_option maxRecDepth 100000 in
theorem cx_askAt {g : gT} {nq_ n9 : Nat} {sm : mS} {Y : cY} {c : mS} (v : Int32) (hY : Yok Y c n9) (hC9 : c_inv c) : M g 3 0 0 kX8_askAt [.ref 8, .int v] nq_ (hh sm Y c) (m_Q (va_rf (oW (y_a Y 0) v (c 23 0))) nq_ (hh sm Y c)) := by
  refine M_of_G (by decide +kernel) (Nat.le_of_ble_eq_true rfl) ?_
  obtain ⟨hI, hG, hgv, hov, hrw, hps⟩ := id hC9
  obtain ⟨hK, hT, hB, hP9, hA, hkf, haf, hbf⟩ := id hI
  have hA2 := hA.2
  have hT2 := hT.2
  have hK2 := hK.2
  have hB2 := hB.2
  have hG2 := hG.2
  have hP2 := hP9.2
  refine G_iload_n dX8_askAt_0 rfl rfl ?_
  refine G_if_lt (tgt := 29) dX8_askAt_1 (by decide) (fun c1 => ?_) (fun c1 => ?_)
  · skip
    refine G_null dX8_askAt_29 ?_
    refine G_aret (o := none) dX8_askAt_30 rfl (Or.inl ⟨_, rfl⟩) ?_
    first | exact ⟨congrArg (fun z => some (va_rf z)) (by unfold oW; rw [cif_t hw, ej]), rfl, rfl⟩ | exact ⟨congrArg (fun z => some (va_rf z)) (show none = oW _ _ _ from (cif_f (m_nwi hA (by decide) (Or.inl c1))).symm), rfl, rfl⟩ | exact ⟨congrArg (fun z => some (va_rf z)) (show none = oW _ _ _ from (cif_f (m_nwi hA (by decide) (Or.inr c12))).symm), rfl, rfl⟩
  · skip
    refine G_iload_n dX8_askAt_4 rfl rfl ?_
    refine G_aload_n dX8_askAt_5 rfl rfl ?_
    refine G_get dX8_askAt_6 fg_X8_22 (hx_8 _ _ _) rfl ?_
    refine GL_size3 dX8_askAt_9 (mc_X8_60 rfl) (Nat.le_of_ble_eq_true rfl) (Nat.le_of_ble_eq_true rfl) ?_
    refine G_icmp_ge (tgt := 29) dX8_askAt_12 (by decide) (fun c12 => ?_) (fun c12 => ?_)
    · skip
      refine G_null dX8_askAt_29 ?_
      refine G_aret (o := none) dX8_askAt_30 rfl (Or.inl ⟨_, rfl⟩) ?_
      first | exact ⟨congrArg (fun z => some (va_rf z)) (by unfold oW; rw [cif_t hw, ej]), rfl, rfl⟩ | exact ⟨congrArg (fun z => some (va_rf z)) (show none = oW _ _ _ from (cif_f (m_nwi hA (by decide) (Or.inl c1))).symm), rfl, rfl⟩ | exact ⟨congrArg (fun z => some (va_rf z)) (show none = oW _ _ _ from (cif_f (m_nwi hA (by decide) (Or.inr c12))).symm), rfl, rfl⟩
    · skip
      obtain ⟨j, hj, rfl, ej, hw⟩ := m_wi' hA (by decide) c1 c12
      refine G_aload_n dX8_askAt_15 rfl rfl ?_
      refine G_get dX8_askAt_16 fg_X8_22 (hx_8 _ _ _) rfl ?_
      refine G_iload_n dX8_askAt_19 rfl rfl ?_
      refine GL_get3 (i := j) (sz := mA c) dX8_askAt_20 (mc_X8_158 rfl) hY hA.1 hj (Nat.le_trans hA.2 (by decide)) (Nat.le_of_ble_eq_true rfl) (Nat.le_of_ble_eq_true rfl) ?_
      refine G_cast (ci := 0) dX8_askAt_23 rfl tw_558 (hx_A hY hj) ?_
      refine G_goto (tgt := 30) dX8_askAt_26 (by decide) ?_
      refine G_aret (o := (some (y_a Y 0 j))) dX8_askAt_30 rfl (Or.inl ⟨_, rfl⟩) ?_
      first | exact ⟨congrArg (fun z => some (va_rf z)) (by unfold oW; rw [cif_t hw, ej]), rfl, rfl⟩ | exact ⟨congrArg (fun z => some (va_rf z)) (show none = oW _ _ _ from (cif_f (m_nwi hA (by decide) (Or.inl c1))).symm), rfl, rfl⟩ | exact ⟨congrArg (fun z => some (va_rf z)) (show none = oW _ _ _ from (cif_f (m_nwi hA (by decide) (Or.inr c12))).symm), rfl, rfl⟩
