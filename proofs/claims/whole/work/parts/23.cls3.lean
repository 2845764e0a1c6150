set_option maxHeartbeats 4000000 in
set_option maxRecDepth 100000 in
theorem cx_freeFor {g : gT} {nq_ n9 : Nat} {sm : mS} {Y : cY} {c : mS} (a t : Nat) (hY : Yok Y c n9) (hC9 : c_inv c) (ha : a < mA c) (ht : t < mT c) : M g 4 0 0 kX8_isFreeFor [.ref 8, .ref (y_a Y 0 a), .ref (y_a Y 7 t)] nq_ (hh sm Y c) (m_Q (.int (b1 (s_free c (nI t) (c 30 a) (c 31 a) (nI a)))) nq_ (hh sm Y c)) := by
  refine M_of_G (by decide +kernel) (Nat.le_of_ble_eq_true rfl) ?_
  obtain ⟨hI, hG, hgv, hov, hrw, hps⟩ := id hC9
  obtain ⟨hK, hT, hB, hP9, hA, hkf, haf, hbf⟩ := id hI
  have hA2 := hA.2
  have hT2 := hT.2
  have hK2 := hK.2
  have hB2 := hB.2
  have hG2 := hG.2
  have hP2 := hP9.2
  refine G_aload_n dX8_isFreeFor_0 rfl rfl ?_
  refine G_aload_n dX8_isFreeFor_1 rfl rfl ?_
  refine G_aload_n dX8_isFreeFor_2 rfl rfl ?_
  refine G_aload_n dX8_isFreeFor_3 rfl rfl ?_
  refine G_get dX8_isFreeFor_4 fg_X8_207 (hx_A hY ha) rfl ?_
  refine G_aload_n dX8_isFreeFor_7 rfl rfl ?_
  refine G_get dX8_isFreeFor_8 fg_X8_198 (hx_A hY ha) rfl ?_
  refine G_callV (cx_freeA a t _ _ hY hC9 ha ht) dX8_isFreeFor_11 (mc_X8_272 rfl) tw_646 tw_14 (hx_8 _ _ _) rfl rfl rfl (Nat.le_of_ble_eq_true rfl) (Nat.le_of_ble_eq_true rfl) (Nat.le_of_ble_eq_true rfl) (Nat.le_of_ble_eq_true rfl) ?_
  rintro _ n9_ _ ⟨rfl, e9_, rfl⟩
  obtain rfl := e9_.symm
  refine G_zret dX8_isFreeFor_14 rfl b1_n ?_
  exact ⟨rfl, rfl, rfl⟩
def c_can (c : mS) (f l : Int32) : Prop := c 11 0 ≤ f ∧ l ≤ c 11 0 + 60 ∧ f ≤ l ∧ l - f < 15
noncomputable def c_hind (c : mS) (a t : Nat) : Int32 := cif (c 11 0 < c 30 a) (-2) (cif (40 < c 9 (ix (c 27 a))) (-3) (cif (¬ c 51 t = -1) (-4) (cif (¬ c_lets c t (c 31 a)) (-5) (cif (c_cared c t) 0 (-6)))))
set_option maxHeartbeats 4000000 in
set_option maxRecDepth 100000 in
theorem cx_can {g : gT} {nq_ n9 : Nat} {sm : mS} {Y : cY} {c : mS} (f l : Int32) (hY : Yok Y c n9) (hC9 : c_inv c) : M g 0 0 0 kX8_canBeAsked [.ref 8, .int f, .int l] nq_ (hh sm Y c) (m_Q (.int (b1 (c_can c f l))) nq_ (hh sm Y c)) := by
  refine M_of_G (by decide +kernel) (Nat.le_of_ble_eq_true rfl) ?_
  obtain ⟨hI, hG, hgv, hov, hrw, hps⟩ := id hC9
  obtain ⟨hK, hT, hB, hP9, hA, hkf, haf, hbf⟩ := id hI
  have hA2 := hA.2
  have hT2 := hT.2
  have hK2 := hK.2
  have hB2 := hB.2
  have hG2 := hG.2
  have hP2 := hP9.2
  refine G_iload_n dX8_canBeAsked_0 rfl rfl ?_
  refine G_aload_n dX8_canBeAsked_1 rfl rfl ?_
  refine G_get dX8_canBeAsked_2 fg_X8_56 (hx_8 _ _ _) rfl ?_
  refine G_icmp_lt (tgt := 36) dX8_canBeAsked_5 (by decide) (fun c5 => ?_) (fun c5 => ?_)
  · skip
    refine G_iconst (v := 0) dX8_canBeAsked_36 rfl ?_
    refine G_zret dX8_canBeAsked_37 rfl rfl ?_
    first | exact q_t ⟨Int32.not_lt.mp c5, Int32.not_lt.mp c16, Int32.not_lt.mp c21, Int32.not_le.mp c29⟩ | exact q_f (fun q => absurd q.1 (Int32.not_le.mpr c5)) | exact q_f (fun q => absurd q.2.1 (Int32.not_le.mpr c16)) | exact q_f (fun q => absurd q.2.2.1 (Int32.not_le.mpr c21)) | exact q_f (fun q => absurd q.2.2.2 (Int32.not_lt.mpr c29))
  · skip
    refine G_iload_n dX8_canBeAsked_8 rfl rfl ?_
    refine G_aload_n dX8_canBeAsked_9 rfl rfl ?_
    refine G_get dX8_canBeAsked_10 fg_X8_56 (hx_8 _ _ _) rfl ?_
    refine G_bipush (v := 60) dX8_canBeAsked_13 rfl ?_
    refine G_iadd dX8_canBeAsked_15 ?_
    refine G_icmp_gt (tgt := 36) dX8_canBeAsked_16 (by decide) (fun c16 => ?_) (fun c16 => ?_)
    · skip
      refine G_iconst (v := 0) dX8_canBeAsked_36 rfl ?_
      refine G_zret dX8_canBeAsked_37 rfl rfl ?_
      first | exact q_t ⟨Int32.not_lt.mp c5, Int32.not_lt.mp c16, Int32.not_lt.mp c21, Int32.not_le.mp c29⟩ | exact q_f (fun q => absurd q.1 (Int32.not_le.mpr c5)) | exact q_f (fun q => absurd q.2.1 (Int32.not_le.mpr c16)) | exact q_f (fun q => absurd q.2.2.1 (Int32.not_le.mpr c21)) | exact q_f (fun q => absurd q.2.2.2 (Int32.not_lt.mpr c29))
    · skip
      refine G_iload_n dX8_canBeAsked_19 rfl rfl ?_
      refine G_iload_n dX8_canBeAsked_20 rfl rfl ?_
      refine G_icmp_gt (tgt := 36) dX8_canBeAsked_21 (by decide) (fun c21 => ?_) (fun c21 => ?_)
      · skip
        refine G_iconst (v := 0) dX8_canBeAsked_36 rfl ?_
        refine G_zret dX8_canBeAsked_37 rfl rfl ?_
        first | exact q_t ⟨Int32.not_lt.mp c5, Int32.not_lt.mp c16, Int32.not_lt.mp c21, Int32.not_le.mp c29⟩ | exact q_f (fun q => absurd q.1 (Int32.not_le.mpr c5)) | exact q_f (fun q => absurd q.2.1 (Int32.not_le.mpr c16)) | exact q_f (fun q => absurd q.2.2.1 (Int32.not_le.mpr c21)) | exact q_f (fun q => absurd q.2.2.2 (Int32.not_lt.mpr c29))
      · skip
        refine G_iload_n dX8_canBeAsked_24 rfl rfl ?_
        refine G_iload_n dX8_canBeAsked_25 rfl rfl ?_
        refine G_isub dX8_canBeAsked_26 ?_
        refine G_bipush (v := 15) dX8_canBeAsked_27 rfl ?_
        refine G_icmp_ge (tgt := 36) dX8_canBeAsked_29 (by decide) (fun c29 => ?_) (fun c29 => ?_)
        · skip
          refine G_iconst (v := 0) dX8_canBeAsked_36 rfl ?_
          refine G_zret dX8_canBeAsked_37 rfl rfl ?_
          first | exact q_t ⟨Int32.not_lt.mp c5, Int32.not_lt.mp c16, Int32.not_lt.mp c21, Int32.not_le.mp c29⟩ | exact q_f (fun q => absurd q.1 (Int32.not_le.mpr c5)) | exact q_f (fun q => absurd q.2.1 (Int32.not_le.mpr c16)) | exact q_f (fun q => absurd q.2.2.1 (Int32.not_le.mpr c21)) | exact q_f (fun q => absurd q.2.2.2 (Int32.not_lt.mpr c29))
        · skip
          refine G_iconst (v := 1) dX8_canBeAsked_32 rfl ?_
          refine G_goto (tgt := 37) dX8_canBeAsked_33 (by decide) ?_
          refine G_zret dX8_canBeAsked_37 rfl rfl ?_
          first | exact q_t ⟨Int32.not_lt.mp c5, Int32.not_lt.mp c16, Int32.not_lt.mp c21, Int32.not_le.mp c29⟩ | exact q_f (fun q => absurd q.1 (Int32.not_le.mpr c5)) | exact q_f (fun q => absurd q.2.1 (Int32.not_le.mpr c16)) | exact q_f (fun q => absurd q.2.2.1 (Int32.not_le.mpr c21)) | exact q_f (fun q => absurd q.2.2.2 (Int32.not_lt.mpr c29))
set_option maxHeartbeats 4000000 in
set_option maxRecDepth 100000 in
theorem cx_hind {g : gT} {nq_ n9 : Nat} {sm : mS} {Y : cY} {c : mS} (a t : Nat) (hY : Yok Y c n9) (hC9 : c_inv c) (ha : a < mA c) (ht : t < mT c) : M g 2 0 0 kX8_hindranceOf [.ref 8, .ref (y_a Y 0 a), .ref (y_a Y 7 t)] nq_ (hh sm Y c) (m_Q (.int (c_hind c a t)) nq_ (hh sm Y c)) := by
  refine M_of_G (by decide +kernel) (Nat.le_of_ble_eq_true rfl) ?_
  obtain ⟨hI, hG, hgv, hov, hrw, hps⟩ := id hC9
  obtain ⟨hK, hT, hB, hP9, hA, hkf, haf, hbf⟩ := id hI
  have hA2 := hA.2
  have hT2 := hT.2
  have hK2 := hK.2
  have hB2 := hB.2
  have hG2 := hG.2
  have hP2 := hP9.2
  refine G_aload_n dX8_hindranceOf_0 rfl rfl ?_
  refine G_get dX8_hindranceOf_1 fg_X8_56 (hx_8 _ _ _) rfl ?_
  refine G_aload_n dX8_hindranceOf_4 rfl rfl ?_
  refine G_get dX8_hindranceOf_5 fg_X8_207 (hx_A hY ha) rfl ?_
  refine G_icmp_ge (tgt := 14) dX8_hindranceOf_8 (by decide) (fun c8 => ?_) (fun c8 => ?_)
  · skip
    refine G_aload_n dX8_hindranceOf_14 rfl rfl ?_
    refine G_get dX8_hindranceOf_15 fg_X8_191 (hx_A hY ha) rfl ?_
    refine G_get dX8_hindranceOf_18 fg_X8_227 (hx_B hY (haf _ ha).2.1.2) rfl ?_
    refine G_bipush (v := 40) dX8_hindranceOf_21 rfl ?_
    refine G_icmp_le (tgt := 29) dX8_hindranceOf_23 (by decide) (fun c23 => ?_) (fun c23 => ?_)
    · skip
      refine G_aload_n dX8_hindranceOf_29 rfl rfl ?_
      refine G_get dX8_hindranceOf_30 fg_X8_127 (hx_T hY ht) rfl ?_
      refine G_ifnullR (o := (oR (y_a Y 0) (c 51 t))) (tgt := 39) dX8_hindranceOf_33 (by decide) (fun c33 => ?_) (fun i33 c33 => ?_)
      · skip
        have e33 := oR_no.mp c33
        refine G_aload_n dX8_hindranceOf_39 rfl rfl ?_
        refine G_get dX8_hindranceOf_40 fg_X8_45 (hx_8 _ _ _) rfl ?_
        refine G_aload_n dX8_hindranceOf_43 rfl rfl ?_
        refine G_aload_n dX8_hindranceOf_44 rfl rfl ?_
        refine G_get dX8_hindranceOf_45 fg_X8_198 (hx_A hY ha) rfl ?_
        refine G_callV (cx_lets t _ hY hC9 ht) dX8_hindranceOf_48 (mc_X8_134 rfl) tw_535 tw_536 (hx_18 _ _ _) rfl rfl rfl (Nat.le_of_ble_eq_true rfl) (Nat.le_of_ble_eq_true rfl) (Nat.le_of_ble_eq_true rfl) (Nat.le_of_ble_eq_true rfl) ?_
        rintro _ n9_ _ ⟨rfl, e9_, rfl⟩
        obtain rfl := e9_.symm
        refine G_if_ne (tgt := 57) dX8_hindranceOf_51 (by decide) (fun c51 => ?_) (fun c51 => ?_)
        · skip
          refine G_aload_n dX8_hindranceOf_57 rfl rfl ?_
          refine G_aload_n dX8_hindranceOf_58 rfl rfl ?_
          refine G_get dX8_hindranceOf_59 fg_X8_56 (hx_8 _ _ _) rfl ?_
          refine G_callV (cx_cared t hY hC9 ht) dX8_hindranceOf_62 (mc_X8_312 rfl) tw_724 tw_725 (hx_T hY ht) rfl rfl rfl (Nat.le_of_ble_eq_true rfl) (Nat.le_of_ble_eq_true rfl) (Nat.le_of_ble_eq_true rfl) (Nat.le_of_ble_eq_true rfl) ?_
          rintro _ n9_ _ ⟨rfl, e9_, rfl⟩
          obtain rfl := e9_.symm
          refine G_if_eq (tgt := 72) dX8_hindranceOf_65 (by decide) (fun c65 => ?_) (fun c65 => ?_)
          · skip
            refine G_bipush (v := -6) dX8_hindranceOf_72 rfl ?_
            refine G_iret dX8_hindranceOf_74 rfl ?_
            first | exact q_e ((cif_f (Int32.not_lt.mpr c8)).trans ((cif_f (Int32.not_lt.mpr c23)).trans ((cif_f (fun z => z e33)).trans ((cif_f (fun z => z (b1_1 c51))).trans (cif_t (b1_1 c65)))))) | exact q_e ((cif_f (Int32.not_lt.mpr c8)).trans ((cif_f (Int32.not_lt.mpr c23)).trans ((cif_f (fun z => z e33)).trans ((cif_f (fun z => z (b1_1 c51))).trans (cif_f (b1_0.mp c65))))))
          · skip
            refine G_iconst (v := 0) dX8_hindranceOf_68 rfl ?_
            refine G_goto (tgt := 74) dX8_hindranceOf_69 (by decide) ?_
            refine G_iret dX8_hindranceOf_74 rfl ?_
            first | exact q_e ((cif_f (Int32.not_lt.mpr c8)).trans ((cif_f (Int32.not_lt.mpr c23)).trans ((cif_f (fun z => z e33)).trans ((cif_f (fun z => z (b1_1 c51))).trans (cif_t (b1_1 c65)))))) | exact q_e ((cif_f (Int32.not_lt.mpr c8)).trans ((cif_f (Int32.not_lt.mpr c23)).trans ((cif_f (fun z => z e33)).trans ((cif_f (fun z => z (b1_1 c51))).trans (cif_f (b1_0.mp c65))))))
        · skip
          refine G_bipush (v := -5) dX8_hindranceOf_54 rfl ?_
          refine G_iret dX8_hindranceOf_56 rfl ?_
          exact q_e ((cif_f (Int32.not_lt.mpr c8)).trans ((cif_f (Int32.not_lt.mpr c23)).trans ((cif_f (fun z => z e33)).trans (cif_t (b1_0.mp c51)))))
      · skip
        obtain ⟨e33, rfl⟩ := oR_so c33
        refine G_bipush (v := -4) dX8_hindranceOf_36 rfl ?_
        refine G_iret dX8_hindranceOf_38 rfl ?_
        exact q_e ((cif_f (Int32.not_lt.mpr c8)).trans ((cif_f (Int32.not_lt.mpr c23)).trans (cif_t e33)))
    · skip
      refine G_bipush (v := -3) dX8_hindranceOf_26 rfl ?_
      refine G_iret dX8_hindranceOf_28 rfl ?_
      exact q_e ((cif_f (Int32.not_lt.mpr c8)).trans (cif_t (Int32.not_le.mp c23)))
  · skip
    refine G_bipush (v := -2) dX8_hindranceOf_11 rfl ?_
    refine G_iret dX8_hindranceOf_13 rfl ?_
    exact q_e (cif_t (Int32.not_le.mp c8))
noncomputable def cp_look (c : mS) (t : Int32) : mS × Int32 := cif (wi t 0 (c 5 0 - 1) ∧ c 51 (ix t) = -1) (m_set c 7 (ix t) (c 11 0), 1) (c, 0)
noncomputable def cp_lawful (c : mS) (t l : Int32) : mS × Int32 := (c, cif (wi t 0 (c 5 0 - 1) ∧ c 11 0 ≤ l) (b1 (c_lets c (ix t) l)) (-1))
noncomputable def c_tof (c : mS) (t : Nat) : Nat → Int32
  | 0 => nI (ix (c 6 t))
  | 1 => c 7 t
  | 2 => cif (c 51 t = -1) (-1) (nI (ix (c 51 t)))
  | 3 => b1 (c_late c t)
  | 4 => nI (ct (fun a => c 24 a = 1 ∧ c 25 a = nI t) (mA c))
  | _ => -1
noncomputable def cp_thingOf (c : mS) (t w : Int32) : mS × Int32 := (c, cif (wi t 0 (c 5 0 - 1)) (cif (wi w 0 4) (c_tof c (ix t) (ix w)) (-1)) (-1))
def c_mof (c : mS) (m : Nat) : Nat → Int32
  | 0 => c 9 m
  | 1 => c 10 m
  | 2 => c 52 m
  | _ => -1
noncomputable def cp_memberOf (c : mS) (m w : Int32) : mS × Int32 := (c, cif (wi m 0 (c 8 0 - 1)) (cif (wi w 0 2) (c_mof c (ix m) (ix w)) (-1)) (-1))
noncomputable def cp_count (c : mS) (w : Int32) : mS × Int32 := (c, cif (wi w 10 16) (nI (ct (fun a => c 24 a = w - 10) (mA c))) (cif (wi w 20 27) (c 15 (ix (w - 20))) (cif (wi w 0 6) (s_cnt c (ix w)) (-1))))
noncomputable def cp_work (c : mS) (m h : Int32) : mS × Int32 := cif (wi m 0 (c 8 0 - 1) ∧ wi h 1 100) (m_set c 9 (ix m) (mx 0 (c 9 (ix m) - h)), mx 0 (c 9 (ix m) - h)) (c, -1)
noncomputable def cp_out (c : mS) (a : Int32) : mS × Int32 := cif (wi a 0 (c 23 0 - 1) ∧ c 24 (ix a) = 1) (cif (c_hind c (ix a) (ix (c 25 (ix a))) = 0) (m_set (m_set (m_set c 24 (ix a) 3) 51 (ix (c 25 (ix a))) (nI (ix a))) 52 (ix (c 27 (ix a))) (c 52 (ix (c 27 (ix a))) + 1), 0) (c, c_hind c (ix a) (ix (c 25 (ix a))))) (c, -1)
noncomputable def c_bh (c : mS) (a : Nat) : Int32 := mx 0 (c 11 0 - c 31 a)
noncomputable def cp_back (c : mS) (a : Int32) : mS × Int32 := cif (wi a 0 (c 23 0 - 1) ∧ c 24 (ix a) = 3)
  (m_set (m_set (m_set (m_set (m_set (m_set (m_set c 9 (ix (c 27 (ix a))) (c 9 (ix (c 27 (ix a))) + (c 31 (ix a) - c 30 (ix a) + 1 + 2 * c_bh c (ix a)))) 10 (ix (c 27 (ix a))) (c 10 (ix (c 27 (ix a))) + (c 31 (ix a) - c 30 (ix a) + 1 + 2 * c_bh c (ix a)) * c 4 (ix (c 6 (ix (c 25 (ix a))))))) 52 (ix (c 27 (ix a))) (c 52 (ix (c 27 (ix a))) - 1)) 51 (ix (c 25 (ix a))) (-1)) 50 (ix (c 25 (ix a))) (c 11 0)) 24 (ix a) 4) 33 (ix a) (c 11 0), c_bh c (ix a)) (c, -1)
set_option maxHeartbeats 4000000 in
set_option maxRecDepth 100000 in
theorem cp9_place {g : gT} {nq_ n9 : Nat} {sm : mS} {Y : cY} {c : mS}  (hY : Yok Y c n9) (hC9 : c_inv c) : M g 0 0 0 kX8_place [.ref 8] nq_ (hh sm Y c) (c_S (.int (((c, c 18 0) : mS × Int32)).2) nq_ sm Y (((c, c 18 0) : mS × Int32)).1) := by
  refine M_of_G (by decide +kernel) (Nat.le_of_ble_eq_true rfl) ?_
  obtain ⟨hI, hG, hgv, hov, hrw, hps⟩ := id hC9
  obtain ⟨hK, hT, hB, hP9, hA, hkf, haf, hbf⟩ := id hI
  have hA2 := hA.2
  have hT2 := hT.2
  have hK2 := hK.2
  have hB2 := hB.2
  have hG2 := hG.2
  have hP2 := hP9.2
  refine G_aload_n dX8_place_0 rfl rfl ?_
  refine G_get dX8_place_1 fg_X8_45 (hx_8 _ _ _) rfl ?_
  refine G_get dX8_place_4 fg_X8_111 (hx_18 _ _ _) rfl ?_
  refine G_iret dX8_place_7 rfl ?_
  exact ⟨rfl, rfl, rfl⟩
set_option maxHeartbeats 4000000 in
set_option maxRecDepth 100000 in
theorem cp9_end {g : gT} {nq_ n9 : Nat} {sm : mS} {Y : cY} {c : mS} (v : Int32) (hY : Yok Y c n9) (hC9 : c_inv c) : M g 1 0 0 kX8_end [.ref 8, .int v] nq_ (hh sm Y c) (c_S (.int (sp_end c v).2) nq_ sm Y (sp_end c v).1) := by
  refine M_of_G (by decide +kernel) (Nat.le_of_ble_eq_true rfl) ?_
  obtain ⟨hI, hG, hgv, hov, hrw, hps⟩ := id hC9
  obtain ⟨hK, hT, hB, hP9, hA, hkf, haf, hbf⟩ := id hI
  have hA2 := hA.2
  have hT2 := hT.2
  have hK2 := hK.2
  have hB2 := hB.2
  have hG2 := hG.2
  have hP2 := hP9.2
  refine G_iload_n dX8_end_0 rfl rfl ?_
  refine G_iconst (v := 0) dX8_end_1 rfl ?_
  refine G_aload_n dX8_end_2 rfl rfl ?_
  refine G_get dX8_end_3 fg_X8_31 (hx_8 _ _ _) rfl ?_
  refine G_get dX8_end_6 fg_X8_98 (hx_14 _ _ _) rfl ?_
  refine G_callS (cx_within _ _ _) dX8_end_9 (mc_X8_64 rfl) tw_236 rfl rfl (Nat.le_of_ble_eq_true rfl) (Nat.le_of_ble_eq_true rfl) (Nat.le_of_ble_eq_true rfl) (Nat.le_of_ble_eq_true rfl) ?_
  rintro _ n9_ _ ⟨rfl, e9_, rfl⟩
  obtain rfl := e9_.symm
  refine G_if_ne (tgt := 17) dX8_end_12 (by decide) (fun c12 => ?_) (fun c12 => ?_)
  · skip
    refine G_aload_n dX8_end_17 rfl rfl ?_
    refine G_get dX8_end_18 fg_X8_31 (hx_8 _ _ _) rfl ?_
    refine G_iload_n dX8_end_21 rfl rfl ?_
    refine GC_len dX8_end_22 fp_X8_98 ?_
    refine G_iload_n dX8_end_25 rfl rfl ?_
    refine G_iret dX8_end_26 rfl ?_
    exact c_close (cif_t (b1_1 c12))
  · skip
    refine G_iconst (v := -1) dX8_end_15 rfl ?_
    refine G_iret dX8_end_16 rfl ?_
    exact c_close (cif_f (b1_0.mp c12))
set_option maxHeartbeats 4000000 in
set_option maxRecDepth 100000 in
theorem cp9_look {g : gT} {nq_ n9 : Nat} {sm : mS} {Y : cY} {c : mS} (t : Int32) (hY : Yok Y c n9) (hC9 : c_inv c) : M g 4 0 0 kX8_look [.ref 8, .int t] nq_ (hh sm Y c) (c_S (.int (cp_look c t).2) nq_ sm Y (cp_look c t).1) := by
  refine M_of_G (by decide +kernel) (Nat.le_of_ble_eq_true rfl) ?_
  obtain ⟨hI, hG, hgv, hov, hrw, hps⟩ := id hC9
  obtain ⟨hK, hT, hB, hP9, hA, hkf, haf, hbf⟩ := id hI
  have hA2 := hA.2
  have hT2 := hT.2
  have hK2 := hK.2
  have hB2 := hB.2
  have hG2 := hG.2
  have hP2 := hP9.2
  refine G_aload_n dX8_look_0 rfl rfl ?_
  refine G_iload_n dX8_look_1 rfl rfl ?_
  refine G_callV (cx_thingAt t hY hC9) dX8_look_2 (mc_X8_123 rfl) tw_528 tw_8 (hx_8 _ _ _) rfl rfl rfl (Nat.le_of_ble_eq_true rfl) (Nat.le_of_ble_eq_true rfl) (Nat.le_of_ble_eq_true rfl) (Nat.le_of_ble_eq_true rfl) ?_
  rintro _ n9_ _ ⟨rfl, e9_, rfl⟩
  obtain rfl := e9_.symm
  by_cases hw2 : wi t 0 (c 5 0 - 1)
  · obtain ⟨j, hj, rfl⟩ := m_ixe hT (by decide) hw2
    have ej : ix (nI j) = j := nI_clamp (by omega)
    refine G_top (w := .ref (y_a Y 7 j)) (by unfold oW; rw [cif_t hw2, ej]; rfl) ?_
    refine G_astore_n dX8_look_5 rfl (Nat.le_of_ble_eq_true rfl) rfl ?_
    refine G_aload_n dX8_look_6 rfl rfl ?_
    refine G_ifnull dX8_look_7 ?_
    refine G_aload_n dX8_look_10 rfl rfl ?_
    refine G_get dX8_look_11 fg_X8_127 (hx_T hY hj) rfl ?_
    refine G_ifnullR (o := (oR (y_a Y 0) (c 51 j))) (tgt := 19) dX8_look_14 (by decide) (fun c14 => ?_) (fun i14 c14 => ?_)
    · skip
      have e14 := oR_no.mp c14
      refine G_aload_n dX8_look_19 rfl rfl ?_
      refine G_aload_n dX8_look_20 rfl rfl ?_
      refine G_get dX8_look_21 fg_X8_56 (hx_8 _ _ _) rfl ?_
      refine GC_look dX8_look_24 fp_X8_131 hY hj ?_
      refine G_iconst (v := 1) dX8_look_27 rfl ?_
      refine G_zret dX8_look_28 rfl rfl ?_
      refine c_close ?_; unfold cp_look; rw [ej]; exact cif_t ⟨hw2, e14⟩
    · skip
      obtain ⟨e14, rfl⟩ := oR_so c14
      refine G_iconst (v := 0) dX8_look_17 rfl ?_
      refine G_zret dX8_look_18 rfl rfl ?_
      first | exact c_close (cif_f (fun q => hw2 q.1)) | exact c_close (cif_f (fun q => e14 (by rw [← ej]; exact q.2)))
  · refine G_top (w := .null) (by unfold oW; rw [cif_f hw2]; rfl) ?_
    refine G_astore_nN dX8_look_5 rfl (Nat.le_of_ble_eq_true rfl) rfl ?_
    refine G_aload_nN dX8_look_6 rfl rfl ?_
    refine G_ifnullN (tgt := 17) dX8_look_7 (by decide) ?_
    refine G_iconst (v := 0) dX8_look_17 rfl ?_
    refine G_zret dX8_look_18 rfl rfl ?_
    first | exact c_close (cif_f (fun q => hw2 q.1)) | exact c_close (cif_f (fun q => e14 (by rw [← ej]; exact q.2)))
set_option maxHeartbeats 4000000 in
set_option maxRecDepth 100000 in
theorem cp9_lawful {g : gT} {nq_ n9 : Nat} {sm : mS} {Y : cY} {c : mS} (t l : Int32) (hY : Yok Y c n9) (hC9 : c_inv c) : M g 4 0 0 kX8_lawful [.ref 8, .int t, .int l] nq_ (hh sm Y c) (c_S (.int (cp_lawful c t l).2) nq_ sm Y (cp_lawful c t l).1) := by
  refine M_of_G (by decide +kernel) (Nat.le_of_ble_eq_true rfl) ?_
  obtain ⟨hI, hG, hgv, hov, hrw, hps⟩ := id hC9
  obtain ⟨hK, hT, hB, hP9, hA, hkf, haf, hbf⟩ := id hI
  have hA2 := hA.2
  have hT2 := hT.2
  have hK2 := hK.2
  have hB2 := hB.2
  have hG2 := hG.2
  have hP2 := hP9.2
  refine G_aload_n dX8_lawful_0 rfl rfl ?_
  refine G_iload_n dX8_lawful_1 rfl rfl ?_
  refine G_callV (cx_thingAt t hY hC9) dX8_lawful_2 (mc_X8_123 rfl) tw_528 tw_8 (hx_8 _ _ _) rfl rfl rfl (Nat.le_of_ble_eq_true rfl) (Nat.le_of_ble_eq_true rfl) (Nat.le_of_ble_eq_true rfl) (Nat.le_of_ble_eq_true rfl) ?_
  rintro _ n9_ _ ⟨rfl, e9_, rfl⟩
  obtain rfl := e9_.symm
  by_cases hw2 : wi t 0 (c 5 0 - 1)
  · obtain ⟨j, hj, rfl⟩ := m_ixe hT (by decide) hw2
    have ej : ix (nI j) = j := nI_clamp (by omega)
    refine G_top (w := .ref (y_a Y 7 j)) (by unfold oW; rw [cif_t hw2, ej]; rfl) ?_
    refine G_astore_n dX8_lawful_5 rfl (Nat.le_of_ble_eq_true rfl) rfl ?_
    refine G_aload_n dX8_lawful_6 rfl rfl ?_
    refine G_ifnull dX8_lawful_7 ?_
    refine G_iload_n dX8_lawful_10 rfl rfl ?_
    refine G_aload_n dX8_lawful_11 rfl rfl ?_
    refine G_get dX8_lawful_12 fg_X8_56 (hx_8 _ _ _) rfl ?_
    refine G_icmp_ge (tgt := 20) dX8_lawful_15 (by decide) (fun c15 => ?_) (fun c15 => ?_)
    · skip
      refine G_aload_n dX8_lawful_20 rfl rfl ?_
      refine G_get dX8_lawful_21 fg_X8_45 (hx_8 _ _ _) rfl ?_
      refine G_aload_n dX8_lawful_24 rfl rfl ?_
      refine G_iload_n dX8_lawful_25 rfl rfl ?_
      refine G_callV (cx_lets j _ hY hC9 hj) dX8_lawful_26 (mc_X8_134 rfl) tw_535 tw_536 (hx_18 _ _ _) rfl rfl rfl (Nat.le_of_ble_eq_true rfl) (Nat.le_of_ble_eq_true rfl) (Nat.le_of_ble_eq_true rfl) (Nat.le_of_ble_eq_true rfl) ?_
      rintro _ n9_ _ ⟨rfl, e9_, rfl⟩
      obtain rfl := e9_.symm
      refine G_if_eq (tgt := 36) dX8_lawful_29 (by decide) (fun c29 => ?_) (fun c29 => ?_)
      · skip
        refine G_iconst (v := 0) dX8_lawful_36 rfl ?_
        refine G_iret dX8_lawful_37 rfl ?_
        refine c_close (Prod.ext rfl ?_); show cif _ (b1 (c_lets c (ix (nI j)) l)) _ = _; rw [ej, cif_t ⟨hw2, c15⟩]; first | exact c29 | exact b1_t (b1_1 c29)
      · skip
        refine G_iconst (v := 1) dX8_lawful_32 rfl ?_
        refine G_goto (tgt := 37) dX8_lawful_33 (by decide) ?_
        refine G_iret dX8_lawful_37 rfl ?_
        refine c_close (Prod.ext rfl ?_); show cif _ (b1 (c_lets c (ix (nI j)) l)) _ = _; rw [ej, cif_t ⟨hw2, c15⟩]; first | exact c29 | exact b1_t (b1_1 c29)
    · skip
      refine G_iconst (v := -1) dX8_lawful_18 rfl ?_
      refine G_iret dX8_lawful_19 rfl ?_
      first | exact c_close (Prod.ext rfl (cif_f (fun q => hw2 q.1))) | exact c_close (Prod.ext rfl (cif_f (fun q => c15 q.2)))
  · refine G_top (w := .null) (by unfold oW; rw [cif_f hw2]; rfl) ?_
    refine G_astore_nN dX8_lawful_5 rfl (Nat.le_of_ble_eq_true rfl) rfl ?_
    refine G_aload_nN dX8_lawful_6 rfl rfl ?_
    refine G_ifnullN (tgt := 18) dX8_lawful_7 (by decide) ?_
    refine G_iconst (v := -1) dX8_lawful_18 rfl ?_
    refine G_iret dX8_lawful_19 rfl ?_
    first | exact c_close (Prod.ext rfl (cif_f (fun q => hw2 q.1))) | exact c_close (Prod.ext rfl (cif_f (fun q => c15 q.2)))
set_option maxHeartbeats 4000000 in
set_option maxRecDepth 100000 in
theorem cp9_off {g : gT} {nq_ n9 : Nat} {sm : mS} {Y : cY} {c : mS} (a : Int32) (hY : Yok Y c n9) (hC9 : c_inv c) : M g 4 0 0 kX8_off [.ref 8, .int a] nq_ (hh sm Y c) (c_S (.int (sp_off c a).2) nq_ sm Y (sp_off c a).1) := by
  refine M_of_G (by decide +kernel) (Nat.le_of_ble_eq_true rfl) ?_
  obtain ⟨hI, hG, hgv, hov, hrw, hps⟩ := id hC9
  obtain ⟨hK, hT, hB, hP9, hA, hkf, haf, hbf⟩ := id hI
  have hA2 := hA.2
  have hT2 := hT.2
  have hK2 := hK.2
  have hB2 := hB.2
  have hG2 := hG.2
  have hP2 := hP9.2
  refine G_aload_n dX8_off_0 rfl rfl ?_
  refine G_iload_n dX8_off_1 rfl rfl ?_
  refine G_callV (cx_askAt a hY hC9) dX8_off_2 (mc_X8_179 rfl) tw_713 tw_21 (hx_8 _ _ _) rfl rfl rfl (Nat.le_of_ble_eq_true rfl) (Nat.le_of_ble_eq_true rfl) (Nat.le_of_ble_eq_true rfl) (Nat.le_of_ble_eq_true rfl) ?_
  rintro _ n9_ _ ⟨rfl, e9_, rfl⟩
  obtain rfl := e9_.symm
  by_cases hw2 : wi a 0 (c 23 0 - 1)
  · obtain ⟨j, hj, rfl⟩ := m_ixe hA (by decide) hw2
    have ej : ix (nI j) = j := nI_clamp (by omega)
    refine G_top (w := .ref (y_a Y 0 j)) (by unfold oW; rw [cif_t hw2, ej]; rfl) ?_
    refine G_astore_n dX8_off_5 rfl (Nat.le_of_ble_eq_true rfl) rfl ?_
    refine G_aload_n dX8_off_6 rfl rfl ?_
    refine G_ifnull dX8_off_7 ?_
    refine G_aload_n dX8_off_10 rfl rfl ?_
    refine G_get dX8_off_11 fg_X8_162 (hx_A hY hj) rfl ?_
    refine G_if_eq (tgt := 27) dX8_off_14 (by decide) (fun c14 => ?_) (fun c14 => ?_)
    · skip
      refine G_aload_n dX8_off_27 rfl rfl ?_
      refine G_bipush (v := 6) dX8_off_28 rfl ?_
      refine GC_state dX8_off_30 fp_X8_162 hY hj ?_
      refine G_iconst (v := 1) dX8_off_33 rfl ?_
      refine G_zret dX8_off_34 rfl rfl ?_
      refine c_close ?_; unfold sp_off; rw [ej]; first | exact cif_t ⟨hw2, Or.inl c14⟩ | exact cif_t ⟨hw2, Or.inr c22⟩
    · skip
      refine G_aload_n dX8_off_17 rfl rfl ?_
      refine G_get dX8_off_18 fg_X8_162 (hx_A hY hj) rfl ?_
      refine G_iconst (v := 1) dX8_off_21 rfl ?_
      refine G_icmp_eq (tgt := 27) dX8_off_22 (by decide) (fun c22 => ?_) (fun c22 => ?_)
      · skip
        refine G_aload_n dX8_off_27 rfl rfl ?_
        refine G_bipush (v := 6) dX8_off_28 rfl ?_
        refine GC_state dX8_off_30 fp_X8_162 hY hj ?_
        refine G_iconst (v := 1) dX8_off_33 rfl ?_
        refine G_zret dX8_off_34 rfl rfl ?_
        refine c_close ?_; unfold sp_off; rw [ej]; first | exact cif_t ⟨hw2, Or.inl c14⟩ | exact cif_t ⟨hw2, Or.inr c22⟩
      · skip
        refine G_iconst (v := 0) dX8_off_25 rfl ?_
        refine G_zret dX8_off_26 rfl rfl ?_
        first | exact c_close (cif_f (fun q => hw2 q.1)) | exact c_close (cif_f (fun q => by rw [ej] at q; exact q.2.elim c14 c22))
  · refine G_top (w := .null) (by unfold oW; rw [cif_f hw2]; rfl) ?_
    refine G_astore_nN dX8_off_5 rfl (Nat.le_of_ble_eq_true rfl) rfl ?_
    refine G_aload_nN dX8_off_6 rfl rfl ?_
    refine G_ifnullN (tgt := 25) dX8_off_7 (by decide) ?_
    refine G_iconst (v := 0) dX8_off_25 rfl ?_
    refine G_zret dX8_off_26 rfl rfl ?_
    first | exact c_close (cif_f (fun q => hw2 q.1)) | exact c_close (cif_f (fun q => by rw [ej] at q; exact q.2.elim c14 c22))
set_option maxHeartbeats 4000000 in
set_option maxRecDepth 100000 in
theorem cp9_work {g : gT} {nq_ n9 : Nat} {sm : mS} {Y : cY} {c : mS} (m v : Int32) (hY : Yok Y c n9) (hC9 : c_inv c) : M g 4 0 0 kX8_work [.ref 8, .int m, .int v] nq_ (hh sm Y c) (c_S (.int (cp_work c m v).2) nq_ sm Y (cp_work c m v).1) := by
  refine M_of_G (by decide +kernel) (Nat.le_of_ble_eq_true rfl) ?_
  obtain ⟨hI, hG, hgv, hov, hrw, hps⟩ := id hC9
  obtain ⟨hK, hT, hB, hP9, hA, hkf, haf, hbf⟩ := id hI
  have hA2 := hA.2
  have hT2 := hT.2
  have hK2 := hK.2
  have hB2 := hB.2
  have hG2 := hG.2
  have hP2 := hP9.2
  refine G_aload_n dX8_work_0 rfl rfl ?_
  refine G_iload_n dX8_work_1 rfl rfl ?_
  refine G_callV (cx_memberAt m hY hC9) dX8_work_2 (mc_X8_138 rfl) tw_548 tw_9 (hx_8 _ _ _) rfl rfl rfl (Nat.le_of_ble_eq_true rfl) (Nat.le_of_ble_eq_true rfl) (Nat.le_of_ble_eq_true rfl) (Nat.le_of_ble_eq_true rfl) ?_
  rintro _ n9_ _ ⟨rfl, e9_, rfl⟩
  obtain rfl := e9_.symm
  by_cases hw2 : wi m 0 (c 8 0 - 1)
  · obtain ⟨j, hj, rfl⟩ := m_ixe hB (by decide) hw2
    have ej : ix (nI j) = j := nI_clamp (by omega)
    refine G_top (w := .ref (y_a Y 4 j)) (by unfold oW; rw [cif_t hw2, ej]; rfl) ?_
    refine G_astore_n dX8_work_5 rfl (Nat.le_of_ble_eq_true rfl) rfl ?_
    refine G_aload_n dX8_work_6 rfl rfl ?_
    refine G_ifnull dX8_work_7 ?_
    refine G_iload_n dX8_work_10 rfl rfl ?_
    refine G_iconst (v := 1) dX8_work_11 rfl ?_
    refine G_bipush (v := 100) dX8_work_12 rfl ?_
    refine G_callS (cx_within _ _ _) dX8_work_14 (mc_X8_64 rfl) tw_236 rfl rfl (Nat.le_of_ble_eq_true rfl) (Nat.le_of_ble_eq_true rfl) (Nat.le_of_ble_eq_true rfl) (Nat.le_of_ble_eq_true rfl) ?_
    rintro _ n9_ _ ⟨rfl, e9_, rfl⟩
    obtain rfl := e9_.symm
    refine G_if_ne (tgt := 22) dX8_work_17 (by decide) (fun c17 => ?_) (fun c17 => ?_)
    · skip
      refine G_aload_n dX8_work_22 rfl rfl ?_
      refine G_iconst (v := 0) dX8_work_23 rfl ?_
      refine G_aload_n dX8_work_24 rfl rfl ?_
      refine G_get dX8_work_25 fg_X8_227 (hx_B hY hj) rfl ?_
      refine G_iload_n dX8_work_28 rfl rfl ?_
      refine G_isub dX8_work_29 ?_
      refine G_max dX8_work_30 tw_731 (Nat.le_of_ble_eq_true rfl) (Nat.le_of_ble_eq_true rfl) ?_
      refine GC_hours dX8_work_33 fp_X8_227 hY hj ?_
      refine G_aload_n dX8_work_36 rfl rfl ?_
      refine G_get dX8_work_37 fg_X8_227 (hx_B (hY.same rfl rfl rfl rfl rfl) hj) rfl ?_
      refine G_iret dX8_work_40 rfl ?_
      refine c_close ?_; unfold cp_work; rw [ej, cif_t ⟨hw2, b1_1 c17⟩]; exact Prod.ext rfl (by simp [m_set])
    · skip
      refine G_iconst (v := -1) dX8_work_20 rfl ?_
      refine G_iret dX8_work_21 rfl ?_
      first | exact c_close (cif_f (fun q => hw2 q.1)) | exact c_close (cif_f (fun q => b1_0.mp c17 q.2))
  · refine G_top (w := .null) (by unfold oW; rw [cif_f hw2]; rfl) ?_
    refine G_astore_nN dX8_work_5 rfl (Nat.le_of_ble_eq_true rfl) rfl ?_
    refine G_aload_nN dX8_work_6 rfl rfl ?_
    refine G_ifnullN (tgt := 20) dX8_work_7 (by decide) ?_
    refine G_iconst (v := -1) dX8_work_20 rfl ?_
    refine G_iret dX8_work_21 rfl ?_
    first | exact c_close (cif_f (fun q => hw2 q.1)) | exact c_close (cif_f (fun q => b1_0.mp c17 q.2))
set_option maxHeartbeats 4000000 in
set_option maxRecDepth 100000 in
theorem cp9_out {g : gT} {nq_ n9 : Nat} {sm : mS} {Y : cY} {c : mS} (a : Int32) (hY : Yok Y c n9) (hC9 : c_inv c) : M g 4 0 0 kX8_out [.ref 8, .int a] nq_ (hh sm Y c) (c_S (.int (cp_out c a).2) nq_ sm Y (cp_out c a).1) := by
  refine M_of_G (by decide +kernel) (Nat.le_of_ble_eq_true rfl) ?_
  obtain ⟨hI, hG, hgv, hov, hrw, hps⟩ := id hC9
  obtain ⟨hK, hT, hB, hP9, hA, hkf, haf, hbf⟩ := id hI
  have hA2 := hA.2
  have hT2 := hT.2
  have hK2 := hK.2
  have hB2 := hB.2
  have hG2 := hG.2
  have hP2 := hP9.2
  refine G_aload_n dX8_out_0 rfl rfl ?_
  refine G_iload_n dX8_out_1 rfl rfl ?_
  refine G_callV (cx_askAt a hY hC9) dX8_out_2 (mc_X8_179 rfl) tw_713 tw_21 (hx_8 _ _ _) rfl rfl rfl (Nat.le_of_ble_eq_true rfl) (Nat.le_of_ble_eq_true rfl) (Nat.le_of_ble_eq_true rfl) (Nat.le_of_ble_eq_true rfl) ?_
  rintro _ n9_ _ ⟨rfl, e9_, rfl⟩
  obtain rfl := e9_.symm
  by_cases hw2 : wi a 0 (c 23 0 - 1)
  · obtain ⟨j, hj, rfl⟩ := m_ixe hA (by decide) hw2
    have ej : ix (nI j) = j := nI_clamp (by omega)
    refine G_top (w := .ref (y_a Y 0 j)) (by unfold oW; rw [cif_t hw2, ej]; rfl) ?_
    refine G_astore_n dX8_out_5 rfl (Nat.le_of_ble_eq_true rfl) rfl ?_
    refine G_aload_n dX8_out_6 rfl rfl ?_
    refine G_ifnull dX8_out_7 ?_
    refine G_aload_n dX8_out_10 rfl rfl ?_
    refine G_get dX8_out_11 fg_X8_162 (hx_A hY hj) rfl ?_
    refine G_iconst (v := 1) dX8_out_14 rfl ?_
    refine G_icmp_ne (tgt := 25) dX8_out_15 (by decide) (fun c15 => ?_) (fun c15 => ?_)
    · skip
      refine G_iconst (v := -1) dX8_out_25 rfl ?_
      refine G_iret dX8_out_26 rfl ?_
      first | exact c_close (cif_f (fun q => hw2 q.1)) | exact c_close (cif_f (fun q => by rw [ej] at q; exact c15 q.2)) | exact absurd e22 (by rw [(hbf j hj (Or.inl c15)).1]; exact oI_ne (by have := (hbf j hj (Or.inl c15)).2; omega))
    · skip
      refine G_aload_n dX8_out_18 rfl rfl ?_
      refine G_get dX8_out_19 fg_X8_183 (hx_A hY hj) rfl ?_
      refine G_ifnonnullR (o := (oR (y_a Y 7) (c 25 j))) (tgt := 27) dX8_out_22 (by decide) (fun i22 c22 => ?_) (fun c22 => ?_)
      · skip
        obtain ⟨e22, rfl⟩ := oR_so c22
        refine G_aload_n dX8_out_27 rfl rfl ?_
        refine G_aload_n dX8_out_28 rfl rfl ?_
        refine G_aload_n dX8_out_29 rfl rfl ?_
        refine G_get dX8_out_30 fg_X8_183 (hx_A hY hj) rfl ?_
        refine G_top (w := .ref (y_a Y 7 (ix (c 25 j)))) (congrArg va_rf (oR_at e22)) ?_
        refine G_callV (cx_hind j _ hY hC9 hj ((haf _ hj).2.2.resolve_left e22).2) dX8_out_33 (mc_X8_187 rfl) tw_721 tw_22 (hx_8 _ _ _) rfl rfl rfl (Nat.le_of_ble_eq_true rfl) (Nat.le_of_ble_eq_true rfl) (Nat.le_of_ble_eq_true rfl) (Nat.le_of_ble_eq_true rfl) ?_
        rintro _ n9_ _ ⟨rfl, e9_, rfl⟩
        obtain rfl := e9_.symm
        refine G_istore_n dX8_out_36 rfl (Nat.le_of_ble_eq_true rfl) rfl ?_
        refine G_iload_n dX8_out_37 rfl rfl ?_
        refine G_if_eq (tgt := 43) dX8_out_38 (by decide) (fun c38 => ?_) (fun c38 => ?_)
        · skip
          refine G_aload_n dX8_out_43 rfl rfl ?_
          refine G_iconst (v := 3) dX8_out_44 rfl ?_
          refine GC_state dX8_out_45 fp_X8_162 hY hj ?_
          refine G_aload_n dX8_out_48 rfl rfl ?_
          refine G_get dX8_out_49 fg_X8_183 (hx_A (hY.same rfl rfl rfl rfl rfl) hj) rfl ?_
          refine G_top (w := .ref (y_a Y 7 (ix (c 25 j)))) (congrArg va_rf (oR_at e22)) ?_
          refine G_aload_n dX8_out_52 rfl rfl ?_
          refine G_top (w := va_rf (oR (y_a Y 0) (nI j))) (by rw [oR_nI (by omega)]; rfl) ?_
          refine GC_outw dX8_out_53 fp_X8_127 (hY.same rfl rfl rfl rfl rfl) ((haf _ hj).2.2.resolve_left e22).2 ?_
          refine G_aload_n dX8_out_56 rfl rfl ?_
          refine G_get dX8_out_57 fg_X8_191 (hx_A (hY.same rfl rfl rfl rfl rfl) hj) rfl ?_
          refine G_dup dX8_out_60 rfl ?_
          refine G_get dX8_out_61 fg_X8_195 (hx_B (hY.same rfl rfl rfl rfl rfl) (haf _ hj).2.1.2) rfl ?_
          refine G_iconst (v := 1) dX8_out_64 rfl ?_
          refine G_iadd dX8_out_65 ?_
          refine GC_aout dX8_out_66 fp_X8_195 (hY.same rfl rfl rfl rfl rfl) (haf _ hj).2.1.2 ?_
          refine G_iconst (v := 0) dX8_out_69 rfl ?_
          refine G_iret dX8_out_70 rfl ?_
          refine c_close ?_; unfold cp_out; rw [ej, cif_t ⟨hw2, c15⟩, cif_t c38]; rfl
        · skip
          refine G_iload_n dX8_out_41 rfl rfl ?_
          refine G_iret dX8_out_42 rfl ?_
          refine c_close ?_; unfold cp_out; rw [ej, cif_t ⟨hw2, c15⟩, cif_f c38]
      · skip
        have e22 := oR_no.mp c22
        refine G_iconst (v := -1) dX8_out_25 rfl ?_
        refine G_iret dX8_out_26 rfl ?_
        first | exact c_close (cif_f (fun q => hw2 q.1)) | exact c_close (cif_f (fun q => by rw [ej] at q; exact c15 q.2)) | exact absurd e22 (by rw [(hbf j hj (Or.inl c15)).1]; exact oI_ne (by have := (hbf j hj (Or.inl c15)).2; omega))
  · refine G_top (w := .null) (by unfold oW; rw [cif_f hw2]; rfl) ?_
    refine G_astore_nN dX8_out_5 rfl (Nat.le_of_ble_eq_true rfl) rfl ?_
    refine G_aload_nN dX8_out_6 rfl rfl ?_
    refine G_ifnullN (tgt := 25) dX8_out_7 (by decide) ?_
    refine G_iconst (v := -1) dX8_out_25 rfl ?_
    refine G_iret dX8_out_26 rfl ?_
    first | exact c_close (cif_f (fun q => hw2 q.1)) | exact c_close (cif_f (fun q => by rw [ej] at q; exact c15 q.2)) | exact absurd e22 (by rw [(hbf j hj (Or.inl c15)).1]; exact oI_ne (by have := (hbf j hj (Or.inl c15)).2; omega))
set_option maxHeartbeats 4000000 in
set_option maxRecDepth 100000 in
theorem cp9_back {g : gT} {nq_ n9 : Nat} {sm : mS} {Y : cY} {c : mS} (a : Int32) (hY : Yok Y c n9) (hC9 : c_inv c) : M g 4 0 0 kX8_back [.ref 8, .int a] nq_ (hh sm Y c) (c_S (.int (cp_back c a).2) nq_ sm Y (cp_back c a).1) := by
  refine M_of_G (by decide +kernel) (Nat.le_of_ble_eq_true rfl) ?_
  obtain ⟨hI, hG, hgv, hov, hrw, hps⟩ := id hC9
  obtain ⟨hK, hT, hB, hP9, hA, hkf, haf, hbf⟩ := id hI
  have hA2 := hA.2
  have hT2 := hT.2
  have hK2 := hK.2
  have hB2 := hB.2
  have hG2 := hG.2
  have hP2 := hP9.2
  refine G_aload_n dX8_back_0 rfl rfl ?_
  refine G_iload_n dX8_back_1 rfl rfl ?_
  refine G_callV (cx_askAt a hY hC9) dX8_back_2 (mc_X8_179 rfl) tw_713 tw_21 (hx_8 _ _ _) rfl rfl rfl (Nat.le_of_ble_eq_true rfl) (Nat.le_of_ble_eq_true rfl) (Nat.le_of_ble_eq_true rfl) (Nat.le_of_ble_eq_true rfl) ?_
  rintro _ n9_ _ ⟨rfl, e9_, rfl⟩
  obtain rfl := e9_.symm
  by_cases hw2 : wi a 0 (c 23 0 - 1)
  · obtain ⟨j, hj, rfl⟩ := m_ixe hA (by decide) hw2
    have ej : ix (nI j) = j := nI_clamp (by omega)
    refine G_top (w := .ref (y_a Y 0 j)) (by unfold oW; rw [cif_t hw2, ej]; rfl) ?_
    refine G_astore_n dX8_back_5 rfl (Nat.le_of_ble_eq_true rfl) rfl ?_
    refine G_aload_n dX8_back_6 rfl rfl ?_
    refine G_ifnull dX8_back_7 ?_
    refine G_aload_n dX8_back_10 rfl rfl ?_
    refine G_get dX8_back_11 fg_X8_162 (hx_A hY hj) rfl ?_
    refine G_iconst (v := 3) dX8_back_14 rfl ?_
    refine G_icmp_ne (tgt := 25) dX8_back_15 (by decide) (fun c15 => ?_) (fun c15 => ?_)
    · skip
      refine G_iconst (v := -1) dX8_back_25 rfl ?_
      refine G_iret dX8_back_26 rfl ?_
      first | exact c_close (cif_f (fun q => hw2 q.1)) | exact c_close (cif_f (fun q => by rw [ej] at q; exact c15 q.2)) | exact absurd e22 (by rw [(hbf j hj (Or.inr c15)).1]; exact oI_ne (by have := (hbf j hj (Or.inr c15)).2; omega))
    · skip
      refine G_aload_n dX8_back_18 rfl rfl ?_
      refine G_get dX8_back_19 fg_X8_183 (hx_A hY hj) rfl ?_
      refine G_ifnonnullR (o := (oR (y_a Y 7) (c 25 j))) (tgt := 27) dX8_back_22 (by decide) (fun i22 c22 => ?_) (fun c22 => ?_)
      · skip
        obtain ⟨e22, rfl⟩ := oR_so c22
        refine G_iconst (v := 0) dX8_back_27 rfl ?_
        refine G_aload_n dX8_back_28 rfl rfl ?_
        refine G_get dX8_back_29 fg_X8_56 (hx_8 _ _ _) rfl ?_
        refine G_aload_n dX8_back_32 rfl rfl ?_
        refine G_get dX8_back_33 fg_X8_198 (hx_A hY hj) rfl ?_
        refine G_isub dX8_back_36 ?_
        refine G_max dX8_back_37 tw_731 (Nat.le_of_ble_eq_true rfl) (Nat.le_of_ble_eq_true rfl) ?_
        refine G_istore_n dX8_back_40 rfl (Nat.le_of_ble_eq_true rfl) rfl ?_
        refine G_aload_n dX8_back_41 rfl rfl ?_
        refine G_get dX8_back_42 fg_X8_191 (hx_A hY hj) rfl ?_
        refine G_aload_n dX8_back_45 rfl rfl ?_
        refine G_get dX8_back_46 fg_X8_198 (hx_A hY hj) rfl ?_
        refine G_aload_n dX8_back_49 rfl rfl ?_
        refine G_get dX8_back_50 fg_X8_207 (hx_A hY hj) rfl ?_
        refine G_isub dX8_back_53 ?_
        refine G_iconst (v := 1) dX8_back_54 rfl ?_
        refine G_iadd dX8_back_55 ?_
        refine G_iconst (v := 2) dX8_back_56 rfl ?_
        refine G_iload_n dX8_back_57 rfl rfl ?_
        refine G_imul dX8_back_58 ?_
        refine G_iadd dX8_back_59 ?_
        refine G_aload_n dX8_back_60 rfl rfl ?_
        refine G_get dX8_back_61 fg_X8_183 (hx_A hY hj) rfl ?_
        refine G_top (w := .ref (y_a Y 7 (ix (c 25 j)))) (congrArg va_rf (oR_at e22)) ?_
        refine G_get dX8_back_64 fg_X8_210 (hx_T hY ((haf _ hj).2.2.resolve_left e22).2) rfl ?_
        refine G_get dX8_back_67 fg_X8_214 (hx_K hY (hkf _ ((haf _ hj).2.2.resolve_left e22).2).2) rfl ?_
        refine G_callV (cx_owe (ix (c 27 j)) _ _ hY hC9 (haf _ hj).2.1.2) dX8_back_70 (mc_X8_217 rfl) tw_733 tw_734 (hx_B hY (haf _ hj).2.1.2) rfl rfl rfl (Nat.le_of_ble_eq_true rfl) (Nat.le_of_ble_eq_true rfl) (Nat.le_of_ble_eq_true rfl) (Nat.le_of_ble_eq_true rfl) ?_
        rintro _ n9_ _ ⟨rfl, e9_, rfl⟩
        obtain rfl := e9_.symm
        refine G_aload_n dX8_back_73 rfl rfl ?_
        refine G_get dX8_back_74 fg_X8_191 (hx_A (hY.same rfl rfl rfl rfl rfl) hj) rfl ?_
        refine G_dup dX8_back_77 rfl ?_
        refine G_get dX8_back_78 fg_X8_195 (hx_B (hY.same rfl rfl rfl rfl rfl) (haf _ hj).2.1.2) rfl ?_
        refine G_iconst (v := 1) dX8_back_81 rfl ?_
        refine G_isub dX8_back_82 ?_
        refine GC_aout dX8_back_83 fp_X8_195 (hY.same rfl rfl rfl rfl rfl) (haf _ hj).2.1.2 ?_
        refine G_aload_n dX8_back_86 rfl rfl ?_
        refine G_get dX8_back_87 fg_X8_183 (hx_A (hY.same rfl rfl rfl rfl rfl) hj) rfl ?_
        refine G_top (w := .ref (y_a Y 7 (ix (c 25 j)))) (congrArg va_rf (oR_at e22)) ?_
        refine G_null dX8_back_90 ?_
        refine G_top (w := va_rf (oR (y_a Y 0) (-1))) rfl ?_
        refine GC_outw dX8_back_91 fp_X8_127 (hY.same rfl rfl rfl rfl rfl) ((haf _ hj).2.2.resolve_left e22).2 ?_
        refine G_aload_n dX8_back_94 rfl rfl ?_
        refine G_get dX8_back_95 fg_X8_183 (hx_A (hY.same rfl rfl rfl rfl rfl) hj) rfl ?_
        refine G_top (w := .ref (y_a Y 7 (ix (c 25 j)))) (congrArg va_rf (oR_at e22)) ?_
        refine G_aload_n dX8_back_98 rfl rfl ?_
        refine G_get dX8_back_99 fg_X8_56 (hx_8 _ _ _) rfl ?_
        refine GC_lback dX8_back_102 fp_X8_221 (hY.same rfl rfl rfl rfl rfl) ((haf _ hj).2.2.resolve_left e22).2 ?_
        refine G_aload_n dX8_back_105 rfl rfl ?_
        refine G_iconst (v := 4) dX8_back_106 rfl ?_
        refine GC_state dX8_back_107 fp_X8_162 (hY.same rfl rfl rfl rfl rfl) hj ?_
        refine G_aload_n dX8_back_110 rfl rfl ?_
        refine G_aload_n dX8_back_111 rfl rfl ?_
        refine G_get dX8_back_112 fg_X8_56 (hx_8 _ _ _) rfl ?_
        refine GC_bday dX8_back_115 fp_X8_224 (hY.same rfl rfl rfl rfl rfl) hj ?_
        refine G_iload_n dX8_back_118 rfl rfl ?_
        refine G_iret dX8_back_119 rfl ?_
        refine c_close ?_; unfold cp_back; rw [ej, cif_t ⟨hw2, c15⟩]; rfl
      · skip
        have e22 := oR_no.mp c22
        refine G_iconst (v := -1) dX8_back_25 rfl ?_
        refine G_iret dX8_back_26 rfl ?_
        first | exact c_close (cif_f (fun q => hw2 q.1)) | exact c_close (cif_f (fun q => by rw [ej] at q; exact c15 q.2)) | exact absurd e22 (by rw [(hbf j hj (Or.inr c15)).1]; exact oI_ne (by have := (hbf j hj (Or.inr c15)).2; omega))
  · refine G_top (w := .null) (by unfold oW; rw [cif_f hw2]; rfl) ?_
    refine G_astore_nN dX8_back_5 rfl (Nat.le_of_ble_eq_true rfl) rfl ?_
    refine G_aload_nN dX8_back_6 rfl rfl ?_
    refine G_ifnullN (tgt := 25) dX8_back_7 (by decide) ?_
    refine G_iconst (v := -1) dX8_back_25 rfl ?_
    refine G_iret dX8_back_26 rfl ?_
    first | exact c_close (cif_f (fun q => hw2 q.1)) | exact c_close (cif_f (fun q => by rw [ej] at q; exact c15 q.2)) | exact absurd e22 (by rw [(hbf j hj (Or.inr c15)).1]; exact oI_ne (by have := (hbf j hj (Or.inr c15)).2; omega))
set_option maxHeartbeats 4000000 in
set_option maxRecDepth 100000 in
theorem cp9_isFree {g : gT} {nq_ n9 : Nat} {sm : mS} {Y : cY} {c : mS} (t f l : Int32) (hY : Yok Y c n9) (hC9 : c_inv c) : M g 4 0 0 kX8_isFree [.ref 8, .int t, .int f, .int l] nq_ (hh sm Y c) (c_S (.int (sp_isFree c t f l).2) nq_ sm Y (sp_isFree c t f l).1) := by
  refine M_of_G (by decide +kernel) (Nat.le_of_ble_eq_true rfl) ?_
  obtain ⟨hI, hG, hgv, hov, hrw, hps⟩ := id hC9
  obtain ⟨hK, hT, hB, hP9, hA, hkf, haf, hbf⟩ := id hI
  have hA2 := hA.2
  have hT2 := hT.2
  have hK2 := hK.2
  have hB2 := hB.2
  have hG2 := hG.2
  have hP2 := hP9.2
  refine G_aload_n dX8_isFree_0 rfl rfl ?_
  refine G_iload_n dX8_isFree_1 rfl rfl ?_
  refine G_callV (cx_thingAt t hY hC9) dX8_isFree_2 (mc_X8_123 rfl) tw_528 tw_8 (hx_8 _ _ _) rfl rfl rfl (Nat.le_of_ble_eq_true rfl) (Nat.le_of_ble_eq_true rfl) (Nat.le_of_ble_eq_true rfl) (Nat.le_of_ble_eq_true rfl) ?_
  rintro _ n9_ _ ⟨rfl, e9_, rfl⟩
  obtain rfl := e9_.symm
  by_cases hw2 : wi t 0 (c 5 0 - 1)
  · obtain ⟨j, hj, rfl⟩ := m_ixe hT (by decide) hw2
    have ej : ix (nI j) = j := nI_clamp (by omega)
    refine G_top (w := .ref (y_a Y 7 j)) (by unfold oW; rw [cif_t hw2, ej]; rfl) ?_
    refine G_astore dX8_isFree_5 (Nat.le_of_ble_eq_true rfl) rfl ?_
    refine G_aload dX8_isFree_7 rfl ?_
    refine G_ifnull dX8_isFree_9 ?_
    refine G_iload_n dX8_isFree_12 rfl rfl ?_
    refine G_aload_n dX8_isFree_13 rfl rfl ?_
    refine G_get dX8_isFree_14 fg_X8_56 (hx_8 _ _ _) rfl ?_
    refine G_icmp_lt (tgt := 25) dX8_isFree_17 (by decide) (fun c17 => ?_) (fun c17 => ?_)
    · skip
      refine G_iconst (v := -1) dX8_isFree_25 rfl ?_
      refine G_iret dX8_isFree_26 rfl ?_
      first | exact c_close (Prod.ext rfl (cif_f (fun q => hw2 q.1))) | exact c_close (Prod.ext rfl (cif_f (fun q => absurd q.2.1 (Int32.not_le.mpr c17)))) | exact c_close (Prod.ext rfl (cif_f (fun q => c22 q.2.2)))
    · skip
      refine G_iload_n dX8_isFree_20 rfl rfl ?_
      refine G_iload_n dX8_isFree_21 rfl rfl ?_
      refine G_icmp_ge (tgt := 27) dX8_isFree_22 (by decide) (fun c22 => ?_) (fun c22 => ?_)
      · skip
        refine G_aload_n dX8_isFree_27 rfl rfl ?_
        refine G_null dX8_isFree_28 ?_
        refine G_aload dX8_isFree_29 rfl ?_
        refine G_iload_n dX8_isFree_31 rfl rfl ?_
        refine G_iload_n dX8_isFree_32 rfl rfl ?_
        refine G_callV (cx_freeN j _ _ hY hC9 hj) dX8_isFree_33 (mc_X8_272 rfl) tw_646 tw_14 (hx_8 _ _ _) rfl rfl rfl (Nat.le_of_ble_eq_true rfl) (Nat.le_of_ble_eq_true rfl) (Nat.le_of_ble_eq_true rfl) (Nat.le_of_ble_eq_true rfl) ?_
        rintro _ n9_ _ ⟨rfl, e9_, rfl⟩
        obtain rfl := e9_.symm
        refine G_if_eq (tgt := 43) dX8_isFree_36 (by decide) (fun c36 => ?_) (fun c36 => ?_)
        · skip
          refine G_iconst (v := 0) dX8_isFree_43 rfl ?_
          refine G_iret dX8_isFree_44 rfl ?_
          refine c_close (Prod.ext rfl ?_); show cif _ (b1 _) _ = _; rw [cif_t ⟨hw2, Int32.not_lt.mp c17, c22⟩]; first | exact c36 | exact b1_t (b1_1 c36)
        · skip
          refine G_iconst (v := 1) dX8_isFree_39 rfl ?_
          refine G_goto (tgt := 44) dX8_isFree_40 (by decide) ?_
          refine G_iret dX8_isFree_44 rfl ?_
          refine c_close (Prod.ext rfl ?_); show cif _ (b1 _) _ = _; rw [cif_t ⟨hw2, Int32.not_lt.mp c17, c22⟩]; first | exact c36 | exact b1_t (b1_1 c36)
      · skip
        refine G_iconst (v := -1) dX8_isFree_25 rfl ?_
        refine G_iret dX8_isFree_26 rfl ?_
        first | exact c_close (Prod.ext rfl (cif_f (fun q => hw2 q.1))) | exact c_close (Prod.ext rfl (cif_f (fun q => absurd q.2.1 (Int32.not_le.mpr c17)))) | exact c_close (Prod.ext rfl (cif_f (fun q => c22 q.2.2)))
  · refine G_top (w := .null) (by unfold oW; rw [cif_f hw2]; rfl) ?_
    refine G_astoreN dX8_isFree_5 (Nat.le_of_ble_eq_true rfl) rfl ?_
    refine G_aloadN dX8_isFree_7 rfl ?_
    refine G_ifnullN (tgt := 25) dX8_isFree_9 (by decide) ?_
    refine G_iconst (v := -1) dX8_isFree_25 rfl ?_
    refine G_iret dX8_isFree_26 rfl ?_
    first | exact c_close (Prod.ext rfl (cif_f (fun q => hw2 q.1))) | exact c_close (Prod.ext rfl (cif_f (fun q => absurd q.2.1 (Int32.not_le.mpr c17)))) | exact c_close (Prod.ext rfl (cif_f (fun q => c22 q.2.2)))
set_option maxHeartbeats 4000000 in
set_option maxRecDepth 100000 in
theorem cp9_thingOf {g : gT} {nq_ n9 : Nat} {sm : mS} {Y : cY} {c : mS} (t v : Int32) (hY : Yok Y c n9) (hC9 : c_inv c) : M g 4 0 0 kX8_thingOf [.ref 8, .int t, .int v] nq_ (hh sm Y c) (c_S (.int (cp_thingOf c t v).2) nq_ sm Y (cp_thingOf c t v).1) := by
  refine M_of_G (by decide +kernel) (Nat.le_of_ble_eq_true rfl) ?_
  obtain ⟨hI, hG, hgv, hov, hrw, hps⟩ := id hC9
  obtain ⟨hK, hT, hB, hP9, hA, hkf, haf, hbf⟩ := id hI
  have hA2 := hA.2
  have hT2 := hT.2
  have hK2 := hK.2
  have hB2 := hB.2
  have hG2 := hG.2
  have hP2 := hP9.2
  refine G_aload_n dX8_thingOf_0 rfl rfl ?_
  refine G_iload_n dX8_thingOf_1 rfl rfl ?_
  refine G_callV (cx_thingAt t hY hC9) dX8_thingOf_2 (mc_X8_123 rfl) tw_528 tw_8 (hx_8 _ _ _) rfl rfl rfl (Nat.le_of_ble_eq_true rfl) (Nat.le_of_ble_eq_true rfl) (Nat.le_of_ble_eq_true rfl) (Nat.le_of_ble_eq_true rfl) ?_
  rintro _ n9_ _ ⟨rfl, e9_, rfl⟩
  obtain rfl := e9_.symm
  by_cases hw2 : wi t 0 (c 5 0 - 1)
  · obtain ⟨j, hj, rfl⟩ := m_ixe hT (by decide) hw2
    have ej : ix (nI j) = j := nI_clamp (by omega)
    refine G_top (w := .ref (y_a Y 7 j)) (by unfold oW; rw [cif_t hw2, ej]; rfl) ?_
    refine G_astore_n dX8_thingOf_5 rfl (Nat.le_of_ble_eq_true rfl) rfl ?_
    refine G_aload_n dX8_thingOf_6 rfl rfl ?_
    refine G_ifnonnull (tgt := 12) dX8_thingOf_7 (by decide) ?_
    refine G_iload_n dX8_thingOf_12 rfl rfl ?_
    refine G_tsw (tgt := 103) dX8_thingOf_13 (by decide) (fun c13 => ?_) (fun j9 e9 l9 => ?_)
    · skip
      have hnw := tsw_w (hi := 4) c13
      refine G_iconst (v := -1) dX8_thingOf_103 rfl ?_
      refine G_iret dX8_thingOf_104 rfl ?_
      exact c_close (Prod.ext rfl ((cif_t hw2).trans (cif_f hnw)))
    · rcases (show j9 = 0 ∨ j9 = 1 ∨ j9 = 2 ∨ j9 = 3 ∨ j9 = 4 by omega) with rfl | rfl | rfl | rfl | rfl
      · refine ⟨35, 48, rfl, by decide, ?_⟩
        have ez : v = nI 0 := tsw_e e9 (by decide)
        subst ez
        refine G_aload_n dX8_thingOf_48 rfl rfl ?_
        refine G_get dX8_thingOf_49 fg_X8_210 (hx_T hY hj) rfl ?_
        refine G_get dX8_thingOf_52 fg_X8_258 (hx_K hY (hkf _ hj).2) rfl ?_
        refine G_iret dX8_thingOf_55 rfl ?_
        refine c_close (Prod.ext rfl ?_); show cif _ (cif _ (c_tof c (ix (nI j)) _) _) _ = _; rw [ej, cif_t hw2, cif_t (by decide)]; first | rfl | exact cif_t e65 | exact cif_f e65 | exact c88 | exact b1_t (b1_1 c88)
      · refine ⟨43, 56, rfl, by decide, ?_⟩
        have ez : v = nI 1 := tsw_e e9 (by decide)
        subst ez
        refine G_aload_n dX8_thingOf_56 rfl rfl ?_
        refine G_get dX8_thingOf_57 fg_X8_131 (hx_T hY hj) rfl ?_
        refine G_iret dX8_thingOf_60 rfl ?_
        refine c_close (Prod.ext rfl ?_); show cif _ (cif _ (c_tof c (ix (nI j)) _) _) _ = _; rw [ej, cif_t hw2, cif_t (by decide)]; first | rfl | exact cif_t e65 | exact cif_f e65 | exact c88 | exact b1_t (b1_1 c88)
      · refine ⟨48, 61, rfl, by decide, ?_⟩
        have ez : v = nI 2 := tsw_e e9 (by decide)
        subst ez
        refine G_aload_n dX8_thingOf_61 rfl rfl ?_
        refine G_get dX8_thingOf_62 fg_X8_127 (hx_T hY hj) rfl ?_
        refine G_ifnonnullR (o := (oR (y_a Y 0) (c 51 j))) (tgt := 72) dX8_thingOf_65 (by decide) (fun i65 c65 => ?_) (fun c65 => ?_)
        · skip
          obtain ⟨e65, rfl⟩ := oR_so c65
          refine G_aload_n dX8_thingOf_72 rfl rfl ?_
          refine G_get dX8_thingOf_73 fg_X8_127 (hx_T hY hj) rfl ?_
          refine G_top (w := .ref (y_a Y 0 (ix (c 51 j)))) (congrArg va_rf (oR_at e65)) ?_
          refine G_get dX8_thingOf_76 fg_X8_264 (hx_A hY ((hov _ hj).resolve_left e65).2) rfl ?_
          refine G_iret dX8_thingOf_79 rfl ?_
          refine c_close (Prod.ext rfl ?_); show cif _ (cif _ (c_tof c (ix (nI j)) _) _) _ = _; rw [ej, cif_t hw2, cif_t (by decide)]; first | rfl | exact cif_t e65 | exact cif_f e65 | exact c88 | exact b1_t (b1_1 c88)
        · skip
          have e65 := oR_no.mp c65
          refine G_iconst (v := -1) dX8_thingOf_68 rfl ?_
          refine G_goto (tgt := 79) dX8_thingOf_69 (by decide) ?_
          refine G_iret dX8_thingOf_79 rfl ?_
          refine c_close (Prod.ext rfl ?_); show cif _ (cif _ (c_tof c (ix (nI j)) _) _) _ = _; rw [ej, cif_t hw2, cif_t (by decide)]; first | rfl | exact cif_t e65 | exact cif_f e65 | exact c88 | exact b1_t (b1_1 c88)
      · refine ⟨67, 80, rfl, by decide, ?_⟩
        have ez : v = nI 3 := tsw_e e9 (by decide)
        subst ez
        refine G_aload_n dX8_thingOf_80 rfl rfl ?_
        refine G_aload_n dX8_thingOf_81 rfl rfl ?_
        refine G_get dX8_thingOf_82 fg_X8_56 (hx_8 _ _ _) rfl ?_
        refine G_callV (cx_late j hY hC9 hj) dX8_thingOf_85 (mc_X8_265 rfl) tw_761 tw_762 (hx_T hY hj) rfl rfl rfl (Nat.le_of_ble_eq_true rfl) (Nat.le_of_ble_eq_true rfl) (Nat.le_of_ble_eq_true rfl) (Nat.le_of_ble_eq_true rfl) ?_
        rintro _ n9_ _ ⟨rfl, e9_, rfl⟩
        obtain rfl := e9_.symm
        refine G_if_eq (tgt := 95) dX8_thingOf_88 (by decide) (fun c88 => ?_) (fun c88 => ?_)
        · skip
          refine G_iconst (v := 0) dX8_thingOf_95 rfl ?_
          refine G_iret dX8_thingOf_96 rfl ?_
          refine c_close (Prod.ext rfl ?_); show cif _ (cif _ (c_tof c (ix (nI j)) _) _) _ = _; rw [ej, cif_t hw2, cif_t (by decide)]; first | rfl | exact cif_t e65 | exact cif_f e65 | exact c88 | exact b1_t (b1_1 c88)
        · skip
          refine G_iconst (v := 1) dX8_thingOf_91 rfl ?_
          refine G_goto (tgt := 96) dX8_thingOf_92 (by decide) ?_
          refine G_iret dX8_thingOf_96 rfl ?_
          refine c_close (Prod.ext rfl ?_); show cif _ (cif _ (c_tof c (ix (nI j)) _) _) _ = _; rw [ej, cif_t hw2, cif_t (by decide)]; first | rfl | exact cif_t e65 | exact cif_f e65 | exact c88 | exact b1_t (b1_1 c88)
      · refine ⟨84, 97, rfl, by decide, ?_⟩
        have ez : v = nI 4 := tsw_e e9 (by decide)
        subst ez
        refine G_aload_n dX8_thingOf_97 rfl rfl ?_
        refine G_aload_n dX8_thingOf_98 rfl rfl ?_
        refine G_callV (cx_manyOn j hY hC9 hj) dX8_thingOf_99 (mc_X8_269 rfl) tw_782 tw_28 (hx_8 _ _ _) rfl rfl rfl (Nat.le_of_ble_eq_true rfl) (Nat.le_of_ble_eq_true rfl) (Nat.le_of_ble_eq_true rfl) (Nat.le_of_ble_eq_true rfl) ?_
        rintro _ n9_ _ ⟨rfl, e9_, rfl⟩
        obtain rfl := e9_.symm
        refine G_iret dX8_thingOf_102 rfl ?_
        refine c_close (Prod.ext rfl ?_); show cif _ (cif _ (c_tof c (ix (nI j)) _) _) _ = _; rw [ej, cif_t hw2, cif_t (by decide)]; first | rfl | exact cif_t e65 | exact cif_f e65 | exact c88 | exact b1_t (b1_1 c88)
  · refine G_top (w := .null) (by unfold oW; rw [cif_f hw2]; rfl) ?_
    refine G_astore_nN dX8_thingOf_5 rfl (Nat.le_of_ble_eq_true rfl) rfl ?_
    refine G_aload_nN dX8_thingOf_6 rfl rfl ?_
    refine G_ifnonnullN dX8_thingOf_7 ?_
    refine G_iconst (v := -1) dX8_thingOf_10 rfl ?_
    refine G_iret dX8_thingOf_11 rfl ?_
    exact c_close (Prod.ext rfl (cif_f hw2))
set_option maxHeartbeats 4000000 in
set_option maxRecDepth 100000 in
theorem cp9_memberOf {g : gT} {nq_ n9 : Nat} {sm : mS} {Y : cY} {c : mS} (m v : Int32) (hY : Yok Y c n9) (hC9 : c_inv c) : M g 4 0 0 kX8_memberOf [.ref 8, .int m, .int v] nq_ (hh sm Y c) (c_S (.int (cp_memberOf c m v).2) nq_ sm Y (cp_memberOf c m v).1) := by
  refine M_of_G (by decide +kernel) (Nat.le_of_ble_eq_true rfl) ?_
  obtain ⟨hI, hG, hgv, hov, hrw, hps⟩ := id hC9
  obtain ⟨hK, hT, hB, hP9, hA, hkf, haf, hbf⟩ := id hI
  have hA2 := hA.2
  have hT2 := hT.2
  have hK2 := hK.2
  have hB2 := hB.2
  have hG2 := hG.2
  have hP2 := hP9.2
  refine G_aload_n dX8_memberOf_0 rfl rfl ?_
  refine G_iload_n dX8_memberOf_1 rfl rfl ?_
  refine G_callV (cx_memberAt m hY hC9) dX8_memberOf_2 (mc_X8_138 rfl) tw_548 tw_9 (hx_8 _ _ _) rfl rfl rfl (Nat.le_of_ble_eq_true rfl) (Nat.le_of_ble_eq_true rfl) (Nat.le_of_ble_eq_true rfl) (Nat.le_of_ble_eq_true rfl) ?_
  rintro _ n9_ _ ⟨rfl, e9_, rfl⟩
  obtain rfl := e9_.symm
  by_cases hw2 : wi m 0 (c 8 0 - 1)
  · obtain ⟨j, hj, rfl⟩ := m_ixe hB (by decide) hw2
    have ej : ix (nI j) = j := nI_clamp (by omega)
    refine G_top (w := .ref (y_a Y 4 j)) (by unfold oW; rw [cif_t hw2, ej]; rfl) ?_
    refine G_astore_n dX8_memberOf_5 rfl (Nat.le_of_ble_eq_true rfl) rfl ?_
    refine G_aload_n dX8_memberOf_6 rfl rfl ?_
    refine G_ifnonnull (tgt := 12) dX8_memberOf_7 (by decide) ?_
    refine G_iload_n dX8_memberOf_12 rfl rfl ?_
    refine G_tsw (tgt := 55) dX8_memberOf_13 (by decide) (fun c13 => ?_) (fun j9 e9 l9 => ?_)
    · skip
      have hnw := tsw_w (hi := 2) c13
      refine G_iconst (v := -1) dX8_memberOf_55 rfl ?_
      refine G_iret dX8_memberOf_56 rfl ?_
      exact c_close (Prod.ext rfl ((cif_t hw2).trans (cif_f hnw)))
    · rcases (show j9 = 0 ∨ j9 = 1 ∨ j9 = 2 by omega) with rfl | rfl | rfl
      · refine ⟨27, 40, rfl, by decide, ?_⟩
        have ez : v = nI 0 := tsw_e e9 (by decide)
        subst ez
        refine G_aload_n dX8_memberOf_40 rfl rfl ?_
        refine G_get dX8_memberOf_41 fg_X8_227 (hx_B hY hj) rfl ?_
        refine G_iret dX8_memberOf_44 rfl ?_
        refine c_close (Prod.ext rfl ?_); show cif _ (cif _ (c_mof c (ix (nI j)) _) _) _ = _; rw [ej, cif_t hw2, cif_t (by decide)]; rfl
      · refine ⟨32, 45, rfl, by decide, ?_⟩
        have ez : v = nI 1 := tsw_e e9 (by decide)
        subst ez
        refine G_aload_n dX8_memberOf_45 rfl rfl ?_
        refine G_get dX8_memberOf_46 fg_X8_276 (hx_B hY hj) rfl ?_
        refine G_iret dX8_memberOf_49 rfl ?_
        refine c_close (Prod.ext rfl ?_); show cif _ (cif _ (c_mof c (ix (nI j)) _) _) _ = _; rw [ej, cif_t hw2, cif_t (by decide)]; rfl
      · refine ⟨37, 50, rfl, by decide, ?_⟩
        have ez : v = nI 2 := tsw_e e9 (by decide)
        subst ez
        refine G_aload_n dX8_memberOf_50 rfl rfl ?_
        refine G_get dX8_memberOf_51 fg_X8_195 (hx_B hY hj) rfl ?_
        refine G_iret dX8_memberOf_54 rfl ?_
        refine c_close (Prod.ext rfl ?_); show cif _ (cif _ (c_mof c (ix (nI j)) _) _) _ = _; rw [ej, cif_t hw2, cif_t (by decide)]; rfl
  · refine G_top (w := .null) (by unfold oW; rw [cif_f hw2]; rfl) ?_
    refine G_astore_nN dX8_memberOf_5 rfl (Nat.le_of_ble_eq_true rfl) rfl ?_
    refine G_aload_nN dX8_memberOf_6 rfl rfl ?_
    refine G_ifnonnullN dX8_memberOf_7 ?_
    refine G_iconst (v := -1) dX8_memberOf_10 rfl ?_
    refine G_iret dX8_memberOf_11 rfl ?_
    exact c_close (Prod.ext rfl (cif_f hw2))
theorem cnt_ix {v : Int32} (h : wi v 20 27) : ∃ j, j < 8 ∧ v - 20 = nI j := by
  obtain ⟨j, hj, rfl⟩ := nI_of2 (n := 27) rfl (fun q => absurd (Int32.lt_of_le_of_lt h.1 q) (by decide)) h.2
  have h1 := (nI_leI (a := 20) (by decide) (by omega)).mp h.1
  refine ⟨j - 20, by omega, ?_⟩
  rw [show (20 : Int32) = nI 20 from rfl, nI_sub h1]
set_option maxHeartbeats 4000000 in
set_option maxRecDepth 100000 in
theorem cp9_count {g : gT} {nq_ n9 : Nat} {sm : mS} {Y : cY} {c : mS} (v : Int32) (hY : Yok Y c n9) (hC9 : c_inv c) : M g 4 0 0 kX8_count [.ref 8, .int v] nq_ (hh sm Y c) (c_S (.int (cp_count c v).2) nq_ sm Y (cp_count c v).1) := by
  refine M_of_G (by decide +kernel) (Nat.le_of_ble_eq_true rfl) ?_
  obtain ⟨hI, hG, hgv, hov, hrw, hps⟩ := id hC9
  obtain ⟨hK, hT, hB, hP9, hA, hkf, haf, hbf⟩ := id hI
  have hA2 := hA.2
  have hT2 := hT.2
  have hK2 := hK.2
  have hB2 := hB.2
  have hG2 := hG.2
  have hP2 := hP9.2
  refine G_iload_n dX8_count_0 rfl rfl ?_
  refine G_bipush (v := 10) dX8_count_1 rfl ?_
  refine G_bipush (v := 16) dX8_count_3 rfl ?_
  refine G_callS (cx_within _ _ _) dX8_count_5 (mc_X8_64 rfl) tw_236 rfl rfl (Nat.le_of_ble_eq_true rfl) (Nat.le_of_ble_eq_true rfl) (Nat.le_of_ble_eq_true rfl) (Nat.le_of_ble_eq_true rfl) ?_
  rintro _ n9_ _ ⟨rfl, e9_, rfl⟩
  obtain rfl := e9_.symm
  refine G_if_eq (tgt := 20) dX8_count_8 (by decide) (fun c8 => ?_) (fun c8 => ?_)
  · skip
    refine G_iload_n dX8_count_20 rfl rfl ?_
    refine G_bipush (v := 20) dX8_count_21 rfl ?_
    refine G_bipush (v := 27) dX8_count_23 rfl ?_
    refine G_callS (cx_within _ _ _) dX8_count_25 (mc_X8_64 rfl) tw_236 rfl rfl (Nat.le_of_ble_eq_true rfl) (Nat.le_of_ble_eq_true rfl) (Nat.le_of_ble_eq_true rfl) (Nat.le_of_ble_eq_true rfl) ?_
    rintro _ n9_ _ ⟨rfl, e9_, rfl⟩
    obtain rfl := e9_.symm
    refine G_if_eq (tgt := 43) dX8_count_28 (by decide) (fun c28 => ?_) (fun c28 => ?_)
    · skip
      refine G_iload_n dX8_count_43 rfl rfl ?_
      refine G_tsw (tgt := 141) dX8_count_44 (by decide) (fun c44 => ?_) (fun j9 e9 l9 => ?_)
      · skip
        have hnw := tsw_w (hi := 6) c44
        refine G_iconst (v := -1) dX8_count_141 rfl ?_
        refine G_iret dX8_count_142 rfl ?_
        exact c_close (Prod.ext rfl ((cif_f (b1_0.mp c8)).trans ((cif_f (b1_0.mp c28)).trans (cif_f hnw))))
      · rcases (show j9 = 0 ∨ j9 = 1 ∨ j9 = 2 ∨ j9 = 3 ∨ j9 = 4 ∨ j9 = 5 ∨ j9 = 6 by omega) with rfl | rfl | rfl | rfl | rfl | rfl | rfl
        · refine ⟨44, 88, rfl, by decide, ?_⟩
          have ez : v = nI 0 := tsw_e e9 (by decide)
          subst ez
          refine G_aload_n dX8_count_88 rfl rfl ?_
          refine G_get dX8_count_89 fg_X8_10 (hx_8 _ _ _) rfl ?_
          refine GL_size0 dX8_count_92 (mc_X8_60 rfl) (Nat.le_of_ble_eq_true rfl) (Nat.le_of_ble_eq_true rfl) ?_
          refine G_iret dX8_count_95 rfl ?_
          exact c_close (Prod.ext rfl ((cif_f (by decide)).trans ((cif_f (by decide)).trans (cif_t (by decide)))))
        · refine ⟨52, 96, rfl, by decide, ?_⟩
          have ez : v = nI 1 := tsw_e e9 (by decide)
          subst ez
          refine G_aload_n dX8_count_96 rfl rfl ?_
          refine G_get dX8_count_97 fg_X8_16 (hx_8 _ _ _) rfl ?_
          refine GL_size1 dX8_count_100 (mc_X8_60 rfl) (Nat.le_of_ble_eq_true rfl) (Nat.le_of_ble_eq_true rfl) ?_
          refine G_iret dX8_count_103 rfl ?_
          exact c_close (Prod.ext rfl ((cif_f (by decide)).trans ((cif_f (by decide)).trans (cif_t (by decide)))))
        · refine ⟨60, 104, rfl, by decide, ?_⟩
          have ez : v = nI 2 := tsw_e e9 (by decide)
          subst ez
          refine G_aload_n dX8_count_104 rfl rfl ?_
          refine G_get dX8_count_105 fg_X8_19 (hx_8 _ _ _) rfl ?_
          refine GL_size2 dX8_count_108 (mc_X8_60 rfl) (Nat.le_of_ble_eq_true rfl) (Nat.le_of_ble_eq_true rfl) ?_
          refine G_iret dX8_count_111 rfl ?_
          exact c_close (Prod.ext rfl ((cif_f (by decide)).trans ((cif_f (by decide)).trans (cif_t (by decide)))))
        · refine ⟨68, 112, rfl, by decide, ?_⟩
          have ez : v = nI 3 := tsw_e e9 (by decide)
          subst ez
          refine G_aload_n dX8_count_112 rfl rfl ?_
          refine G_get dX8_count_113 fg_X8_45 (hx_8 _ _ _) rfl ?_
          refine G_get dX8_count_116 fg_X8_101 (hx_18 _ _ _) rfl ?_
          refine G_iret dX8_count_119 rfl ?_
          exact c_close (Prod.ext rfl ((cif_f (by decide)).trans ((cif_f (by decide)).trans (cif_t (by decide)))))
        · refine ⟨76, 120, rfl, by decide, ?_⟩
          have ez : v = nI 4 := tsw_e e9 (by decide)
          subst ez
          refine G_aload_n dX8_count_120 rfl rfl ?_
          refine G_get dX8_count_121 fg_X8_56 (hx_8 _ _ _) rfl ?_
          refine G_iret dX8_count_124 rfl ?_
          exact c_close (Prod.ext rfl ((cif_f (by decide)).trans ((cif_f (by decide)).trans (cif_t (by decide)))))
        · refine ⟨81, 125, rfl, by decide, ?_⟩
          have ez : v = nI 5 := tsw_e e9 (by decide)
          subst ez
          refine G_aload_n dX8_count_125 rfl rfl ?_
          refine G_get dX8_count_126 fg_X8_22 (hx_8 _ _ _) rfl ?_
          refine GL_size3 dX8_count_129 (mc_X8_60 rfl) (Nat.le_of_ble_eq_true rfl) (Nat.le_of_ble_eq_true rfl) ?_
          refine G_iret dX8_count_132 rfl ?_
          exact c_close (Prod.ext rfl ((cif_f (by decide)).trans ((cif_f (by decide)).trans (cif_t (by decide)))))
        · refine ⟨89, 133, rfl, by decide, ?_⟩
          have ez : v = nI 6 := tsw_e e9 (by decide)
          subst ez
          refine G_aload_n dX8_count_133 rfl rfl ?_
          refine G_get dX8_count_134 fg_X8_31 (hx_8 _ _ _) rfl ?_
          refine G_get dX8_count_137 fg_X8_98 (hx_14 _ _ _) rfl ?_
          refine G_iret dX8_count_140 rfl ?_
          exact c_close (Prod.ext rfl ((cif_f (by decide)).trans ((cif_f (by decide)).trans (cif_t (by decide)))))
    · skip
      refine G_aload_n dX8_count_31 rfl rfl ?_
      refine G_get dX8_count_32 fg_X8_45 (hx_8 _ _ _) rfl ?_
      refine G_iload_n dX8_count_35 rfl rfl ?_
      refine G_bipush (v := 20) dX8_count_36 rfl ?_
      refine G_isub dX8_count_38 ?_
      obtain ⟨j, hj, ej⟩ := cnt_ix (b1_1 c28)
      refine G_top (congrArg Value.int ej) ?_
      refine G_callV (cx_want j hY hC9 hj) dX8_count_39 (mc_X8_279 rfl) tw_539 tw_540 (hx_18 _ _ _) rfl rfl rfl (Nat.le_of_ble_eq_true rfl) (Nat.le_of_ble_eq_true rfl) (Nat.le_of_ble_eq_true rfl) (Nat.le_of_ble_eq_true rfl) ?_
      rintro _ n9_ _ ⟨rfl, e9_, rfl⟩
      obtain rfl := e9_.symm
      refine G_iret dX8_count_42 rfl ?_
      exact c_close (Prod.ext rfl ((cif_f (b1_0.mp c8)).trans ((cif_t (b1_1 c28)).trans (by rw [ej, show ix (nI j) = j from nI_clamp (by omega)]))))
  · skip
    refine G_aload_n dX8_count_11 rfl rfl ?_
    refine G_iload_n dX8_count_12 rfl rfl ?_
    refine G_bipush (v := 10) dX8_count_13 rfl ?_
    refine G_isub dX8_count_15 ?_
    refine G_callV (cx_many _ hY hC9) dX8_count_16 (mc_X8_146 rfl) tw_556 tw_11 (hx_8 _ _ _) rfl rfl rfl (Nat.le_of_ble_eq_true rfl) (Nat.le_of_ble_eq_true rfl) (Nat.le_of_ble_eq_true rfl) (Nat.le_of_ble_eq_true rfl) ?_
    rintro _ n9_ _ ⟨rfl, e9_, rfl⟩
    obtain rfl := e9_.symm
    refine G_iret dX8_count_19 rfl ?_
    exact c_close (Prod.ext rfl (cif_t (b1_1 c8)))
