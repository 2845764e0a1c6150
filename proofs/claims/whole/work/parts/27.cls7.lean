noncomputable def cp_kind (c : mS) (a b d : Int32) : mS × Int32 := cif (¬ 8 ≤ c 1 0 ∧ wi a 0 5 ∧ wi b 0 255 ∧ wi d 0 100) ((m_set (m_set (m_set (m_set (m_set c 2 (mK c) a) 3 (mK c) b) 4 (mK c) d) 1 0 (nI (mK c + 1))) 90 0 (c 90 0 + 1)), nI (mK c)) (c, -1)
set_option maxHeartbeats 4000000 in
set_option maxRecDepth 100000 in
theorem cp9_kind {g : gT} {Y : cY} {c : mS} {sm : mS} {nq_ : Nat} (a b d : Int32) (hY : Yok Y c nq_) (hn : 53 ≤ nq_) (hC9 : c_inv c) : M g 7 2 314 kX8_kind [.ref 8, .int a, .int b, .int d] nq_ (hh sm Y c) (c_A nq_ sm (cp_kind c a b d)) := by
  refine M_of_G (by decide +kernel) (Nat.le_of_ble_eq_true rfl) ?_
  obtain ⟨hI, hG, hgv, hov, hrw, hps⟩ := id hC9
  obtain ⟨hK, hT, hB, hP9, hA, hkf, haf, hbf⟩ := id hI
  have hA2 := hA.2
  have hT2 := hT.2
  have hK2 := hK.2
  have hB2 := hB.2
  have hG2 := hG.2
  have hP2 := hP9.2
  refine G_aload_n dX8_kind_0 rfl rfl ?_
  refine G_get dX8_kind_1 fg_X8_10 (hx_8 _ _ _) rfl ?_
  refine GL_size0 dX8_kind_4 (mc_X8_60 rfl) (Nat.le_of_ble_eq_true rfl) (Nat.le_of_ble_eq_true rfl) ?_
  refine G_bipush (v := 8) dX8_kind_7 rfl ?_
  refine G_icmp_ge (tgt := 42) dX8_kind_9 (by decide) (fun c9 => ?_) (fun c9 => ?_)
  · skip
    refine G_iconst (v := -1) dX8_kind_42 rfl ?_
    refine G_iret dX8_kind_43 rfl ?_
    first | exact ca_close hY (Nat.le_refl _) (cif_f (fun q => q.1 c9)) | exact ca_close hY (Nat.le_refl _) (cif_f (fun q => b1_0.mp c18 q.2.1)) | exact ca_close hY (Nat.le_refl _) (cif_f (fun q => b1_0.mp c29 q.2.2.1)) | exact ca_close hY (Nat.le_refl _) (cif_f (fun q => b1_0.mp c39 q.2.2.2))
  · skip
    refine G_iload_n dX8_kind_12 rfl rfl ?_
    refine G_iconst (v := 0) dX8_kind_13 rfl ?_
    refine G_iconst (v := 5) dX8_kind_14 rfl ?_
    refine G_callS (cx_within _ _ _) dX8_kind_15 (mc_X8_64 rfl) tw_236 rfl rfl (Nat.le_of_ble_eq_true rfl) (Nat.le_of_ble_eq_true rfl) (Nat.le_of_ble_eq_true rfl) (Nat.le_of_ble_eq_true rfl) ?_
    rintro _ n9_ _ ⟨rfl, e9_, rfl⟩
    obtain rfl := e9_.symm
    refine G_if_eq (tgt := 42) dX8_kind_18 (by decide) (fun c18 => ?_) (fun c18 => ?_)
    · skip
      refine G_iconst (v := -1) dX8_kind_42 rfl ?_
      refine G_iret dX8_kind_43 rfl ?_
      first | exact ca_close hY (Nat.le_refl _) (cif_f (fun q => q.1 c9)) | exact ca_close hY (Nat.le_refl _) (cif_f (fun q => b1_0.mp c18 q.2.1)) | exact ca_close hY (Nat.le_refl _) (cif_f (fun q => b1_0.mp c29 q.2.2.1)) | exact ca_close hY (Nat.le_refl _) (cif_f (fun q => b1_0.mp c39 q.2.2.2))
    · skip
      refine G_iload_n dX8_kind_21 rfl rfl ?_
      refine G_iconst (v := 0) dX8_kind_22 rfl ?_
      refine G_sipush (v := 255) dX8_kind_23 rfl ?_
      refine G_callS (cx_within _ _ _) dX8_kind_26 (mc_X8_64 rfl) tw_236 rfl rfl (Nat.le_of_ble_eq_true rfl) (Nat.le_of_ble_eq_true rfl) (Nat.le_of_ble_eq_true rfl) (Nat.le_of_ble_eq_true rfl) ?_
      rintro _ n9_ _ ⟨rfl, e9_, rfl⟩
      obtain rfl := e9_.symm
      refine G_if_eq (tgt := 42) dX8_kind_29 (by decide) (fun c29 => ?_) (fun c29 => ?_)
      · skip
        refine G_iconst (v := -1) dX8_kind_42 rfl ?_
        refine G_iret dX8_kind_43 rfl ?_
        first | exact ca_close hY (Nat.le_refl _) (cif_f (fun q => q.1 c9)) | exact ca_close hY (Nat.le_refl _) (cif_f (fun q => b1_0.mp c18 q.2.1)) | exact ca_close hY (Nat.le_refl _) (cif_f (fun q => b1_0.mp c29 q.2.2.1)) | exact ca_close hY (Nat.le_refl _) (cif_f (fun q => b1_0.mp c39 q.2.2.2))
      · skip
        refine G_iload_n dX8_kind_32 rfl rfl ?_
        refine G_iconst (v := 0) dX8_kind_33 rfl ?_
        refine G_bipush (v := 100) dX8_kind_34 rfl ?_
        refine G_callS (cx_within _ _ _) dX8_kind_36 (mc_X8_64 rfl) tw_236 rfl rfl (Nat.le_of_ble_eq_true rfl) (Nat.le_of_ble_eq_true rfl) (Nat.le_of_ble_eq_true rfl) (Nat.le_of_ble_eq_true rfl) ?_
        rintro _ n9_ _ ⟨rfl, e9_, rfl⟩
        obtain rfl := e9_.symm
        refine G_if_ne (tgt := 44) dX8_kind_39 (by decide) (fun c39 => ?_) (fun c39 => ?_)
        · skip
          have hlt : c 1 0 = nI (mK c) ∧ mK c < 120 := ⟨hK.1, by omega⟩
          refine G_aload_n dX8_kind_44 rfl rfl ?_
          refine G_get dX8_kind_45 fg_X8_10 (hx_8 _ _ _) rfl ?_
          refine G_new dX8_kind_48 nk_X8_68 (Nat.le_of_ble_eq_true rfl) (Nat.le_of_ble_eq_true rfl) ?_
          refine G_dup dX8_kind_51 rfl ?_
          refine G_aload_n dX8_kind_52 rfl rfl ?_
          refine G_get dX8_kind_53 fg_X8_10 ((va_up_ne _ _ (by omega)).trans (hx_8 _ _ _)) rfl ?_
          refine G_callV (cj_size ((va_up_ne _ _ (by omega)).trans (hx_9 _ _ _))) dX8_kind_56 (mc_X8_60 rfl) tw_232 tw_233 ((va_up_ne _ _ (by omega)).trans (hx_9 _ _ _)) rfl rfl rfl (Nat.le_of_ble_eq_true rfl) (Nat.le_of_ble_eq_true rfl) (Nat.le_of_ble_eq_true rfl) (Nat.le_of_ble_eq_true rfl) ?_
          rintro _ n9_ _ ⟨rfl, e9_, rfl⟩
          obtain rfl := e9_.symm
          refine G_top (congrArg Value.int hK.1) ?_
          refine G_iload_n dX8_kind_59 rfl rfl ?_
          refine G_iload_n dX8_kind_60 rfl rfl ?_
          refine G_iload_n dX8_kind_61 rfl rfl ?_
          refine G_callI (ck_kind _ _ _ _ (va_up_self _ _ _)) dX8_kind_62 (mc_X8_70 rfl) rfl rfl tw_241 rfl rfl (Nat.le_of_ble_eq_true rfl) (Nat.le_of_ble_eq_true rfl) (Nat.le_of_ble_eq_true rfl) (Nat.le_of_ble_eq_true rfl) ?_
          rintro _ n9_ _ ⟨rfl, e9_, rfl⟩
          obtain rfl := e9_.symm
          rw [va_upp, nw_kind a b d hY hn hC9]
          obtain ⟨a1, a2, a3, a4, a5, a6, fs, a7⟩ := arg_kind (sm := sm) a b d hY hn hlt
          refine G_callV (cj_add a1 a2 a3 a4 a5 a6 a7 (by omega) rfl tw_1208) dX8_kind_65 (mc_X8_73 rfl) tw_264 tw_265 a1 rfl rfl rfl (Nat.le_of_ble_eq_true rfl) (Nat.le_of_ble_eq_true rfl) (Nat.le_of_ble_eq_true rfl) (Nat.le_of_ble_eq_true rfl) ?_
          rintro _ n8_ h8_ ⟨rfl, hz⟩
          obtain ⟨Y2, rfl, hY2, hn2⟩ := push_kind a b d hY hn hlt hz
          refine G_pop dX8_kind_68 rfl ?_
          refine G_aload_n dX8_kind_69 rfl rfl ?_
          refine G_get dX8_kind_70 fg_X8_10 (hx_8 _ _ _) rfl ?_
          refine GL_size0 dX8_kind_73 (mc_X8_60 rfl) (Nat.le_of_ble_eq_true rfl) (Nat.le_of_ble_eq_true rfl) ?_
          refine G_iconst (v := 1) dX8_kind_76 rfl ?_
          refine G_isub dX8_kind_77 ?_
          refine G_iret dX8_kind_78 rfl ?_
          exact ca_close hY2 (by omega) ((cif_t ⟨c9, b1_1 c18, b1_1 c29, b1_1 c39⟩).trans (Prod.ext rfl (nI_pred _).symm))
        · skip
          refine G_iconst (v := -1) dX8_kind_42 rfl ?_
          refine G_iret dX8_kind_43 rfl ?_
          first | exact ca_close hY (Nat.le_refl _) (cif_f (fun q => q.1 c9)) | exact ca_close hY (Nat.le_refl _) (cif_f (fun q => b1_0.mp c18 q.2.1)) | exact ca_close hY (Nat.le_refl _) (cif_f (fun q => b1_0.mp c29 q.2.2.1)) | exact ca_close hY (Nat.le_refl _) (cif_f (fun q => b1_0.mp c39 q.2.2.2))
noncomputable def cp_thing (c : mS) (v : Int32) : mS × Int32 := cif (wi v 0 (c 1 0 - 1) ∧ c 5 0 < 12) ((m_set (m_set (m_set (m_set (m_set (m_set c 6 (mT c) (nI (ix v))) 7 (mT c) (-1)) 50 (mT c) (-1)) 51 (mT c) (-1)) 5 0 (nI (mT c + 1))) 90 1 (c 90 1 + 1)), nI (mT c)) (c, -1)
set_option maxHeartbeats 4000000 in
set_option maxRecDepth 100000 in
theorem cp9_thing {g : gT} {Y : cY} {c : mS} {sm : mS} {nq_ : Nat} (v : Int32) (hY : Yok Y c nq_) (hn : 53 ≤ nq_) (hC9 : c_inv c) : M g 7 2 315 kX8_thing [.ref 8, .int v] nq_ (hh sm Y c) (c_A nq_ sm (cp_thing c v)) := by
  refine M_of_G (by decide +kernel) (Nat.le_of_ble_eq_true rfl) ?_
  obtain ⟨hI, hG, hgv, hov, hrw, hps⟩ := id hC9
  obtain ⟨hK, hT, hB, hP9, hA, hkf, haf, hbf⟩ := id hI
  have hA2 := hA.2
  have hT2 := hT.2
  have hK2 := hK.2
  have hB2 := hB.2
  have hG2 := hG.2
  have hP2 := hP9.2
  refine G_aload_n dX8_thing_0 rfl rfl ?_
  refine G_iload_n dX8_thing_1 rfl rfl ?_
  refine G_callV (cx_kindAt v hY hC9) dX8_thing_2 (mc_X8_77 rfl) tw_328 tw_3 (hx_8 _ _ _) rfl rfl rfl (Nat.le_of_ble_eq_true rfl) (Nat.le_of_ble_eq_true rfl) (Nat.le_of_ble_eq_true rfl) (Nat.le_of_ble_eq_true rfl) ?_
  rintro _ n9_ _ ⟨rfl, e9_, rfl⟩
  obtain rfl := e9_.symm
  by_cases hw2 : wi v 0 (c 1 0 - 1)
  · obtain ⟨j, hj, rfl⟩ := m_ixe hK (by decide) hw2
    have ej : ix (nI j) = j := nI_clamp (by omega)
    refine G_top (w := .ref (y_a Y 1 j)) (by unfold oW; rw [cif_t hw2, ej]; rfl) ?_
    refine G_astore_n dX8_thing_5 rfl (Nat.le_of_ble_eq_true rfl) rfl ?_
    refine G_aload_n dX8_thing_6 rfl rfl ?_
    refine G_ifnull dX8_thing_7 ?_
    refine G_aload_n dX8_thing_10 rfl rfl ?_
    refine G_get dX8_thing_11 fg_X8_16 (hx_8 _ _ _) rfl ?_
    refine GL_size1 dX8_thing_14 (mc_X8_60 rfl) (Nat.le_of_ble_eq_true rfl) (Nat.le_of_ble_eq_true rfl) ?_
    refine G_bipush (v := 12) dX8_thing_17 rfl ?_
    refine G_icmp_lt (tgt := 24) dX8_thing_19 (by decide) (fun c19 => ?_) (fun c19 => ?_)
    · skip
      have hlt : c 5 0 = nI (mT c) ∧ mT c < 120 := ⟨hT.1, by omega⟩
      refine G_aload_n dX8_thing_24 rfl rfl ?_
      refine G_get dX8_thing_25 fg_X8_16 (hx_8 _ _ _) rfl ?_
      refine G_new dX8_thing_28 nk_X8_81 (Nat.le_of_ble_eq_true rfl) (Nat.le_of_ble_eq_true rfl) ?_
      refine G_dup dX8_thing_31 rfl ?_
      refine G_aload_n dX8_thing_32 rfl rfl ?_
      refine G_get dX8_thing_33 fg_X8_16 ((va_up_ne _ _ (by omega)).trans (hx_8 _ _ _)) rfl ?_
      refine G_callV (cj_size ((va_up_ne _ _ (by omega)).trans (hx_10 _ _ _))) dX8_thing_36 (mc_X8_60 rfl) tw_232 tw_233 ((va_up_ne _ _ (by omega)).trans (hx_10 _ _ _)) rfl rfl rfl (Nat.le_of_ble_eq_true rfl) (Nat.le_of_ble_eq_true rfl) (Nat.le_of_ble_eq_true rfl) (Nat.le_of_ble_eq_true rfl) ?_
      rintro _ n9_ _ ⟨rfl, e9_, rfl⟩
      obtain rfl := e9_.symm
      refine G_top (congrArg Value.int hT.1) ?_
      refine G_aload_n dX8_thing_39 rfl rfl ?_
      refine G_callI (ck_thing _ _ (va_up_self _ _ _)) dX8_thing_40 (mc_X8_83 rfl) rfl rfl tw_347 rfl rfl (Nat.le_of_ble_eq_true rfl) (Nat.le_of_ble_eq_true rfl) (Nat.le_of_ble_eq_true rfl) (Nat.le_of_ble_eq_true rfl) ?_
      rintro _ n9_ _ ⟨rfl, e9_, rfl⟩
      obtain rfl := e9_.symm
      rw [va_upp, nw_thing j hY hn hC9 hj]
      obtain ⟨a1, a2, a3, a4, a5, a6, fs, a7⟩ := arg_thing (sm := sm) j hY hn hlt
      refine G_callV (cj_add a1 a2 a3 a4 a5 a6 a7 (by omega) rfl tw_1209) dX8_thing_43 (mc_X8_73 rfl) tw_264 tw_265 a1 rfl rfl rfl (Nat.le_of_ble_eq_true rfl) (Nat.le_of_ble_eq_true rfl) (Nat.le_of_ble_eq_true rfl) (Nat.le_of_ble_eq_true rfl) ?_
      rintro _ n8_ h8_ ⟨rfl, hz⟩
      obtain ⟨Y2, rfl, hY2, hn2⟩ := push_thing j hY hn hlt hz
      refine G_pop dX8_thing_46 rfl ?_
      refine G_aload_n dX8_thing_47 rfl rfl ?_
      refine G_get dX8_thing_48 fg_X8_16 (hx_8 _ _ _) rfl ?_
      refine GL_size1 dX8_thing_51 (mc_X8_60 rfl) (Nat.le_of_ble_eq_true rfl) (Nat.le_of_ble_eq_true rfl) ?_
      refine G_iconst (v := 1) dX8_thing_54 rfl ?_
      refine G_isub dX8_thing_55 ?_
      refine G_iret dX8_thing_56 rfl ?_
      refine ca_close hY2 (by omega) ?_; unfold cp_thing; rw [ej, cif_t ⟨hw2, c19⟩]; exact Prod.ext rfl (nI_pred _).symm
    · skip
      refine G_iconst (v := -1) dX8_thing_22 rfl ?_
      refine G_iret dX8_thing_23 rfl ?_
      first | exact ca_close hY (Nat.le_refl _) (cif_f (fun q => hw2 q.1)) | exact ca_close hY (Nat.le_refl _) (cif_f (fun q => c19 q.2))
  · refine G_top (w := .null) (by unfold oW; rw [cif_f hw2]; rfl) ?_
    refine G_astore_nN dX8_thing_5 rfl (Nat.le_of_ble_eq_true rfl) rfl ?_
    refine G_aload_nN dX8_thing_6 rfl rfl ?_
    refine G_ifnullN (tgt := 22) dX8_thing_7 (by decide) ?_
    refine G_iconst (v := -1) dX8_thing_22 rfl ?_
    refine G_iret dX8_thing_23 rfl ?_
    first | exact ca_close hY (Nat.le_refl _) (cif_f (fun q => hw2 q.1)) | exact ca_close hY (Nat.le_refl _) (cif_f (fun q => c19 q.2))
noncomputable def cp_member (c : mS) : mS × Int32 := cif (c 8 0 < 10) ((m_set (m_set (m_set (m_set (m_set c 9 (mB c) 0) 10 (mB c) 0) 52 (mB c) 0) 8 0 (nI (mB c + 1))) 90 2 (c 90 2 + 1)), nI (mB c)) (c, -1)
set_option maxHeartbeats 4000000 in
set_option maxRecDepth 100000 in
theorem cp9_member {g : gT} {Y : cY} {c : mS} {sm : mS} {nq_ : Nat} (hY : Yok Y c nq_) (hn : 53 ≤ nq_) (hC9 : c_inv c) : M g 7 2 314 kX8_member [.ref 8] nq_ (hh sm Y c) (c_A nq_ sm (cp_member c)) := by
  refine M_of_G (by decide +kernel) (Nat.le_of_ble_eq_true rfl) ?_
  obtain ⟨hI, hG, hgv, hov, hrw, hps⟩ := id hC9
  obtain ⟨hK, hT, hB, hP9, hA, hkf, haf, hbf⟩ := id hI
  have hA2 := hA.2
  have hT2 := hT.2
  have hK2 := hK.2
  have hB2 := hB.2
  have hG2 := hG.2
  have hP2 := hP9.2
  refine G_aload_n dX8_member_0 rfl rfl ?_
  refine G_get dX8_member_1 fg_X8_19 (hx_8 _ _ _) rfl ?_
  refine GL_size2 dX8_member_4 (mc_X8_60 rfl) (Nat.le_of_ble_eq_true rfl) (Nat.le_of_ble_eq_true rfl) ?_
  refine G_bipush (v := 10) dX8_member_7 rfl ?_
  refine G_icmp_lt (tgt := 14) dX8_member_9 (by decide) (fun c9 => ?_) (fun c9 => ?_)
  · skip
    have hlt : c 8 0 = nI (mB c) ∧ mB c < 120 := ⟨hB.1, by omega⟩
    refine G_aload_n dX8_member_14 rfl rfl ?_
    refine G_get dX8_member_15 fg_X8_19 (hx_8 _ _ _) rfl ?_
    refine G_new dX8_member_18 nk_X8_86 (Nat.le_of_ble_eq_true rfl) (Nat.le_of_ble_eq_true rfl) ?_
    refine G_dup dX8_member_21 rfl ?_
    refine G_aload_n dX8_member_22 rfl rfl ?_
    refine G_get dX8_member_23 fg_X8_19 ((va_up_ne _ _ (by omega)).trans (hx_8 _ _ _)) rfl ?_
    refine G_callV (cj_size ((va_up_ne _ _ (by omega)).trans (hx_11 _ _ _))) dX8_member_26 (mc_X8_60 rfl) tw_232 tw_233 ((va_up_ne _ _ (by omega)).trans (hx_11 _ _ _)) rfl rfl rfl (Nat.le_of_ble_eq_true rfl) (Nat.le_of_ble_eq_true rfl) (Nat.le_of_ble_eq_true rfl) (Nat.le_of_ble_eq_true rfl) ?_
    rintro _ n9_ _ ⟨rfl, e9_, rfl⟩
    obtain rfl := e9_.symm
    refine G_top (congrArg Value.int hB.1) ?_
    refine G_callI (ck_mem _ (va_up_self _ _ _)) dX8_member_29 (mc_X8_88 rfl) rfl rfl tw_382 rfl rfl (Nat.le_of_ble_eq_true rfl) (Nat.le_of_ble_eq_true rfl) (Nat.le_of_ble_eq_true rfl) (Nat.le_of_ble_eq_true rfl) ?_
    rintro _ n9_ _ ⟨rfl, e9_, rfl⟩
    obtain rfl := e9_.symm
    rw [va_upp, nw_mem  hY hn hC9]
    obtain ⟨a1, a2, a3, a4, a5, a6, fs, a7⟩ := arg_mem (sm := sm)  hY hn hlt
    refine G_callV (cj_add a1 a2 a3 a4 a5 a6 a7 (by omega) rfl tw_1210) dX8_member_32 (mc_X8_73 rfl) tw_264 tw_265 a1 rfl rfl rfl (Nat.le_of_ble_eq_true rfl) (Nat.le_of_ble_eq_true rfl) (Nat.le_of_ble_eq_true rfl) (Nat.le_of_ble_eq_true rfl) ?_
    rintro _ n8_ h8_ ⟨rfl, hz⟩
    obtain ⟨Y2, rfl, hY2, hn2⟩ := push_mem  hY hn hlt hz
    refine G_pop dX8_member_35 rfl ?_
    refine G_aload_n dX8_member_36 rfl rfl ?_
    refine G_get dX8_member_37 fg_X8_19 (hx_8 _ _ _) rfl ?_
    refine GL_size2 dX8_member_40 (mc_X8_60 rfl) (Nat.le_of_ble_eq_true rfl) (Nat.le_of_ble_eq_true rfl) ?_
    refine G_iconst (v := 1) dX8_member_43 rfl ?_
    refine G_isub dX8_member_44 ?_
    refine G_iret dX8_member_45 rfl ?_
    exact ca_close hY2 (by omega) ((cif_t c9).trans (Prod.ext rfl (nI_pred _).symm))
  · skip
    refine G_iconst (v := -1) dX8_member_12 rfl ?_
    refine G_iret dX8_member_13 rfl ?_
    exact ca_close hY (Nat.le_refl _) (cif_f c9)
def c_askable (c : mS) (m k n f l r : Int32) : Prop := wi m 0 (c 8 0 - 1) ∧ wi k 0 (c 1 0 - 1) ∧ wi n 0 255 ∧ wi r 0 2 ∧ c_can c f l ∧ ¬ 120 ≤ c 23 0 ∧ nI (ct (fun a => c 24 a = 0) (mA c)) < 5
noncomputable def cp_ask (c : mS) (m k n f l r : Int32) : mS × Int32 := cif (c_askable c m k n f l r) ((m_set (m_set (m_set (m_set (m_set (m_set (m_set (m_set (m_set (m_set (m_set (m_set c 24 (mA c) 0) 25 (mA c) (-1)) 26 (mA c) 0) 27 (mA c) (nI (ix m))) 28 (mA c) (nI (ix k))) 29 (mA c) n) 30 (mA c) f) 31 (mA c) l) 32 (mA c) r) 33 (mA c) (-1)) 23 0 (nI (mA c + 1))) 90 3 (c 90 3 + 1)), nI (mA c)) (c, -1)
set_option maxHeartbeats 4000000 in
set_option maxRecDepth 100000 in
theorem cp9_ask {g : gT} {Y : cY} {c : mS} {sm : mS} {nq_ : Nat} (m k n f l r : Int32) (hY : Yok Y c nq_) (hn : 53 ≤ nq_) (hC9 : c_inv c) : M g 7 2 321 kX8_ask [.ref 8, .int m, .int k, .int n, .int f, .int l, .int r] nq_ (hh sm Y c) (c_A nq_ sm (cp_ask c m k n f l r)) := by
  refine M_of_G (by decide +kernel) (Nat.le_of_ble_eq_true rfl) ?_
  obtain ⟨hI, hG, hgv, hov, hrw, hps⟩ := id hC9
  obtain ⟨hK, hT, hB, hP9, hA, hkf, haf, hbf⟩ := id hI
  have hA2 := hA.2
  have hT2 := hT.2
  have hK2 := hK.2
  have hB2 := hB.2
  have hG2 := hG.2
  have hP2 := hP9.2
  refine G_aload_n dX8_ask_0 rfl rfl ?_
  refine G_iload_n dX8_ask_1 rfl rfl ?_
  refine G_callV (cx_memberAt m hY hC9) dX8_ask_2 (mc_X8_138 rfl) tw_548 tw_9 (hx_8 _ _ _) rfl rfl rfl (Nat.le_of_ble_eq_true rfl) (Nat.le_of_ble_eq_true rfl) (Nat.le_of_ble_eq_true rfl) (Nat.le_of_ble_eq_true rfl) ?_
  rintro _ n9_ _ ⟨rfl, e9_, rfl⟩
  obtain rfl := e9_.symm
  by_cases hw2 : wi m 0 (c 8 0 - 1)
  · obtain ⟨j, hj, rfl⟩ := m_ixe hB (by decide) hw2
    have ej : ix (nI j) = j := nI_clamp (by omega)
    refine G_top (w := .ref (y_a Y 4 j)) (by unfold oW; rw [cif_t hw2, ej]; rfl) ?_
    refine G_astore dX8_ask_5 (Nat.le_of_ble_eq_true rfl) rfl ?_
    refine G_aload_n dX8_ask_7 rfl rfl ?_
    refine G_iload_n dX8_ask_8 rfl rfl ?_
    refine G_callV (cx_kindAt k hY hC9) dX8_ask_9 (mc_X8_77 rfl) tw_328 tw_3 (hx_8 _ _ _) rfl rfl rfl (Nat.le_of_ble_eq_true rfl) (Nat.le_of_ble_eq_true rfl) (Nat.le_of_ble_eq_true rfl) (Nat.le_of_ble_eq_true rfl) ?_
    rintro _ n9_ _ ⟨rfl, e9_, rfl⟩
    obtain rfl := e9_.symm
    by_cases hw9 : wi k 0 (c 1 0 - 1)
    · obtain ⟨i, hi, rfl⟩ := m_ixe hK (by decide) hw9
      have ei : ix (nI i) = i := nI_clamp (by omega)
      refine G_top (w := .ref (y_a Y 1 i)) (by unfold oW; rw [cif_t hw9, ei]; rfl) ?_
      refine G_astore dX8_ask_12 (Nat.le_of_ble_eq_true rfl) rfl ?_
      refine G_aload dX8_ask_14 rfl ?_
      refine G_ifnull dX8_ask_16 ?_
      refine G_aload dX8_ask_19 rfl ?_
      refine G_ifnull dX8_ask_21 ?_
      refine G_iload_n dX8_ask_24 rfl rfl ?_
      refine G_iconst (v := 0) dX8_ask_25 rfl ?_
      refine G_sipush (v := 255) dX8_ask_26 rfl ?_
      refine G_callS (cx_within _ _ _) dX8_ask_29 (mc_X8_64 rfl) tw_236 rfl rfl (Nat.le_of_ble_eq_true rfl) (Nat.le_of_ble_eq_true rfl) (Nat.le_of_ble_eq_true rfl) (Nat.le_of_ble_eq_true rfl) ?_
      rintro _ n9_ _ ⟨rfl, e9_, rfl⟩
      obtain rfl := e9_.symm
      refine G_if_eq (tgt := 56) dX8_ask_32 (by decide) (fun c32 => ?_) (fun c32 => ?_)
      · skip
        refine G_iconst (v := -1) dX8_ask_56 rfl ?_
        refine G_iret dX8_ask_57 rfl ?_
        first | exact ca_close hY (Nat.le_refl _) (cif_f (fun q => hw2 q.1)) | exact ca_close hY (Nat.le_refl _) (cif_f (fun q => hw9 q.2.1)) | exact ca_close hY (Nat.le_refl _) (cif_f (fun q => b1_0.mp c32 q.2.2.1)) | exact ca_close hY (Nat.le_refl _) (cif_f (fun q => b1_0.mp c42 q.2.2.2.1)) | exact ca_close hY (Nat.le_refl _) (cif_f (fun q => b1_0.mp c53 q.2.2.2.2.1))
      · skip
        refine G_iload dX8_ask_35 rfl ?_
        refine G_iconst (v := 0) dX8_ask_37 rfl ?_
        refine G_iconst (v := 2) dX8_ask_38 rfl ?_
        refine G_callS (cx_within _ _ _) dX8_ask_39 (mc_X8_64 rfl) tw_236 rfl rfl (Nat.le_of_ble_eq_true rfl) (Nat.le_of_ble_eq_true rfl) (Nat.le_of_ble_eq_true rfl) (Nat.le_of_ble_eq_true rfl) ?_
        rintro _ n9_ _ ⟨rfl, e9_, rfl⟩
        obtain rfl := e9_.symm
        refine G_if_eq (tgt := 56) dX8_ask_42 (by decide) (fun c42 => ?_) (fun c42 => ?_)
        · skip
          refine G_iconst (v := -1) dX8_ask_56 rfl ?_
          refine G_iret dX8_ask_57 rfl ?_
          first | exact ca_close hY (Nat.le_refl _) (cif_f (fun q => hw2 q.1)) | exact ca_close hY (Nat.le_refl _) (cif_f (fun q => hw9 q.2.1)) | exact ca_close hY (Nat.le_refl _) (cif_f (fun q => b1_0.mp c32 q.2.2.1)) | exact ca_close hY (Nat.le_refl _) (cif_f (fun q => b1_0.mp c42 q.2.2.2.1)) | exact ca_close hY (Nat.le_refl _) (cif_f (fun q => b1_0.mp c53 q.2.2.2.2.1))
        · skip
          refine G_aload_n dX8_ask_45 rfl rfl ?_
          refine G_iload dX8_ask_46 rfl ?_
          refine G_iload dX8_ask_48 rfl ?_
          refine G_callV (cx_can _ _ hY hC9) dX8_ask_50 (mc_X8_142 rfl) tw_552 tw_10 (hx_8 _ _ _) rfl rfl rfl (Nat.le_of_ble_eq_true rfl) (Nat.le_of_ble_eq_true rfl) (Nat.le_of_ble_eq_true rfl) (Nat.le_of_ble_eq_true rfl) ?_
          rintro _ n9_ _ ⟨rfl, e9_, rfl⟩
          obtain rfl := e9_.symm
          refine G_if_ne (tgt := 58) dX8_ask_53 (by decide) (fun c53 => ?_) (fun c53 => ?_)
          · skip
            refine G_aload_n dX8_ask_58 rfl rfl ?_
            refine G_get dX8_ask_59 fg_X8_22 (hx_8 _ _ _) rfl ?_
            refine GL_size3 dX8_ask_62 (mc_X8_60 rfl) (Nat.le_of_ble_eq_true rfl) (Nat.le_of_ble_eq_true rfl) ?_
            refine G_bipush (v := 120) dX8_ask_65 rfl ?_
            refine G_icmp_ge (tgt := 79) dX8_ask_67 (by decide) (fun c67 => ?_) (fun c67 => ?_)
            · skip
              refine G_iconst (v := -1) dX8_ask_79 rfl ?_
              refine G_iret dX8_ask_80 rfl ?_
              first | exact ca_close hY (Nat.le_refl _) (cif_f (fun q => q.2.2.2.2.2.1 c67)) | exact ca_close hY (Nat.le_refl _) (cif_f (fun q => c76 q.2.2.2.2.2.2))
            · skip
              refine G_aload_n dX8_ask_70 rfl rfl ?_
              refine G_iconst (v := 0) dX8_ask_71 rfl ?_
              refine G_callV (cx_many _ hY hC9) dX8_ask_72 (mc_X8_146 rfl) tw_556 tw_11 (hx_8 _ _ _) rfl rfl rfl (Nat.le_of_ble_eq_true rfl) (Nat.le_of_ble_eq_true rfl) (Nat.le_of_ble_eq_true rfl) (Nat.le_of_ble_eq_true rfl) ?_
              rintro _ n9_ _ ⟨rfl, e9_, rfl⟩
              obtain rfl := e9_.symm
              refine G_iconst (v := 5) dX8_ask_75 rfl ?_
              refine G_icmp_lt (tgt := 81) dX8_ask_76 (by decide) (fun c76 => ?_) (fun c76 => ?_)
              · skip
                have hlt : c 23 0 = nI (mA c) ∧ mA c < 120 := ⟨hA.1, m_lt hA (fun z => c67 (by rw [z]; decide))⟩
                refine G_aload_n dX8_ask_81 rfl rfl ?_
                refine G_get dX8_ask_82 fg_X8_22 (hx_8 _ _ _) rfl ?_
                refine G_new dX8_ask_85 nk_X8_150 (Nat.le_of_ble_eq_true rfl) (Nat.le_of_ble_eq_true rfl) ?_
                refine G_dup dX8_ask_88 rfl ?_
                refine G_aload_n dX8_ask_89 rfl rfl ?_
                refine G_get dX8_ask_90 fg_X8_22 ((va_up_ne _ _ (by omega)).trans (hx_8 _ _ _)) rfl ?_
                refine G_callV (cj_size ((va_up_ne _ _ (by omega)).trans (hx_12 _ _ _))) dX8_ask_93 (mc_X8_60 rfl) tw_232 tw_233 ((va_up_ne _ _ (by omega)).trans (hx_12 _ _ _)) rfl rfl rfl (Nat.le_of_ble_eq_true rfl) (Nat.le_of_ble_eq_true rfl) (Nat.le_of_ble_eq_true rfl) (Nat.le_of_ble_eq_true rfl) ?_
                rintro _ n9_ _ ⟨rfl, e9_, rfl⟩
                obtain rfl := e9_.symm
                refine G_top (congrArg Value.int hA.1) ?_
                refine G_aload dX8_ask_96 rfl ?_
                refine G_aload dX8_ask_98 rfl ?_
                refine G_iload_n dX8_ask_100 rfl rfl ?_
                refine G_iload dX8_ask_101 rfl ?_
                refine G_iload dX8_ask_103 rfl ?_
                refine G_iload dX8_ask_105 rfl ?_
                refine G_callI (ck_ask _ _ _ _ _ _ _ (va_up_self _ _ _)) dX8_ask_107 (mc_X8_152 rfl) rfl rfl tw_561 rfl rfl (Nat.le_of_ble_eq_true rfl) (Nat.le_of_ble_eq_true rfl) (Nat.le_of_ble_eq_true rfl) (Nat.le_of_ble_eq_true rfl) ?_
                rintro _ n9_ _ ⟨rfl, e9_, rfl⟩
                obtain rfl := e9_.symm
                rw [va_upp, nw_ask j i n f l r hY hn hC9 hj hi]
                obtain ⟨a1, a2, a3, a4, a5, a6, fs, a7⟩ := arg_ask (sm := sm) j i n f l r hY hn hlt
                refine G_callV (cj_add a1 a2 a3 a4 a5 a6 a7 (by omega) rfl tw_1200) dX8_ask_110 (mc_X8_73 rfl) tw_264 tw_265 a1 rfl rfl rfl (Nat.le_of_ble_eq_true rfl) (Nat.le_of_ble_eq_true rfl) (Nat.le_of_ble_eq_true rfl) (Nat.le_of_ble_eq_true rfl) ?_
                rintro _ n8_ h8_ ⟨rfl, hz⟩
                obtain ⟨Y2, rfl, hY2, hn2⟩ := push_ask j i n f l r hY hn hlt hz
                refine G_pop dX8_ask_113 rfl ?_
                refine G_aload_n dX8_ask_114 rfl rfl ?_
                refine G_get dX8_ask_115 fg_X8_22 (hx_8 _ _ _) rfl ?_
                refine GL_size3 dX8_ask_118 (mc_X8_60 rfl) (Nat.le_of_ble_eq_true rfl) (Nat.le_of_ble_eq_true rfl) ?_
                refine G_iconst (v := 1) dX8_ask_121 rfl ?_
                refine G_isub dX8_ask_122 ?_
                refine G_iret dX8_ask_123 rfl ?_
                refine ca_close hY2 (by omega) ?_; unfold cp_ask; rw [ej, ei, cif_t ⟨hw2, hw9, b1_1 c32, b1_1 c42, b1_1 c53, c67, c76⟩]; exact Prod.ext rfl (nI_pred _).symm
              · skip
                refine G_iconst (v := -1) dX8_ask_79 rfl ?_
                refine G_iret dX8_ask_80 rfl ?_
                first | exact ca_close hY (Nat.le_refl _) (cif_f (fun q => q.2.2.2.2.2.1 c67)) | exact ca_close hY (Nat.le_refl _) (cif_f (fun q => c76 q.2.2.2.2.2.2))
          · skip
            refine G_iconst (v := -1) dX8_ask_56 rfl ?_
            refine G_iret dX8_ask_57 rfl ?_
            first | exact ca_close hY (Nat.le_refl _) (cif_f (fun q => hw2 q.1)) | exact ca_close hY (Nat.le_refl _) (cif_f (fun q => hw9 q.2.1)) | exact ca_close hY (Nat.le_refl _) (cif_f (fun q => b1_0.mp c32 q.2.2.1)) | exact ca_close hY (Nat.le_refl _) (cif_f (fun q => b1_0.mp c42 q.2.2.2.1)) | exact ca_close hY (Nat.le_refl _) (cif_f (fun q => b1_0.mp c53 q.2.2.2.2.1))
    · refine G_top (w := .null) (by unfold oW; rw [cif_f hw9]; rfl) ?_
      refine G_astoreN dX8_ask_12 (Nat.le_of_ble_eq_true rfl) rfl ?_
      refine G_aload dX8_ask_14 rfl ?_
      refine G_ifnull dX8_ask_16 ?_
      refine G_aloadN dX8_ask_19 rfl ?_
      refine G_ifnullN (tgt := 56) dX8_ask_21 (by decide) ?_
      refine G_iconst (v := -1) dX8_ask_56 rfl ?_
      refine G_iret dX8_ask_57 rfl ?_
      first | exact ca_close hY (Nat.le_refl _) (cif_f (fun q => hw2 q.1)) | exact ca_close hY (Nat.le_refl _) (cif_f (fun q => hw9 q.2.1)) | exact ca_close hY (Nat.le_refl _) (cif_f (fun q => b1_0.mp c32 q.2.2.1)) | exact ca_close hY (Nat.le_refl _) (cif_f (fun q => b1_0.mp c42 q.2.2.2.1)) | exact ca_close hY (Nat.le_refl _) (cif_f (fun q => b1_0.mp c53 q.2.2.2.2.1))
  · refine G_top (w := .null) (by unfold oW; rw [cif_f hw2]; rfl) ?_
    refine G_astoreN dX8_ask_5 (Nat.le_of_ble_eq_true rfl) rfl ?_
    refine G_aload_n dX8_ask_7 rfl rfl ?_
    refine G_iload_n dX8_ask_8 rfl rfl ?_
    refine G_callV (cx_kindAt k hY hC9) dX8_ask_9 (mc_X8_77 rfl) tw_328 tw_3 (hx_8 _ _ _) rfl rfl rfl (Nat.le_of_ble_eq_true rfl) (Nat.le_of_ble_eq_true rfl) (Nat.le_of_ble_eq_true rfl) (Nat.le_of_ble_eq_true rfl) ?_
    rintro _ n9_ _ ⟨rfl, e9_, rfl⟩
    obtain rfl := e9_.symm
    by_cases hw9 : wi k 0 (c 1 0 - 1)
    · obtain ⟨i, hi, rfl⟩ := m_ixe hK (by decide) hw9
      have ei : ix (nI i) = i := nI_clamp (by omega)
      refine G_top (w := .ref (y_a Y 1 i)) (by unfold oW; rw [cif_t hw9, ei]; rfl) ?_
      refine G_astore dX8_ask_12 (Nat.le_of_ble_eq_true rfl) rfl ?_
      refine G_aloadN dX8_ask_14 rfl ?_
      refine G_ifnullN (tgt := 56) dX8_ask_16 (by decide) ?_
      refine G_iconst (v := -1) dX8_ask_56 rfl ?_
      refine G_iret dX8_ask_57 rfl ?_
      first | exact ca_close hY (Nat.le_refl _) (cif_f (fun q => hw2 q.1)) | exact ca_close hY (Nat.le_refl _) (cif_f (fun q => hw9 q.2.1)) | exact ca_close hY (Nat.le_refl _) (cif_f (fun q => b1_0.mp c32 q.2.2.1)) | exact ca_close hY (Nat.le_refl _) (cif_f (fun q => b1_0.mp c42 q.2.2.2.1)) | exact ca_close hY (Nat.le_refl _) (cif_f (fun q => b1_0.mp c53 q.2.2.2.2.1))
    · refine G_top (w := .null) (by unfold oW; rw [cif_f hw9]; rfl) ?_
      refine G_astoreN dX8_ask_12 (Nat.le_of_ble_eq_true rfl) rfl ?_
      refine G_aloadN dX8_ask_14 rfl ?_
      refine G_ifnullN (tgt := 56) dX8_ask_16 (by decide) ?_
      refine G_iconst (v := -1) dX8_ask_56 rfl ?_
      refine G_iret dX8_ask_57 rfl ?_
      first | exact ca_close hY (Nat.le_refl _) (cif_f (fun q => hw2 q.1)) | exact ca_close hY (Nat.le_refl _) (cif_f (fun q => hw9 q.2.1)) | exact ca_close hY (Nat.le_refl _) (cif_f (fun q => b1_0.mp c32 q.2.2.1)) | exact ca_close hY (Nat.le_refl _) (cif_f (fun q => b1_0.mp c42 q.2.2.2.1)) | exact ca_close hY (Nat.le_refl _) (cif_f (fun q => b1_0.mp c53 q.2.2.2.2.1))
