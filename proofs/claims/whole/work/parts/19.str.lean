def evL : List Int32 := [101, 118, 101, 114, 121]
theorem ev_c : ∀ i, i < 5 → ((evL.getD i 0 &&& 255).toUInt32 % 65536).toInt32 = evL.getD i 0 ∧ narrow .char (.int (evL.getD i 0)) = .int (evL.getD i 0) := by decide +kernel
set_option maxHeartbeats 4000000 in
set_option maxRecDepth 100000 in
theorem cs_coder {g : gT} {nq_ : Nat} {h : mH} : M g 0 0 0 kJ0_coder_7d493 [.ref 2] nq_ h (m_Q (.int 0) nq_ h) := by
  refine M_of_G (by decide +kernel) (Nat.le_of_ble_eq_true rfl) ?_
  refine G_getsC dJ0_coder_7d493_0 tw_462 ?_
  refine G_if_eq (tgt := 13) dJ0_coder_7d493_3 (by decide) (fun c3 => ?_) (fun c3 => ?_)
  · skip
    exact absurd c3 (by decide)
  · skip
    refine G_aload_n dJ0_coder_7d493_6 rfl rfl ?_
    refine G_strC dJ0_coder_7d493_7 tw_1224 ?_
    refine G_goto (tgt := 14) dJ0_coder_7d493_10 (by decide) ?_
    refine G_zret dJ0_coder_7d493_14 rfl rfl ?_
    exact ⟨rfl, rfl, rfl⟩
set_option maxHeartbeats 4000000 in
set_option maxRecDepth 100000 in
theorem cs_lat {g : gT} {nq_ : Nat} {h : mH} : M g 0 0 0 kJ0_isLatin1_aae02 [.ref 2] nq_ h (m_Q (.int 1) nq_ h) := by
  refine M_of_G (by decide +kernel) (Nat.le_of_ble_eq_true rfl) ?_
  refine G_getsC dJ0_isLatin1_aae02_0 tw_462 ?_
  refine G_if_eq (tgt := 17) dJ0_isLatin1_aae02_3 (by decide) (fun c3 => ?_) (fun c3 => ?_)
  · skip
    exact absurd c3 (by decide)
  · skip
    refine G_aload_n dJ0_isLatin1_aae02_6 rfl rfl ?_
    refine G_strC dJ0_isLatin1_aae02_7 tw_1224 ?_
    refine G_if_ne (tgt := 17) dJ0_isLatin1_aae02_10 (by decide) (fun c10 => ?_) (fun c10 => ?_)
    · skip
      exact absurd rfl c10
    · skip
      refine G_iconst (v := 1) dJ0_isLatin1_aae02_13 rfl ?_
      refine G_goto (tgt := 18) dJ0_isLatin1_aae02_14 (by decide) ?_
      refine G_zret dJ0_isLatin1_aae02_18 rfl rfl ?_
      exact ⟨rfl, rfl, rfl⟩
set_option maxHeartbeats 4000000 in
set_option maxRecDepth 100000 in
theorem cs_length {g : gT} {nq_ : Nat} {h : mH} : M g 1 0 0 kJ0_length_8abf5 [.ref 2] nq_ h (m_Q (.int 5) nq_ h) := by
  refine M_of_G (by decide +kernel) (Nat.le_of_ble_eq_true rfl) ?_
  refine G_aload_n dJ0_length_8abf5_0 rfl rfl ?_
  refine G_strV dJ0_length_8abf5_1 tw_1223 ?_
  refine G_alenB dJ0_length_8abf5_4 ?_
  refine G_aload_n dJ0_length_8abf5_5 rfl rfl ?_
  refine G_callStr cs_coder dJ0_length_8abf5_6 (mc_J0_335 rfl) tw_459 tw_460 rfl rfl rfl (Nat.le_of_ble_eq_true rfl) (Nat.le_of_ble_eq_true rfl) ?_
  rintro _ n9_ _ ⟨rfl, e9_, rfl⟩
  obtain rfl := e9_.symm
  refine G_ishr dJ0_length_8abf5_9 ?_
  refine G_iret dJ0_length_8abf5_10 rfl ?_
  exact ⟨rfl, rfl, rfl⟩
set_option maxHeartbeats 4000000 in
set_option maxRecDepth 100000 in
theorem cs_ck {g : gT} {nq_ : Nat} {h : mH} (i n9 : Nat) (hi : i < n9) (hn : n9 < 2 ^ 31) : M g 1 0 0 kJ0_checkIndex_df160 [.int (nI i), .int (nI n9)] nq_ h (fun v' n' h' => v' = none ∧ n' = nq_ ∧ h' = h) := by
  refine M_of_G (by decide +kernel) (Nat.le_of_ble_eq_true rfl) ?_
  refine G_iload_n dJ0_checkIndex_df160_0 rfl rfl ?_
  refine G_iload_n dJ0_checkIndex_df160_1 rfl rfl ?_
  refine G_getsF dJ0_checkIndex_df160_2 tw_478 (fun o => ?_)
  refine G_callS (cj_ck3 (o := o) i n9 hi hn) dJ0_checkIndex_df160_5 (mc_J0_1059 rfl) tw_338 rfl rfl (Nat.le_of_ble_eq_true rfl) (Nat.le_of_ble_eq_true rfl) (Nat.le_of_ble_eq_true rfl) (Nat.le_of_ble_eq_true rfl) ?_
  rintro _ n9_ _ ⟨rfl, e9_, rfl⟩
  obtain rfl := e9_.symm
  refine G_pop dJ0_checkIndex_df160_8 rfl ?_
  refine G_vret dJ0_checkIndex_df160_9 rfl ?_
  exact ⟨rfl, rfl, rfl⟩
set_option maxHeartbeats 4000000 in
set_option maxRecDepth 100000 in
theorem cs_ch1 {g : gT} {nq_ : Nat} {h : mH} (i : Nat) (hi : i < 5) : M g 2 0 0 kJ1_charAt_3b067 [.ref 3, .int (nI i)] nq_ h (m_Q (.int (evL.getD i 0)) nq_ h) := by
  refine M_of_G (by decide +kernel) (Nat.le_of_ble_eq_true rfl) ?_
  refine G_iload_n dJ1_charAt_3b067_0 rfl rfl ?_
  refine G_aload_n dJ1_charAt_3b067_1 rfl rfl ?_
  refine G_alenB dJ1_charAt_3b067_2 ?_
  refine G_callS (cs_ck i 5 hi (by decide)) dJ1_charAt_3b067_3 (mc_J1_9 rfl) tw_476 rfl rfl (Nat.le_of_ble_eq_true rfl) (Nat.le_of_ble_eq_true rfl) (Nat.le_of_ble_eq_true rfl) (Nat.le_of_ble_eq_true rfl) ?_
  rintro _ n9_ _ ⟨rfl, e9_, rfl⟩
  obtain rfl := e9_.symm
  refine G_aload_n dJ1_charAt_3b067_6 rfl rfl ?_
  refine G_iload_n dJ1_charAt_3b067_7 rfl rfl ?_
  refine G_baldB dJ1_charAt_3b067_8 (vp_in_nI hi (by decide)) ?_
  rw [nI_clamp (by omega)]
  refine G_sipush (v := 255) dJ1_charAt_3b067_9 rfl ?_
  refine G_iand dJ1_charAt_3b067_12 ?_
  refine G_i2c dJ1_charAt_3b067_13 ?_
  refine G_top (congrArg Value.int (ev_c i hi).1) ?_
  refine G_zret dJ1_charAt_3b067_14 rfl (ev_c i hi).2 ?_
  exact ⟨rfl, rfl, rfl⟩
set_option maxHeartbeats 4000000 in
set_option maxRecDepth 100000 in
theorem cs_ch {g : gT} {nq_ : Nat} {h : mH} (i : Nat) (hi : i < 5) : M g 3 0 0 kJ0_charAt_5068e [.ref 2, .int (nI i)] nq_ h (m_Q (.int (evL.getD i 0)) nq_ h) := by
  refine M_of_G (by decide +kernel) (Nat.le_of_ble_eq_true rfl) ?_
  refine G_aload_n dJ0_charAt_5068e_0 rfl rfl ?_
  refine G_callStr cs_lat dJ0_charAt_5068e_1 (mc_J0_492 rfl) tw_469 tw_470 rfl rfl rfl (Nat.le_of_ble_eq_true rfl) (Nat.le_of_ble_eq_true rfl) ?_
  rintro _ n9_ _ ⟨rfl, e9_, rfl⟩
  obtain rfl := e9_.symm
  refine G_if_eq (tgt := 16) dJ0_charAt_5068e_4 (by decide) (fun c4 => ?_) (fun c4 => ?_)
  · skip
    exact absurd c4 (by decide)
  · skip
    refine G_aload_n dJ0_charAt_5068e_7 rfl rfl ?_
    refine G_strV dJ0_charAt_5068e_8 tw_1223 ?_
    refine G_iload_n dJ0_charAt_5068e_11 rfl rfl ?_
    refine G_callS (cs_ch1 i hi) dJ0_charAt_5068e_12 (mc_J0_495 rfl) tw_473 rfl rfl (Nat.le_of_ble_eq_true rfl) (Nat.le_of_ble_eq_true rfl) (Nat.le_of_ble_eq_true rfl) (Nat.le_of_ble_eq_true rfl) ?_
    rintro _ n9_ _ ⟨rfl, e9_, rfl⟩
    obtain rfl := e9_.symm
    refine G_zret dJ0_charAt_5068e_15 rfl (ev_c i hi).2 ?_
    exact ⟨rfl, rfl, rfl⟩
