theorem fp_Jxc12de_7 : g_fp "java/util/AbstractList" 7 10 0 .int false := ⟨_, _, _, _, kc_10, by decide, ⟨_, tw_103, Or.inl rfl⟩, rfl, rfl, fun h => by first | rfl | cases h⟩
set_option maxHeartbeats 4000000 in
set_option maxRecDepth 100000 in
theorem ck_acol {g : gT} {nq_ p9 : Nat} {h : mH} {fs : List Value} (hp : h p9 = some (.inr (10, fs))) : M g 1 0 0 kJxa1e45_init_da8c8 [.ref p9] nq_ h (fun v' n' h' => v' = none ∧ n' = nq_ ∧ h' = h) := by
  refine M_of_G (by decide +kernel) (Nat.le_of_ble_eq_true rfl) ?_
  refine G_aload_n dJxa1e45_init_da8c8_0 rfl rfl ?_
  refine G_objInit dJxa1e45_init_da8c8_1 tw_98 tw_85 tw_86 (Nat.le_of_ble_eq_true rfl) (Nat.le_of_ble_eq_true rfl) ?_
  refine G_vret dJxa1e45_init_da8c8_4 rfl ?_
  exact ⟨rfl, rfl, rfl⟩
set_option maxHeartbeats 4000000 in
set_option maxRecDepth 100000 in
theorem ck_abl {g : gT} {nq_ p9 : Nat} {h : mH} {x0 x1 x2 : Value} (hp : h p9 = some (.inr (10, [x0, x1, x2]))) : M g 2 0 0 kJxc12de_init_da8c8 [.ref p9] nq_ h (fun v' n' h' => v' = none ∧ n' = nq_ ∧ h' = (va_up h p9 (some (.inr (10, ([x0, x1, x2].set 0 (.int 0))))))) := by
  refine M_of_G (by decide +kernel) (Nat.le_of_ble_eq_true rfl) ?_
  refine G_aload_n dJxc12de_init_da8c8_0 rfl rfl ?_
  refine G_callI (ck_acol hp) dJxc12de_init_da8c8_1 (mc_Jxc12de_1 rfl) rfl rfl tw_96 rfl rfl (Nat.le_of_ble_eq_true rfl) (Nat.le_of_ble_eq_true rfl) (Nat.le_of_ble_eq_true rfl) (Nat.le_of_ble_eq_true rfl) ?_
  rintro _ n9_ _ ⟨rfl, e9_, rfl⟩
  obtain rfl := e9_.symm
  refine G_aload_n dJxc12de_init_da8c8_4 rfl rfl ?_
  refine G_iconst (v := 0) dJxc12de_init_da8c8_5 rfl ?_
  refine G_put dJxc12de_init_da8c8_6 fp_Jxc12de_7 hp (Nat.le_of_ble_eq_true rfl) g_fit_i ?_
  refine G_vret dJxc12de_init_da8c8_9 rfl ?_
  exact ⟨rfl, rfl, rfl⟩
set_option maxHeartbeats 4000000 in
set_option maxRecDepth 100000 in
theorem ck_alist {g : gT} {nq_ p9 : Nat} {h : mH} {x0 x1 x2 : Value} (hp : h p9 = some (.inr (10, [x0, x1, x2]))) : M g 3 0 0 kJx4a65c_init_da8c8 [.ref p9] nq_ h (fun v' n' h' => v' = none ∧ n' = nq_ ∧ h' = (va_up (va_up h p9 (some (.inr (10, ([x0, x1, x2].set 0 (.int 0)))))) p9 (some (.inr (10, (([x0, x1, x2].set 0 (.int 0)).set 1 (.ref 1))))))) := by
  refine M_of_G (by decide +kernel) (Nat.le_of_ble_eq_true rfl) ?_
  refine G_aload_n dJx4a65c_init_da8c8_0 rfl rfl ?_
  refine G_callI (ck_abl hp) dJx4a65c_init_da8c8_1 (mc_Jx4a65c_1 rfl) rfl rfl tw_93 rfl rfl (Nat.le_of_ble_eq_true rfl) (Nat.le_of_ble_eq_true rfl) (Nat.le_of_ble_eq_true rfl) (Nat.le_of_ble_eq_true rfl) ?_
  rintro _ n9_ _ ⟨rfl, e9_, rfl⟩
  obtain rfl := e9_.symm
  refine G_aload_n dJx4a65c_init_da8c8_4 rfl rfl ?_
  refine G_getsE dJx4a65c_init_da8c8_5 tw_99 ?_
  refine G_put dJx4a65c_init_da8c8_8 fp_Jx4a65c_9 (va_up_self _ _ _) (Nat.le_of_ble_eq_true rfl) g_fit_a ?_
  refine G_vret dJx4a65c_init_da8c8_11 rfl ?_
  exact ⟨rfl, rfl, rfl⟩
set_option maxHeartbeats 4000000 in
set_option maxRecDepth 100000 in
theorem ck_tape {g : gT} {nq_ p9 : Nat} {h : mH} {x0 x1 : Value} (hp : h p9 = some (.inr (6, [x0, x1]))) (hlt : p9 < nq_) : M g 1 1 200 kX6_init [.ref p9] nq_ h (fun v' n' h' => v' = none ∧ n' = nq_ + 1 ∧ h' = (va_up (va_up (va_up h (nq_) (some (.inl (0, 200, .inl (fun _ => 0))))) p9 (some (.inr (6, ([x0, x1].set 0 (.ref (nq_))))))) p9 (some (.inr (6, (([x0, x1].set 0 (.ref (nq_))).set 1 (.int 0))))))) := by
  refine M_of_G (by decide +kernel) (Nat.le_of_ble_eq_true rfl) ?_
  refine G_aload_n dX6_init_0 rfl rfl ?_
  refine G_objInit dX6_init_1 tw_118 tw_85 tw_86 (Nat.le_of_ble_eq_true rfl) (Nat.le_of_ble_eq_true rfl) ?_
  refine G_aload_n dX6_init_4 rfl rfl ?_
  refine G_sipush (v := 200) dX6_init_5 rfl ?_
  refine G_newa (N := 200) (kd := 0) (f := .inl (fun _ => 0)) dX6_init_8 rfl tw_128 (fun _ => rfl) (fun _ _ h9 => h9) (fun _ => rfl) (fun _ => rfl) (by decide) (by decide) (by decide) (by decide) (Nat.le_of_ble_eq_true rfl) (Nat.le_of_ble_eq_true rfl) ?_
  refine G_putF dX6_init_10 fp_X6_9 rfl ((va_up_ne _ _ (by omega)).trans hp) (Nat.le_of_ble_eq_true rfl) g_fit_a ?_
  refine G_aload_n dX6_init_13 rfl rfl ?_
  refine G_iconst (v := 0) dX6_init_14 rfl ?_
  refine G_put dX6_init_15 fp_X6_15 (va_up_self _ _ _) (Nat.le_of_ble_eq_true rfl) g_fit_i ?_
  refine G_vret dX6_init_18 rfl ?_
  exact ⟨rfl, rfl, rfl⟩
set_option maxHeartbeats 4000000 in
set_option maxRecDepth 100000 in
theorem ck_reader {g : gT} {nq_ p9 : Nat} {h : mH} {x0 x1 x2 x3 x4 : Value} (hp : h p9 = some (.inr (3, [x0, x1, x2, x3, x4]))) (hlt : p9 < nq_) : M g 1 1 8 kX3_init [.ref p9] nq_ h (fun v' n' h' => v' = none ∧ n' = nq_ + 1 ∧ h' = (va_up (va_up (va_up (va_up (va_up (va_up h (nq_) (some (.inl (0, 8, .inl (fun _ => 0))))) p9 (some (.inr (3, ([x0, x1, x2, x3, x4].set 0 (.ref (nq_))))))) p9 (some (.inr (3, (([x0, x1, x2, x3, x4].set 0 (.ref (nq_))).set 1 (.int 0)))))) p9 (some (.inr (3, ((([x0, x1, x2, x3, x4].set 0 (.ref (nq_))).set 1 (.int 0)).set 2 (.int (-1))))))) p9 (some (.inr (3, (((([x0, x1, x2, x3, x4].set 0 (.ref (nq_))).set 1 (.int 0)).set 2 (.int (-1))).set 3 (.int 0)))))) p9 (some (.inr (3, ((((([x0, x1, x2, x3, x4].set 0 (.ref (nq_))).set 1 (.int 0)).set 2 (.int (-1))).set 3 (.int 0)).set 4 (.int 0))))))) := by
  refine M_of_G (by decide +kernel) (Nat.le_of_ble_eq_true rfl) ?_
  refine G_aload_n dX3_init_0 rfl rfl ?_
  refine G_objInit dX3_init_1 tw_134 tw_85 tw_86 (Nat.le_of_ble_eq_true rfl) (Nat.le_of_ble_eq_true rfl) ?_
  refine G_aload_n dX3_init_4 rfl rfl ?_
  refine G_bipush (v := 8) dX3_init_5 rfl ?_
  refine G_newa (N := 8) (kd := 0) (f := .inl (fun _ => 0)) dX3_init_7 rfl tw_128 (fun _ => rfl) (fun _ _ h9 => h9) (fun _ => rfl) (fun _ => rfl) (by decide) (by decide) (by decide) (by decide) (Nat.le_of_ble_eq_true rfl) (Nat.le_of_ble_eq_true rfl) ?_
  refine G_putF dX3_init_9 fp_X3_9 rfl ((va_up_ne _ _ (by omega)).trans hp) (Nat.le_of_ble_eq_true rfl) g_fit_a ?_
  refine G_aload_n dX3_init_12 rfl rfl ?_
  refine G_iconst (v := 0) dX3_init_13 rfl ?_
  refine G_put dX3_init_14 fp_X3_15 (va_up_self _ _ _) (Nat.le_of_ble_eq_true rfl) g_fit_i ?_
  refine G_aload_n dX3_init_17 rfl rfl ?_
  refine G_iconst (v := -1) dX3_init_18 rfl ?_
  refine G_put dX3_init_19 fp_X3_19 (va_up_self _ _ _) (Nat.le_of_ble_eq_true rfl) g_fit_i ?_
  refine G_aload_n dX3_init_22 rfl rfl ?_
  refine G_iconst (v := 0) dX3_init_23 rfl ?_
  refine G_put dX3_init_24 fp_X3_22 (va_up_self _ _ _) (Nat.le_of_ble_eq_true rfl) g_fit_i ?_
  refine G_aload_n dX3_init_27 rfl rfl ?_
  refine G_iconst (v := 0) dX3_init_28 rfl ?_
  refine G_put dX3_init_29 fp_X3_25 (va_up_self _ _ _) (Nat.le_of_ble_eq_true rfl) g_fit_i ?_
  refine G_vret dX3_init_32 rfl ?_
  exact ⟨rfl, rfl, rfl⟩
set_option maxHeartbeats 4000000 in
set_option maxRecDepth 100000 in
theorem ck_book {g : gT} {nq_ p9 : Nat} {h : mH} {x0 x1 x2 : Value} (hp : h p9 = some (.inr (2, [x0, x1, x2]))) (hlt : p9 < nq_) : M g 1 1 8 kX2_init [.ref p9] nq_ h (fun v' n' h' => v' = none ∧ n' = nq_ + 1 ∧ h' = (va_up (va_up (va_up (va_up (va_up h p9 (some (.inr (2, ([x0, x1, x2].set 0 (.int 0)))))) p9 (some (.inr (2, (([x0, x1, x2].set 0 (.int 0)).set 1 (.int (-1))))))) (nq_) (some (.inl (0, 8, .inl (fun _ => 0))))) p9 (some (.inr (2, ((([x0, x1, x2].set 0 (.int 0)).set 1 (.int (-1))).set 2 (.ref (nq_))))))) nq_ (some (.inl (0, 8, .inl (fl (fun _ => 0) (-1) 8)))))) := by
  refine M_of_G (by decide +kernel) (Nat.le_of_ble_eq_true rfl) ?_
  refine G_aload_n dX2_init_0 rfl rfl ?_
  refine G_objInit dX2_init_1 tw_159 tw_85 tw_86 (Nat.le_of_ble_eq_true rfl) (Nat.le_of_ble_eq_true rfl) ?_
  refine G_aload_n dX2_init_4 rfl rfl ?_
  refine G_iconst (v := 0) dX2_init_5 rfl ?_
  refine G_put dX2_init_6 fp_X2_9 hp (Nat.le_of_ble_eq_true rfl) g_fit_i ?_
  refine G_aload_n dX2_init_9 rfl rfl ?_
  refine G_iconst (v := -1) dX2_init_10 rfl ?_
  refine G_put dX2_init_11 fp_X2_15 (va_up_self _ _ _) (Nat.le_of_ble_eq_true rfl) g_fit_i ?_
  refine G_aload_n dX2_init_14 rfl rfl ?_
  refine G_bipush (v := 8) dX2_init_15 rfl ?_
  refine G_newa (N := 8) (kd := 0) (f := .inl (fun _ => 0)) dX2_init_17 rfl tw_128 (fun _ => rfl) (fun _ _ h9 => h9) (fun _ => rfl) (fun _ => rfl) (by decide) (by decide) (by decide) (by decide) (Nat.le_of_ble_eq_true rfl) (Nat.le_of_ble_eq_true rfl) ?_
  refine G_putF dX2_init_19 fp_X2_18 rfl ((va_up_ne _ _ (by omega)).trans (va_up_self _ _ _)) (Nat.le_of_ble_eq_true rfl) g_fit_a ?_
  refine G_aload_n dX2_init_22 rfl rfl ?_
  refine G_get dX2_init_23 fg_X2_18 (va_up_self _ _ _) rfl ?_
  refine G_iconst (v := -1) dX2_init_26 rfl ?_
  refine G_callS (cj_fill _ ((va_up_ne _ _ (by omega)).trans (va_up_self _ _ _)) (by decide)) dX2_init_27 (mc_X2_22 rfl) tw_161 rfl rfl (Nat.le_of_ble_eq_true rfl) (Nat.le_of_ble_eq_true rfl) (Nat.le_of_ble_eq_true rfl) (Nat.le_of_ble_eq_true rfl) ?_
  rintro _ n9_ _ ⟨rfl, e9_, rfl⟩
  obtain rfl := e9_.symm
  refine G_vret dX2_init_30 rfl ?_
  exact ⟨rfl, rfl, rfl⟩
set_option maxHeartbeats 4000000 in
set_option maxRecDepth 100000 in
theorem ck_plan {g : gT} {nq_ p9 : Nat} {h : mH} {x0 x1 x2 x3 : Value} (hp : h p9 = some (.inr (5, [x0, x1, x2, x3]))) (hlt : p9 < nq_) : M g 1 3 69 kX5_init [.ref p9] nq_ h (fun v' n' h' => v' = none ∧ n' = nq_ + 1 + 1 + 1 ∧ h' = (va_up (va_up (va_up (va_up (va_up (va_up (va_up h (nq_) (some (.inl (5, 5, rfs (fun _ => none))))) p9 (some (.inr (5, ([x0, x1, x2, x3].set 0 (.ref (nq_))))))) p9 (some (.inr (5, (([x0, x1, x2, x3].set 0 (.ref (nq_))).set 1 (.int 0)))))) (nq_ + 1) (some (.inl (0, 32, .inl (fun _ => 0))))) p9 (some (.inr (5, ((([x0, x1, x2, x3].set 0 (.ref (nq_))).set 1 (.int 0)).set 2 (.ref (nq_ + 1))))))) (nq_ + 1 + 1) (some (.inl (0, 32, .inl (fun _ => 0))))) p9 (some (.inr (5, (((([x0, x1, x2, x3].set 0 (.ref (nq_))).set 1 (.int 0)).set 2 (.ref (nq_ + 1))).set 3 (.ref (nq_ + 1 + 1)))))))) := by
  refine M_of_G (by decide +kernel) (Nat.le_of_ble_eq_true rfl) ?_
  refine G_aload_n dX5_init_0 rfl rfl ?_
  refine G_objInit dX5_init_1 tw_180 tw_85 tw_86 (Nat.le_of_ble_eq_true rfl) (Nat.le_of_ble_eq_true rfl) ?_
  refine G_aload_n dX5_init_4 rfl rfl ?_
  refine G_iconst (v := 5) dX5_init_5 rfl ?_
  refine G_anew (N := 5) (kd := 5) dX5_init_6 tw_181 (fun _ => rfl) (Or.inr rfl) (by decide) (by decide) (by decide) (Nat.le_of_ble_eq_true rfl) (Nat.le_of_ble_eq_true rfl) ?_
  refine G_putF dX5_init_9 fp_X5_13 rfl ((va_up_ne _ _ (by omega)).trans hp) (Nat.le_of_ble_eq_true rfl) g_fit_a ?_
  refine G_aload_n dX5_init_12 rfl rfl ?_
  refine G_iconst (v := 0) dX5_init_13 rfl ?_
  refine G_put dX5_init_14 fp_X5_17 (va_up_self _ _ _) (Nat.le_of_ble_eq_true rfl) g_fit_i ?_
  refine G_aload_n dX5_init_17 rfl rfl ?_
  refine G_bipush (v := 32) dX5_init_18 rfl ?_
  refine G_newa (N := 32) (kd := 0) (f := .inl (fun _ => 0)) dX5_init_20 rfl tw_128 (fun _ => rfl) (fun _ _ h9 => h9) (fun _ => rfl) (fun _ => rfl) (by decide) (by decide) (by decide) (by decide) (Nat.le_of_ble_eq_true rfl) (Nat.le_of_ble_eq_true rfl) ?_
  refine G_putF dX5_init_22 fp_X5_21 rfl ((va_up_ne _ _ (by omega)).trans (va_up_self _ _ _)) (Nat.le_of_ble_eq_true rfl) g_fit_a ?_
  refine G_aload_n dX5_init_25 rfl rfl ?_
  refine G_bipush (v := 32) dX5_init_26 rfl ?_
  refine G_newa (N := 32) (kd := 0) (f := .inl (fun _ => 0)) dX5_init_28 rfl tw_128 (fun _ => rfl) (fun _ _ h9 => h9) (fun _ => rfl) (fun _ => rfl) (by decide) (by decide) (by decide) (by decide) (Nat.le_of_ble_eq_true rfl) (Nat.le_of_ble_eq_true rfl) ?_
  refine G_putF dX5_init_30 fp_X5_25 rfl ((va_up_ne _ _ (by omega)).trans (va_up_self _ _ _)) (Nat.le_of_ble_eq_true rfl) g_fit_a ?_
  refine G_vret dX5_init_33 rfl ?_
  exact ⟨rfl, rfl, rfl⟩
def c_zero : mS := fun j i => if j = 18 ∨ j = 62 ∨ j = 70 then -1 else if j = 15 then (if i < 8 then -1 else 0) else 0
def Y_zero : cY := (fun _ => none, fun t _ => if t = 20 then 1 else 0, fun _ => 0, fun a => if a = 52 then some (.inl (3, 1, .inr (.inl (fun _ => 0)))) else none)
set_option maxHeartbeats 4000000 in
set_option maxRecDepth 100000 in
theorem ck_house {g : gT} {h : mH} (h8 : h 8 = some (.inr (8, [.null, .null, .null, .null, .null, .null, .null, .null, .null, .int 0]))) : M g 4 15 314 kX8_init [.ref 8] 9 h (fun v' n' h' => v' = none ∧ n' = 24 ∧ h' = fun a => if 8 ≤ a ∧ a < 24 then c_fx Y_zero c_zero a else h a) := by
  refine M_of_G (by decide +kernel) (Nat.le_of_ble_eq_true rfl) ?_
  refine G_aload_n dX8_init_0 rfl rfl ?_
  refine G_objInit dX8_init_1 tw_84 tw_85 tw_86 (Nat.le_of_ble_eq_true rfl) (Nat.le_of_ble_eq_true rfl) ?_
  refine G_aload_n dX8_init_4 rfl rfl ?_
  refine G_new dX8_init_5 nk_X8_7 (Nat.le_of_ble_eq_true rfl) (Nat.le_of_ble_eq_true rfl) ?_
  refine G_dup dX8_init_8 rfl ?_
  refine G_callI (ck_alist (p9 := 9) (nq_ := 10) rfl) dX8_init_9 (mc_X8_9 rfl) rfl rfl tw_90 rfl rfl (Nat.le_of_ble_eq_true rfl) (Nat.le_of_ble_eq_true rfl) (Nat.le_of_ble_eq_true rfl) (Nat.le_of_ble_eq_true rfl) ?_
  rintro _ n9_ _ ⟨rfl, e9_, rfl⟩
  obtain rfl := e9_.symm
  refine G_putF (fs := [.null, .null, .null, .null, .null, .null, .null, .null, .null, .int 0]) dX8_init_12 fp_X8_10 rfl (by simp [va_up]; exact h8) (Nat.le_of_ble_eq_true rfl) g_fit_o ?_
  refine G_aload_n dX8_init_15 rfl rfl ?_
  refine G_new dX8_init_16 nk_X8_7 (Nat.le_of_ble_eq_true rfl) (Nat.le_of_ble_eq_true rfl) ?_
  refine G_dup dX8_init_19 rfl ?_
  refine G_callI (ck_alist (p9 := 10) (nq_ := 11) rfl) dX8_init_20 (mc_X8_9 rfl) rfl rfl tw_90 rfl rfl (Nat.le_of_ble_eq_true rfl) (Nat.le_of_ble_eq_true rfl) (Nat.le_of_ble_eq_true rfl) (Nat.le_of_ble_eq_true rfl) ?_
  rintro _ n9_ _ ⟨rfl, e9_, rfl⟩
  obtain rfl := e9_.symm
  refine G_putF dX8_init_23 fp_X8_16 rfl rfl (Nat.le_of_ble_eq_true rfl) g_fit_o ?_
  refine G_aload_n dX8_init_26 rfl rfl ?_
  refine G_new dX8_init_27 nk_X8_7 (Nat.le_of_ble_eq_true rfl) (Nat.le_of_ble_eq_true rfl) ?_
  refine G_dup dX8_init_30 rfl ?_
  refine G_callI (ck_alist (p9 := 11) (nq_ := 12) rfl) dX8_init_31 (mc_X8_9 rfl) rfl rfl tw_90 rfl rfl (Nat.le_of_ble_eq_true rfl) (Nat.le_of_ble_eq_true rfl) (Nat.le_of_ble_eq_true rfl) (Nat.le_of_ble_eq_true rfl) ?_
  rintro _ n9_ _ ⟨rfl, e9_, rfl⟩
  obtain rfl := e9_.symm
  refine G_putF dX8_init_34 fp_X8_19 rfl rfl (Nat.le_of_ble_eq_true rfl) g_fit_o ?_
  refine G_aload_n dX8_init_37 rfl rfl ?_
  refine G_new dX8_init_38 nk_X8_7 (Nat.le_of_ble_eq_true rfl) (Nat.le_of_ble_eq_true rfl) ?_
  refine G_dup dX8_init_41 rfl ?_
  refine G_callI (ck_alist (p9 := 12) (nq_ := 13) rfl) dX8_init_42 (mc_X8_9 rfl) rfl rfl tw_90 rfl rfl (Nat.le_of_ble_eq_true rfl) (Nat.le_of_ble_eq_true rfl) (Nat.le_of_ble_eq_true rfl) (Nat.le_of_ble_eq_true rfl) ?_
  rintro _ n9_ _ ⟨rfl, e9_, rfl⟩
  obtain rfl := e9_.symm
  refine G_putF dX8_init_45 fp_X8_22 rfl rfl (Nat.le_of_ble_eq_true rfl) g_fit_o ?_
  refine G_aload_n dX8_init_48 rfl rfl ?_
  refine G_new dX8_init_49 nk_X8_7 (Nat.le_of_ble_eq_true rfl) (Nat.le_of_ble_eq_true rfl) ?_
  refine G_dup dX8_init_52 rfl ?_
  refine G_callI (ck_alist (p9 := 13) (nq_ := 14) rfl) dX8_init_53 (mc_X8_9 rfl) rfl rfl tw_90 rfl rfl (Nat.le_of_ble_eq_true rfl) (Nat.le_of_ble_eq_true rfl) (Nat.le_of_ble_eq_true rfl) (Nat.le_of_ble_eq_true rfl) ?_
  rintro _ n9_ _ ⟨rfl, e9_, rfl⟩
  obtain rfl := e9_.symm
  refine G_putF dX8_init_56 fp_X8_25 rfl rfl (Nat.le_of_ble_eq_true rfl) g_fit_o ?_
  refine G_aload_n dX8_init_59 rfl rfl ?_
  refine G_new dX8_init_60 nk_X8_28 (Nat.le_of_ble_eq_true rfl) (Nat.le_of_ble_eq_true rfl) ?_
  refine G_dup dX8_init_63 rfl ?_
  refine G_callIN (ck_tape (p9 := 14) (nq_ := 15) rfl (by decide)) dX8_init_64 (mc_X8_30 rfl) rfl rfl tw_116 rfl rfl (Nat.le_of_ble_eq_true rfl) (Nat.le_of_ble_eq_true rfl) (Nat.le_of_ble_eq_true rfl) (Nat.le_of_ble_eq_true rfl) ?_
  rintro _ n9_ _ ⟨rfl, e9_, rfl⟩
  obtain rfl := e9_.symm
  refine G_putF dX8_init_67 fp_X8_31 rfl rfl (Nat.le_of_ble_eq_true rfl) g_fit_o ?_
  refine G_aload_n dX8_init_70 rfl rfl ?_
  refine G_new dX8_init_71 nk_X8_35 (Nat.le_of_ble_eq_true rfl) (Nat.le_of_ble_eq_true rfl) ?_
  refine G_dup dX8_init_74 rfl ?_
  refine G_callIN (ck_reader (p9 := 16) (nq_ := 17) rfl (by decide)) dX8_init_75 (mc_X8_37 rfl) rfl rfl tw_132 rfl rfl (Nat.le_of_ble_eq_true rfl) (Nat.le_of_ble_eq_true rfl) (Nat.le_of_ble_eq_true rfl) (Nat.le_of_ble_eq_true rfl) ?_
  rintro _ n9_ _ ⟨rfl, e9_, rfl⟩
  obtain rfl := e9_.symm
  refine G_putF dX8_init_78 fp_X8_38 rfl rfl (Nat.le_of_ble_eq_true rfl) g_fit_o ?_
  refine G_aload_n dX8_init_81 rfl rfl ?_
  refine G_new dX8_init_82 nk_X8_42 (Nat.le_of_ble_eq_true rfl) (Nat.le_of_ble_eq_true rfl) ?_
  refine G_dup dX8_init_85 rfl ?_
  refine G_callI (ck_book (p9 := 18) (nq_ := 19) rfl (by decide)) dX8_init_86 (mc_X8_44 rfl) rfl rfl tw_157 rfl rfl (Nat.le_of_ble_eq_true rfl) (Nat.le_of_ble_eq_true rfl) (Nat.le_of_ble_eq_true rfl) (Nat.le_of_ble_eq_true rfl) ?_
  rintro _ n9_ _ ⟨rfl, e9_, rfl⟩
  obtain rfl := e9_.symm
  refine G_putF dX8_init_89 fp_X8_45 rfl rfl (Nat.le_of_ble_eq_true rfl) g_fit_o ?_
  refine G_aload_n dX8_init_92 rfl rfl ?_
  refine G_new dX8_init_93 nk_X8_49 (Nat.le_of_ble_eq_true rfl) (Nat.le_of_ble_eq_true rfl) ?_
  refine G_dup dX8_init_96 rfl ?_
  refine G_callIN (ck_plan (p9 := 20) (nq_ := 21) rfl (by decide)) dX8_init_97 (mc_X8_51 rfl) rfl rfl tw_178 rfl rfl (Nat.le_of_ble_eq_true rfl) (Nat.le_of_ble_eq_true rfl) (Nat.le_of_ble_eq_true rfl) (Nat.le_of_ble_eq_true rfl) ?_
  rintro _ n9_ _ ⟨rfl, e9_, rfl⟩
  obtain rfl := e9_.symm
  refine G_putF dX8_init_100 fp_X8_52 rfl rfl (Nat.le_of_ble_eq_true rfl) g_fit_o ?_
  refine G_aload_n dX8_init_103 rfl rfl ?_
  refine G_iconst (v := 0) dX8_init_104 rfl ?_
  refine G_put dX8_init_105 fp_X8_56 rfl (Nat.le_of_ble_eq_true rfl) g_fit_i ?_
  refine G_vret dX8_init_108 rfl ?_
  refine ⟨rfl, rfl, ?_⟩
  funext a
  by_cases hh9 : 8 ≤ a ∧ a < 24
  · rw [if_pos hh9]
    rcases (show a = 8 ∨ a = 9 ∨ a = 10 ∨ a = 11 ∨ a = 12 ∨ a = 13 ∨ a = 14 ∨ a = 15 ∨ a = 16 ∨ a = 17 ∨ a = 18 ∨ a = 19 ∨ a = 20 ∨ a = 21 ∨ a = 22 ∨ a = 23 by omega) with rfl | rfl | rfl | rfl | rfl | rfl | rfl | rfl | rfl | rfl | rfl | rfl | rfl | rfl | rfl | rfl
    all_goals rfl
  · rw [if_neg hh9]
    simp only [va_up, show ¬ a = 8 from by omega, show ¬ a = 9 from by omega, show ¬ a = 10 from by omega, show ¬ a = 11 from by omega, show ¬ a = 12 from by omega, show ¬ a = 13 from by omega, show ¬ a = 14 from by omega, show ¬ a = 15 from by omega, show ¬ a = 16 from by omega, show ¬ a = 17 from by omega, show ¬ a = 18 from by omega, show ¬ a = 19 from by omega, show ¬ a = 20 from by omega, show ¬ a = 21 from by omega, show ¬ a = 22 from by omega, show ¬ a = 23 from by omega, if_false]
