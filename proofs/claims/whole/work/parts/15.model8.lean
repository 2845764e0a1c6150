def m_blank : List Value := [.int 0, .int 0, .null, .null, .null, .int 0, .null, .null, .int 0, .null, .null, .int 0, .null, .int 0, .int 0, .null, .null, .int 0, .int 0, .int 0, .int 0, .int 0, .int 0, .int 0, .null, .null, .null, .null, .null, .null, .null, .null, .null, .null, .null, .int 0, .null, .null, .int 0, .null, .null, .null, .null]
def m_zero : mS := fun j _ => if j = 18 then -1 else 0
set_option maxHeartbeats 4000000 in
set_option maxRecDepth 100000 in
theorem c9_init {g : gT} {h : mH} (h24 : h 24 = some (.inr (9, m_blank))) : M g 1 27 1919 kX9_init [.ref 24] 25 h (fun v' n' h' => v' = none ∧ n' = 52 ∧ h' = hm m_zero h) := by
  refine M_of_G (by decide +kernel) (Nat.le_of_ble_eq_true rfl) ?_
  refine G_aload_n dX9_init_0 rfl rfl ?_
  refine G_objInit dX9_init_1 tw_880 tw_85 tw_86 (Nat.le_of_ble_eq_true rfl) (Nat.le_of_ble_eq_true rfl) ?_
  refine G_aload_n dX9_init_4 rfl rfl ?_
  refine G_bipush (v := 8) dX9_init_5 rfl ?_
  refine G_newa (N := 8) (kd := 0) (f := .inl (fun _ => 0)) dX9_init_7 rfl tw_128 (fun _ => rfl) (fun _ _ h9 => h9) (fun _ => rfl) (fun _ => rfl) (by decide) (by decide) (by decide) (by decide) (Nat.le_of_ble_eq_true rfl) (Nat.le_of_ble_eq_true rfl) ?_
  refine G_putF (fs := m_blank) dX9_init_9 fp_X9_7 rfl h24 (Nat.le_of_ble_eq_true rfl) g_fit_a ?_
  refine G_aload_n dX9_init_12 rfl rfl ?_
  refine G_bipush (v := 8) dX9_init_13 rfl ?_
  refine G_newa (N := 8) (kd := 0) (f := .inl (fun _ => 0)) dX9_init_15 rfl tw_128 (fun _ => rfl) (fun _ _ h9 => h9) (fun _ => rfl) (fun _ => rfl) (by decide) (by decide) (by decide) (by decide) (Nat.le_of_ble_eq_true rfl) (Nat.le_of_ble_eq_true rfl) ?_
  refine G_putF dX9_init_17 fp_X9_13 rfl rfl (Nat.le_of_ble_eq_true rfl) g_fit_a ?_
  refine G_aload_n dX9_init_20 rfl rfl ?_
  refine G_bipush (v := 8) dX9_init_21 rfl ?_
  refine G_newa (N := 8) (kd := 0) (f := .inl (fun _ => 0)) dX9_init_23 rfl tw_128 (fun _ => rfl) (fun _ _ h9 => h9) (fun _ => rfl) (fun _ => rfl) (by decide) (by decide) (by decide) (by decide) (Nat.le_of_ble_eq_true rfl) (Nat.le_of_ble_eq_true rfl) ?_
  refine G_putF dX9_init_25 fp_X9_16 rfl rfl (Nat.le_of_ble_eq_true rfl) g_fit_a ?_
  refine G_aload_n dX9_init_28 rfl rfl ?_
  refine G_bipush (v := 12) dX9_init_29 rfl ?_
  refine G_newa (N := 12) (kd := 0) (f := .inl (fun _ => 0)) dX9_init_31 rfl tw_128 (fun _ => rfl) (fun _ _ h9 => h9) (fun _ => rfl) (fun _ => rfl) (by decide) (by decide) (by decide) (by decide) (Nat.le_of_ble_eq_true rfl) (Nat.le_of_ble_eq_true rfl) ?_
  refine G_putF dX9_init_33 fp_X9_19 rfl rfl (Nat.le_of_ble_eq_true rfl) g_fit_a ?_
  refine G_aload_n dX9_init_36 rfl rfl ?_
  refine G_bipush (v := 12) dX9_init_37 rfl ?_
  refine G_newa (N := 12) (kd := 0) (f := .inl (fun _ => 0)) dX9_init_39 rfl tw_128 (fun _ => rfl) (fun _ _ h9 => h9) (fun _ => rfl) (fun _ => rfl) (by decide) (by decide) (by decide) (by decide) (Nat.le_of_ble_eq_true rfl) (Nat.le_of_ble_eq_true rfl) ?_
  refine G_putF dX9_init_41 fp_X9_22 rfl rfl (Nat.le_of_ble_eq_true rfl) g_fit_a ?_
  refine G_aload_n dX9_init_44 rfl rfl ?_
  refine G_bipush (v := 10) dX9_init_45 rfl ?_
  refine G_newa (N := 10) (kd := 0) (f := .inl (fun _ => 0)) dX9_init_47 rfl tw_128 (fun _ => rfl) (fun _ _ h9 => h9) (fun _ => rfl) (fun _ => rfl) (by decide) (by decide) (by decide) (by decide) (Nat.le_of_ble_eq_true rfl) (Nat.le_of_ble_eq_true rfl) ?_
  refine G_putF dX9_init_49 fp_X9_25 rfl rfl (Nat.le_of_ble_eq_true rfl) g_fit_a ?_
  refine G_aload_n dX9_init_52 rfl rfl ?_
  refine G_bipush (v := 10) dX9_init_53 rfl ?_
  refine G_newa (N := 10) (kd := 0) (f := .inl (fun _ => 0)) dX9_init_55 rfl tw_128 (fun _ => rfl) (fun _ _ h9 => h9) (fun _ => rfl) (fun _ => rfl) (by decide) (by decide) (by decide) (by decide) (Nat.le_of_ble_eq_true rfl) (Nat.le_of_ble_eq_true rfl) ?_
  refine G_putF dX9_init_57 fp_X9_28 rfl rfl (Nat.le_of_ble_eq_true rfl) g_fit_a ?_
  refine G_aload_n dX9_init_60 rfl rfl ?_
  refine G_sipush (v := 200) dX9_init_61 rfl ?_
  refine G_newa (N := 200) (kd := 1) (f := .inl (fun _ => 0)) dX9_init_64 rfl tw_517 (fun _ => rfl) (fun _ _ h9 => h9) (fun _ => rfl) (fun _ => rfl) (by decide) (by decide) (by decide) (by decide) (Nat.le_of_ble_eq_true rfl) (Nat.le_of_ble_eq_true rfl) ?_
  refine G_putF dX9_init_66 fp_X9_31 rfl rfl (Nat.le_of_ble_eq_true rfl) g_fit_a ?_
  refine G_aload_n dX9_init_69 rfl rfl ?_
  refine G_bipush (v := 8) dX9_init_70 rfl ?_
  refine G_newa (N := 8) (kd := 0) (f := .inl (fun _ => 0)) dX9_init_72 rfl tw_128 (fun _ => rfl) (fun _ _ h9 => h9) (fun _ => rfl) (fun _ => rfl) (by decide) (by decide) (by decide) (by decide) (Nat.le_of_ble_eq_true rfl) (Nat.le_of_ble_eq_true rfl) ?_
  refine G_putF dX9_init_74 fp_X9_35 rfl rfl (Nat.le_of_ble_eq_true rfl) g_fit_a ?_
  refine G_aload_n dX9_init_77 rfl rfl ?_
  refine G_bipush (v := 8) dX9_init_78 rfl ?_
  refine G_newa (N := 8) (kd := 0) (f := .inl (fun _ => 0)) dX9_init_80 rfl tw_128 (fun _ => rfl) (fun _ _ h9 => h9) (fun _ => rfl) (fun _ => rfl) (by decide) (by decide) (by decide) (by decide) (Nat.le_of_ble_eq_true rfl) (Nat.le_of_ble_eq_true rfl) ?_
  refine G_putF dX9_init_82 fp_X9_38 rfl rfl (Nat.le_of_ble_eq_true rfl) g_fit_a ?_
  refine G_aload_n dX9_init_85 rfl rfl ?_
  refine G_iconst (v := -1) dX9_init_86 rfl ?_
  refine G_put dX9_init_87 fp_X9_41 rfl (Nat.le_of_ble_eq_true rfl) g_fit_i ?_
  refine G_aload_n dX9_init_90 rfl rfl ?_
  refine G_bipush (v := 120) dX9_init_91 rfl ?_
  refine G_newa (N := 120) (kd := 0) (f := .inl (fun _ => 0)) dX9_init_93 rfl tw_128 (fun _ => rfl) (fun _ _ h9 => h9) (fun _ => rfl) (fun _ => rfl) (by decide) (by decide) (by decide) (by decide) (Nat.le_of_ble_eq_true rfl) (Nat.le_of_ble_eq_true rfl) ?_
  refine G_putF dX9_init_95 fp_X9_45 rfl rfl (Nat.le_of_ble_eq_true rfl) g_fit_a ?_
  refine G_aload_n dX9_init_98 rfl rfl ?_
  refine G_bipush (v := 120) dX9_init_99 rfl ?_
  refine G_newa (N := 120) (kd := 0) (f := .inl (fun _ => 0)) dX9_init_101 rfl tw_128 (fun _ => rfl) (fun _ _ h9 => h9) (fun _ => rfl) (fun _ => rfl) (by decide) (by decide) (by decide) (by decide) (Nat.le_of_ble_eq_true rfl) (Nat.le_of_ble_eq_true rfl) ?_
  refine G_putF dX9_init_103 fp_X9_48 rfl rfl (Nat.le_of_ble_eq_true rfl) g_fit_a ?_
  refine G_aload_n dX9_init_106 rfl rfl ?_
  refine G_bipush (v := 120) dX9_init_107 rfl ?_
  refine G_newa (N := 120) (kd := 0) (f := .inl (fun _ => 0)) dX9_init_109 rfl tw_128 (fun _ => rfl) (fun _ _ h9 => h9) (fun _ => rfl) (fun _ => rfl) (by decide) (by decide) (by decide) (by decide) (Nat.le_of_ble_eq_true rfl) (Nat.le_of_ble_eq_true rfl) ?_
  refine G_putF dX9_init_111 fp_X9_51 rfl rfl (Nat.le_of_ble_eq_true rfl) g_fit_a ?_
  refine G_aload_n dX9_init_114 rfl rfl ?_
  refine G_bipush (v := 120) dX9_init_115 rfl ?_
  refine G_newa (N := 120) (kd := 0) (f := .inl (fun _ => 0)) dX9_init_117 rfl tw_128 (fun _ => rfl) (fun _ _ h9 => h9) (fun _ => rfl) (fun _ => rfl) (by decide) (by decide) (by decide) (by decide) (Nat.le_of_ble_eq_true rfl) (Nat.le_of_ble_eq_true rfl) ?_
  refine G_putF dX9_init_119 fp_X9_54 rfl rfl (Nat.le_of_ble_eq_true rfl) g_fit_a ?_
  refine G_aload_n dX9_init_122 rfl rfl ?_
  refine G_bipush (v := 120) dX9_init_123 rfl ?_
  refine G_newa (N := 120) (kd := 0) (f := .inl (fun _ => 0)) dX9_init_125 rfl tw_128 (fun _ => rfl) (fun _ _ h9 => h9) (fun _ => rfl) (fun _ => rfl) (by decide) (by decide) (by decide) (by decide) (Nat.le_of_ble_eq_true rfl) (Nat.le_of_ble_eq_true rfl) ?_
  refine G_putF dX9_init_127 fp_X9_57 rfl rfl (Nat.le_of_ble_eq_true rfl) g_fit_a ?_
  refine G_aload_n dX9_init_130 rfl rfl ?_
  refine G_bipush (v := 120) dX9_init_131 rfl ?_
  refine G_newa (N := 120) (kd := 0) (f := .inl (fun _ => 0)) dX9_init_133 rfl tw_128 (fun _ => rfl) (fun _ _ h9 => h9) (fun _ => rfl) (fun _ => rfl) (by decide) (by decide) (by decide) (by decide) (Nat.le_of_ble_eq_true rfl) (Nat.le_of_ble_eq_true rfl) ?_
  refine G_putF dX9_init_135 fp_X9_60 rfl rfl (Nat.le_of_ble_eq_true rfl) g_fit_a ?_
  refine G_aload_n dX9_init_138 rfl rfl ?_
  refine G_bipush (v := 120) dX9_init_139 rfl ?_
  refine G_newa (N := 120) (kd := 0) (f := .inl (fun _ => 0)) dX9_init_141 rfl tw_128 (fun _ => rfl) (fun _ _ h9 => h9) (fun _ => rfl) (fun _ => rfl) (by decide) (by decide) (by decide) (by decide) (Nat.le_of_ble_eq_true rfl) (Nat.le_of_ble_eq_true rfl) ?_
  refine G_putF dX9_init_143 fp_X9_63 rfl rfl (Nat.le_of_ble_eq_true rfl) g_fit_a ?_
  refine G_aload_n dX9_init_146 rfl rfl ?_
  refine G_bipush (v := 120) dX9_init_147 rfl ?_
  refine G_newa (N := 120) (kd := 0) (f := .inl (fun _ => 0)) dX9_init_149 rfl tw_128 (fun _ => rfl) (fun _ _ h9 => h9) (fun _ => rfl) (fun _ => rfl) (by decide) (by decide) (by decide) (by decide) (Nat.le_of_ble_eq_true rfl) (Nat.le_of_ble_eq_true rfl) ?_
  refine G_putF dX9_init_151 fp_X9_66 rfl rfl (Nat.le_of_ble_eq_true rfl) g_fit_a ?_
  refine G_aload_n dX9_init_154 rfl rfl ?_
  refine G_bipush (v := 120) dX9_init_155 rfl ?_
  refine G_newa (N := 120) (kd := 0) (f := .inl (fun _ => 0)) dX9_init_157 rfl tw_128 (fun _ => rfl) (fun _ _ h9 => h9) (fun _ => rfl) (fun _ => rfl) (by decide) (by decide) (by decide) (by decide) (Nat.le_of_ble_eq_true rfl) (Nat.le_of_ble_eq_true rfl) ?_
  refine G_putF dX9_init_159 fp_X9_69 rfl rfl (Nat.le_of_ble_eq_true rfl) g_fit_a ?_
  refine G_aload_n dX9_init_162 rfl rfl ?_
  refine G_bipush (v := 120) dX9_init_163 rfl ?_
  refine G_newa (N := 120) (kd := 0) (f := .inl (fun _ => 0)) dX9_init_165 rfl tw_128 (fun _ => rfl) (fun _ _ h9 => h9) (fun _ => rfl) (fun _ => rfl) (by decide) (by decide) (by decide) (by decide) (Nat.le_of_ble_eq_true rfl) (Nat.le_of_ble_eq_true rfl) ?_
  refine G_putF dX9_init_167 fp_X9_72 rfl rfl (Nat.le_of_ble_eq_true rfl) g_fit_a ?_
  refine G_aload_n dX9_init_170 rfl rfl ?_
  refine G_iconst (v := 5) dX9_init_171 rfl ?_
  refine G_newa (N := 5) (kd := 0) (f := .inl (fun _ => 0)) dX9_init_172 rfl tw_128 (fun _ => rfl) (fun _ _ h9 => h9) (fun _ => rfl) (fun _ => rfl) (by decide) (by decide) (by decide) (by decide) (Nat.le_of_ble_eq_true rfl) (Nat.le_of_ble_eq_true rfl) ?_
  refine G_putF dX9_init_174 fp_X9_75 rfl rfl (Nat.le_of_ble_eq_true rfl) g_fit_a ?_
  refine G_aload_n dX9_init_177 rfl rfl ?_
  refine G_iconst (v := 5) dX9_init_178 rfl ?_
  refine G_newa (N := 5) (kd := 0) (f := .inl (fun _ => 0)) dX9_init_179 rfl tw_128 (fun _ => rfl) (fun _ _ h9 => h9) (fun _ => rfl) (fun _ => rfl) (by decide) (by decide) (by decide) (by decide) (Nat.le_of_ble_eq_true rfl) (Nat.le_of_ble_eq_true rfl) ?_
  refine G_putF dX9_init_181 fp_X9_78 rfl rfl (Nat.le_of_ble_eq_true rfl) g_fit_a ?_
  refine G_aload_n dX9_init_184 rfl rfl ?_
  refine G_iconst (v := 5) dX9_init_185 rfl ?_
  refine G_newa (N := 5) (kd := 0) (f := .inl (fun _ => 0)) dX9_init_186 rfl tw_128 (fun _ => rfl) (fun _ _ h9 => h9) (fun _ => rfl) (fun _ => rfl) (by decide) (by decide) (by decide) (by decide) (Nat.le_of_ble_eq_true rfl) (Nat.le_of_ble_eq_true rfl) ?_
  refine G_putF dX9_init_188 fp_X9_81 rfl rfl (Nat.le_of_ble_eq_true rfl) g_fit_a ?_
  refine G_aload_n dX9_init_191 rfl rfl ?_
  refine G_bipush (v := 60) dX9_init_192 rfl ?_
  refine G_newa (N := 60) (kd := 2) (f := .inl (fun _ => 0)) dX9_init_194 rfl tw_1011 (fun _ => rfl) (fun _ _ h9 => h9) (fun _ => rfl) (fun _ => rfl) (by decide) (by decide) (by decide) (by decide) (Nat.le_of_ble_eq_true rfl) (Nat.le_of_ble_eq_true rfl) ?_
  refine G_putF dX9_init_196 fp_X9_84 rfl rfl (Nat.le_of_ble_eq_true rfl) g_fit_a ?_
  refine G_aload_n dX9_init_199 rfl rfl ?_
  refine G_bipush (v := 120) dX9_init_200 rfl ?_
  refine G_newa (N := 120) (kd := 2) (f := .inl (fun _ => 0)) dX9_init_202 rfl tw_1011 (fun _ => rfl) (fun _ _ h9 => h9) (fun _ => rfl) (fun _ => rfl) (by decide) (by decide) (by decide) (by decide) (Nat.le_of_ble_eq_true rfl) (Nat.le_of_ble_eq_true rfl) ?_
  refine G_putF dX9_init_204 fp_X9_88 rfl rfl (Nat.le_of_ble_eq_true rfl) g_fit_a ?_
  refine G_aload_n dX9_init_207 rfl rfl ?_
  refine G_bipush (v := 120) dX9_init_208 rfl ?_
  refine G_newa (N := 120) (kd := 0) (f := .inl (fun _ => 0)) dX9_init_210 rfl tw_128 (fun _ => rfl) (fun _ _ h9 => h9) (fun _ => rfl) (fun _ => rfl) (by decide) (by decide) (by decide) (by decide) (Nat.le_of_ble_eq_true rfl) (Nat.le_of_ble_eq_true rfl) ?_
  refine G_putF dX9_init_212 fp_X9_91 rfl rfl (Nat.le_of_ble_eq_true rfl) g_fit_a ?_
  refine G_aload_n dX9_init_215 rfl rfl ?_
  refine G_bipush (v := 120) dX9_init_216 rfl ?_
  refine G_newa (N := 120) (kd := 0) (f := .inl (fun _ => 0)) dX9_init_218 rfl tw_128 (fun _ => rfl) (fun _ _ h9 => h9) (fun _ => rfl) (fun _ => rfl) (by decide) (by decide) (by decide) (by decide) (Nat.le_of_ble_eq_true rfl) (Nat.le_of_ble_eq_true rfl) ?_
  refine G_putF dX9_init_220 fp_X9_94 rfl rfl (Nat.le_of_ble_eq_true rfl) g_fit_a ?_
  refine G_vret dX9_init_223 rfl ?_
  refine ⟨rfl, rfl, ?_⟩
  funext a
  by_cases hh : a < 24 ∨ 52 ≤ a
  · rw [hm_r _ _ hh]
    simp only [va_up, show ¬ a = 24 from by omega, show ¬ a = 25 from by omega, show ¬ a = 26 from by omega, show ¬ a = 27 from by omega, show ¬ a = 28 from by omega, show ¬ a = 29 from by omega, show ¬ a = 30 from by omega, show ¬ a = 31 from by omega, show ¬ a = 32 from by omega, show ¬ a = 33 from by omega, show ¬ a = 34 from by omega, show ¬ a = 35 from by omega, show ¬ a = 36 from by omega, show ¬ a = 37 from by omega, show ¬ a = 38 from by omega, show ¬ a = 39 from by omega, show ¬ a = 40 from by omega, show ¬ a = 41 from by omega, show ¬ a = 42 from by omega, show ¬ a = 43 from by omega, show ¬ a = 44 from by omega, show ¬ a = 45 from by omega, show ¬ a = 46 from by omega, show ¬ a = 47 from by omega, show ¬ a = 48 from by omega, show ¬ a = 49 from by omega, show ¬ a = 50 from by omega, show ¬ a = 51 from by omega, if_false]
  · rcases (show a = 24 ∨ a = 25 ∨ a = 26 ∨ a = 27 ∨ a = 28 ∨ a = 29 ∨ a = 30 ∨ a = 31 ∨ a = 32 ∨ a = 33 ∨ a = 34 ∨ a = 35 ∨ a = 36 ∨ a = 37 ∨ a = 38 ∨ a = 39 ∨ a = 40 ∨ a = 41 ∨ a = 42 ∨ a = 43 ∨ a = 44 ∨ a = 45 ∨ a = 46 ∨ a = 47 ∨ a = 48 ∨ a = 49 ∨ a = 50 ∨ a = 51 by omega) with rfl | rfl | rfl | rfl | rfl | rfl | rfl | rfl | rfl | rfl | rfl | rfl | rfl | rfl | rfl | rfl | rfl | rfl | rfl | rfl | rfl | rfl | rfl | rfl | rfl | rfl | rfl | rfl <;> rfl
