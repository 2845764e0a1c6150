set_option maxHeartbeats 4000000 in
set_option maxRecDepth 100000 in
theorem ck_kind {g : gT} {nq_ p9 : Nat} {h : mH} {x0 x1 x2 x3 : Value} (a b d e : Int32) (hp : h p9 = some (.inr (1, [x0, x1, x2, x3]))) : M g 1 0 0 kX1_init [.ref p9, .int a, .int b, .int d, .int e] nq_ h (fun v' n' h' => v' = none ∧ n' = nq_ ∧ h' = va_up h p9 (some (.inr (1, [.int a, .int b, .int d, .int e])))) := by
  refine M_of_G (by decide +kernel) (Nat.le_of_ble_eq_true rfl) ?_
  refine G_aload_n dX1_init_0 rfl rfl ?_
  refine G_objInit dX1_init_1 tw_243 tw_85 tw_86 (Nat.le_of_ble_eq_true rfl) (Nat.le_of_ble_eq_true rfl) ?_
  refine G_aload_n dX1_init_4 rfl rfl ?_
  refine G_iload_n dX1_init_5 rfl rfl ?_
  refine G_putF dX1_init_6 fp_X1_7 rfl hp (Nat.le_of_ble_eq_true rfl) g_fit_i ?_
  refine G_aload_n dX1_init_9 rfl rfl ?_
  refine G_iload_n dX1_init_10 rfl rfl ?_
  refine G_putF dX1_init_11 fp_X1_13 rfl (va_up_self _ _ _) (Nat.le_of_ble_eq_true rfl) g_fit_i ?_
  rw [va_upp]
  refine G_aload_n dX1_init_14 rfl rfl ?_
  refine G_iload_n dX1_init_15 rfl rfl ?_
  refine G_putF dX1_init_16 fp_X1_16 rfl (va_up_self _ _ _) (Nat.le_of_ble_eq_true rfl) g_fit_i ?_
  rw [va_upp]
  refine G_aload_n dX1_init_19 rfl rfl ?_
  refine G_iload dX1_init_20 rfl ?_
  refine G_putF dX1_init_22 fp_X1_19 rfl (va_up_self _ _ _) (Nat.le_of_ble_eq_true rfl) g_fit_i ?_
  rw [va_upp]
  refine G_vret dX1_init_25 rfl ?_
  exact ⟨rfl, rfl, rfl⟩
set_option maxHeartbeats 4000000 in
set_option maxRecDepth 100000 in
theorem ck_thing {g : gT} {nq_ p9 : Nat} {h : mH} {x0 x1 x2 x3 x4 : Value} (a : Int32) (r9 : Nat) (hp : h p9 = some (.inr (7, [x0, x1, x2, x3, x4]))) : M g 1 0 0 kX7_init [.ref p9, .int a, .ref r9] nq_ h (fun v' n' h' => v' = none ∧ n' = nq_ ∧ h' = va_up h p9 (some (.inr (7, [.int a, .ref r9, .int (-1), .int (-1), .null])))) := by
  refine M_of_G (by decide +kernel) (Nat.le_of_ble_eq_true rfl) ?_
  refine G_aload_n dX7_init_0 rfl rfl ?_
  refine G_objInit dX7_init_1 tw_349 tw_85 tw_86 (Nat.le_of_ble_eq_true rfl) (Nat.le_of_ble_eq_true rfl) ?_
  refine G_aload_n dX7_init_4 rfl rfl ?_
  refine G_iconst (v := -1) dX7_init_5 rfl ?_
  refine G_put dX7_init_6 fp_X7_9 hp (Nat.le_of_ble_eq_true rfl) g_fit_i ?_
  refine G_aload_n dX7_init_9 rfl rfl ?_
  refine G_iconst (v := -1) dX7_init_10 rfl ?_
  refine G_put dX7_init_11 fp_X7_15 (va_up_self _ _ _) (Nat.le_of_ble_eq_true rfl) g_fit_i ?_
  rw [va_upp]
  refine G_aload_n dX7_init_14 rfl rfl ?_
  refine G_null dX7_init_15 ?_
  refine G_put dX7_init_16 fp_X7_18 (va_up_self _ _ _) (Nat.le_of_ble_eq_true rfl) g_fit_on ?_
  rw [va_upp]
  refine G_aload_n dX7_init_19 rfl rfl ?_
  refine G_iload_n dX7_init_20 rfl rfl ?_
  refine G_putF dX7_init_21 fp_X7_22 rfl (va_up_self _ _ _) (Nat.le_of_ble_eq_true rfl) g_fit_i ?_
  rw [va_upp]
  refine G_aload_n dX7_init_24 rfl rfl ?_
  refine G_aload_n dX7_init_25 rfl rfl ?_
  refine G_putF dX7_init_26 fp_X7_25 rfl (va_up_self _ _ _) (Nat.le_of_ble_eq_true rfl) g_fit_o ?_
  rw [va_upp]
  refine G_vret dX7_init_29 rfl ?_
  exact ⟨rfl, rfl, rfl⟩
set_option maxHeartbeats 4000000 in
set_option maxRecDepth 100000 in
theorem ck_mem {g : gT} {nq_ p9 : Nat} {h : mH} {x0 x1 x2 x3 : Value} (a : Int32) (hp : h p9 = some (.inr (4, [x0, x1, x2, x3]))) : M g 1 0 0 kX4_init [.ref p9, .int a] nq_ h (fun v' n' h' => v' = none ∧ n' = nq_ ∧ h' = va_up h p9 (some (.inr (4, [.int a, .int 0, .int 0, .int 0])))) := by
  refine M_of_G (by decide +kernel) (Nat.le_of_ble_eq_true rfl) ?_
  refine G_aload_n dX4_init_0 rfl rfl ?_
  refine G_objInit dX4_init_1 tw_384 tw_85 tw_86 (Nat.le_of_ble_eq_true rfl) (Nat.le_of_ble_eq_true rfl) ?_
  refine G_aload_n dX4_init_4 rfl rfl ?_
  refine G_iconst (v := 0) dX4_init_5 rfl ?_
  refine G_put dX4_init_6 fp_X4_7 hp (Nat.le_of_ble_eq_true rfl) g_fit_i ?_
  refine G_aload_n dX4_init_9 rfl rfl ?_
  refine G_iconst (v := 0) dX4_init_10 rfl ?_
  refine G_put dX4_init_11 fp_X4_13 (va_up_self _ _ _) (Nat.le_of_ble_eq_true rfl) g_fit_i ?_
  rw [va_upp]
  refine G_aload_n dX4_init_14 rfl rfl ?_
  refine G_iconst (v := 0) dX4_init_15 rfl ?_
  refine G_put dX4_init_16 fp_X4_16 (va_up_self _ _ _) (Nat.le_of_ble_eq_true rfl) g_fit_i ?_
  rw [va_upp]
  refine G_aload_n dX4_init_19 rfl rfl ?_
  refine G_iload_n dX4_init_20 rfl rfl ?_
  refine G_putF dX4_init_21 fp_X4_19 rfl (va_up_self _ _ _) (Nat.le_of_ble_eq_true rfl) g_fit_i ?_
  rw [va_upp]
  refine G_vret dX4_init_24 rfl ?_
  exact ⟨rfl, rfl, rfl⟩
set_option maxHeartbeats 4000000 in
set_option maxRecDepth 100000 in
theorem ck_ask {g : gT} {nq_ p9 : Nat} {h : mH} {x0 x1 x2 x3 x4 x5 x6 x7 x8 x9 x10 : Value} (a : Int32) (r8 r9 : Nat) (b d e f : Int32) (hp : h p9 = some (.inr (0, [x0, x1, x2, x3, x4, x5, x6, x7, x8, x9, x10]))) : M g 1 0 0 kX0_init [.ref p9, .int a, .ref r8, .ref r9, .int b, .int d, .int e, .int f] nq_ h (fun v' n' h' => v' = none ∧ n' = nq_ ∧ h' = va_up h p9 (some (.inr (0, [.int a, .ref r8, .ref r9, .int b, .int d, .int e, .int f, .int 0, .null, .int 0, .int (-1)])))) := by
  refine M_of_G (by decide +kernel) (Nat.le_of_ble_eq_true rfl) ?_
  refine G_aload_n dX0_init_0 rfl rfl ?_
  refine G_objInit dX0_init_1 tw_563 tw_85 tw_86 (Nat.le_of_ble_eq_true rfl) (Nat.le_of_ble_eq_true rfl) ?_
  refine G_aload_n dX0_init_4 rfl rfl ?_
  refine G_iconst (v := 0) dX0_init_5 rfl ?_
  refine G_put dX0_init_6 fp_X0_9 hp (Nat.le_of_ble_eq_true rfl) g_fit_i ?_
  refine G_aload_n dX0_init_9 rfl rfl ?_
  refine G_null dX0_init_10 ?_
  refine G_put dX0_init_11 fp_X0_15 (va_up_self _ _ _) (Nat.le_of_ble_eq_true rfl) g_fit_on ?_
  rw [va_upp]
  refine G_aload_n dX0_init_14 rfl rfl ?_
  refine G_iconst (v := 0) dX0_init_15 rfl ?_
  refine G_put dX0_init_16 fp_X0_19 (va_up_self _ _ _) (Nat.le_of_ble_eq_true rfl) g_fit_i ?_
  rw [va_upp]
  refine G_aload_n dX0_init_19 rfl rfl ?_
  refine G_iconst (v := -1) dX0_init_20 rfl ?_
  refine G_put dX0_init_21 fp_X0_22 (va_up_self _ _ _) (Nat.le_of_ble_eq_true rfl) g_fit_i ?_
  rw [va_upp]
  refine G_aload_n dX0_init_24 rfl rfl ?_
  refine G_iload_n dX0_init_25 rfl rfl ?_
  refine G_putF dX0_init_26 fp_X0_25 rfl (va_up_self _ _ _) (Nat.le_of_ble_eq_true rfl) g_fit_i ?_
  rw [va_upp]
  refine G_aload_n dX0_init_29 rfl rfl ?_
  refine G_aload_n dX0_init_30 rfl rfl ?_
  refine G_putF dX0_init_31 fp_X0_28 rfl (va_up_self _ _ _) (Nat.le_of_ble_eq_true rfl) g_fit_o ?_
  rw [va_upp]
  refine G_aload_n dX0_init_34 rfl rfl ?_
  refine G_aload_n dX0_init_35 rfl rfl ?_
  refine G_putF dX0_init_36 fp_X0_32 rfl (va_up_self _ _ _) (Nat.le_of_ble_eq_true rfl) g_fit_o ?_
  rw [va_upp]
  refine G_aload_n dX0_init_39 rfl rfl ?_
  refine G_iload dX0_init_40 rfl ?_
  refine G_putF dX0_init_42 fp_X0_36 rfl (va_up_self _ _ _) (Nat.le_of_ble_eq_true rfl) g_fit_i ?_
  rw [va_upp]
  refine G_aload_n dX0_init_45 rfl rfl ?_
  refine G_iload dX0_init_46 rfl ?_
  refine G_putF dX0_init_48 fp_X0_39 rfl (va_up_self _ _ _) (Nat.le_of_ble_eq_true rfl) g_fit_i ?_
  rw [va_upp]
  refine G_aload_n dX0_init_51 rfl rfl ?_
  refine G_iload dX0_init_52 rfl ?_
  refine G_putF dX0_init_54 fp_X0_42 rfl (va_up_self _ _ _) (Nat.le_of_ble_eq_true rfl) g_fit_i ?_
  rw [va_upp]
  refine G_aload_n dX0_init_57 rfl rfl ?_
  refine G_iload dX0_init_58 rfl ?_
  refine G_putF dX0_init_60 fp_X0_45 rfl (va_up_self _ _ _) (Nat.le_of_ble_eq_true rfl) g_fit_i ?_
  rw [va_upp]
  refine G_vret dX0_init_63 rfl ?_
  exact ⟨rfl, rfl, rfl⟩
def y_up (f : Nat → Nat → Nat) (t i v : Nat) : Nat → Nat → Nat := fun a b => if a = t ∧ b = i then v else f a b
/-- a new object: number K of its kind -/
def yA (Y : cY) (n tg K : Nat) : cY := (va_up (y_l Y) n (some (tg, K)), y_up (y_a Y) tg K n, y_c Y, y_j Y)
/-- a list's array, now at q with N places; x: what lies at the old place -/
def yB (Y : cY) (q N l : Nat) (x : Option mE) : cY := (va_up (va_up (y_l Y) (y_a Y 20 l) none) q (some (20, l)), y_up (y_a Y) 20 l q, va_up (y_c Y) l N, va_up (y_j Y) (y_a Y 20 l) x)
theorem y_up_s (f : Nat → Nat → Nat) (t i v : Nat) : y_up f t i v t i = v := if_pos ⟨rfl, rfl⟩
theorem y_up_n (f : Nat → Nat → Nat) {t i a b : Nat} (v : Nat) (h : ¬ (a = t ∧ b = i)) : y_up f t i v a b = f a b := if_neg h
theorem hh_ext {sm : mS} {Y Y' : cY} {c c' : mS} (hf : ∀ b, b < 24 → c_fx Y' c' b = c_fx Y c b) (hd : ∀ b, 52 ≤ b → c_dy Y' c' b = c_dy Y c b) : hh sm Y' c' = hh sm Y c := by
  funext b
  by_cases h1 : b < 24
  · rw [hh_lo _ _ _ h1, hh_lo _ _ _ h1, hf b h1]
  · by_cases h2 : 52 ≤ b
    · rw [hh_hi _ _ _ h2, hh_hi _ _ _ h2, hd b h2]
    · unfold hh hm
      by_cases e24 : b = 24
      · rw [if_pos e24, if_pos e24]
      · rw [if_neg e24, if_neg e24]
        cases ht : m_t b with
        | some w => rfl
        | none =>
          exfalso
          unfold m_t at ht
          rw [if_neg (by omega)] at ht
          have := List.getElem?_eq_none_iff.mp ht
          have h27 : m_tab.length = 27 := rfl
          omega
/-- one cell laid anew, all others alike -/
theorem hh_one {sm : mS} {Y Y' : cY} {c c' : mS} {a0 : Nat} {X : Option mE} (h0 : a0 < 24 ∨ 52 ≤ a0) (h1 : hh sm Y' c' a0 = X) (hf : ∀ b, b < 24 → b ≠ a0 → c_fx Y' c' b = c_fx Y c b) (hd : ∀ b, 52 ≤ b → b ≠ a0 → c_dy Y' c' b = c_dy Y c b) : va_up (hh sm Y c) a0 X = hh sm Y' c' := by
  funext b
  by_cases e : b = a0
  · subst e; rw [va_up_self, h1]
  · rw [va_up_ne _ _ e]
    by_cases h2 : b < 24
    · rw [hh_lo _ _ _ h2, hh_lo _ _ _ h2, hf b h2 e]
    · by_cases h3 : 52 ≤ b
      · rw [hh_hi _ _ _ h3, hh_hi _ _ _ h3, hd b h3 e]
      · unfold hh hm
        by_cases e24 : b = 24
        · rw [if_pos e24, if_pos e24]
        · rw [if_neg e24, if_neg e24]
          cases ht : m_t b with
          | some w => rfl
          | none =>
            exfalso
            unfold m_t at ht
            rw [if_neg (by omega)] at ht
            have := List.getElem?_eq_none_iff.mp ht
            have h27 : m_tab.length = 27 := rfl
            omega
theorem cd_y {Y Y' : cY} {c c' : mS} {b : Nat} (hl : y_l Y' b = y_l Y b) (hj : y_l Y b = none → y_j Y' b = y_j Y b) (h9 : ∀ t i, y_l Y b = some (t, i) → t = 0 ∨ t = 1 ∨ t = 4 ∨ t = 7 ∨ t = 20) (h0 : ∀ i, y_l Y b = some (0, i) → f_ask Y' c' i = f_ask Y c i) (h1 : ∀ i, y_l Y b = some (1, i) → f_kind c' i = f_kind c i) (h4 : ∀ i, y_l Y b = some (4, i) → f_mem c' i = f_mem c i) (h7 : ∀ i, y_l Y b = some (7, i) → f_thing Y' c' i = f_thing Y c i) (h20 : ∀ i, y_l Y b = some (20, i) → y_c Y' i = y_c Y i ∧ f_arr Y' c' i = f_arr Y c i) : c_dy Y' c' b = c_dy Y c b := by
  cases hb : y_l Y b with
  | none => unfold c_dy; rw [hl, hb]; exact hj hb
  | some w =>
    obtain ⟨tg, i⟩ := w
    rcases h9 tg i hb with rfl | rfl | rfl | rfl | rfl
    · rw [c_dy_0 hb, c_dy_0 (hl.trans hb), h0 i hb]
    · rw [c_dy_1 hb, c_dy_1 (hl.trans hb), h1 i hb]
    · rw [c_dy_4 hb, c_dy_4 (hl.trans hb), h4 i hb]
    · rw [c_dy_7 hb, c_dy_7 (hl.trans hb), h7 i hb]
    · rw [c_dy_20 hb, c_dy_20 (hl.trans hb), (h20 i hb).1, (h20 i hb).2]
theorem Yok.tags {Y : cY} {c : mS} {n9 b t i : Nat} (hY : Yok Y c n9) (h : y_l Y b = some (t, i)) : t = 0 ∨ t = 1 ∨ t = 4 ∨ t = 7 ∨ t = 20 := by
  rcases (hY.1 b t i h).2.2.2 with z | z | z | z | z
  · exact Or.inl z.1
  · exact Or.inr (Or.inl z.1)
  · exact Or.inr (Or.inr (Or.inl z.1))
  · exact Or.inr (Or.inr (Or.inr (Or.inl z.1)))
  · exact Or.inr (Or.inr (Or.inr (Or.inr z.1)))
theorem Yok.i_A {Y : cY} {c : mS} {n9 b i : Nat} (hY : Yok Y c n9) (h : y_l Y b = some (0, i)) : i < mA c := by
  rcases (hY.1 b 0 i h).2.2.2 with z | z | z | z | z <;> first | exact z.2 | exact absurd z.1 (by decide)
theorem Yok.i_T {Y : cY} {c : mS} {n9 b i : Nat} (hY : Yok Y c n9) (h : y_l Y b = some (7, i)) : i < mT c := by
  rcases (hY.1 b 7 i h).2.2.2 with z | z | z | z | z <;> first | exact z.2 | exact absurd z.1 (by decide)
theorem Yok.i_K {Y : cY} {c : mS} {n9 b i : Nat} (hY : Yok Y c n9) (h : y_l Y b = some (1, i)) : i < mK c := by
  rcases (hY.1 b 1 i h).2.2.2 with z | z | z | z | z <;> first | exact z.2 | exact absurd z.1 (by decide)
theorem Yok.i_B {Y : cY} {c : mS} {n9 b i : Nat} (hY : Yok Y c n9) (h : y_l Y b = some (4, i)) : i < mB c := by
  rcases (hY.1 b 4 i h).2.2.2 with z | z | z | z | z <;> first | exact z.2 | exact absurd z.1 (by decide)
theorem Yok.i_L {Y : cY} {c : mS} {n9 b i : Nat} (hY : Yok Y c n9) (h : y_l Y b = some (20, i)) : i < 5 := by
  rcases (hY.1 b 20 i h).2.2.2 with z | z | z | z | z <;> first | exact z.2 | exact absurd z.1 (by decide)
