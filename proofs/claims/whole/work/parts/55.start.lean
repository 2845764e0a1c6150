/-! the start -/
theorem z_c : c_inv c_zero := by
  have hA : mA c_zero = 0 := by decide
  have hK : mK c_zero = 0 := by decide
  have hT : mT c_zero = 0 := by decide
  have hB : mB c_zero = 0 := by decide
  have hP : mP c_zero = 0 := by decide
  have hL : mL c_zero = 0 := by decide
  refine ⟨⟨⟨by decide, by rw [hK]; decide⟩, ⟨by decide, by rw [hT]; decide⟩, ⟨by decide, by rw [hB]; decide⟩, ⟨by decide, by rw [hP]; decide⟩, ⟨by decide, by rw [hA]; decide⟩, fun t ht => ?_, fun a ha => ?_, fun a ha => ?_⟩, ⟨by decide, by rw [hL]; decide⟩, fun i hi => ?_, fun t ht => ?_, fun i => Or.inl rfl, ⟨by decide, by decide⟩⟩
  · rw [hT] at ht; omega
  · rw [hA] at ha; omega
  · rw [hA] at ha; omega
  · rw [hL] at hi; omega
  · rw [hT] at ht; omega
theorem z_inv : Inv c_zero := by
  have hA : mA c_zero = 0 := by decide
  have hK : mK c_zero = 0 := by decide
  have hT : mT c_zero = 0 := by decide
  have hB : mB c_zero = 0 := by decide
  have hL : mL c_zero = 0 := by decide
  refine ⟨z_c, ⟨0, by decide, by decide⟩, fun k hk => ?_, fun a ha => ?_, fun t ht => ?_, ⟨0, by decide, by decide⟩, fun m hm => ?_, ?_, ⟨fun a _ => rfl, fun m _ => ⟨rfl, rfl⟩⟩, fun a b ha => ?_, fun t a ht => ?_, ⟨fun b hb => ?_, fun t ht => ?_⟩, fun m hm => ?_, ⟨?_, fun i hi => ?_, fun i j hi => ?_, fun b hb => ?_, fun i j hi hj => ?_⟩, fun k _ h8 => ?_⟩
  · rw [hK] at hk; omega
  · rw [hA] at ha; omega
  · rw [hT] at ht; omega
  · rw [hB] at hm; omega
  · show ct _ (mA c_zero) ≤ 5
    rw [hA]; exact Nat.zero_le _
  · rw [hA] at ha; omega
  · rw [hT] at ht; omega
  · rw [hA] at hb; omega
  · rw [hT] at ht; omega
  · rw [hB] at hm; omega
  · rw [hL, hA]; rfl
  · rw [hL] at hi; omega
  · rw [hL] at hi; omega
  · rw [hA] at hb; omega
  · rw [hL] at hj; omega
  · show (if (15 : Nat) = 18 ∨ (15 : Nat) = 62 ∨ (15 : Nat) = 70 then (-1 : Int32) else if (15 : Nat) = 15 then (if k < 8 then -1 else 0) else 0) = -1
    rw [if_neg (by decide), if_pos rfl, if_pos h8]
theorem z_lk : Lk m_zero c_zero := by
  refine ⟨fun j hj => ?_, fun a ha => ?_, fun i hi => ?_, fun k hk => ?_⟩
  · funext i
    show (if j = 18 ∨ j = 62 ∨ j = 70 then (-1 : Int32) else if j = 15 then (if i < 8 then -1 else 0) else 0) = (if j = 18 then -1 else 0)
    have h := SF_b j hj
    have h15 : j ≠ 15 := fun e => absurd hj (by rw [e]; decide)
    by_cases e : j = 18
    · rw [if_pos (Or.inl e), if_pos e]
    · rw [if_neg (by omega), if_neg h15, if_neg e]
  · have hA : mA c_zero = 0 := by decide
    rw [hA] at ha; omega
  · have hP : mP c_zero = 0 := by decide
    rw [hP] at hi; omega
  · unfold s_want
    rw [cif_t (by decide)]
    show (if (15 : Nat) = 18 ∨ (15 : Nat) = 62 ∨ (15 : Nat) = 70 then (-1 : Int32) else if (15 : Nat) = 15 then (if k < 8 then -1 else 0) else 0) = -1
    rw [if_neg (by decide), if_pos rfl, if_pos hk]
theorem z_sz : ∀ l, l < 5 → ix (c_sz c_zero l) = 0 := by decide
theorem z_ok : Yok Y_zero c_zero 53 := by
  have hA : mA c_zero = 0 := by decide
  have hK : mK c_zero = 0 := by decide
  have hT : mT c_zero = 0 := by decide
  have hB : mB c_zero = 0 := by decide
  refine ⟨fun a tag i h => absurd h (by show ¬ none = _; simp), fun i hi => ?_, fun i hi => ?_, fun i hi => ?_, fun i hi => ?_, fun l hl => ⟨by rw [z_sz l hl]; exact Nat.zero_le _, Nat.zero_le _, Or.inl ⟨rfl, rfl⟩⟩, fun _ => 0, rfl⟩
  · rw [hA] at hi; omega
  · rw [hK] at hi; omega
  · rw [hB] at hi; omega
  · rw [hT] at hi; omega
theorem z_mt : ∀ a, a < 52 → 24 < a → (m_t a).isSome = true := by decide
theorem z_fx : ∀ a, a < 8 → c_fx Y_zero c_zero a = none := fun a ha => by
  match a, ha with
  | 0, _ => rfl
  | 1, _ => rfl
  | 2, _ => rfl
  | 3, _ => rfl
  | 4, _ => rfl
  | 5, _ => rfl
  | 6, _ => rfl
  | 7, _ => rfl
theorem z_hp {X B : Option mE} : va_up (hm m_zero (va_up (fun a => if 8 ≤ a ∧ a < 24 then c_fx Y_zero c_zero a else (va_up (fun _ => none) 8 X : mH) a) 24 B)) 52 (some (.inl (3, 1, .inr (.inl (fun _ => 0))))) = hh m_zero Y_zero c_zero := by
  funext a
  by_cases e : a = 52
  · subst e
    rw [va_up_self, hh_hi _ _ _ (Nat.le_refl _)]
    rfl
  · rw [va_up_ne _ _ e]
    rcases Nat.lt_or_ge a 24 with q | q
    · rw [hm_r _ _ (Or.inl q), hh_lo _ _ _ q, va_up_ne _ _ (by omega)]
      by_cases w : 8 ≤ a ∧ a < 24
      · exact if_pos w
      · refine (if_neg w).trans ?_
        rw [va_up_ne _ _ (by omega), z_fx a (by omega)]
    · rcases Nat.lt_or_ge a 52 with r | r
      · by_cases f : a = 24
        · subst f
          exact (hm_o _ _).trans (hm_o _ _).symm
        · obtain ⟨⟨kd, N, j⟩, ev⟩ := Option.isSome_iff_exists.mp (z_mt a r (by omega))
          exact (hm_a _ _ ev).trans (hm_a _ _ ev).symm
      · rw [hm_r _ _ (Or.inr r), hh_hi _ _ _ r, va_up_ne _ _ (by omega)]
        refine (if_neg (by omega)).trans ?_
        rw [va_up_ne _ _ (by omega)]
        exact (if_neg e).symm
set_option maxHeartbeats 4000000 in
set_option maxRecDepth 100000 in
theorem law_start {g : gT} (hst : g.1.stackTraces = false) (hN : g_n g ≤ 3584) : G g 10 2605 795887 kL_law 0 [.ref 0, .retAddr 0, .retAddr 0, .retAddr 0, .retAddr 0, .retAddr 0, .retAddr 0] [] 8 (fun _ => none) lP := by
  refine G_new dL_law_0 nk_L_8 (Nat.le_of_ble_eq_true rfl) (Nat.le_of_ble_eq_true rfl) ?_
  refine G_dup dL_law_3 rfl ?_
  refine G_callI (ck_house (va_up_self _ _ _)) dL_law_4 (mc_L_15 rfl) rfl rfl tw_82 rfl rfl (Nat.le_of_ble_eq_true rfl) (Nat.le_of_ble_eq_true rfl) (Nat.le_of_ble_eq_true rfl) (Nat.le_of_ble_eq_true rfl) ?_
  rintro _ n9_ _ ⟨rfl, e9_, rfl⟩
  obtain rfl := e9_.symm
  refine G_astore_n dL_law_7 rfl (Nat.le_of_ble_eq_true rfl) rfl ?_
  refine G_new dL_law_8 nk_L_16 (Nat.le_of_ble_eq_true rfl) (Nat.le_of_ble_eq_true rfl) ?_
  refine G_dup dL_law_11 rfl ?_
  refine G_callI (c9_init (va_up_self _ _ _)) dL_law_12 (mc_L_18 rfl) rfl rfl tw_878 rfl rfl (Nat.le_of_ble_eq_true rfl) (Nat.le_of_ble_eq_true rfl) (Nat.le_of_ble_eq_true rfl) (Nat.le_of_ble_eq_true rfl) ?_
  rintro _ n9_ _ ⟨rfl, e9_, rfl⟩
  obtain rfl := e9_.symm
  refine G_astore_n dL_law_15 rfl (Nat.le_of_ble_eq_true rfl) rfl ?_
  refine G_iconst (v := 1) dL_law_16 rfl ?_
  refine G_newa (N := 1) (kd := 3) (f := .inr (.inl (fun _ => 0))) dL_law_17 rfl tw_1198 (fun _ => rfl) (fun _ _ h9 => h9) (fun _ => rfl) (fun _ => rfl) (by decide) (by decide) (by decide) (by decide) (Nat.le_of_ble_eq_true rfl) (Nat.le_of_ble_eq_true rfl) ?_
  rw [z_hp]
  refine G_astore_n dL_law_19 rfl (Nat.le_of_ble_eq_true rfl) rfl ?_
  refine G_iconst (v := 0) dL_law_20 rfl ?_
  refine G_istore dL_law_21 (Nat.le_of_ble_eq_true rfl) rfl ?_
  exact G_bud (x' := 5 * 512) (y' := 1550 * 512) (Nat.le_of_ble_eq_true rfl) (Nat.le_of_ble_eq_true rfl) (law_loop hst hN 512 0 53 m_zero Y_zero c_zero (.retAddr 0) (.retAddr 0) (by omega) (by omega) ⟨z_ok, Nat.le_refl _, z_inv, z_lk⟩)
