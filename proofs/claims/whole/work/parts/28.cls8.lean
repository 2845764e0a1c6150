theorem G_hc {g : gT} {d x y : Nat} {k : mM} {pc : Nat} {L st : List Value} {n : Nat} {P : Option Value → Nat → mH → Prop} {sm : mS} {Y : cY} {c c' : mS} (e : c = c') (K : G g d x y k pc L st n (hh sm Y c') P) : G g d x y k pc L st n (hh sm Y c) P := by rw [e]; exact K
theorem G_hq {g : gT} {d x y : Nat} {k : mM} {pc : Nat} {L st : List Value} {n : Nat} {P : Option Value → Nat → mH → Prop} {h h' : mH} (e : h = h') (K : G g d x y k pc L st n h' P) : G g d x y k pc L st n h P := by rw [e]; exact K
def m_row (c : mS) (j : Nat) (f : Nat → Int32) : mS := fun a b => if a = j then f b else c a b
theorem m_row_eq (c : mS) (j : Nat) (f : Nat → Int32) : m_row c j f j = f := by funext b; simp [m_row]
theorem m_row_ne (c : mS) {j a : Nat} (f : Nat → Int32) (h : a ≠ j) : m_row c j f a = c a := by funext b; simp [m_row, h]
theorem hw_row17 (sm : mS) (Y : cY) (c : mS) (f : Nat → Int32) : va_up (hh sm Y c) 17 (some (.inl (0, 8, .inl f))) = hh sm Y (m_row c 60 f) := hw_gen (sm := sm) (Y := Y) (c := c) (c' := m_row c 60 f) (a0 := 17) (Or.inl (by decide)) ((hx_17 _ _ _).trans (by rw [m_row_eq])) (fun b hb hn => by unfold c_fx; split <;> first | rfl | exact absurd rfl hn) (fun b _ => cd_c (fun _ _ => rfl) (fun _ _ => rfl) (fun _ _ => rfl) (fun _ _ => rfl) (fun _ _ => far rfl rfl rfl rfl rfl rfl _))
theorem hw_row19 (sm : mS) (Y : cY) (c : mS) (f : Nat → Int32) : va_up (hh sm Y c) 19 (some (.inl (0, 8, .inl f))) = hh sm Y (m_row c 15 f) := hw_gen (sm := sm) (Y := Y) (c := c) (c' := m_row c 15 f) (a0 := 19) (Or.inl (by decide)) ((hx_19 _ _ _).trans (by rw [m_row_eq])) (fun b hb hn => by unfold c_fx; split <;> first | rfl | exact absurd rfl hn) (fun b _ => cd_c (fun _ _ => rfl) (fun _ _ => rfl) (fun _ _ => rfl) (fun _ _ => rfl) (fun _ _ => far rfl rfl rfl rfl rfl rfl _))
theorem hw_row22 (sm : mS) (Y : cY) (c : mS) (f : Nat → Int32) : va_up (hh sm Y c) 22 (some (.inl (0, 32, .inl f))) = hh sm Y (m_row c 72 f) := hw_gen (sm := sm) (Y := Y) (c := c) (c' := m_row c 72 f) (a0 := 22) (Or.inl (by decide)) ((hx_22 _ _ _).trans (by rw [m_row_eq])) (fun b hb hn => by unfold c_fx; split <;> first | rfl | exact absurd rfl hn) (fun b _ => cd_c (fun _ _ => rfl) (fun _ _ => rfl) (fun _ _ => rfl) (fun _ _ => rfl) (fun _ _ => far rfl rfl rfl rfl rfl rfl _))
theorem hw_row23 (sm : mS) (Y : cY) (c : mS) (f : Nat → Int32) : va_up (hh sm Y c) 23 (some (.inl (0, 32, .inl f))) = hh sm Y (m_row c 73 f) := hw_gen (sm := sm) (Y := Y) (c := c) (c' := m_row c 73 f) (a0 := 23) (Or.inl (by decide)) ((hx_23 _ _ _).trans (by rw [m_row_eq])) (fun b hb hn => by unfold c_fx; split <;> first | rfl | exact absurd rfl hn) (fun b _ => cd_c (fun _ _ => rfl) (fun _ _ => rfl) (fun _ _ => rfl) (fun _ _ => rfl) (fun _ _ => far rfl rfl rfl rfl rfl rfl _))
def pt_b (w : Int32) (j : Nat) : Int32 := (w.toUInt32 >>> ((24 - 8 * nI j : Int32).toUInt32 &&& Int32.toUInt32 31)).toInt32 &&& 255
def pt (c : mS) (w : Int32) (p : Nat) : Nat → mS
  | 0 => c
  | j + 1 => m_set (m_set (pt c w p j) 12 (p + j) (pt_b w j)) 13 0 (nI (p + j + 1))
theorem pt_13 {c : mS} {w : Int32} {p : Nat} (h : c 13 0 = nI p) : ∀ j, pt c w p j 13 0 = nI (p + j)
  | 0 => h
  | j + 1 => m_set_at _ _ _ _
theorem sh_in : ∀ j, j < 4 → ¬ (24 - 8 * nI j : Int32) < 0 := by decide
theorem sh_dn : ∀ j, j < 4 → (24 - 8 * nI j : Int32) + Int32.ofInt (-8) = 24 - 8 * nI (j + 1) := by decide
set_option maxHeartbeats 4000000 in
set_option maxRecDepth 100000 in
theorem cx_put {g : gT} {nq_ : Nat} {sm : mS} {Y : cY} {c : mS} (w : Int32) (p : Nat) (hp : c 13 0 = nI p) (hp2 : p + 4 ≤ 200) : M g 0 0 0 kX6_put [.ref 14, .int w] nq_ (hh sm Y c) (c_V nq_ sm Y (pt c w p 4)) := by
  refine M_of_G (by decide +kernel) (Nat.le_of_ble_eq_true rfl) ?_
  have loop : ∀ m j, j + m = 4 → G g 0 0 0 kX6_put 3 [.ref 14, .int w, .int (24 - 8 * nI j)] [] nq_ (hh sm Y (pt c w p j)) (c_V nq_ sm Y (pt c w p 4)) := by
    intro m
    induction m with
    | zero =>
      intro j hj
      rw [Nat.add_zero] at hj
      subst hj
      refine G_iload_n dX6_put_3 rfl rfl ?_
      refine G_if_lt (tgt := 49) dX6_put_4 (by decide) (fun c4 => ?_) (fun c4 => ?_)
      · skip
        refine G_vret dX6_put_49 rfl ?_
        exact ⟨rfl, rfl, rfl⟩
      · skip
        exact absurd (show (24 - 8 * nI 4 : Int32) < 0 by decide) c4
    | succ m ih =>
      intro j hj
      have e13 := pt_13 (w := w) hp j
      refine G_iload_n dX6_put_3 rfl rfl ?_
      refine G_if_lt (tgt := 49) dX6_put_4 (by decide) (fun c4 => ?_) (fun c4 => ?_)
      · skip
        exact absurd c4 (sh_in j (by omega))
      · skip
        refine G_aload_n dX6_put_7 rfl rfl ?_
        refine G_get dX6_put_8 fg_X6_15 (hx_14 _ _ _) rfl ?_
        refine G_sipush (v := 200) dX6_put_11 rfl ?_
        refine G_icmp_ge (tgt := 49) dX6_put_14 (by decide) (fun c14 => ?_) (fun c14 => ?_)
        · skip
          exact absurd c14 (by rw [e13, show (200 : Int32) = nI 200 from rfl, nI_leI (by decide) (by omega)]; omega)
        · skip
          refine G_aload_n dX6_put_17 rfl rfl ?_
          refine G_get dX6_put_18 fg_X6_9 (hx_14 _ _ _) rfl ?_
          refine G_aload_n dX6_put_21 rfl rfl ?_
          refine G_get dX6_put_22 fg_X6_15 (hx_14 _ _ _) rfl ?_
          refine G_iload_n dX6_put_25 rfl rfl ?_
          refine G_iload_n dX6_put_26 rfl rfl ?_
          refine G_iushr dX6_put_27 ?_
          refine G_sipush (v := 255) dX6_put_28 rfl ?_
          refine G_iand dX6_put_31 ?_
          refine GC_byt dX6_put_32 ⟨e13, by omega⟩ ?_
          refine G_aload_n dX6_put_33 rfl rfl ?_
          refine G_dup dX6_put_34 rfl ?_
          refine G_get dX6_put_35 fg_X6_15 (hx_14 _ _ _) rfl ?_
          refine G_iconst (v := 1) dX6_put_38 rfl ?_
          refine G_iadd dX6_put_39 ?_
          refine G_top (w := .int (nI (p + j + 1))) (congrArg Value.int (show pt c w p j 13 0 + 1 = _ by rw [e13]; exact nI_1 _)) ?_
          refine GC_len dX6_put_40 fp_X6_15 ?_
          refine G_iinc (b := 24 - 8 * nI (j + 1)) dX6_put_43 rfl (sh_dn j (by omega)) rfl ?_
          refine G_goto (tgt := 3) dX6_put_46 (by decide) ?_
          exact ih (j + 1) (by omega)
  refine G_bipush (v := 24) dX6_put_0 rfl ?_
  refine G_istore_n dX6_put_2 rfl (Nat.le_of_ble_eq_true rfl) rfl ?_
  exact loop 4 0 rfl
noncomputable def cp_feed (c : mS) (a b d e f : Int32) : mS × Int32 := cif (c 13 0 + 20 ≤ 200) (pt (pt (pt (pt (pt c a (mP c) 4) b (mP c + 4) 4) d (mP c + 4 + 4) 4) e (mP c + 4 + 4 + 4) 4) f (mP c + 4 + 4 + 4 + 4) 4, nI (mP c + 4 + 4 + 4 + 4 + 4)) (c, -1)
set_option maxHeartbeats 4000000 in
set_option maxRecDepth 100000 in
theorem cp9_feed {g : gT} {nq_ n9 : Nat} {sm : mS} {Y : cY} {c : mS} (a b e f i : Int32) (hY : Yok Y c n9) (hC9 : c_inv c) : M g 2 0 0 kX8_feed [.ref 8, .int a, .int b, .int e, .int f, .int i] nq_ (hh sm Y c) (c_S (.int (cp_feed c a b e f i).2) nq_ sm Y (cp_feed c a b e f i).1) := by
  refine M_of_G (by decide +kernel) (Nat.le_of_ble_eq_true rfl) ?_
  obtain ⟨hI, hG, hgv, hov, hrw, hps⟩ := id hC9
  obtain ⟨hK, hT, hB, hP9, hA, hkf, haf, hbf⟩ := id hI
  have hA2 := hA.2
  have hT2 := hT.2
  have hK2 := hK.2
  have hB2 := hB.2
  have hG2 := hG.2
  have hP2 := hP9.2
  refine G_aload_n dX8_feed_0 rfl rfl ?_
  refine G_get dX8_feed_1 fg_X8_31 (hx_8 _ _ _) rfl ?_
  refine G_callV (cx_room hY hC9) dX8_feed_4 (mc_X8_91 rfl) tw_407 tw_408 (hx_14 _ _ _) rfl rfl rfl (Nat.le_of_ble_eq_true rfl) (Nat.le_of_ble_eq_true rfl) (Nat.le_of_ble_eq_true rfl) (Nat.le_of_ble_eq_true rfl) ?_
  rintro _ n9_ _ ⟨rfl, e9_, rfl⟩
  obtain rfl := e9_.symm
  refine G_if_ne (tgt := 12) dX8_feed_7 (by decide) (fun c7 => ?_) (fun c7 => ?_)
  · skip
    have hr0 := b1_1 c7
    have hr : mP c + 20 ≤ 200 := by rw [hP9.1, show (20 : Int32) = nI 20 from rfl, nI_add, show (200 : Int32) = nI 200 from rfl, nI_leI (by omega) (by omega)] at hr0; exact hr0
    refine G_aload_n dX8_feed_12 rfl rfl ?_
    refine G_get dX8_feed_13 fg_X8_31 (hx_8 _ _ _) rfl ?_
    refine G_iload_n dX8_feed_16 rfl rfl ?_
    refine G_callV (cx_put _ (mP c) hP9.1 (by omega)) dX8_feed_17 (mc_X8_95 rfl) tw_411 tw_412 (hx_14 _ _ _) rfl rfl rfl (Nat.le_of_ble_eq_true rfl) (Nat.le_of_ble_eq_true rfl) (Nat.le_of_ble_eq_true rfl) (Nat.le_of_ble_eq_true rfl) ?_
    rintro _ n9_ _ ⟨rfl, e9_, rfl⟩
    obtain rfl := e9_.symm
    refine G_aload_n dX8_feed_20 rfl rfl ?_
    refine G_get dX8_feed_21 fg_X8_31 (hx_8 _ _ _) rfl ?_
    refine G_iload_n dX8_feed_24 rfl rfl ?_
    refine G_callV (cx_put _ (mP c + 4) (pt_13 hP9.1 4) (by omega)) dX8_feed_25 (mc_X8_95 rfl) tw_411 tw_412 (hx_14 _ _ _) rfl rfl rfl (Nat.le_of_ble_eq_true rfl) (Nat.le_of_ble_eq_true rfl) (Nat.le_of_ble_eq_true rfl) (Nat.le_of_ble_eq_true rfl) ?_
    rintro _ n9_ _ ⟨rfl, e9_, rfl⟩
    obtain rfl := e9_.symm
    refine G_aload_n dX8_feed_28 rfl rfl ?_
    refine G_get dX8_feed_29 fg_X8_31 (hx_8 _ _ _) rfl ?_
    refine G_iload_n dX8_feed_32 rfl rfl ?_
    refine G_callV (cx_put _ (mP c + 4 + 4) (pt_13 (pt_13 hP9.1 4) 4) (by omega)) dX8_feed_33 (mc_X8_95 rfl) tw_411 tw_412 (hx_14 _ _ _) rfl rfl rfl (Nat.le_of_ble_eq_true rfl) (Nat.le_of_ble_eq_true rfl) (Nat.le_of_ble_eq_true rfl) (Nat.le_of_ble_eq_true rfl) ?_
    rintro _ n9_ _ ⟨rfl, e9_, rfl⟩
    obtain rfl := e9_.symm
    refine G_aload_n dX8_feed_36 rfl rfl ?_
    refine G_get dX8_feed_37 fg_X8_31 (hx_8 _ _ _) rfl ?_
    refine G_iload dX8_feed_40 rfl ?_
    refine G_callV (cx_put _ (mP c + 4 + 4 + 4) (pt_13 (pt_13 (pt_13 hP9.1 4) 4) 4) (by omega)) dX8_feed_42 (mc_X8_95 rfl) tw_411 tw_412 (hx_14 _ _ _) rfl rfl rfl (Nat.le_of_ble_eq_true rfl) (Nat.le_of_ble_eq_true rfl) (Nat.le_of_ble_eq_true rfl) (Nat.le_of_ble_eq_true rfl) ?_
    rintro _ n9_ _ ⟨rfl, e9_, rfl⟩
    obtain rfl := e9_.symm
    refine G_aload_n dX8_feed_45 rfl rfl ?_
    refine G_get dX8_feed_46 fg_X8_31 (hx_8 _ _ _) rfl ?_
    refine G_iload dX8_feed_49 rfl ?_
    refine G_callV (cx_put _ (mP c + 4 + 4 + 4 + 4) (pt_13 (pt_13 (pt_13 (pt_13 hP9.1 4) 4) 4) 4) (by omega)) dX8_feed_51 (mc_X8_95 rfl) tw_411 tw_412 (hx_14 _ _ _) rfl rfl rfl (Nat.le_of_ble_eq_true rfl) (Nat.le_of_ble_eq_true rfl) (Nat.le_of_ble_eq_true rfl) (Nat.le_of_ble_eq_true rfl) ?_
    rintro _ n9_ _ ⟨rfl, e9_, rfl⟩
    obtain rfl := e9_.symm
    refine G_aload_n dX8_feed_54 rfl rfl ?_
    refine G_get dX8_feed_55 fg_X8_31 (hx_8 _ _ _) rfl ?_
    refine G_get dX8_feed_58 fg_X8_98 (hx_14 _ _ _) rfl ?_
    refine G_iret dX8_feed_61 rfl ?_
    exact c_close ((cif_t (b1_1 c7)).trans (Prod.ext rfl rfl))
  · skip
    refine G_iconst (v := -1) dX8_feed_10 rfl ?_
    refine G_iret dX8_feed_11 rfl ?_
    exact c_close (cif_f (b1_0.mp c7))
set_option maxHeartbeats 4000000 in
set_option maxRecDepth 100000 in
theorem cx_blank {g : gT} {nq_ : Nat} {h : mH} (v : Int32) : M g 0 0 0 kX3_isBlank [.int v] nq_ h (m_Q (.int (b1 (is_bl v))) nq_ h) := by
  refine M_of_G (by decide +kernel) (Nat.le_of_ble_eq_true rfl) ?_
  refine G_iload_n dX3_isBlank_0 rfl rfl ?_
  refine G_bipush (v := 32) dX3_isBlank_1 rfl ?_
  refine G_icmp_eq (tgt := 12) dX3_isBlank_3 (by decide) (fun c3 => ?_) (fun c3 => ?_)
  · skip
    refine G_iconst (v := 1) dX3_isBlank_12 rfl ?_
    refine G_goto (tgt := 17) dX3_isBlank_13 (by decide) ?_
    refine G_zret dX3_isBlank_17 rfl rfl ?_
    first | exact q_t (Or.inl c3) | exact q_t (Or.inr c9) | exact q_f (fun q => q.elim c3 c9)
  · skip
    refine G_iload_n dX3_isBlank_6 rfl rfl ?_
    refine G_bipush (v := 10) dX3_isBlank_7 rfl ?_
    refine G_icmp_ne (tgt := 16) dX3_isBlank_9 (by decide) (fun c9 => ?_) (fun c9 => ?_)
    · skip
      refine G_iconst (v := 0) dX3_isBlank_16 rfl ?_
      refine G_zret dX3_isBlank_17 rfl rfl ?_
      first | exact q_t (Or.inl c3) | exact q_t (Or.inr c9) | exact q_f (fun q => q.elim c3 c9)
    · skip
      refine G_iconst (v := 1) dX3_isBlank_12 rfl ?_
      refine G_goto (tgt := 17) dX3_isBlank_13 (by decide) ?_
      refine G_zret dX3_isBlank_17 rfl rfl ?_
      first | exact q_t (Or.inl c3) | exact q_t (Or.inr c9) | exact q_f (fun q => q.elim c3 c9)
set_option maxHeartbeats 4000000 in
set_option maxRecDepth 100000 in
theorem cx_letter {g : gT} {nq_ : Nat} {h : mH} (v : Int32) : M g 0 0 0 kX3_isLetter [.int v] nq_ h (m_Q (.int (b1 (wi v 97 122))) nq_ h) := by
  refine M_of_G (by decide +kernel) (Nat.le_of_ble_eq_true rfl) ?_
  refine G_iload_n dX3_isLetter_0 rfl rfl ?_
  refine G_bipush (v := 97) dX3_isLetter_1 rfl ?_
  refine G_icmp_lt (tgt := 16) dX3_isLetter_3 (by decide) (fun c3 => ?_) (fun c3 => ?_)
  · skip
    refine G_iconst (v := 0) dX3_isLetter_16 rfl ?_
    refine G_zret dX3_isLetter_17 rfl rfl ?_
    first | exact q_t ⟨Int32.not_lt.mp c3, Int32.not_lt.mp c9⟩ | exact q_f (fun q => absurd q.1 (Int32.not_le.mpr c3)) | exact q_f (fun q => absurd q.2 (Int32.not_le.mpr c9))
  · skip
    refine G_iload_n dX3_isLetter_6 rfl rfl ?_
    refine G_bipush (v := 122) dX3_isLetter_7 rfl ?_
    refine G_icmp_gt (tgt := 16) dX3_isLetter_9 (by decide) (fun c9 => ?_) (fun c9 => ?_)
    · skip
      refine G_iconst (v := 0) dX3_isLetter_16 rfl ?_
      refine G_zret dX3_isLetter_17 rfl rfl ?_
      first | exact q_t ⟨Int32.not_lt.mp c3, Int32.not_lt.mp c9⟩ | exact q_f (fun q => absurd q.1 (Int32.not_le.mpr c3)) | exact q_f (fun q => absurd q.2 (Int32.not_le.mpr c9))
    · skip
      refine G_iconst (v := 1) dX3_isLetter_12 rfl ?_
      refine G_goto (tgt := 17) dX3_isLetter_13 (by decide) ?_
      refine G_zret dX3_isLetter_17 rfl rfl ?_
      first | exact q_t ⟨Int32.not_lt.mp c3, Int32.not_lt.mp c9⟩ | exact q_f (fun q => absurd q.1 (Int32.not_le.mpr c3)) | exact q_f (fun q => absurd q.2 (Int32.not_le.mpr c9))
set_option maxHeartbeats 4000000 in
set_option maxRecDepth 100000 in
theorem cx_digit {g : gT} {nq_ : Nat} {h : mH} (v : Int32) : M g 0 0 0 kX3_isDigit [.int v] nq_ h (m_Q (.int (b1 (wi v 48 57))) nq_ h) := by
  refine M_of_G (by decide +kernel) (Nat.le_of_ble_eq_true rfl) ?_
  refine G_iload_n dX3_isDigit_0 rfl rfl ?_
  refine G_bipush (v := 48) dX3_isDigit_1 rfl ?_
  refine G_icmp_lt (tgt := 16) dX3_isDigit_3 (by decide) (fun c3 => ?_) (fun c3 => ?_)
  · skip
    refine G_iconst (v := 0) dX3_isDigit_16 rfl ?_
    refine G_zret dX3_isDigit_17 rfl rfl ?_
    first | exact q_t ⟨Int32.not_lt.mp c3, Int32.not_lt.mp c9⟩ | exact q_f (fun q => absurd q.1 (Int32.not_le.mpr c3)) | exact q_f (fun q => absurd q.2 (Int32.not_le.mpr c9))
  · skip
    refine G_iload_n dX3_isDigit_6 rfl rfl ?_
    refine G_bipush (v := 57) dX3_isDigit_7 rfl ?_
    refine G_icmp_gt (tgt := 16) dX3_isDigit_9 (by decide) (fun c9 => ?_) (fun c9 => ?_)
    · skip
      refine G_iconst (v := 0) dX3_isDigit_16 rfl ?_
      refine G_zret dX3_isDigit_17 rfl rfl ?_
      first | exact q_t ⟨Int32.not_lt.mp c3, Int32.not_lt.mp c9⟩ | exact q_f (fun q => absurd q.1 (Int32.not_le.mpr c3)) | exact q_f (fun q => absurd q.2 (Int32.not_le.mpr c9))
    · skip
      refine G_iconst (v := 1) dX3_isDigit_12 rfl ?_
      refine G_goto (tgt := 17) dX3_isDigit_13 (by decide) ?_
      refine G_zret dX3_isDigit_17 rfl rfl ?_
      first | exact q_t ⟨Int32.not_lt.mp c3, Int32.not_lt.mp c9⟩ | exact q_f (fun q => absurd q.1 (Int32.not_le.mpr c3)) | exact q_f (fun q => absurd q.2 (Int32.not_le.mpr c9))
noncomputable def c_num (c : mS) (a : Nat) : Nat → Int32
  | 0 => 0
  | m + 1 => c_num c a m * 10 + c_byte c (a + m) - 48
noncomputable def c_nof (c : mS) (a m : Nat) : Int32 := cif (wi (c_byte c a) 48 57 ∧ m ≤ 3) (c_num c a m) (-1)
set_option maxHeartbeats 4000000 in
set_option maxRecDepth 100000 in
theorem cx_numberOf {g : gT} {nq_ n9 : Nat} {sm : mS} {Y : cY} {c : mS} (a m : Nat) (hY : Yok Y c n9) (hC9 : c_inv c) (ham : a + m ≤ 200) : M g 1 0 0 kX3_numberOf [.ref 14, .int (nI a), .int (nI (a + m))] nq_ (hh sm Y c) (m_Q (.int (c_nof c a m)) nq_ (hh sm Y c)) := by
  refine M_of_G (by decide +kernel) (Nat.le_of_ble_eq_true rfl) ?_
  obtain ⟨hI, hG, hgv, hov, hrw, hps⟩ := id hC9
  obtain ⟨hK, hT, hB, hP9, hA, hkf, haf, hbf⟩ := id hI
  have hA2 := hA.2
  have hT2 := hT.2
  have hK2 := hK.2
  have hB2 := hB.2
  have hG2 := hG.2
  have hP2 := hP9.2
  have loop : wi (c_byte c a) 48 57 ∧ m ≤ 3 → ∀ r j, j + r = m → G g 1 0 0 kX3_numberOf 25 [.ref 14, .int (nI a), .int (nI (a + m)), .int (c_num c a j), .int (nI (a + j))] [] nq_ (hh sm Y c) (m_Q (.int (c_nof c a m)) nq_ (hh sm Y c)) := by
    intro hq r
    induction r with
    | zero =>
      intro j hj
      rw [Nat.add_zero] at hj
      subst hj
      refine G_iload dX3_numberOf_25 rfl ?_
      refine G_iload_n dX3_numberOf_27 rfl rfl ?_
      refine G_icmp_ge (tgt := 52) dX3_numberOf_28 (by decide) (fun c28 => ?_) (fun c28 => ?_)
      · skip
        refine G_iload_n dX3_numberOf_52 rfl rfl ?_
        refine G_iret dX3_numberOf_53 rfl ?_
        exact q_e (cif_t hq)
      · skip
        exact absurd (Int32.le_refl _) c28
    | succ r ih =>
      intro j hj
      refine G_iload dX3_numberOf_25 rfl ?_
      refine G_iload_n dX3_numberOf_27 rfl rfl ?_
      refine G_icmp_ge (tgt := 52) dX3_numberOf_28 (by decide) (fun c28 => ?_) (fun c28 => ?_)
      · skip
        exact absurd c28 (by rw [nI_leI (by omega) (by omega)]; omega)
      · skip
        refine G_iload_n dX3_numberOf_31 rfl rfl ?_
        refine G_bipush (v := 10) dX3_numberOf_32 rfl ?_
        refine G_imul dX3_numberOf_34 ?_
        refine G_aload_n dX3_numberOf_35 rfl rfl ?_
        refine G_iload dX3_numberOf_36 rfl ?_
        refine G_callV (cx_byte (a + j) hY hC9 (by omega)) dX3_numberOf_38 (mc_X3_39 rfl) tw_428 tw_429 (hx_14 _ _ _) rfl rfl rfl (Nat.le_of_ble_eq_true rfl) (Nat.le_of_ble_eq_true rfl) (Nat.le_of_ble_eq_true rfl) (Nat.le_of_ble_eq_true rfl) ?_
        rintro _ n9_ _ ⟨rfl, e9_, rfl⟩
        obtain rfl := e9_.symm
        refine G_iadd dX3_numberOf_41 ?_
        refine G_bipush (v := 48) dX3_numberOf_42 rfl ?_
        refine G_isub dX3_numberOf_44 ?_
        refine G_istore_n dX3_numberOf_45 rfl (Nat.le_of_ble_eq_true rfl) rfl ?_
        refine G_iinc (b := nI (a + (j + 1))) dX3_numberOf_46 rfl (nI_1 (a + j)) rfl ?_
        refine G_goto (tgt := 25) dX3_numberOf_49 (by decide) ?_
        exact ih (j + 1) (by omega)
  refine G_aload_n dX3_numberOf_0 rfl rfl ?_
  refine G_iload_n dX3_numberOf_1 rfl rfl ?_
  refine G_callV (cx_byte a hY hC9 (by omega)) dX3_numberOf_2 (mc_X3_39 rfl) tw_428 tw_429 (hx_14 _ _ _) rfl rfl rfl (Nat.le_of_ble_eq_true rfl) (Nat.le_of_ble_eq_true rfl) (Nat.le_of_ble_eq_true rfl) (Nat.le_of_ble_eq_true rfl) ?_
  rintro _ n9_ _ ⟨rfl, e9_, rfl⟩
  obtain rfl := e9_.symm
  refine G_callS (cx_digit _) dX3_numberOf_5 (mc_X3_84 rfl) tw_441 rfl rfl (Nat.le_of_ble_eq_true rfl) (Nat.le_of_ble_eq_true rfl) (Nat.le_of_ble_eq_true rfl) (Nat.le_of_ble_eq_true rfl) ?_
  rintro _ n9_ _ ⟨rfl, e9_, rfl⟩
  obtain rfl := e9_.symm
  refine G_if_eq (tgt := 18) dX3_numberOf_8 (by decide) (fun c8 => ?_) (fun c8 => ?_)
  · skip
    refine G_iconst (v := -1) dX3_numberOf_18 rfl ?_
    refine G_iret dX3_numberOf_19 rfl ?_
    first | exact q_e (cif_f (fun q => b1_0.mp c8 q.1)) | exact q_e (cif_f (fun q => c15 (nI_le q.2 (by decide))))
  · skip
    refine G_iload_n dX3_numberOf_11 rfl rfl ?_
    refine G_iload_n dX3_numberOf_12 rfl rfl ?_
    refine G_isub dX3_numberOf_13 ?_
    refine G_top (w := .int (nI m)) (congrArg Value.int (by rw [nI_sub (by omega), show a + m - a = m by omega])) ?_
    refine G_iconst (v := 3) dX3_numberOf_14 rfl ?_
    refine G_icmp_le (tgt := 20) dX3_numberOf_15 (by decide) (fun c15 => ?_) (fun c15 => ?_)
    · skip
      refine G_iconst (v := 0) dX3_numberOf_20 rfl ?_
      refine G_istore_n dX3_numberOf_21 rfl (Nat.le_of_ble_eq_true rfl) rfl ?_
      refine G_iload_n dX3_numberOf_22 rfl rfl ?_
      refine G_istore dX3_numberOf_23 (Nat.le_of_ble_eq_true rfl) rfl ?_
      exact loop ⟨b1_1 c8, (nI_leI (b := 3) (by omega) (by decide)).mp c15⟩ m 0 (by omega)
    · skip
      refine G_iconst (v := -1) dX3_numberOf_18 rfl ?_
      refine G_iret dX3_numberOf_19 rfl ?_
      first | exact q_e (cif_f (fun q => b1_0.mp c8 q.1)) | exact q_e (cif_f (fun q => c15 (nI_le q.2 (by decide))))
def c_ev (c : mS) (a m : Nat) : Prop := m = 5 ∧ ∀ i, i < 5 → c_byte c (a + i) = evL.getD i 0
set_option maxHeartbeats 4000000 in
set_option maxRecDepth 100000 in
theorem cx_isEvery {g : gT} {nq_ n9 : Nat} {sm : mS} {Y : cY} {c : mS} (a m : Nat) (hY : Yok Y c n9) (hC9 : c_inv c) (ham : a + m ≤ 200) : M g 4 0 0 kX3_isEvery [.ref 14, .int (nI a), .int (nI (a + m))] nq_ (hh sm Y c) (m_Q (.int (b1 (c_ev c a m))) nq_ (hh sm Y c)) := by
  refine M_of_G (by decide +kernel) (Nat.le_of_ble_eq_true rfl) ?_
  obtain ⟨hI, hG, hgv, hov, hrw, hps⟩ := id hC9
  obtain ⟨hK, hT, hB, hP9, hA, hkf, haf, hbf⟩ := id hI
  have hA2 := hA.2
  have hT2 := hT.2
  have hK2 := hK.2
  have hB2 := hB.2
  have hG2 := hG.2
  have hP2 := hP9.2
  have loop : m = 5 → ∀ r j, j + r = 5 → (∀ i, i < j → c_byte c (a + i) = evL.getD i 0) → G g 4 0 0 kX3_isEvery 15 [.ref 14, .int (nI a), .int (nI (a + m)), .int (nI j)] [] nq_ (hh sm Y c) (m_Q (.int (b1 (c_ev c a m))) nq_ (hh sm Y c)) := by
    intro hm r
    induction r with
    | zero =>
      intro j hj hn
      rw [Nat.add_zero] at hj
      subst hj
      refine G_iload_n dX3_isEvery_15 rfl rfl ?_
      refine G_ldcS dX3_isEvery_16 rfl ?_
      refine G_callStr cs_length dX3_isEvery_18 (mc_X3_89 rfl) tw_455 tw_456 rfl rfl rfl (Nat.le_of_ble_eq_true rfl) (Nat.le_of_ble_eq_true rfl) ?_
      rintro _ n9_ _ ⟨rfl, e9_, rfl⟩
      obtain rfl := e9_.symm
      refine G_icmp_ge (tgt := 48) dX3_isEvery_21 (by decide) (fun c21 => ?_) (fun c21 => ?_)
      · skip
        refine G_iconst (v := 1) dX3_isEvery_48 rfl ?_
        refine G_zret dX3_isEvery_49 rfl rfl ?_
        exact q_t ⟨hm, hn⟩
      · skip
        exact absurd (show (5 : Int32) ≤ nI 5 by decide) c21
    | succ r ih =>
      intro j hj hn
      refine G_iload_n dX3_isEvery_15 rfl rfl ?_
      refine G_ldcS dX3_isEvery_16 rfl ?_
      refine G_callStr cs_length dX3_isEvery_18 (mc_X3_89 rfl) tw_455 tw_456 rfl rfl rfl (Nat.le_of_ble_eq_true rfl) (Nat.le_of_ble_eq_true rfl) ?_
      rintro _ n9_ _ ⟨rfl, e9_, rfl⟩
      obtain rfl := e9_.symm
      refine G_icmp_ge (tgt := 48) dX3_isEvery_21 (by decide) (fun c21 => ?_) (fun c21 => ?_)
      · skip
        exact absurd c21 (by rw [show (5 : Int32) = nI 5 from rfl, nI_leI (by decide) (by omega)]; omega)
      · skip
        refine G_aload_n dX3_isEvery_24 rfl rfl ?_
        refine G_iload_n dX3_isEvery_25 rfl rfl ?_
        refine G_iload_n dX3_isEvery_26 rfl rfl ?_
        refine G_iadd dX3_isEvery_27 ?_
        rw [nI_add]
        refine G_callV (cx_byte (a + j) hY hC9 (by omega)) dX3_isEvery_28 (mc_X3_39 rfl) tw_428 tw_429 (hx_14 _ _ _) rfl rfl rfl (Nat.le_of_ble_eq_true rfl) (Nat.le_of_ble_eq_true rfl) (Nat.le_of_ble_eq_true rfl) (Nat.le_of_ble_eq_true rfl) ?_
        rintro _ n9_ _ ⟨rfl, e9_, rfl⟩
        obtain rfl := e9_.symm
        refine G_ldcS dX3_isEvery_31 rfl ?_
        refine G_iload_n dX3_isEvery_33 rfl rfl ?_
        refine G_callStr (cs_ch j (by omega)) dX3_isEvery_34 (mc_X3_94 rfl) tw_465 tw_466 rfl rfl rfl (Nat.le_of_ble_eq_true rfl) (Nat.le_of_ble_eq_true rfl) ?_
        rintro _ n9_ _ ⟨rfl, e9_, rfl⟩
        obtain rfl := e9_.symm
        refine G_icmp_eq (tgt := 42) dX3_isEvery_37 (by decide) (fun c37 => ?_) (fun c37 => ?_)
        · skip
          refine G_iinc (b := nI (j + 1)) dX3_isEvery_42 rfl (nI_1 j) rfl ?_
          refine G_goto (tgt := 15) dX3_isEvery_45 (by decide) ?_
          exact ih (j + 1) (by omega) (lt_s hn c37)
        · skip
          refine G_iconst (v := 0) dX3_isEvery_40 rfl ?_
          refine G_zret dX3_isEvery_41 rfl rfl ?_
          exact q_f (fun q => c37 (q.2 j (by omega)))
  refine G_iload_n dX3_isEvery_0 rfl rfl ?_
  refine G_iload_n dX3_isEvery_1 rfl rfl ?_
  refine G_isub dX3_isEvery_2 ?_
  refine G_top (w := .int (nI m)) (congrArg Value.int (by rw [nI_sub (by omega), show a + m - a = m by omega])) ?_
  refine G_ldcS dX3_isEvery_3 rfl ?_
  refine G_callStr cs_length dX3_isEvery_5 (mc_X3_89 rfl) tw_455 tw_456 rfl rfl rfl (Nat.le_of_ble_eq_true rfl) (Nat.le_of_ble_eq_true rfl) ?_
  rintro _ n9_ _ ⟨rfl, e9_, rfl⟩
  obtain rfl := e9_.symm
  refine G_icmp_eq (tgt := 13) dX3_isEvery_8 (by decide) (fun c8 => ?_) (fun c8 => ?_)
  · skip
    refine G_iconst (v := 0) dX3_isEvery_13 rfl ?_
    refine G_istore_n dX3_isEvery_14 rfl (Nat.le_of_ble_eq_true rfl) rfl ?_
    exact loop ((nI_eq (b := 5) (by omega) (by decide)).mp c8) 5 0 rfl (fun i hi => absurd hi (Nat.not_lt_zero i))
  · skip
    refine G_iconst (v := 0) dX3_isEvery_11 rfl ?_
    refine G_zret dX3_isEvery_12 rfl rfl ?_
    exact q_f (fun q => c8 (by rw [q.1]; rfl))
def c_in (c : mS) (W N : Prop) (e : Nat) : Prop := (W ∧ wi (c_byte c e) 97 122) ∨ (N ∧ wi (c_byte c e) 48 57)
noncomputable def c_et (c : mS) (W N : Prop) : Nat → Nat → Nat
  | 0, e => e
  | f + 1, e => cif (c_in c W N e) (c_et c W N f (e + 1)) e
theorem c_et_b (c : mS) (W N : Prop) : ∀ f e, e ≤ c_et c W N f e ∧ c_et c W N f e ≤ e + f
  | 0, e => ⟨Nat.le_refl _, Nat.le_refl _⟩
  | f + 1, e => by
    have ih := c_et_b c W N f (e + 1)
    show e ≤ cif _ _ _ ∧ cif _ _ _ ≤ e + (f + 1)
    by_cases h : c_in c W N e
    · rw [cif_t h]; omega
    · rw [cif_f h]; omega
noncomputable def c_eot (c : mS) (a : Nat) : Nat := c_et c (wi (c_byte c a) 97 122) (wi (c_byte c a) 48 57) (mP c - (a + 1)) (a + 1)
set_option maxHeartbeats 4000000 in
set_option maxRecDepth 100000 in
theorem cx_eot {g : gT} {nq_ n9 : Nat} {sm : mS} {Y : cY} {c : mS} (a : Nat) (hY : Yok Y c n9) (hC9 : c_inv c) (ha9 : a < mP c) : M g 1 0 0 kX3_endOfToken [.ref 14, .int (nI a)] nq_ (hh sm Y c) (m_Q (.int (nI (c_eot c a))) nq_ (hh sm Y c)) := by
  refine M_of_G (by decide +kernel) (Nat.le_of_ble_eq_true rfl) ?_
  obtain ⟨hI, hG, hgv, hov, hrw, hps⟩ := id hC9
  obtain ⟨hK, hT, hB, hP9, hA, hkf, haf, hbf⟩ := id hI
  have hA2 := hA.2
  have hT2 := hT.2
  have hK2 := hK.2
  have hB2 := hB.2
  have hG2 := hG.2
  have hP2 := hP9.2
  have loop : ∀ f e, e + f = mP c → c_eot c a = c_et c (wi (c_byte c a) 97 122) (wi (c_byte c a) 48 57) f e → G g 1 0 0 kX3_endOfToken 23 [.ref 14, .int (nI a), .int (b1 (wi (c_byte c a) 97 122)), .int (b1 (wi (c_byte c a) 48 57)), .int (nI e)] [] nq_ (hh sm Y c) (m_Q (.int (nI (c_eot c a))) nq_ (hh sm Y c)) := by
    intro f
    induction f with
    | zero =>
      intro e he hs
      rw [Nat.add_zero] at he
      refine G_iload dX3_endOfToken_23 rfl ?_
      refine G_aload_n dX3_endOfToken_25 rfl rfl ?_
      refine G_get dX3_endOfToken_26 fg_X3_34 (hx_14 _ _ _) rfl ?_
      refine G_icmp_ge (tgt := 70) dX3_endOfToken_29 (by decide) (fun c29 => ?_) (fun c29 => ?_)
      · skip
        refine G_iload dX3_endOfToken_70 rfl ?_
        refine G_iret dX3_endOfToken_72 rfl ?_
        exact q_e (congrArg nI hs)
      · skip
        exact absurd (by rw [hP9.1, he]; exact Int32.le_refl _) c29
    | succ f ih =>
      intro e he hs
      refine G_iload dX3_endOfToken_23 rfl ?_
      refine G_aload_n dX3_endOfToken_25 rfl rfl ?_
      refine G_get dX3_endOfToken_26 fg_X3_34 (hx_14 _ _ _) rfl ?_
      refine G_icmp_ge (tgt := 70) dX3_endOfToken_29 (by decide) (fun c29 => ?_) (fun c29 => ?_)
      · skip
        exact absurd c29 (by rw [hP9.1, nI_leI (by omega) (by omega)]; omega)
      · skip
        refine G_iload_n dX3_endOfToken_32 rfl rfl ?_
        refine G_if_eq (tgt := 48) dX3_endOfToken_33 (by decide) (fun c33 => ?_) (fun c33 => ?_)
        · skip
          refine G_iload_n dX3_endOfToken_48 rfl rfl ?_
          refine G_if_eq (tgt := 70) dX3_endOfToken_49 (by decide) (fun c49 => ?_) (fun c49 => ?_)
          · skip
            refine G_iload dX3_endOfToken_70 rfl ?_
            refine G_iret dX3_endOfToken_72 rfl ?_
            exact q_e (congrArg nI (hs.trans (cif_f (fun q => q.elim (fun z => by first | exact b1_0.mp c33 z.1 | exact b1_0.mp c45 z.2) (fun z => by first | exact b1_0.mp c49 z.1 | exact b1_0.mp c61 z.2)))))
          · skip
            refine G_aload_n dX3_endOfToken_52 rfl rfl ?_
            refine G_iload dX3_endOfToken_53 rfl ?_
            refine G_callV (cx_byte e hY hC9 (by omega)) dX3_endOfToken_55 (mc_X3_39 rfl) tw_428 tw_429 (hx_14 _ _ _) rfl rfl rfl (Nat.le_of_ble_eq_true rfl) (Nat.le_of_ble_eq_true rfl) (Nat.le_of_ble_eq_true rfl) (Nat.le_of_ble_eq_true rfl) ?_
            rintro _ n9_ _ ⟨rfl, e9_, rfl⟩
            obtain rfl := e9_.symm
            refine G_callS (cx_digit _) dX3_endOfToken_58 (mc_X3_84 rfl) tw_441 rfl rfl (Nat.le_of_ble_eq_true rfl) (Nat.le_of_ble_eq_true rfl) (Nat.le_of_ble_eq_true rfl) (Nat.le_of_ble_eq_true rfl) ?_
            rintro _ n9_ _ ⟨rfl, e9_, rfl⟩
            obtain rfl := e9_.symm
            refine G_if_eq (tgt := 70) dX3_endOfToken_61 (by decide) (fun c61 => ?_) (fun c61 => ?_)
            · skip
              refine G_iload dX3_endOfToken_70 rfl ?_
              refine G_iret dX3_endOfToken_72 rfl ?_
              exact q_e (congrArg nI (hs.trans (cif_f (fun q => q.elim (fun z => by first | exact b1_0.mp c33 z.1 | exact b1_0.mp c45 z.2) (fun z => by first | exact b1_0.mp c49 z.1 | exact b1_0.mp c61 z.2)))))
            · skip
              refine G_iinc (b := nI (e + 1)) dX3_endOfToken_64 rfl (nI_1 e) rfl ?_
              refine G_goto (tgt := 23) dX3_endOfToken_67 (by decide) ?_
              exact ih (e + 1) (by omega) (hs.trans (by first | exact cif_t (Or.inl ⟨b1_1 c33, b1_1 c45⟩) | exact cif_t (Or.inr ⟨b1_1 c49, b1_1 c61⟩)))
        · skip
          refine G_aload_n dX3_endOfToken_36 rfl rfl ?_
          refine G_iload dX3_endOfToken_37 rfl ?_
          refine G_callV (cx_byte e hY hC9 (by omega)) dX3_endOfToken_39 (mc_X3_39 rfl) tw_428 tw_429 (hx_14 _ _ _) rfl rfl rfl (Nat.le_of_ble_eq_true rfl) (Nat.le_of_ble_eq_true rfl) (Nat.le_of_ble_eq_true rfl) (Nat.le_of_ble_eq_true rfl) ?_
          rintro _ n9_ _ ⟨rfl, e9_, rfl⟩
          obtain rfl := e9_.symm
          refine G_callS (cx_letter _) dX3_endOfToken_42 (mc_X3_81 rfl) tw_438 rfl rfl (Nat.le_of_ble_eq_true rfl) (Nat.le_of_ble_eq_true rfl) (Nat.le_of_ble_eq_true rfl) (Nat.le_of_ble_eq_true rfl) ?_
          rintro _ n9_ _ ⟨rfl, e9_, rfl⟩
          obtain rfl := e9_.symm
          refine G_if_ne (tgt := 64) dX3_endOfToken_45 (by decide) (fun c45 => ?_) (fun c45 => ?_)
          · skip
            refine G_iinc (b := nI (e + 1)) dX3_endOfToken_64 rfl (nI_1 e) rfl ?_
            refine G_goto (tgt := 23) dX3_endOfToken_67 (by decide) ?_
            exact ih (e + 1) (by omega) (hs.trans (by first | exact cif_t (Or.inl ⟨b1_1 c33, b1_1 c45⟩) | exact cif_t (Or.inr ⟨b1_1 c49, b1_1 c61⟩)))
          · skip
            refine G_iload_n dX3_endOfToken_48 rfl rfl ?_
            refine G_if_eq (tgt := 70) dX3_endOfToken_49 (by decide) (fun c49 => ?_) (fun c49 => ?_)
            · skip
              refine G_iload dX3_endOfToken_70 rfl ?_
              refine G_iret dX3_endOfToken_72 rfl ?_
              exact q_e (congrArg nI (hs.trans (cif_f (fun q => q.elim (fun z => by first | exact b1_0.mp c33 z.1 | exact b1_0.mp c45 z.2) (fun z => by first | exact b1_0.mp c49 z.1 | exact b1_0.mp c61 z.2)))))
            · skip
              refine G_aload_n dX3_endOfToken_52 rfl rfl ?_
              refine G_iload dX3_endOfToken_53 rfl ?_
              refine G_callV (cx_byte e hY hC9 (by omega)) dX3_endOfToken_55 (mc_X3_39 rfl) tw_428 tw_429 (hx_14 _ _ _) rfl rfl rfl (Nat.le_of_ble_eq_true rfl) (Nat.le_of_ble_eq_true rfl) (Nat.le_of_ble_eq_true rfl) (Nat.le_of_ble_eq_true rfl) ?_
              rintro _ n9_ _ ⟨rfl, e9_, rfl⟩
              obtain rfl := e9_.symm
              refine G_callS (cx_digit _) dX3_endOfToken_58 (mc_X3_84 rfl) tw_441 rfl rfl (Nat.le_of_ble_eq_true rfl) (Nat.le_of_ble_eq_true rfl) (Nat.le_of_ble_eq_true rfl) (Nat.le_of_ble_eq_true rfl) ?_
              rintro _ n9_ _ ⟨rfl, e9_, rfl⟩
              obtain rfl := e9_.symm
              refine G_if_eq (tgt := 70) dX3_endOfToken_61 (by decide) (fun c61 => ?_) (fun c61 => ?_)
              · skip
                refine G_iload dX3_endOfToken_70 rfl ?_
                refine G_iret dX3_endOfToken_72 rfl ?_
                exact q_e (congrArg nI (hs.trans (cif_f (fun q => q.elim (fun z => by first | exact b1_0.mp c33 z.1 | exact b1_0.mp c45 z.2) (fun z => by first | exact b1_0.mp c49 z.1 | exact b1_0.mp c61 z.2)))))
              · skip
                refine G_iinc (b := nI (e + 1)) dX3_endOfToken_64 rfl (nI_1 e) rfl ?_
                refine G_goto (tgt := 23) dX3_endOfToken_67 (by decide) ?_
                exact ih (e + 1) (by omega) (hs.trans (by first | exact cif_t (Or.inl ⟨b1_1 c33, b1_1 c45⟩) | exact cif_t (Or.inr ⟨b1_1 c49, b1_1 c61⟩)))
  refine G_aload_n dX3_endOfToken_0 rfl rfl ?_
  refine G_iload_n dX3_endOfToken_1 rfl rfl ?_
  refine G_callV (cx_byte a hY hC9 (by omega)) dX3_endOfToken_2 (mc_X3_39 rfl) tw_428 tw_429 (hx_14 _ _ _) rfl rfl rfl (Nat.le_of_ble_eq_true rfl) (Nat.le_of_ble_eq_true rfl) (Nat.le_of_ble_eq_true rfl) (Nat.le_of_ble_eq_true rfl) ?_
  rintro _ n9_ _ ⟨rfl, e9_, rfl⟩
  obtain rfl := e9_.symm
  refine G_callS (cx_letter _) dX3_endOfToken_5 (mc_X3_81 rfl) tw_438 rfl rfl (Nat.le_of_ble_eq_true rfl) (Nat.le_of_ble_eq_true rfl) (Nat.le_of_ble_eq_true rfl) (Nat.le_of_ble_eq_true rfl) ?_
  rintro _ n9_ _ ⟨rfl, e9_, rfl⟩
  obtain rfl := e9_.symm
  refine G_istore_n dX3_endOfToken_8 rfl (Nat.le_of_ble_eq_true rfl) rfl ?_
  refine G_aload_n dX3_endOfToken_9 rfl rfl ?_
  refine G_iload_n dX3_endOfToken_10 rfl rfl ?_
  refine G_callV (cx_byte a hY hC9 (by omega)) dX3_endOfToken_11 (mc_X3_39 rfl) tw_428 tw_429 (hx_14 _ _ _) rfl rfl rfl (Nat.le_of_ble_eq_true rfl) (Nat.le_of_ble_eq_true rfl) (Nat.le_of_ble_eq_true rfl) (Nat.le_of_ble_eq_true rfl) ?_
  rintro _ n9_ _ ⟨rfl, e9_, rfl⟩
  obtain rfl := e9_.symm
  refine G_callS (cx_digit _) dX3_endOfToken_14 (mc_X3_84 rfl) tw_441 rfl rfl (Nat.le_of_ble_eq_true rfl) (Nat.le_of_ble_eq_true rfl) (Nat.le_of_ble_eq_true rfl) (Nat.le_of_ble_eq_true rfl) ?_
  rintro _ n9_ _ ⟨rfl, e9_, rfl⟩
  obtain rfl := e9_.symm
  refine G_istore_n dX3_endOfToken_17 rfl (Nat.le_of_ble_eq_true rfl) rfl ?_
  refine G_iload_n dX3_endOfToken_18 rfl rfl ?_
  refine G_iconst (v := 1) dX3_endOfToken_19 rfl ?_
  refine G_iadd dX3_endOfToken_20 ?_
  rw [nI_1]
  refine G_istore dX3_endOfToken_21 (Nat.le_of_ble_eq_true rfl) rfl ?_
  exact loop (mP c - (a + 1)) (a + 1) (by omega) rfl
def c_bl (c : mS) (v a : Int32) : mS := m_set (m_set c 61 0 v) 62 0 a
noncomputable def c_tkk (c : mS) (v a K : Int32) : mS := cif (v < K) (m_set (m_set c 64 0 v) 63 0 2) (c_bl c 2 a)
noncomputable def c_tkd (c : mS) (v : Int32) : mS := cif (c 64 0 < 0 ∨ 8 ≤ c 64 0) (m_set c 63 0 3) (m_set (m_set c 60 (ix (c 64 0)) v) 63 0 3)
noncomputable def c_take (c : mS) (a m : Nat) (K : Int32) : mS := cif (c 63 0 = 0 ∧ c_ev c a m) (m_set c 63 0 1) (cif (c 63 0 = 1 ∧ ¬ c_nof c a m = -1) (c_tkk c (c_nof c a m) (nI a) K) (cif (c 63 0 = 2 ∧ ¬ c_nof c a m = -1) (c_tkd c (c_nof c a m)) (cif (c 63 0 = 3 ∧ c_byte c a = 59) (m_set c 63 0 0) (c_bl c 1 (nI a)))))
theorem v_cc {nq_ : Nat} {sm : mS} {Y : cY} {u u' : mS} (e : u = u') : c_V nq_ sm Y u none nq_ (hh sm Y u') := by subst e; exact ⟨rfl, rfl, rfl⟩
set_option maxHeartbeats 4000000 in
set_option maxRecDepth 100000 in
theorem cx_blame {g : gT} {nq_ : Nat} {sm : mS} {Y : cY} {c : mS} (v a : Int32) : M g 0 0 0 kX3_blame [.ref 16, .int v, .int a] nq_ (hh sm Y c) (c_V nq_ sm Y (c_bl c v a)) := by
  refine M_of_G (by decide +kernel) (Nat.le_of_ble_eq_true rfl) ?_
  refine G_aload_n dX3_blame_0 rfl rfl ?_
  refine G_iload_n dX3_blame_1 rfl rfl ?_
  refine GC_flt dX3_blame_2 fp_X3_15 ?_
  refine G_aload_n dX3_blame_5 rfl rfl ?_
  refine G_iload_n dX3_blame_6 rfl rfl ?_
  refine GC_rpl dX3_blame_7 fp_X3_19 ?_
  refine G_vret dX3_blame_10 rfl ?_
  exact ⟨rfl, rfl, rfl⟩
set_option maxHeartbeats 4000000 in
set_option maxRecDepth 100000 in
theorem cx_takeDays {g : gT} {nq_ : Nat} {sm : mS} {Y : cY} {c : mS} (v : Int32) : M g 0 0 0 kX3_takeDays [.ref 16, .int v] nq_ (hh sm Y c) (c_V nq_ sm Y (c_tkd c v)) := by
  refine M_of_G (by decide +kernel) (Nat.le_of_ble_eq_true rfl) ?_
  refine G_aload_n dX3_takeDays_0 rfl rfl ?_
  refine G_get dX3_takeDays_1 fg_X3_25 (hx_16 _ _ _) rfl ?_
  refine G_if_lt (tgt := 26) dX3_takeDays_4 (by decide) (fun c4 => ?_) (fun c4 => ?_)
  · skip
    refine G_aload_n dX3_takeDays_26 rfl rfl ?_
    refine G_iconst (v := 3) dX3_takeDays_27 rfl ?_
    refine GC_due dX3_takeDays_28 fp_X3_22 ?_
    refine G_vret dX3_takeDays_31 rfl ?_
    first | exact v_cc (cif_t (Or.inl c4)) | exact v_cc (cif_t (Or.inr c13)) | exact v_cc (cif_f (fun q => q.elim c4 c13))
  · skip
    refine G_aload_n dX3_takeDays_7 rfl rfl ?_
    refine G_get dX3_takeDays_8 fg_X3_25 (hx_16 _ _ _) rfl ?_
    refine G_bipush (v := 8) dX3_takeDays_11 rfl ?_
    refine G_icmp_ge (tgt := 26) dX3_takeDays_13 (by decide) (fun c13 => ?_) (fun c13 => ?_)
    · skip
      refine G_aload_n dX3_takeDays_26 rfl rfl ?_
      refine G_iconst (v := 3) dX3_takeDays_27 rfl ?_
      refine GC_due dX3_takeDays_28 fp_X3_22 ?_
      refine G_vret dX3_takeDays_31 rfl ?_
      first | exact v_cc (cif_t (Or.inl c4)) | exact v_cc (cif_t (Or.inr c13)) | exact v_cc (cif_f (fun q => q.elim c4 c13))
    · skip
      have h64 : c 64 0 = nI (ix (c 64 0)) ∧ ix (c 64 0) < 8 := by
        obtain ⟨j, hj, e⟩ := nI_of c4
        rw [e, show (8 : Int32) = nI 8 from rfl, nI_leI (by decide) hj] at c13
        rw [e, show ix (nI j) = j from nI_clamp hj]
        exact ⟨rfl, by omega⟩
      refine G_aload_n dX3_takeDays_16 rfl rfl ?_
      refine G_get dX3_takeDays_17 fg_X3_9 (hx_16 _ _ _) rfl ?_
      refine G_aload_n dX3_takeDays_20 rfl rfl ?_
      refine G_get dX3_takeDays_21 fg_X3_25 (hx_16 _ _ _) rfl ?_
      refine G_iload_n dX3_takeDays_24 rfl rfl ?_
      refine GC_rwt dX3_takeDays_25 h64 ?_
      refine G_aload_n dX3_takeDays_26 rfl rfl ?_
      refine G_iconst (v := 3) dX3_takeDays_27 rfl ?_
      refine GC_due dX3_takeDays_28 fp_X3_22 ?_
      refine G_vret dX3_takeDays_31 rfl ?_
      first | exact v_cc (cif_t (Or.inl c4)) | exact v_cc (cif_t (Or.inr c13)) | exact v_cc (cif_f (fun q => q.elim c4 c13))
set_option maxHeartbeats 4000000 in
set_option maxRecDepth 100000 in
theorem cx_takeKind {g : gT} {nq_ : Nat} {sm : mS} {Y : cY} {c : mS} (v a K : Int32) : M g 1 0 0 kX3_takeKind [.ref 16, .int v, .int a, .int K] nq_ (hh sm Y c) (c_V nq_ sm Y (c_tkk c v a K)) := by
  refine M_of_G (by decide +kernel) (Nat.le_of_ble_eq_true rfl) ?_
  refine G_iload_n dX3_takeKind_0 rfl rfl ?_
  refine G_iload_n dX3_takeKind_1 rfl rfl ?_
  refine G_icmp_lt (tgt := 12) dX3_takeKind_2 (by decide) (fun c2 => ?_) (fun c2 => ?_)
  · skip
    refine G_aload_n dX3_takeKind_12 rfl rfl ?_
    refine G_iload_n dX3_takeKind_13 rfl rfl ?_
    refine GC_ktd dX3_takeKind_14 fp_X3_25 ?_
    refine G_aload_n dX3_takeKind_17 rfl rfl ?_
    refine G_iconst (v := 2) dX3_takeKind_18 rfl ?_
    refine GC_due dX3_takeKind_19 fp_X3_22 ?_
    refine G_vret dX3_takeKind_22 rfl ?_
    exact v_cc (cif_t c2)
  · skip
    refine G_aload_n dX3_takeKind_5 rfl rfl ?_
    refine G_iconst (v := 2) dX3_takeKind_6 rfl ?_
    refine G_iload_n dX3_takeKind_7 rfl rfl ?_
    refine G_callV (cx_blame _ _) dX3_takeKind_8 (mc_X3_61 rfl) tw_506 tw_6 (hx_16 _ _ _) rfl rfl rfl (Nat.le_of_ble_eq_true rfl) (Nat.le_of_ble_eq_true rfl) (Nat.le_of_ble_eq_true rfl) (Nat.le_of_ble_eq_true rfl) ?_
    rintro _ n9_ _ ⟨rfl, e9_, rfl⟩
    obtain rfl := e9_.symm
    refine G_vret dX3_takeKind_11 rfl ?_
    exact v_cc (cif_f c2)
set_option maxHeartbeats 4000000 in
set_option maxRecDepth 100000 in
theorem cx_take {g : gT} {nq_ n9 : Nat} {sm : mS} {Y : cY} {c : mS} (a m : Nat) (K : Int32) (hY : Yok Y c n9) (hC9 : c_inv c) (ham : a + m ≤ 200) : M g 5 0 0 kX3_take [.ref 16, .ref 14, .int (nI a), .int (nI (a + m)), .int K] nq_ (hh sm Y c) (c_V nq_ sm Y (c_take c a m K)) := by
  refine M_of_G (by decide +kernel) (Nat.le_of_ble_eq_true rfl) ?_
  obtain ⟨hI, hG, hgv, hov, hrw, hps⟩ := id hC9
  obtain ⟨hK, hT, hB, hP9, hA, hkf, haf, hbf⟩ := id hI
  have hA2 := hA.2
  have hT2 := hT.2
  have hK2 := hK.2
  have hB2 := hB.2
  have hG2 := hG.2
  have hP2 := hP9.2
  refine G_aload_n dX3_take_0 rfl rfl ?_
  refine G_iload_n dX3_take_1 rfl rfl ?_
  refine G_iload_n dX3_take_2 rfl rfl ?_
  refine G_callS (cx_numberOf a m hY hC9 ham) dX3_take_3 (mc_X3_65 rfl) tw_448 rfl rfl (Nat.le_of_ble_eq_true rfl) (Nat.le_of_ble_eq_true rfl) (Nat.le_of_ble_eq_true rfl) (Nat.le_of_ble_eq_true rfl) ?_
  rintro _ n9_ _ ⟨rfl, e9_, rfl⟩
  obtain rfl := e9_.symm
  refine G_istore dX3_take_6 (Nat.le_of_ble_eq_true rfl) rfl ?_
  refine G_aload_n dX3_take_8 rfl rfl ?_
  refine G_get dX3_take_9 fg_X3_22 (hx_16 _ _ _) rfl ?_
  refine G_if_ne (tgt := 32) dX3_take_12 (by decide) (fun c12 => ?_) (fun c12 => ?_)
  · skip
    refine G_aload_n dX3_take_32 rfl rfl ?_
    refine G_get dX3_take_33 fg_X3_22 (hx_16 _ _ _) rfl ?_
    refine G_iconst (v := 1) dX3_take_36 rfl ?_
    refine G_icmp_ne (tgt := 58) dX3_take_37 (by decide) (fun c37 => ?_) (fun c37 => ?_)
    · skip
      refine G_aload_n dX3_take_58 rfl rfl ?_
      refine G_get dX3_take_59 fg_X3_22 (hx_16 _ _ _) rfl ?_
      refine G_iconst (v := 2) dX3_take_62 rfl ?_
      refine G_icmp_ne (tgt := 81) dX3_take_63 (by decide) (fun c63 => ?_) (fun c63 => ?_)
      · skip
        refine G_aload_n dX3_take_81 rfl rfl ?_
        refine G_get dX3_take_82 fg_X3_22 (hx_16 _ _ _) rfl ?_
        refine G_iconst (v := 3) dX3_take_85 rfl ?_
        refine G_icmp_ne (tgt := 107) dX3_take_86 (by decide) (fun c86 => ?_) (fun c86 => ?_)
        · skip
          refine G_aload_n dX3_take_107 rfl rfl ?_
          refine G_iconst (v := 1) dX3_take_108 rfl ?_
          refine G_iload_n dX3_take_109 rfl rfl ?_
          refine G_callV (cx_blame _ _) dX3_take_110 (mc_X3_61 rfl) tw_506 tw_6 (hx_16 _ _ _) rfl rfl rfl (Nat.le_of_ble_eq_true rfl) (Nat.le_of_ble_eq_true rfl) (Nat.le_of_ble_eq_true rfl) (Nat.le_of_ble_eq_true rfl) ?_
          rintro _ n9_ _ ⟨rfl, e9_, rfl⟩
          obtain rfl := e9_.symm
          refine G_vret dX3_take_113 rfl ?_
          first | exact v_cc (cif_t ⟨c12, b1_1 c21⟩) | exact v_cc ((cif_f (by first | exact (fun q => c12 q.1) | exact (fun q => b1_0.mp c21 q.2))).trans (cif_t ⟨c37, c43⟩)) | exact v_cc ((cif_f (by first | exact (fun q => c12 q.1) | exact (fun q => b1_0.mp c21 q.2))).trans ((cif_f (by first | exact (fun q => c37 q.1) | exact (fun q => q.2 c43))).trans (cif_t ⟨c63, c69⟩))) | exact v_cc ((cif_f (by first | exact (fun q => c12 q.1) | exact (fun q => b1_0.mp c21 q.2))).trans ((cif_f (by first | exact (fun q => c37 q.1) | exact (fun q => q.2 c43))).trans ((cif_f (by first | exact (fun q => c63 q.1) | exact (fun q => q.2 c69))).trans (cif_t ⟨c86, c96⟩)))) | exact v_cc ((cif_f (by first | exact (fun q => c12 q.1) | exact (fun q => b1_0.mp c21 q.2))).trans ((cif_f (by first | exact (fun q => c37 q.1) | exact (fun q => q.2 c43))).trans ((cif_f (by first | exact (fun q => c63 q.1) | exact (fun q => q.2 c69))).trans (cif_f (by first | exact (fun q => c86 q.1) | exact (fun q => c96 q.2))))))
        · skip
          refine G_aload_n dX3_take_89 rfl rfl ?_
          refine G_iload_n dX3_take_90 rfl rfl ?_
          refine G_callV (cx_byte a hY hC9 (by omega)) dX3_take_91 (mc_X3_39 rfl) tw_428 tw_429 (hx_14 _ _ _) rfl rfl rfl (Nat.le_of_ble_eq_true rfl) (Nat.le_of_ble_eq_true rfl) (Nat.le_of_ble_eq_true rfl) (Nat.le_of_ble_eq_true rfl) ?_
          rintro _ n9_ _ ⟨rfl, e9_, rfl⟩
          obtain rfl := e9_.symm
          refine G_bipush (v := 59) dX3_take_94 rfl ?_
          refine G_icmp_ne (tgt := 107) dX3_take_96 (by decide) (fun c96 => ?_) (fun c96 => ?_)
          · skip
            refine G_aload_n dX3_take_107 rfl rfl ?_
            refine G_iconst (v := 1) dX3_take_108 rfl ?_
            refine G_iload_n dX3_take_109 rfl rfl ?_
            refine G_callV (cx_blame _ _) dX3_take_110 (mc_X3_61 rfl) tw_506 tw_6 (hx_16 _ _ _) rfl rfl rfl (Nat.le_of_ble_eq_true rfl) (Nat.le_of_ble_eq_true rfl) (Nat.le_of_ble_eq_true rfl) (Nat.le_of_ble_eq_true rfl) ?_
            rintro _ n9_ _ ⟨rfl, e9_, rfl⟩
            obtain rfl := e9_.symm
            refine G_vret dX3_take_113 rfl ?_
            first | exact v_cc (cif_t ⟨c12, b1_1 c21⟩) | exact v_cc ((cif_f (by first | exact (fun q => c12 q.1) | exact (fun q => b1_0.mp c21 q.2))).trans (cif_t ⟨c37, c43⟩)) | exact v_cc ((cif_f (by first | exact (fun q => c12 q.1) | exact (fun q => b1_0.mp c21 q.2))).trans ((cif_f (by first | exact (fun q => c37 q.1) | exact (fun q => q.2 c43))).trans (cif_t ⟨c63, c69⟩))) | exact v_cc ((cif_f (by first | exact (fun q => c12 q.1) | exact (fun q => b1_0.mp c21 q.2))).trans ((cif_f (by first | exact (fun q => c37 q.1) | exact (fun q => q.2 c43))).trans ((cif_f (by first | exact (fun q => c63 q.1) | exact (fun q => q.2 c69))).trans (cif_t ⟨c86, c96⟩)))) | exact v_cc ((cif_f (by first | exact (fun q => c12 q.1) | exact (fun q => b1_0.mp c21 q.2))).trans ((cif_f (by first | exact (fun q => c37 q.1) | exact (fun q => q.2 c43))).trans ((cif_f (by first | exact (fun q => c63 q.1) | exact (fun q => q.2 c69))).trans (cif_f (by first | exact (fun q => c86 q.1) | exact (fun q => c96 q.2))))))
          · skip
            refine G_aload_n dX3_take_99 rfl rfl ?_
            refine G_iconst (v := 0) dX3_take_100 rfl ?_
            refine GC_due dX3_take_101 fp_X3_22 ?_
            refine G_goto (tgt := 113) dX3_take_104 (by decide) ?_
            refine G_vret dX3_take_113 rfl ?_
            first | exact v_cc (cif_t ⟨c12, b1_1 c21⟩) | exact v_cc ((cif_f (by first | exact (fun q => c12 q.1) | exact (fun q => b1_0.mp c21 q.2))).trans (cif_t ⟨c37, c43⟩)) | exact v_cc ((cif_f (by first | exact (fun q => c12 q.1) | exact (fun q => b1_0.mp c21 q.2))).trans ((cif_f (by first | exact (fun q => c37 q.1) | exact (fun q => q.2 c43))).trans (cif_t ⟨c63, c69⟩))) | exact v_cc ((cif_f (by first | exact (fun q => c12 q.1) | exact (fun q => b1_0.mp c21 q.2))).trans ((cif_f (by first | exact (fun q => c37 q.1) | exact (fun q => q.2 c43))).trans ((cif_f (by first | exact (fun q => c63 q.1) | exact (fun q => q.2 c69))).trans (cif_t ⟨c86, c96⟩)))) | exact v_cc ((cif_f (by first | exact (fun q => c12 q.1) | exact (fun q => b1_0.mp c21 q.2))).trans ((cif_f (by first | exact (fun q => c37 q.1) | exact (fun q => q.2 c43))).trans ((cif_f (by first | exact (fun q => c63 q.1) | exact (fun q => q.2 c69))).trans (cif_f (by first | exact (fun q => c86 q.1) | exact (fun q => c96 q.2))))))
      · skip
        refine G_iload dX3_take_66 rfl ?_
        refine G_iconst (v := -1) dX3_take_68 rfl ?_
        refine G_icmp_eq (tgt := 81) dX3_take_69 (by decide) (fun c69 => ?_) (fun c69 => ?_)
        · skip
          refine G_aload_n dX3_take_81 rfl rfl ?_
          refine G_get dX3_take_82 fg_X3_22 (hx_16 _ _ _) rfl ?_
          refine G_iconst (v := 3) dX3_take_85 rfl ?_
          refine G_icmp_ne (tgt := 107) dX3_take_86 (by decide) (fun c86 => ?_) (fun c86 => ?_)
          · skip
            refine G_aload_n dX3_take_107 rfl rfl ?_
            refine G_iconst (v := 1) dX3_take_108 rfl ?_
            refine G_iload_n dX3_take_109 rfl rfl ?_
            refine G_callV (cx_blame _ _) dX3_take_110 (mc_X3_61 rfl) tw_506 tw_6 (hx_16 _ _ _) rfl rfl rfl (Nat.le_of_ble_eq_true rfl) (Nat.le_of_ble_eq_true rfl) (Nat.le_of_ble_eq_true rfl) (Nat.le_of_ble_eq_true rfl) ?_
            rintro _ n9_ _ ⟨rfl, e9_, rfl⟩
            obtain rfl := e9_.symm
            refine G_vret dX3_take_113 rfl ?_
            first | exact v_cc (cif_t ⟨c12, b1_1 c21⟩) | exact v_cc ((cif_f (by first | exact (fun q => c12 q.1) | exact (fun q => b1_0.mp c21 q.2))).trans (cif_t ⟨c37, c43⟩)) | exact v_cc ((cif_f (by first | exact (fun q => c12 q.1) | exact (fun q => b1_0.mp c21 q.2))).trans ((cif_f (by first | exact (fun q => c37 q.1) | exact (fun q => q.2 c43))).trans (cif_t ⟨c63, c69⟩))) | exact v_cc ((cif_f (by first | exact (fun q => c12 q.1) | exact (fun q => b1_0.mp c21 q.2))).trans ((cif_f (by first | exact (fun q => c37 q.1) | exact (fun q => q.2 c43))).trans ((cif_f (by first | exact (fun q => c63 q.1) | exact (fun q => q.2 c69))).trans (cif_t ⟨c86, c96⟩)))) | exact v_cc ((cif_f (by first | exact (fun q => c12 q.1) | exact (fun q => b1_0.mp c21 q.2))).trans ((cif_f (by first | exact (fun q => c37 q.1) | exact (fun q => q.2 c43))).trans ((cif_f (by first | exact (fun q => c63 q.1) | exact (fun q => q.2 c69))).trans (cif_f (by first | exact (fun q => c86 q.1) | exact (fun q => c96 q.2))))))
          · skip
            refine G_aload_n dX3_take_89 rfl rfl ?_
            refine G_iload_n dX3_take_90 rfl rfl ?_
            refine G_callV (cx_byte a hY hC9 (by omega)) dX3_take_91 (mc_X3_39 rfl) tw_428 tw_429 (hx_14 _ _ _) rfl rfl rfl (Nat.le_of_ble_eq_true rfl) (Nat.le_of_ble_eq_true rfl) (Nat.le_of_ble_eq_true rfl) (Nat.le_of_ble_eq_true rfl) ?_
            rintro _ n9_ _ ⟨rfl, e9_, rfl⟩
            obtain rfl := e9_.symm
            refine G_bipush (v := 59) dX3_take_94 rfl ?_
            refine G_icmp_ne (tgt := 107) dX3_take_96 (by decide) (fun c96 => ?_) (fun c96 => ?_)
            · skip
              refine G_aload_n dX3_take_107 rfl rfl ?_
              refine G_iconst (v := 1) dX3_take_108 rfl ?_
              refine G_iload_n dX3_take_109 rfl rfl ?_
              refine G_callV (cx_blame _ _) dX3_take_110 (mc_X3_61 rfl) tw_506 tw_6 (hx_16 _ _ _) rfl rfl rfl (Nat.le_of_ble_eq_true rfl) (Nat.le_of_ble_eq_true rfl) (Nat.le_of_ble_eq_true rfl) (Nat.le_of_ble_eq_true rfl) ?_
              rintro _ n9_ _ ⟨rfl, e9_, rfl⟩
              obtain rfl := e9_.symm
              refine G_vret dX3_take_113 rfl ?_
              first | exact v_cc (cif_t ⟨c12, b1_1 c21⟩) | exact v_cc ((cif_f (by first | exact (fun q => c12 q.1) | exact (fun q => b1_0.mp c21 q.2))).trans (cif_t ⟨c37, c43⟩)) | exact v_cc ((cif_f (by first | exact (fun q => c12 q.1) | exact (fun q => b1_0.mp c21 q.2))).trans ((cif_f (by first | exact (fun q => c37 q.1) | exact (fun q => q.2 c43))).trans (cif_t ⟨c63, c69⟩))) | exact v_cc ((cif_f (by first | exact (fun q => c12 q.1) | exact (fun q => b1_0.mp c21 q.2))).trans ((cif_f (by first | exact (fun q => c37 q.1) | exact (fun q => q.2 c43))).trans ((cif_f (by first | exact (fun q => c63 q.1) | exact (fun q => q.2 c69))).trans (cif_t ⟨c86, c96⟩)))) | exact v_cc ((cif_f (by first | exact (fun q => c12 q.1) | exact (fun q => b1_0.mp c21 q.2))).trans ((cif_f (by first | exact (fun q => c37 q.1) | exact (fun q => q.2 c43))).trans ((cif_f (by first | exact (fun q => c63 q.1) | exact (fun q => q.2 c69))).trans (cif_f (by first | exact (fun q => c86 q.1) | exact (fun q => c96 q.2))))))
            · skip
              refine G_aload_n dX3_take_99 rfl rfl ?_
              refine G_iconst (v := 0) dX3_take_100 rfl ?_
              refine GC_due dX3_take_101 fp_X3_22 ?_
              refine G_goto (tgt := 113) dX3_take_104 (by decide) ?_
              refine G_vret dX3_take_113 rfl ?_
              first | exact v_cc (cif_t ⟨c12, b1_1 c21⟩) | exact v_cc ((cif_f (by first | exact (fun q => c12 q.1) | exact (fun q => b1_0.mp c21 q.2))).trans (cif_t ⟨c37, c43⟩)) | exact v_cc ((cif_f (by first | exact (fun q => c12 q.1) | exact (fun q => b1_0.mp c21 q.2))).trans ((cif_f (by first | exact (fun q => c37 q.1) | exact (fun q => q.2 c43))).trans (cif_t ⟨c63, c69⟩))) | exact v_cc ((cif_f (by first | exact (fun q => c12 q.1) | exact (fun q => b1_0.mp c21 q.2))).trans ((cif_f (by first | exact (fun q => c37 q.1) | exact (fun q => q.2 c43))).trans ((cif_f (by first | exact (fun q => c63 q.1) | exact (fun q => q.2 c69))).trans (cif_t ⟨c86, c96⟩)))) | exact v_cc ((cif_f (by first | exact (fun q => c12 q.1) | exact (fun q => b1_0.mp c21 q.2))).trans ((cif_f (by first | exact (fun q => c37 q.1) | exact (fun q => q.2 c43))).trans ((cif_f (by first | exact (fun q => c63 q.1) | exact (fun q => q.2 c69))).trans (cif_f (by first | exact (fun q => c86 q.1) | exact (fun q => c96 q.2))))))
        · skip
          refine G_aload_n dX3_take_72 rfl rfl ?_
          refine G_iload dX3_take_73 rfl ?_
          refine G_callV (cx_takeDays _) dX3_take_75 (mc_X3_77 rfl) tw_510 tw_7 (hx_16 _ _ _) rfl rfl rfl (Nat.le_of_ble_eq_true rfl) (Nat.le_of_ble_eq_true rfl) (Nat.le_of_ble_eq_true rfl) (Nat.le_of_ble_eq_true rfl) ?_
          rintro _ n9_ _ ⟨rfl, e9_, rfl⟩
          obtain rfl := e9_.symm
          refine G_goto (tgt := 113) dX3_take_78 (by decide) ?_
          refine G_vret dX3_take_113 rfl ?_
          first | exact v_cc (cif_t ⟨c12, b1_1 c21⟩) | exact v_cc ((cif_f (by first | exact (fun q => c12 q.1) | exact (fun q => b1_0.mp c21 q.2))).trans (cif_t ⟨c37, c43⟩)) | exact v_cc ((cif_f (by first | exact (fun q => c12 q.1) | exact (fun q => b1_0.mp c21 q.2))).trans ((cif_f (by first | exact (fun q => c37 q.1) | exact (fun q => q.2 c43))).trans (cif_t ⟨c63, c69⟩))) | exact v_cc ((cif_f (by first | exact (fun q => c12 q.1) | exact (fun q => b1_0.mp c21 q.2))).trans ((cif_f (by first | exact (fun q => c37 q.1) | exact (fun q => q.2 c43))).trans ((cif_f (by first | exact (fun q => c63 q.1) | exact (fun q => q.2 c69))).trans (cif_t ⟨c86, c96⟩)))) | exact v_cc ((cif_f (by first | exact (fun q => c12 q.1) | exact (fun q => b1_0.mp c21 q.2))).trans ((cif_f (by first | exact (fun q => c37 q.1) | exact (fun q => q.2 c43))).trans ((cif_f (by first | exact (fun q => c63 q.1) | exact (fun q => q.2 c69))).trans (cif_f (by first | exact (fun q => c86 q.1) | exact (fun q => c96 q.2))))))
    · skip
      refine G_iload dX3_take_40 rfl ?_
      refine G_iconst (v := -1) dX3_take_42 rfl ?_
      refine G_icmp_eq (tgt := 58) dX3_take_43 (by decide) (fun c43 => ?_) (fun c43 => ?_)
      · skip
        refine G_aload_n dX3_take_58 rfl rfl ?_
        refine G_get dX3_take_59 fg_X3_22 (hx_16 _ _ _) rfl ?_
        refine G_iconst (v := 2) dX3_take_62 rfl ?_
        refine G_icmp_ne (tgt := 81) dX3_take_63 (by decide) (fun c63 => ?_) (fun c63 => ?_)
        · skip
          refine G_aload_n dX3_take_81 rfl rfl ?_
          refine G_get dX3_take_82 fg_X3_22 (hx_16 _ _ _) rfl ?_
          refine G_iconst (v := 3) dX3_take_85 rfl ?_
          refine G_icmp_ne (tgt := 107) dX3_take_86 (by decide) (fun c86 => ?_) (fun c86 => ?_)
          · skip
            refine G_aload_n dX3_take_107 rfl rfl ?_
            refine G_iconst (v := 1) dX3_take_108 rfl ?_
            refine G_iload_n dX3_take_109 rfl rfl ?_
            refine G_callV (cx_blame _ _) dX3_take_110 (mc_X3_61 rfl) tw_506 tw_6 (hx_16 _ _ _) rfl rfl rfl (Nat.le_of_ble_eq_true rfl) (Nat.le_of_ble_eq_true rfl) (Nat.le_of_ble_eq_true rfl) (Nat.le_of_ble_eq_true rfl) ?_
            rintro _ n9_ _ ⟨rfl, e9_, rfl⟩
            obtain rfl := e9_.symm
            refine G_vret dX3_take_113 rfl ?_
            first | exact v_cc (cif_t ⟨c12, b1_1 c21⟩) | exact v_cc ((cif_f (by first | exact (fun q => c12 q.1) | exact (fun q => b1_0.mp c21 q.2))).trans (cif_t ⟨c37, c43⟩)) | exact v_cc ((cif_f (by first | exact (fun q => c12 q.1) | exact (fun q => b1_0.mp c21 q.2))).trans ((cif_f (by first | exact (fun q => c37 q.1) | exact (fun q => q.2 c43))).trans (cif_t ⟨c63, c69⟩))) | exact v_cc ((cif_f (by first | exact (fun q => c12 q.1) | exact (fun q => b1_0.mp c21 q.2))).trans ((cif_f (by first | exact (fun q => c37 q.1) | exact (fun q => q.2 c43))).trans ((cif_f (by first | exact (fun q => c63 q.1) | exact (fun q => q.2 c69))).trans (cif_t ⟨c86, c96⟩)))) | exact v_cc ((cif_f (by first | exact (fun q => c12 q.1) | exact (fun q => b1_0.mp c21 q.2))).trans ((cif_f (by first | exact (fun q => c37 q.1) | exact (fun q => q.2 c43))).trans ((cif_f (by first | exact (fun q => c63 q.1) | exact (fun q => q.2 c69))).trans (cif_f (by first | exact (fun q => c86 q.1) | exact (fun q => c96 q.2))))))
          · skip
            refine G_aload_n dX3_take_89 rfl rfl ?_
            refine G_iload_n dX3_take_90 rfl rfl ?_
            refine G_callV (cx_byte a hY hC9 (by omega)) dX3_take_91 (mc_X3_39 rfl) tw_428 tw_429 (hx_14 _ _ _) rfl rfl rfl (Nat.le_of_ble_eq_true rfl) (Nat.le_of_ble_eq_true rfl) (Nat.le_of_ble_eq_true rfl) (Nat.le_of_ble_eq_true rfl) ?_
            rintro _ n9_ _ ⟨rfl, e9_, rfl⟩
            obtain rfl := e9_.symm
            refine G_bipush (v := 59) dX3_take_94 rfl ?_
            refine G_icmp_ne (tgt := 107) dX3_take_96 (by decide) (fun c96 => ?_) (fun c96 => ?_)
            · skip
              refine G_aload_n dX3_take_107 rfl rfl ?_
              refine G_iconst (v := 1) dX3_take_108 rfl ?_
              refine G_iload_n dX3_take_109 rfl rfl ?_
              refine G_callV (cx_blame _ _) dX3_take_110 (mc_X3_61 rfl) tw_506 tw_6 (hx_16 _ _ _) rfl rfl rfl (Nat.le_of_ble_eq_true rfl) (Nat.le_of_ble_eq_true rfl) (Nat.le_of_ble_eq_true rfl) (Nat.le_of_ble_eq_true rfl) ?_
              rintro _ n9_ _ ⟨rfl, e9_, rfl⟩
              obtain rfl := e9_.symm
              refine G_vret dX3_take_113 rfl ?_
              first | exact v_cc (cif_t ⟨c12, b1_1 c21⟩) | exact v_cc ((cif_f (by first | exact (fun q => c12 q.1) | exact (fun q => b1_0.mp c21 q.2))).trans (cif_t ⟨c37, c43⟩)) | exact v_cc ((cif_f (by first | exact (fun q => c12 q.1) | exact (fun q => b1_0.mp c21 q.2))).trans ((cif_f (by first | exact (fun q => c37 q.1) | exact (fun q => q.2 c43))).trans (cif_t ⟨c63, c69⟩))) | exact v_cc ((cif_f (by first | exact (fun q => c12 q.1) | exact (fun q => b1_0.mp c21 q.2))).trans ((cif_f (by first | exact (fun q => c37 q.1) | exact (fun q => q.2 c43))).trans ((cif_f (by first | exact (fun q => c63 q.1) | exact (fun q => q.2 c69))).trans (cif_t ⟨c86, c96⟩)))) | exact v_cc ((cif_f (by first | exact (fun q => c12 q.1) | exact (fun q => b1_0.mp c21 q.2))).trans ((cif_f (by first | exact (fun q => c37 q.1) | exact (fun q => q.2 c43))).trans ((cif_f (by first | exact (fun q => c63 q.1) | exact (fun q => q.2 c69))).trans (cif_f (by first | exact (fun q => c86 q.1) | exact (fun q => c96 q.2))))))
            · skip
              refine G_aload_n dX3_take_99 rfl rfl ?_
              refine G_iconst (v := 0) dX3_take_100 rfl ?_
              refine GC_due dX3_take_101 fp_X3_22 ?_
              refine G_goto (tgt := 113) dX3_take_104 (by decide) ?_
              refine G_vret dX3_take_113 rfl ?_
              first | exact v_cc (cif_t ⟨c12, b1_1 c21⟩) | exact v_cc ((cif_f (by first | exact (fun q => c12 q.1) | exact (fun q => b1_0.mp c21 q.2))).trans (cif_t ⟨c37, c43⟩)) | exact v_cc ((cif_f (by first | exact (fun q => c12 q.1) | exact (fun q => b1_0.mp c21 q.2))).trans ((cif_f (by first | exact (fun q => c37 q.1) | exact (fun q => q.2 c43))).trans (cif_t ⟨c63, c69⟩))) | exact v_cc ((cif_f (by first | exact (fun q => c12 q.1) | exact (fun q => b1_0.mp c21 q.2))).trans ((cif_f (by first | exact (fun q => c37 q.1) | exact (fun q => q.2 c43))).trans ((cif_f (by first | exact (fun q => c63 q.1) | exact (fun q => q.2 c69))).trans (cif_t ⟨c86, c96⟩)))) | exact v_cc ((cif_f (by first | exact (fun q => c12 q.1) | exact (fun q => b1_0.mp c21 q.2))).trans ((cif_f (by first | exact (fun q => c37 q.1) | exact (fun q => q.2 c43))).trans ((cif_f (by first | exact (fun q => c63 q.1) | exact (fun q => q.2 c69))).trans (cif_f (by first | exact (fun q => c86 q.1) | exact (fun q => c96 q.2))))))
        · skip
          refine G_iload dX3_take_66 rfl ?_
          refine G_iconst (v := -1) dX3_take_68 rfl ?_
          refine G_icmp_eq (tgt := 81) dX3_take_69 (by decide) (fun c69 => ?_) (fun c69 => ?_)
          · skip
            refine G_aload_n dX3_take_81 rfl rfl ?_
            refine G_get dX3_take_82 fg_X3_22 (hx_16 _ _ _) rfl ?_
            refine G_iconst (v := 3) dX3_take_85 rfl ?_
            refine G_icmp_ne (tgt := 107) dX3_take_86 (by decide) (fun c86 => ?_) (fun c86 => ?_)
            · skip
              refine G_aload_n dX3_take_107 rfl rfl ?_
              refine G_iconst (v := 1) dX3_take_108 rfl ?_
              refine G_iload_n dX3_take_109 rfl rfl ?_
              refine G_callV (cx_blame _ _) dX3_take_110 (mc_X3_61 rfl) tw_506 tw_6 (hx_16 _ _ _) rfl rfl rfl (Nat.le_of_ble_eq_true rfl) (Nat.le_of_ble_eq_true rfl) (Nat.le_of_ble_eq_true rfl) (Nat.le_of_ble_eq_true rfl) ?_
              rintro _ n9_ _ ⟨rfl, e9_, rfl⟩
              obtain rfl := e9_.symm
              refine G_vret dX3_take_113 rfl ?_
              first | exact v_cc (cif_t ⟨c12, b1_1 c21⟩) | exact v_cc ((cif_f (by first | exact (fun q => c12 q.1) | exact (fun q => b1_0.mp c21 q.2))).trans (cif_t ⟨c37, c43⟩)) | exact v_cc ((cif_f (by first | exact (fun q => c12 q.1) | exact (fun q => b1_0.mp c21 q.2))).trans ((cif_f (by first | exact (fun q => c37 q.1) | exact (fun q => q.2 c43))).trans (cif_t ⟨c63, c69⟩))) | exact v_cc ((cif_f (by first | exact (fun q => c12 q.1) | exact (fun q => b1_0.mp c21 q.2))).trans ((cif_f (by first | exact (fun q => c37 q.1) | exact (fun q => q.2 c43))).trans ((cif_f (by first | exact (fun q => c63 q.1) | exact (fun q => q.2 c69))).trans (cif_t ⟨c86, c96⟩)))) | exact v_cc ((cif_f (by first | exact (fun q => c12 q.1) | exact (fun q => b1_0.mp c21 q.2))).trans ((cif_f (by first | exact (fun q => c37 q.1) | exact (fun q => q.2 c43))).trans ((cif_f (by first | exact (fun q => c63 q.1) | exact (fun q => q.2 c69))).trans (cif_f (by first | exact (fun q => c86 q.1) | exact (fun q => c96 q.2))))))
            · skip
              refine G_aload_n dX3_take_89 rfl rfl ?_
              refine G_iload_n dX3_take_90 rfl rfl ?_
              refine G_callV (cx_byte a hY hC9 (by omega)) dX3_take_91 (mc_X3_39 rfl) tw_428 tw_429 (hx_14 _ _ _) rfl rfl rfl (Nat.le_of_ble_eq_true rfl) (Nat.le_of_ble_eq_true rfl) (Nat.le_of_ble_eq_true rfl) (Nat.le_of_ble_eq_true rfl) ?_
              rintro _ n9_ _ ⟨rfl, e9_, rfl⟩
              obtain rfl := e9_.symm
              refine G_bipush (v := 59) dX3_take_94 rfl ?_
              refine G_icmp_ne (tgt := 107) dX3_take_96 (by decide) (fun c96 => ?_) (fun c96 => ?_)
              · skip
                refine G_aload_n dX3_take_107 rfl rfl ?_
                refine G_iconst (v := 1) dX3_take_108 rfl ?_
                refine G_iload_n dX3_take_109 rfl rfl ?_
                refine G_callV (cx_blame _ _) dX3_take_110 (mc_X3_61 rfl) tw_506 tw_6 (hx_16 _ _ _) rfl rfl rfl (Nat.le_of_ble_eq_true rfl) (Nat.le_of_ble_eq_true rfl) (Nat.le_of_ble_eq_true rfl) (Nat.le_of_ble_eq_true rfl) ?_
                rintro _ n9_ _ ⟨rfl, e9_, rfl⟩
                obtain rfl := e9_.symm
                refine G_vret dX3_take_113 rfl ?_
                first | exact v_cc (cif_t ⟨c12, b1_1 c21⟩) | exact v_cc ((cif_f (by first | exact (fun q => c12 q.1) | exact (fun q => b1_0.mp c21 q.2))).trans (cif_t ⟨c37, c43⟩)) | exact v_cc ((cif_f (by first | exact (fun q => c12 q.1) | exact (fun q => b1_0.mp c21 q.2))).trans ((cif_f (by first | exact (fun q => c37 q.1) | exact (fun q => q.2 c43))).trans (cif_t ⟨c63, c69⟩))) | exact v_cc ((cif_f (by first | exact (fun q => c12 q.1) | exact (fun q => b1_0.mp c21 q.2))).trans ((cif_f (by first | exact (fun q => c37 q.1) | exact (fun q => q.2 c43))).trans ((cif_f (by first | exact (fun q => c63 q.1) | exact (fun q => q.2 c69))).trans (cif_t ⟨c86, c96⟩)))) | exact v_cc ((cif_f (by first | exact (fun q => c12 q.1) | exact (fun q => b1_0.mp c21 q.2))).trans ((cif_f (by first | exact (fun q => c37 q.1) | exact (fun q => q.2 c43))).trans ((cif_f (by first | exact (fun q => c63 q.1) | exact (fun q => q.2 c69))).trans (cif_f (by first | exact (fun q => c86 q.1) | exact (fun q => c96 q.2))))))
              · skip
                refine G_aload_n dX3_take_99 rfl rfl ?_
                refine G_iconst (v := 0) dX3_take_100 rfl ?_
                refine GC_due dX3_take_101 fp_X3_22 ?_
                refine G_goto (tgt := 113) dX3_take_104 (by decide) ?_
                refine G_vret dX3_take_113 rfl ?_
                first | exact v_cc (cif_t ⟨c12, b1_1 c21⟩) | exact v_cc ((cif_f (by first | exact (fun q => c12 q.1) | exact (fun q => b1_0.mp c21 q.2))).trans (cif_t ⟨c37, c43⟩)) | exact v_cc ((cif_f (by first | exact (fun q => c12 q.1) | exact (fun q => b1_0.mp c21 q.2))).trans ((cif_f (by first | exact (fun q => c37 q.1) | exact (fun q => q.2 c43))).trans (cif_t ⟨c63, c69⟩))) | exact v_cc ((cif_f (by first | exact (fun q => c12 q.1) | exact (fun q => b1_0.mp c21 q.2))).trans ((cif_f (by first | exact (fun q => c37 q.1) | exact (fun q => q.2 c43))).trans ((cif_f (by first | exact (fun q => c63 q.1) | exact (fun q => q.2 c69))).trans (cif_t ⟨c86, c96⟩)))) | exact v_cc ((cif_f (by first | exact (fun q => c12 q.1) | exact (fun q => b1_0.mp c21 q.2))).trans ((cif_f (by first | exact (fun q => c37 q.1) | exact (fun q => q.2 c43))).trans ((cif_f (by first | exact (fun q => c63 q.1) | exact (fun q => q.2 c69))).trans (cif_f (by first | exact (fun q => c86 q.1) | exact (fun q => c96 q.2))))))
          · skip
            refine G_aload_n dX3_take_72 rfl rfl ?_
            refine G_iload dX3_take_73 rfl ?_
            refine G_callV (cx_takeDays _) dX3_take_75 (mc_X3_77 rfl) tw_510 tw_7 (hx_16 _ _ _) rfl rfl rfl (Nat.le_of_ble_eq_true rfl) (Nat.le_of_ble_eq_true rfl) (Nat.le_of_ble_eq_true rfl) (Nat.le_of_ble_eq_true rfl) ?_
            rintro _ n9_ _ ⟨rfl, e9_, rfl⟩
            obtain rfl := e9_.symm
            refine G_goto (tgt := 113) dX3_take_78 (by decide) ?_
            refine G_vret dX3_take_113 rfl ?_
            first | exact v_cc (cif_t ⟨c12, b1_1 c21⟩) | exact v_cc ((cif_f (by first | exact (fun q => c12 q.1) | exact (fun q => b1_0.mp c21 q.2))).trans (cif_t ⟨c37, c43⟩)) | exact v_cc ((cif_f (by first | exact (fun q => c12 q.1) | exact (fun q => b1_0.mp c21 q.2))).trans ((cif_f (by first | exact (fun q => c37 q.1) | exact (fun q => q.2 c43))).trans (cif_t ⟨c63, c69⟩))) | exact v_cc ((cif_f (by first | exact (fun q => c12 q.1) | exact (fun q => b1_0.mp c21 q.2))).trans ((cif_f (by first | exact (fun q => c37 q.1) | exact (fun q => q.2 c43))).trans ((cif_f (by first | exact (fun q => c63 q.1) | exact (fun q => q.2 c69))).trans (cif_t ⟨c86, c96⟩)))) | exact v_cc ((cif_f (by first | exact (fun q => c12 q.1) | exact (fun q => b1_0.mp c21 q.2))).trans ((cif_f (by first | exact (fun q => c37 q.1) | exact (fun q => q.2 c43))).trans ((cif_f (by first | exact (fun q => c63 q.1) | exact (fun q => q.2 c69))).trans (cif_f (by first | exact (fun q => c86 q.1) | exact (fun q => c96 q.2))))))
      · skip
        refine G_aload_n dX3_take_46 rfl rfl ?_
        refine G_iload dX3_take_47 rfl ?_
        refine G_iload_n dX3_take_49 rfl rfl ?_
        refine G_iload dX3_take_50 rfl ?_
        refine G_callV (cx_takeKind _ _ _) dX3_take_52 (mc_X3_73 rfl) tw_502 tw_5 (hx_16 _ _ _) rfl rfl rfl (Nat.le_of_ble_eq_true rfl) (Nat.le_of_ble_eq_true rfl) (Nat.le_of_ble_eq_true rfl) (Nat.le_of_ble_eq_true rfl) ?_
        rintro _ n9_ _ ⟨rfl, e9_, rfl⟩
        obtain rfl := e9_.symm
        refine G_goto (tgt := 113) dX3_take_55 (by decide) ?_
        refine G_vret dX3_take_113 rfl ?_
        first | exact v_cc (cif_t ⟨c12, b1_1 c21⟩) | exact v_cc ((cif_f (by first | exact (fun q => c12 q.1) | exact (fun q => b1_0.mp c21 q.2))).trans (cif_t ⟨c37, c43⟩)) | exact v_cc ((cif_f (by first | exact (fun q => c12 q.1) | exact (fun q => b1_0.mp c21 q.2))).trans ((cif_f (by first | exact (fun q => c37 q.1) | exact (fun q => q.2 c43))).trans (cif_t ⟨c63, c69⟩))) | exact v_cc ((cif_f (by first | exact (fun q => c12 q.1) | exact (fun q => b1_0.mp c21 q.2))).trans ((cif_f (by first | exact (fun q => c37 q.1) | exact (fun q => q.2 c43))).trans ((cif_f (by first | exact (fun q => c63 q.1) | exact (fun q => q.2 c69))).trans (cif_t ⟨c86, c96⟩)))) | exact v_cc ((cif_f (by first | exact (fun q => c12 q.1) | exact (fun q => b1_0.mp c21 q.2))).trans ((cif_f (by first | exact (fun q => c37 q.1) | exact (fun q => q.2 c43))).trans ((cif_f (by first | exact (fun q => c63 q.1) | exact (fun q => q.2 c69))).trans (cif_f (by first | exact (fun q => c86 q.1) | exact (fun q => c96 q.2))))))
  · skip
    refine G_aload_n dX3_take_15 rfl rfl ?_
    refine G_iload_n dX3_take_16 rfl rfl ?_
    refine G_iload_n dX3_take_17 rfl rfl ?_
    refine G_callS (cx_isEvery a m hY hC9 ham) dX3_take_18 (mc_X3_69 rfl) tw_451 rfl rfl (Nat.le_of_ble_eq_true rfl) (Nat.le_of_ble_eq_true rfl) (Nat.le_of_ble_eq_true rfl) (Nat.le_of_ble_eq_true rfl) ?_
    rintro _ n9_ _ ⟨rfl, e9_, rfl⟩
    obtain rfl := e9_.symm
    refine G_if_eq (tgt := 32) dX3_take_21 (by decide) (fun c21 => ?_) (fun c21 => ?_)
    · skip
      refine G_aload_n dX3_take_32 rfl rfl ?_
      refine G_get dX3_take_33 fg_X3_22 (hx_16 _ _ _) rfl ?_
      refine G_iconst (v := 1) dX3_take_36 rfl ?_
      refine G_icmp_ne (tgt := 58) dX3_take_37 (by decide) (fun c37 => ?_) (fun c37 => ?_)
      · skip
        refine G_aload_n dX3_take_58 rfl rfl ?_
        refine G_get dX3_take_59 fg_X3_22 (hx_16 _ _ _) rfl ?_
        refine G_iconst (v := 2) dX3_take_62 rfl ?_
        refine G_icmp_ne (tgt := 81) dX3_take_63 (by decide) (fun c63 => ?_) (fun c63 => ?_)
        · skip
          refine G_aload_n dX3_take_81 rfl rfl ?_
          refine G_get dX3_take_82 fg_X3_22 (hx_16 _ _ _) rfl ?_
          refine G_iconst (v := 3) dX3_take_85 rfl ?_
          refine G_icmp_ne (tgt := 107) dX3_take_86 (by decide) (fun c86 => ?_) (fun c86 => ?_)
          · skip
            refine G_aload_n dX3_take_107 rfl rfl ?_
            refine G_iconst (v := 1) dX3_take_108 rfl ?_
            refine G_iload_n dX3_take_109 rfl rfl ?_
            refine G_callV (cx_blame _ _) dX3_take_110 (mc_X3_61 rfl) tw_506 tw_6 (hx_16 _ _ _) rfl rfl rfl (Nat.le_of_ble_eq_true rfl) (Nat.le_of_ble_eq_true rfl) (Nat.le_of_ble_eq_true rfl) (Nat.le_of_ble_eq_true rfl) ?_
            rintro _ n9_ _ ⟨rfl, e9_, rfl⟩
            obtain rfl := e9_.symm
            refine G_vret dX3_take_113 rfl ?_
            first | exact v_cc (cif_t ⟨c12, b1_1 c21⟩) | exact v_cc ((cif_f (by first | exact (fun q => c12 q.1) | exact (fun q => b1_0.mp c21 q.2))).trans (cif_t ⟨c37, c43⟩)) | exact v_cc ((cif_f (by first | exact (fun q => c12 q.1) | exact (fun q => b1_0.mp c21 q.2))).trans ((cif_f (by first | exact (fun q => c37 q.1) | exact (fun q => q.2 c43))).trans (cif_t ⟨c63, c69⟩))) | exact v_cc ((cif_f (by first | exact (fun q => c12 q.1) | exact (fun q => b1_0.mp c21 q.2))).trans ((cif_f (by first | exact (fun q => c37 q.1) | exact (fun q => q.2 c43))).trans ((cif_f (by first | exact (fun q => c63 q.1) | exact (fun q => q.2 c69))).trans (cif_t ⟨c86, c96⟩)))) | exact v_cc ((cif_f (by first | exact (fun q => c12 q.1) | exact (fun q => b1_0.mp c21 q.2))).trans ((cif_f (by first | exact (fun q => c37 q.1) | exact (fun q => q.2 c43))).trans ((cif_f (by first | exact (fun q => c63 q.1) | exact (fun q => q.2 c69))).trans (cif_f (by first | exact (fun q => c86 q.1) | exact (fun q => c96 q.2))))))
          · skip
            refine G_aload_n dX3_take_89 rfl rfl ?_
            refine G_iload_n dX3_take_90 rfl rfl ?_
            refine G_callV (cx_byte a hY hC9 (by omega)) dX3_take_91 (mc_X3_39 rfl) tw_428 tw_429 (hx_14 _ _ _) rfl rfl rfl (Nat.le_of_ble_eq_true rfl) (Nat.le_of_ble_eq_true rfl) (Nat.le_of_ble_eq_true rfl) (Nat.le_of_ble_eq_true rfl) ?_
            rintro _ n9_ _ ⟨rfl, e9_, rfl⟩
            obtain rfl := e9_.symm
            refine G_bipush (v := 59) dX3_take_94 rfl ?_
            refine G_icmp_ne (tgt := 107) dX3_take_96 (by decide) (fun c96 => ?_) (fun c96 => ?_)
            · skip
              refine G_aload_n dX3_take_107 rfl rfl ?_
              refine G_iconst (v := 1) dX3_take_108 rfl ?_
              refine G_iload_n dX3_take_109 rfl rfl ?_
              refine G_callV (cx_blame _ _) dX3_take_110 (mc_X3_61 rfl) tw_506 tw_6 (hx_16 _ _ _) rfl rfl rfl (Nat.le_of_ble_eq_true rfl) (Nat.le_of_ble_eq_true rfl) (Nat.le_of_ble_eq_true rfl) (Nat.le_of_ble_eq_true rfl) ?_
              rintro _ n9_ _ ⟨rfl, e9_, rfl⟩
              obtain rfl := e9_.symm
              refine G_vret dX3_take_113 rfl ?_
              first | exact v_cc (cif_t ⟨c12, b1_1 c21⟩) | exact v_cc ((cif_f (by first | exact (fun q => c12 q.1) | exact (fun q => b1_0.mp c21 q.2))).trans (cif_t ⟨c37, c43⟩)) | exact v_cc ((cif_f (by first | exact (fun q => c12 q.1) | exact (fun q => b1_0.mp c21 q.2))).trans ((cif_f (by first | exact (fun q => c37 q.1) | exact (fun q => q.2 c43))).trans (cif_t ⟨c63, c69⟩))) | exact v_cc ((cif_f (by first | exact (fun q => c12 q.1) | exact (fun q => b1_0.mp c21 q.2))).trans ((cif_f (by first | exact (fun q => c37 q.1) | exact (fun q => q.2 c43))).trans ((cif_f (by first | exact (fun q => c63 q.1) | exact (fun q => q.2 c69))).trans (cif_t ⟨c86, c96⟩)))) | exact v_cc ((cif_f (by first | exact (fun q => c12 q.1) | exact (fun q => b1_0.mp c21 q.2))).trans ((cif_f (by first | exact (fun q => c37 q.1) | exact (fun q => q.2 c43))).trans ((cif_f (by first | exact (fun q => c63 q.1) | exact (fun q => q.2 c69))).trans (cif_f (by first | exact (fun q => c86 q.1) | exact (fun q => c96 q.2))))))
            · skip
              refine G_aload_n dX3_take_99 rfl rfl ?_
              refine G_iconst (v := 0) dX3_take_100 rfl ?_
              refine GC_due dX3_take_101 fp_X3_22 ?_
              refine G_goto (tgt := 113) dX3_take_104 (by decide) ?_
              refine G_vret dX3_take_113 rfl ?_
              first | exact v_cc (cif_t ⟨c12, b1_1 c21⟩) | exact v_cc ((cif_f (by first | exact (fun q => c12 q.1) | exact (fun q => b1_0.mp c21 q.2))).trans (cif_t ⟨c37, c43⟩)) | exact v_cc ((cif_f (by first | exact (fun q => c12 q.1) | exact (fun q => b1_0.mp c21 q.2))).trans ((cif_f (by first | exact (fun q => c37 q.1) | exact (fun q => q.2 c43))).trans (cif_t ⟨c63, c69⟩))) | exact v_cc ((cif_f (by first | exact (fun q => c12 q.1) | exact (fun q => b1_0.mp c21 q.2))).trans ((cif_f (by first | exact (fun q => c37 q.1) | exact (fun q => q.2 c43))).trans ((cif_f (by first | exact (fun q => c63 q.1) | exact (fun q => q.2 c69))).trans (cif_t ⟨c86, c96⟩)))) | exact v_cc ((cif_f (by first | exact (fun q => c12 q.1) | exact (fun q => b1_0.mp c21 q.2))).trans ((cif_f (by first | exact (fun q => c37 q.1) | exact (fun q => q.2 c43))).trans ((cif_f (by first | exact (fun q => c63 q.1) | exact (fun q => q.2 c69))).trans (cif_f (by first | exact (fun q => c86 q.1) | exact (fun q => c96 q.2))))))
        · skip
          refine G_iload dX3_take_66 rfl ?_
          refine G_iconst (v := -1) dX3_take_68 rfl ?_
          refine G_icmp_eq (tgt := 81) dX3_take_69 (by decide) (fun c69 => ?_) (fun c69 => ?_)
          · skip
            refine G_aload_n dX3_take_81 rfl rfl ?_
            refine G_get dX3_take_82 fg_X3_22 (hx_16 _ _ _) rfl ?_
            refine G_iconst (v := 3) dX3_take_85 rfl ?_
            refine G_icmp_ne (tgt := 107) dX3_take_86 (by decide) (fun c86 => ?_) (fun c86 => ?_)
            · skip
              refine G_aload_n dX3_take_107 rfl rfl ?_
              refine G_iconst (v := 1) dX3_take_108 rfl ?_
              refine G_iload_n dX3_take_109 rfl rfl ?_
              refine G_callV (cx_blame _ _) dX3_take_110 (mc_X3_61 rfl) tw_506 tw_6 (hx_16 _ _ _) rfl rfl rfl (Nat.le_of_ble_eq_true rfl) (Nat.le_of_ble_eq_true rfl) (Nat.le_of_ble_eq_true rfl) (Nat.le_of_ble_eq_true rfl) ?_
              rintro _ n9_ _ ⟨rfl, e9_, rfl⟩
              obtain rfl := e9_.symm
              refine G_vret dX3_take_113 rfl ?_
              first | exact v_cc (cif_t ⟨c12, b1_1 c21⟩) | exact v_cc ((cif_f (by first | exact (fun q => c12 q.1) | exact (fun q => b1_0.mp c21 q.2))).trans (cif_t ⟨c37, c43⟩)) | exact v_cc ((cif_f (by first | exact (fun q => c12 q.1) | exact (fun q => b1_0.mp c21 q.2))).trans ((cif_f (by first | exact (fun q => c37 q.1) | exact (fun q => q.2 c43))).trans (cif_t ⟨c63, c69⟩))) | exact v_cc ((cif_f (by first | exact (fun q => c12 q.1) | exact (fun q => b1_0.mp c21 q.2))).trans ((cif_f (by first | exact (fun q => c37 q.1) | exact (fun q => q.2 c43))).trans ((cif_f (by first | exact (fun q => c63 q.1) | exact (fun q => q.2 c69))).trans (cif_t ⟨c86, c96⟩)))) | exact v_cc ((cif_f (by first | exact (fun q => c12 q.1) | exact (fun q => b1_0.mp c21 q.2))).trans ((cif_f (by first | exact (fun q => c37 q.1) | exact (fun q => q.2 c43))).trans ((cif_f (by first | exact (fun q => c63 q.1) | exact (fun q => q.2 c69))).trans (cif_f (by first | exact (fun q => c86 q.1) | exact (fun q => c96 q.2))))))
            · skip
              refine G_aload_n dX3_take_89 rfl rfl ?_
              refine G_iload_n dX3_take_90 rfl rfl ?_
              refine G_callV (cx_byte a hY hC9 (by omega)) dX3_take_91 (mc_X3_39 rfl) tw_428 tw_429 (hx_14 _ _ _) rfl rfl rfl (Nat.le_of_ble_eq_true rfl) (Nat.le_of_ble_eq_true rfl) (Nat.le_of_ble_eq_true rfl) (Nat.le_of_ble_eq_true rfl) ?_
              rintro _ n9_ _ ⟨rfl, e9_, rfl⟩
              obtain rfl := e9_.symm
              refine G_bipush (v := 59) dX3_take_94 rfl ?_
              refine G_icmp_ne (tgt := 107) dX3_take_96 (by decide) (fun c96 => ?_) (fun c96 => ?_)
              · skip
                refine G_aload_n dX3_take_107 rfl rfl ?_
                refine G_iconst (v := 1) dX3_take_108 rfl ?_
                refine G_iload_n dX3_take_109 rfl rfl ?_
                refine G_callV (cx_blame _ _) dX3_take_110 (mc_X3_61 rfl) tw_506 tw_6 (hx_16 _ _ _) rfl rfl rfl (Nat.le_of_ble_eq_true rfl) (Nat.le_of_ble_eq_true rfl) (Nat.le_of_ble_eq_true rfl) (Nat.le_of_ble_eq_true rfl) ?_
                rintro _ n9_ _ ⟨rfl, e9_, rfl⟩
                obtain rfl := e9_.symm
                refine G_vret dX3_take_113 rfl ?_
                first | exact v_cc (cif_t ⟨c12, b1_1 c21⟩) | exact v_cc ((cif_f (by first | exact (fun q => c12 q.1) | exact (fun q => b1_0.mp c21 q.2))).trans (cif_t ⟨c37, c43⟩)) | exact v_cc ((cif_f (by first | exact (fun q => c12 q.1) | exact (fun q => b1_0.mp c21 q.2))).trans ((cif_f (by first | exact (fun q => c37 q.1) | exact (fun q => q.2 c43))).trans (cif_t ⟨c63, c69⟩))) | exact v_cc ((cif_f (by first | exact (fun q => c12 q.1) | exact (fun q => b1_0.mp c21 q.2))).trans ((cif_f (by first | exact (fun q => c37 q.1) | exact (fun q => q.2 c43))).trans ((cif_f (by first | exact (fun q => c63 q.1) | exact (fun q => q.2 c69))).trans (cif_t ⟨c86, c96⟩)))) | exact v_cc ((cif_f (by first | exact (fun q => c12 q.1) | exact (fun q => b1_0.mp c21 q.2))).trans ((cif_f (by first | exact (fun q => c37 q.1) | exact (fun q => q.2 c43))).trans ((cif_f (by first | exact (fun q => c63 q.1) | exact (fun q => q.2 c69))).trans (cif_f (by first | exact (fun q => c86 q.1) | exact (fun q => c96 q.2))))))
              · skip
                refine G_aload_n dX3_take_99 rfl rfl ?_
                refine G_iconst (v := 0) dX3_take_100 rfl ?_
                refine GC_due dX3_take_101 fp_X3_22 ?_
                refine G_goto (tgt := 113) dX3_take_104 (by decide) ?_
                refine G_vret dX3_take_113 rfl ?_
                first | exact v_cc (cif_t ⟨c12, b1_1 c21⟩) | exact v_cc ((cif_f (by first | exact (fun q => c12 q.1) | exact (fun q => b1_0.mp c21 q.2))).trans (cif_t ⟨c37, c43⟩)) | exact v_cc ((cif_f (by first | exact (fun q => c12 q.1) | exact (fun q => b1_0.mp c21 q.2))).trans ((cif_f (by first | exact (fun q => c37 q.1) | exact (fun q => q.2 c43))).trans (cif_t ⟨c63, c69⟩))) | exact v_cc ((cif_f (by first | exact (fun q => c12 q.1) | exact (fun q => b1_0.mp c21 q.2))).trans ((cif_f (by first | exact (fun q => c37 q.1) | exact (fun q => q.2 c43))).trans ((cif_f (by first | exact (fun q => c63 q.1) | exact (fun q => q.2 c69))).trans (cif_t ⟨c86, c96⟩)))) | exact v_cc ((cif_f (by first | exact (fun q => c12 q.1) | exact (fun q => b1_0.mp c21 q.2))).trans ((cif_f (by first | exact (fun q => c37 q.1) | exact (fun q => q.2 c43))).trans ((cif_f (by first | exact (fun q => c63 q.1) | exact (fun q => q.2 c69))).trans (cif_f (by first | exact (fun q => c86 q.1) | exact (fun q => c96 q.2))))))
          · skip
            refine G_aload_n dX3_take_72 rfl rfl ?_
            refine G_iload dX3_take_73 rfl ?_
            refine G_callV (cx_takeDays _) dX3_take_75 (mc_X3_77 rfl) tw_510 tw_7 (hx_16 _ _ _) rfl rfl rfl (Nat.le_of_ble_eq_true rfl) (Nat.le_of_ble_eq_true rfl) (Nat.le_of_ble_eq_true rfl) (Nat.le_of_ble_eq_true rfl) ?_
            rintro _ n9_ _ ⟨rfl, e9_, rfl⟩
            obtain rfl := e9_.symm
            refine G_goto (tgt := 113) dX3_take_78 (by decide) ?_
            refine G_vret dX3_take_113 rfl ?_
            first | exact v_cc (cif_t ⟨c12, b1_1 c21⟩) | exact v_cc ((cif_f (by first | exact (fun q => c12 q.1) | exact (fun q => b1_0.mp c21 q.2))).trans (cif_t ⟨c37, c43⟩)) | exact v_cc ((cif_f (by first | exact (fun q => c12 q.1) | exact (fun q => b1_0.mp c21 q.2))).trans ((cif_f (by first | exact (fun q => c37 q.1) | exact (fun q => q.2 c43))).trans (cif_t ⟨c63, c69⟩))) | exact v_cc ((cif_f (by first | exact (fun q => c12 q.1) | exact (fun q => b1_0.mp c21 q.2))).trans ((cif_f (by first | exact (fun q => c37 q.1) | exact (fun q => q.2 c43))).trans ((cif_f (by first | exact (fun q => c63 q.1) | exact (fun q => q.2 c69))).trans (cif_t ⟨c86, c96⟩)))) | exact v_cc ((cif_f (by first | exact (fun q => c12 q.1) | exact (fun q => b1_0.mp c21 q.2))).trans ((cif_f (by first | exact (fun q => c37 q.1) | exact (fun q => q.2 c43))).trans ((cif_f (by first | exact (fun q => c63 q.1) | exact (fun q => q.2 c69))).trans (cif_f (by first | exact (fun q => c86 q.1) | exact (fun q => c96 q.2))))))
      · skip
        refine G_iload dX3_take_40 rfl ?_
        refine G_iconst (v := -1) dX3_take_42 rfl ?_
        refine G_icmp_eq (tgt := 58) dX3_take_43 (by decide) (fun c43 => ?_) (fun c43 => ?_)
        · skip
          refine G_aload_n dX3_take_58 rfl rfl ?_
          refine G_get dX3_take_59 fg_X3_22 (hx_16 _ _ _) rfl ?_
          refine G_iconst (v := 2) dX3_take_62 rfl ?_
          refine G_icmp_ne (tgt := 81) dX3_take_63 (by decide) (fun c63 => ?_) (fun c63 => ?_)
          · skip
            refine G_aload_n dX3_take_81 rfl rfl ?_
            refine G_get dX3_take_82 fg_X3_22 (hx_16 _ _ _) rfl ?_
            refine G_iconst (v := 3) dX3_take_85 rfl ?_
            refine G_icmp_ne (tgt := 107) dX3_take_86 (by decide) (fun c86 => ?_) (fun c86 => ?_)
            · skip
              refine G_aload_n dX3_take_107 rfl rfl ?_
              refine G_iconst (v := 1) dX3_take_108 rfl ?_
              refine G_iload_n dX3_take_109 rfl rfl ?_
              refine G_callV (cx_blame _ _) dX3_take_110 (mc_X3_61 rfl) tw_506 tw_6 (hx_16 _ _ _) rfl rfl rfl (Nat.le_of_ble_eq_true rfl) (Nat.le_of_ble_eq_true rfl) (Nat.le_of_ble_eq_true rfl) (Nat.le_of_ble_eq_true rfl) ?_
              rintro _ n9_ _ ⟨rfl, e9_, rfl⟩
              obtain rfl := e9_.symm
              refine G_vret dX3_take_113 rfl ?_
              first | exact v_cc (cif_t ⟨c12, b1_1 c21⟩) | exact v_cc ((cif_f (by first | exact (fun q => c12 q.1) | exact (fun q => b1_0.mp c21 q.2))).trans (cif_t ⟨c37, c43⟩)) | exact v_cc ((cif_f (by first | exact (fun q => c12 q.1) | exact (fun q => b1_0.mp c21 q.2))).trans ((cif_f (by first | exact (fun q => c37 q.1) | exact (fun q => q.2 c43))).trans (cif_t ⟨c63, c69⟩))) | exact v_cc ((cif_f (by first | exact (fun q => c12 q.1) | exact (fun q => b1_0.mp c21 q.2))).trans ((cif_f (by first | exact (fun q => c37 q.1) | exact (fun q => q.2 c43))).trans ((cif_f (by first | exact (fun q => c63 q.1) | exact (fun q => q.2 c69))).trans (cif_t ⟨c86, c96⟩)))) | exact v_cc ((cif_f (by first | exact (fun q => c12 q.1) | exact (fun q => b1_0.mp c21 q.2))).trans ((cif_f (by first | exact (fun q => c37 q.1) | exact (fun q => q.2 c43))).trans ((cif_f (by first | exact (fun q => c63 q.1) | exact (fun q => q.2 c69))).trans (cif_f (by first | exact (fun q => c86 q.1) | exact (fun q => c96 q.2))))))
            · skip
              refine G_aload_n dX3_take_89 rfl rfl ?_
              refine G_iload_n dX3_take_90 rfl rfl ?_
              refine G_callV (cx_byte a hY hC9 (by omega)) dX3_take_91 (mc_X3_39 rfl) tw_428 tw_429 (hx_14 _ _ _) rfl rfl rfl (Nat.le_of_ble_eq_true rfl) (Nat.le_of_ble_eq_true rfl) (Nat.le_of_ble_eq_true rfl) (Nat.le_of_ble_eq_true rfl) ?_
              rintro _ n9_ _ ⟨rfl, e9_, rfl⟩
              obtain rfl := e9_.symm
              refine G_bipush (v := 59) dX3_take_94 rfl ?_
              refine G_icmp_ne (tgt := 107) dX3_take_96 (by decide) (fun c96 => ?_) (fun c96 => ?_)
              · skip
                refine G_aload_n dX3_take_107 rfl rfl ?_
                refine G_iconst (v := 1) dX3_take_108 rfl ?_
                refine G_iload_n dX3_take_109 rfl rfl ?_
                refine G_callV (cx_blame _ _) dX3_take_110 (mc_X3_61 rfl) tw_506 tw_6 (hx_16 _ _ _) rfl rfl rfl (Nat.le_of_ble_eq_true rfl) (Nat.le_of_ble_eq_true rfl) (Nat.le_of_ble_eq_true rfl) (Nat.le_of_ble_eq_true rfl) ?_
                rintro _ n9_ _ ⟨rfl, e9_, rfl⟩
                obtain rfl := e9_.symm
                refine G_vret dX3_take_113 rfl ?_
                first | exact v_cc (cif_t ⟨c12, b1_1 c21⟩) | exact v_cc ((cif_f (by first | exact (fun q => c12 q.1) | exact (fun q => b1_0.mp c21 q.2))).trans (cif_t ⟨c37, c43⟩)) | exact v_cc ((cif_f (by first | exact (fun q => c12 q.1) | exact (fun q => b1_0.mp c21 q.2))).trans ((cif_f (by first | exact (fun q => c37 q.1) | exact (fun q => q.2 c43))).trans (cif_t ⟨c63, c69⟩))) | exact v_cc ((cif_f (by first | exact (fun q => c12 q.1) | exact (fun q => b1_0.mp c21 q.2))).trans ((cif_f (by first | exact (fun q => c37 q.1) | exact (fun q => q.2 c43))).trans ((cif_f (by first | exact (fun q => c63 q.1) | exact (fun q => q.2 c69))).trans (cif_t ⟨c86, c96⟩)))) | exact v_cc ((cif_f (by first | exact (fun q => c12 q.1) | exact (fun q => b1_0.mp c21 q.2))).trans ((cif_f (by first | exact (fun q => c37 q.1) | exact (fun q => q.2 c43))).trans ((cif_f (by first | exact (fun q => c63 q.1) | exact (fun q => q.2 c69))).trans (cif_f (by first | exact (fun q => c86 q.1) | exact (fun q => c96 q.2))))))
              · skip
                refine G_aload_n dX3_take_99 rfl rfl ?_
                refine G_iconst (v := 0) dX3_take_100 rfl ?_
                refine GC_due dX3_take_101 fp_X3_22 ?_
                refine G_goto (tgt := 113) dX3_take_104 (by decide) ?_
                refine G_vret dX3_take_113 rfl ?_
                first | exact v_cc (cif_t ⟨c12, b1_1 c21⟩) | exact v_cc ((cif_f (by first | exact (fun q => c12 q.1) | exact (fun q => b1_0.mp c21 q.2))).trans (cif_t ⟨c37, c43⟩)) | exact v_cc ((cif_f (by first | exact (fun q => c12 q.1) | exact (fun q => b1_0.mp c21 q.2))).trans ((cif_f (by first | exact (fun q => c37 q.1) | exact (fun q => q.2 c43))).trans (cif_t ⟨c63, c69⟩))) | exact v_cc ((cif_f (by first | exact (fun q => c12 q.1) | exact (fun q => b1_0.mp c21 q.2))).trans ((cif_f (by first | exact (fun q => c37 q.1) | exact (fun q => q.2 c43))).trans ((cif_f (by first | exact (fun q => c63 q.1) | exact (fun q => q.2 c69))).trans (cif_t ⟨c86, c96⟩)))) | exact v_cc ((cif_f (by first | exact (fun q => c12 q.1) | exact (fun q => b1_0.mp c21 q.2))).trans ((cif_f (by first | exact (fun q => c37 q.1) | exact (fun q => q.2 c43))).trans ((cif_f (by first | exact (fun q => c63 q.1) | exact (fun q => q.2 c69))).trans (cif_f (by first | exact (fun q => c86 q.1) | exact (fun q => c96 q.2))))))
          · skip
            refine G_iload dX3_take_66 rfl ?_
            refine G_iconst (v := -1) dX3_take_68 rfl ?_
            refine G_icmp_eq (tgt := 81) dX3_take_69 (by decide) (fun c69 => ?_) (fun c69 => ?_)
            · skip
              refine G_aload_n dX3_take_81 rfl rfl ?_
              refine G_get dX3_take_82 fg_X3_22 (hx_16 _ _ _) rfl ?_
              refine G_iconst (v := 3) dX3_take_85 rfl ?_
              refine G_icmp_ne (tgt := 107) dX3_take_86 (by decide) (fun c86 => ?_) (fun c86 => ?_)
              · skip
                refine G_aload_n dX3_take_107 rfl rfl ?_
                refine G_iconst (v := 1) dX3_take_108 rfl ?_
                refine G_iload_n dX3_take_109 rfl rfl ?_
                refine G_callV (cx_blame _ _) dX3_take_110 (mc_X3_61 rfl) tw_506 tw_6 (hx_16 _ _ _) rfl rfl rfl (Nat.le_of_ble_eq_true rfl) (Nat.le_of_ble_eq_true rfl) (Nat.le_of_ble_eq_true rfl) (Nat.le_of_ble_eq_true rfl) ?_
                rintro _ n9_ _ ⟨rfl, e9_, rfl⟩
                obtain rfl := e9_.symm
                refine G_vret dX3_take_113 rfl ?_
                first | exact v_cc (cif_t ⟨c12, b1_1 c21⟩) | exact v_cc ((cif_f (by first | exact (fun q => c12 q.1) | exact (fun q => b1_0.mp c21 q.2))).trans (cif_t ⟨c37, c43⟩)) | exact v_cc ((cif_f (by first | exact (fun q => c12 q.1) | exact (fun q => b1_0.mp c21 q.2))).trans ((cif_f (by first | exact (fun q => c37 q.1) | exact (fun q => q.2 c43))).trans (cif_t ⟨c63, c69⟩))) | exact v_cc ((cif_f (by first | exact (fun q => c12 q.1) | exact (fun q => b1_0.mp c21 q.2))).trans ((cif_f (by first | exact (fun q => c37 q.1) | exact (fun q => q.2 c43))).trans ((cif_f (by first | exact (fun q => c63 q.1) | exact (fun q => q.2 c69))).trans (cif_t ⟨c86, c96⟩)))) | exact v_cc ((cif_f (by first | exact (fun q => c12 q.1) | exact (fun q => b1_0.mp c21 q.2))).trans ((cif_f (by first | exact (fun q => c37 q.1) | exact (fun q => q.2 c43))).trans ((cif_f (by first | exact (fun q => c63 q.1) | exact (fun q => q.2 c69))).trans (cif_f (by first | exact (fun q => c86 q.1) | exact (fun q => c96 q.2))))))
              · skip
                refine G_aload_n dX3_take_89 rfl rfl ?_
                refine G_iload_n dX3_take_90 rfl rfl ?_
                refine G_callV (cx_byte a hY hC9 (by omega)) dX3_take_91 (mc_X3_39 rfl) tw_428 tw_429 (hx_14 _ _ _) rfl rfl rfl (Nat.le_of_ble_eq_true rfl) (Nat.le_of_ble_eq_true rfl) (Nat.le_of_ble_eq_true rfl) (Nat.le_of_ble_eq_true rfl) ?_
                rintro _ n9_ _ ⟨rfl, e9_, rfl⟩
                obtain rfl := e9_.symm
                refine G_bipush (v := 59) dX3_take_94 rfl ?_
                refine G_icmp_ne (tgt := 107) dX3_take_96 (by decide) (fun c96 => ?_) (fun c96 => ?_)
                · skip
                  refine G_aload_n dX3_take_107 rfl rfl ?_
                  refine G_iconst (v := 1) dX3_take_108 rfl ?_
                  refine G_iload_n dX3_take_109 rfl rfl ?_
                  refine G_callV (cx_blame _ _) dX3_take_110 (mc_X3_61 rfl) tw_506 tw_6 (hx_16 _ _ _) rfl rfl rfl (Nat.le_of_ble_eq_true rfl) (Nat.le_of_ble_eq_true rfl) (Nat.le_of_ble_eq_true rfl) (Nat.le_of_ble_eq_true rfl) ?_
                  rintro _ n9_ _ ⟨rfl, e9_, rfl⟩
                  obtain rfl := e9_.symm
                  refine G_vret dX3_take_113 rfl ?_
                  first | exact v_cc (cif_t ⟨c12, b1_1 c21⟩) | exact v_cc ((cif_f (by first | exact (fun q => c12 q.1) | exact (fun q => b1_0.mp c21 q.2))).trans (cif_t ⟨c37, c43⟩)) | exact v_cc ((cif_f (by first | exact (fun q => c12 q.1) | exact (fun q => b1_0.mp c21 q.2))).trans ((cif_f (by first | exact (fun q => c37 q.1) | exact (fun q => q.2 c43))).trans (cif_t ⟨c63, c69⟩))) | exact v_cc ((cif_f (by first | exact (fun q => c12 q.1) | exact (fun q => b1_0.mp c21 q.2))).trans ((cif_f (by first | exact (fun q => c37 q.1) | exact (fun q => q.2 c43))).trans ((cif_f (by first | exact (fun q => c63 q.1) | exact (fun q => q.2 c69))).trans (cif_t ⟨c86, c96⟩)))) | exact v_cc ((cif_f (by first | exact (fun q => c12 q.1) | exact (fun q => b1_0.mp c21 q.2))).trans ((cif_f (by first | exact (fun q => c37 q.1) | exact (fun q => q.2 c43))).trans ((cif_f (by first | exact (fun q => c63 q.1) | exact (fun q => q.2 c69))).trans (cif_f (by first | exact (fun q => c86 q.1) | exact (fun q => c96 q.2))))))
                · skip
                  refine G_aload_n dX3_take_99 rfl rfl ?_
                  refine G_iconst (v := 0) dX3_take_100 rfl ?_
                  refine GC_due dX3_take_101 fp_X3_22 ?_
                  refine G_goto (tgt := 113) dX3_take_104 (by decide) ?_
                  refine G_vret dX3_take_113 rfl ?_
                  first | exact v_cc (cif_t ⟨c12, b1_1 c21⟩) | exact v_cc ((cif_f (by first | exact (fun q => c12 q.1) | exact (fun q => b1_0.mp c21 q.2))).trans (cif_t ⟨c37, c43⟩)) | exact v_cc ((cif_f (by first | exact (fun q => c12 q.1) | exact (fun q => b1_0.mp c21 q.2))).trans ((cif_f (by first | exact (fun q => c37 q.1) | exact (fun q => q.2 c43))).trans (cif_t ⟨c63, c69⟩))) | exact v_cc ((cif_f (by first | exact (fun q => c12 q.1) | exact (fun q => b1_0.mp c21 q.2))).trans ((cif_f (by first | exact (fun q => c37 q.1) | exact (fun q => q.2 c43))).trans ((cif_f (by first | exact (fun q => c63 q.1) | exact (fun q => q.2 c69))).trans (cif_t ⟨c86, c96⟩)))) | exact v_cc ((cif_f (by first | exact (fun q => c12 q.1) | exact (fun q => b1_0.mp c21 q.2))).trans ((cif_f (by first | exact (fun q => c37 q.1) | exact (fun q => q.2 c43))).trans ((cif_f (by first | exact (fun q => c63 q.1) | exact (fun q => q.2 c69))).trans (cif_f (by first | exact (fun q => c86 q.1) | exact (fun q => c96 q.2))))))
            · skip
              refine G_aload_n dX3_take_72 rfl rfl ?_
              refine G_iload dX3_take_73 rfl ?_
              refine G_callV (cx_takeDays _) dX3_take_75 (mc_X3_77 rfl) tw_510 tw_7 (hx_16 _ _ _) rfl rfl rfl (Nat.le_of_ble_eq_true rfl) (Nat.le_of_ble_eq_true rfl) (Nat.le_of_ble_eq_true rfl) (Nat.le_of_ble_eq_true rfl) ?_
              rintro _ n9_ _ ⟨rfl, e9_, rfl⟩
              obtain rfl := e9_.symm
              refine G_goto (tgt := 113) dX3_take_78 (by decide) ?_
              refine G_vret dX3_take_113 rfl ?_
              first | exact v_cc (cif_t ⟨c12, b1_1 c21⟩) | exact v_cc ((cif_f (by first | exact (fun q => c12 q.1) | exact (fun q => b1_0.mp c21 q.2))).trans (cif_t ⟨c37, c43⟩)) | exact v_cc ((cif_f (by first | exact (fun q => c12 q.1) | exact (fun q => b1_0.mp c21 q.2))).trans ((cif_f (by first | exact (fun q => c37 q.1) | exact (fun q => q.2 c43))).trans (cif_t ⟨c63, c69⟩))) | exact v_cc ((cif_f (by first | exact (fun q => c12 q.1) | exact (fun q => b1_0.mp c21 q.2))).trans ((cif_f (by first | exact (fun q => c37 q.1) | exact (fun q => q.2 c43))).trans ((cif_f (by first | exact (fun q => c63 q.1) | exact (fun q => q.2 c69))).trans (cif_t ⟨c86, c96⟩)))) | exact v_cc ((cif_f (by first | exact (fun q => c12 q.1) | exact (fun q => b1_0.mp c21 q.2))).trans ((cif_f (by first | exact (fun q => c37 q.1) | exact (fun q => q.2 c43))).trans ((cif_f (by first | exact (fun q => c63 q.1) | exact (fun q => q.2 c69))).trans (cif_f (by first | exact (fun q => c86 q.1) | exact (fun q => c96 q.2))))))
        · skip
          refine G_aload_n dX3_take_46 rfl rfl ?_
          refine G_iload dX3_take_47 rfl ?_
          refine G_iload_n dX3_take_49 rfl rfl ?_
          refine G_iload dX3_take_50 rfl ?_
          refine G_callV (cx_takeKind _ _ _) dX3_take_52 (mc_X3_73 rfl) tw_502 tw_5 (hx_16 _ _ _) rfl rfl rfl (Nat.le_of_ble_eq_true rfl) (Nat.le_of_ble_eq_true rfl) (Nat.le_of_ble_eq_true rfl) (Nat.le_of_ble_eq_true rfl) ?_
          rintro _ n9_ _ ⟨rfl, e9_, rfl⟩
          obtain rfl := e9_.symm
          refine G_goto (tgt := 113) dX3_take_55 (by decide) ?_
          refine G_vret dX3_take_113 rfl ?_
          first | exact v_cc (cif_t ⟨c12, b1_1 c21⟩) | exact v_cc ((cif_f (by first | exact (fun q => c12 q.1) | exact (fun q => b1_0.mp c21 q.2))).trans (cif_t ⟨c37, c43⟩)) | exact v_cc ((cif_f (by first | exact (fun q => c12 q.1) | exact (fun q => b1_0.mp c21 q.2))).trans ((cif_f (by first | exact (fun q => c37 q.1) | exact (fun q => q.2 c43))).trans (cif_t ⟨c63, c69⟩))) | exact v_cc ((cif_f (by first | exact (fun q => c12 q.1) | exact (fun q => b1_0.mp c21 q.2))).trans ((cif_f (by first | exact (fun q => c37 q.1) | exact (fun q => q.2 c43))).trans ((cif_f (by first | exact (fun q => c63 q.1) | exact (fun q => q.2 c69))).trans (cif_t ⟨c86, c96⟩)))) | exact v_cc ((cif_f (by first | exact (fun q => c12 q.1) | exact (fun q => b1_0.mp c21 q.2))).trans ((cif_f (by first | exact (fun q => c37 q.1) | exact (fun q => q.2 c43))).trans ((cif_f (by first | exact (fun q => c63 q.1) | exact (fun q => q.2 c69))).trans (cif_f (by first | exact (fun q => c86 q.1) | exact (fun q => c96 q.2))))))
    · skip
      refine G_aload_n dX3_take_24 rfl rfl ?_
      refine G_iconst (v := 1) dX3_take_25 rfl ?_
      refine GC_due dX3_take_26 fp_X3_22 ?_
      refine G_goto (tgt := 113) dX3_take_29 (by decide) ?_
      refine G_vret dX3_take_113 rfl ?_
      first | exact v_cc (cif_t ⟨c12, b1_1 c21⟩) | exact v_cc ((cif_f (by first | exact (fun q => c12 q.1) | exact (fun q => b1_0.mp c21 q.2))).trans (cif_t ⟨c37, c43⟩)) | exact v_cc ((cif_f (by first | exact (fun q => c12 q.1) | exact (fun q => b1_0.mp c21 q.2))).trans ((cif_f (by first | exact (fun q => c37 q.1) | exact (fun q => q.2 c43))).trans (cif_t ⟨c63, c69⟩))) | exact v_cc ((cif_f (by first | exact (fun q => c12 q.1) | exact (fun q => b1_0.mp c21 q.2))).trans ((cif_f (by first | exact (fun q => c37 q.1) | exact (fun q => q.2 c43))).trans ((cif_f (by first | exact (fun q => c63 q.1) | exact (fun q => q.2 c69))).trans (cif_t ⟨c86, c96⟩)))) | exact v_cc ((cif_f (by first | exact (fun q => c12 q.1) | exact (fun q => b1_0.mp c21 q.2))).trans ((cif_f (by first | exact (fun q => c37 q.1) | exact (fun q => q.2 c43))).trans ((cif_f (by first | exact (fun q => c63 q.1) | exact (fun q => q.2 c69))).trans (cif_f (by first | exact (fun q => c86 q.1) | exact (fun q => c96 q.2))))))
theorem c_inv_eq {u c : mS} (h : ∀ j ∈ [1, 5, 8, 13, 23, 6, 28, 27, 25, 24, 81, 80, 51, 70, 71], u j = c j) (hC : c_inv c) : c_inv u := by
  have e1 := h 1 (by decide)
  have e5 := h 5 (by decide)
  have e8 := h 8 (by decide)
  have e13 := h 13 (by decide)
  have e23 := h 23 (by decide)
  have e6 := h 6 (by decide)
  have e28 := h 28 (by decide)
  have e27 := h 27 (by decide)
  have e25 := h 25 (by decide)
  have e24 := h 24 (by decide)
  have e81 := h 81 (by decide)
  have e80 := h 80 (by decide)
  have e51 := h 51 (by decide)
  have e70 := h 70 (by decide)
  have e71 := h 71 (by decide)
  unfold c_inv m_inv mK mT mB mP mA mL at *
  rw [e1, e5, e8, e13, e23, e6, e28, e27, e25, e24, e81, e80, e51, e70, e71]
  exact hC
def c_k6 (u c : mS) : Prop := ∀ j, j < 60 ∨ 64 < j → u j = c j
theorem c_k6.inv {u c : mS} (h : c_k6 u c) (hC : c_inv c) : c_inv u := c_inv_eq (fun j hj => h j (by simp only [List.mem_cons, List.not_mem_nil, or_false] at hj; omega)) hC
theorem c_k6.Y {u c : mS} {Y : cY} {n9 : Nat} (h : c_k6 u c) (hY : Yok Y c n9) : Yok Y u n9 := hY.same (congrFun (h 1 (by decide)) 0) (congrFun (h 5 (by decide)) 0) (congrFun (h 8 (by decide)) 0) (congrFun (h 23 (by decide)) 0) (congrFun (h 81 (by decide)) 0)
theorem c_k6.set {u c : mS} (h : c_k6 u c) {j i : Nat} {v : Int32} (hj : 60 ≤ j ∧ j ≤ 64) : c_k6 (m_set u j i v) c := fun a ha => (m_set_ne _ _ _ (by omega)).trans (h a ha)
theorem c_k6.P {u c : mS} (h : c_k6 u c) : mP u = mP c := by unfold mP; rw [h 13 (by decide)]
theorem c_k6.take {u c : mS} (h : c_k6 u c) (a m : Nat) (K : Int32) : c_k6 (c_take u a m K) c := by
  unfold c_take
  by_cases z0 : u 63 0 = 0 ∧ c_ev u a m
  · rw [cif_t z0]; exact h.set (by decide)
  rw [cif_f z0]
  by_cases z1 : u 63 0 = 1 ∧ ¬ c_nof u a m = -1
  · rw [cif_t z1]; unfold c_tkk
    by_cases z : c_nof u a m < K
    · rw [cif_t z]; exact (h.set (by decide)).set (by decide)
    · rw [cif_f z]; exact (h.set (by decide)).set (by decide)
  rw [cif_f z1]
  by_cases z2 : u 63 0 = 2 ∧ ¬ c_nof u a m = -1
  · rw [cif_t z2]; unfold c_tkd
    by_cases z : u 64 0 < 0 ∨ 8 ≤ u 64 0
    · rw [cif_t z]; exact h.set (by decide)
    · rw [cif_f z]; exact (h.set (by decide)).set (by decide)
  rw [cif_f z2]
  by_cases z3 : u 63 0 = 3 ∧ c_byte u a = 59
  · rw [cif_t z3]; exact h.set (by decide)
  rw [cif_f z3]; exact (h.set (by decide)).set (by decide)
noncomputable def c_rl (K : Int32) : Nat → Nat → mS → mS
  | 0, _, u => u
  | f + 1, a, u => cif (mP u ≤ a ∨ ¬ u 61 0 = 0) u (cif (is_bl (c_byte u a)) (c_rl K f (a + 1) u) (c_rl K f (c_eot u a) (c_take u a (c_eot u a - a) K)))
noncomputable def c_fin (u : mS) : mS := cif (u 61 0 = 0 ∧ ¬ u 63 0 = 0) (c_bl u 1 (u 13 0)) u
def c_r0 (c : mS) : mS := m_set (m_set (m_set (m_row c 60 (fl (c 60) (-1) 8)) 61 0 0) 62 0 (-1)) 63 0 0
noncomputable def c_read (c : mS) (K : Int32) : mS := c_fin (c_rl K 201 0 (c_r0 c))
theorem c_k6.r0 (c : mS) : c_k6 (c_r0 c) c := fun a ha => by
  unfold c_r0
  rw [m_set_ne _ _ _ (by omega), m_set_ne _ _ _ (by omega), m_set_ne _ _ _ (by omega), m_row_ne _ _ (by omega)]
theorem c_k6.rl {c : mS} (K : Int32) : ∀ f a u, c_k6 u c → c_k6 (c_rl K f a u) c
  | 0, _, u, h => h
  | f + 1, a, u, h => by
    show c_k6 (cif _ _ _) c
    by_cases z : mP u ≤ a ∨ ¬ u 61 0 = 0
    · rw [cif_t z]; exact h
    rw [cif_f z]
    by_cases w : is_bl (c_byte u a)
    · rw [cif_t w]; exact c_k6.rl K f _ u h
    · rw [cif_f w]; exact c_k6.rl K f _ _ (h.take _ _ _)
theorem c_k6.fin {u c : mS} (h : c_k6 u c) : c_k6 (c_fin u) c := by
  unfold c_fin
  by_cases z : u 61 0 = 0 ∧ ¬ u 63 0 = 0
  · rw [cif_t z]; exact (h.set (by decide)).set (by decide)
  · rw [cif_f z]; exact h
theorem c_k6.read (c : mS) (K : Int32) : c_k6 (c_read c K) c := c_k6.fin (c_k6.rl K _ _ _ (c_k6.r0 c))
theorem mx_le9 {a b : Nat} (h : a ≤ b) (hb : b < 2 ^ 31) : mx (nI a) (nI b) = nI b := by
  rcases Nat.lt_or_eq_of_le h with q | q
  · exact cif_t (nI_lt q hb)
  · subst q; exact cif_f (nI_nlt (Nat.le_refl _) hb)
set_option maxHeartbeats 4000000 in
set_option maxRecDepth 100000 in
theorem cx_read {g : gT} {nq_ n9 : Nat} {sm : mS} {Y : cY} {c : mS} (K : Int32) (hY : Yok Y c n9) (hC9 : c_inv c) : M g 6 0 0 kX3_read [.ref 16, .ref 14, .int K] nq_ (hh sm Y c) (c_V nq_ sm Y (c_read c K)) := by
  refine M_of_G (by decide +kernel) (Nat.le_of_ble_eq_true rfl) ?_
  obtain ⟨hI, hG, hgv, hov, hrw, hps⟩ := id hC9
  obtain ⟨hK, hT, hB, hP9, hA, hkf, haf, hbf⟩ := id hI
  have hA2 := hA.2
  have hT2 := hT.2
  have hK2 := hK.2
  have hB2 := hB.2
  have hG2 := hG.2
  have hP2 := hP9.2
  have fin : ∀ u w9, w9.category = 1 → ∀ a, c_k6 u c → c_read c K = c_fin u → G g 6 0 0 kX3_read 84 [.ref 16, .ref 14, .int K, .int a, w9] [] nq_ (hh sm Y u) (c_V nq_ sm Y (c_read c K)) := by
    intro u w9 hw9 a hk hs
    refine G_aload_n dX3_read_84 rfl rfl ?_
    refine G_get dX3_read_85 fg_X3_15 (hx_16 _ _ _) rfl ?_
    refine G_if_ne (tgt := 107) dX3_read_88 (by decide) (fun c88 => ?_) (fun c88 => ?_)
    · skip
      refine G_vret dX3_read_107 rfl ?_
      first | exact v_cc (hs.trans (cif_f (fun q => c88 q.1))) | exact v_cc (hs.trans (cif_f (fun q => q.2 c95))) | exact v_cc (hs.trans (cif_t ⟨c88, c95⟩))
    · skip
      refine G_aload_n dX3_read_91 rfl rfl ?_
      refine G_get dX3_read_92 fg_X3_22 (hx_16 _ _ _) rfl ?_
      refine G_if_eq (tgt := 107) dX3_read_95 (by decide) (fun c95 => ?_) (fun c95 => ?_)
      · skip
        refine G_vret dX3_read_107 rfl ?_
        first | exact v_cc (hs.trans (cif_f (fun q => c88 q.1))) | exact v_cc (hs.trans (cif_f (fun q => q.2 c95))) | exact v_cc (hs.trans (cif_t ⟨c88, c95⟩))
      · skip
        refine G_aload_n dX3_read_98 rfl rfl ?_
        refine G_iconst (v := 1) dX3_read_99 rfl ?_
        refine G_aload_n dX3_read_100 rfl rfl ?_
        refine G_get dX3_read_101 fg_X3_34 (hx_14 _ _ _) rfl ?_
        refine G_callV (cx_blame _ _) dX3_read_104 (mc_X3_61 rfl) tw_506 tw_6 (hx_16 _ _ _) rfl rfl rfl (Nat.le_of_ble_eq_true rfl) (Nat.le_of_ble_eq_true rfl) (Nat.le_of_ble_eq_true rfl) (Nat.le_of_ble_eq_true rfl) ?_
        rintro _ n9_ _ ⟨rfl, e9_, rfl⟩
        obtain rfl := e9_.symm
        refine G_vret dX3_read_107 rfl ?_
        first | exact v_cc (hs.trans (cif_f (fun q => c88 q.1))) | exact v_cc (hs.trans (cif_f (fun q => q.2 c95))) | exact v_cc (hs.trans (cif_t ⟨c88, c95⟩))
  have loop : ∀ f a u w9, w9.category = 1 → c_k6 u c → mP c < a + f → a ≤ 200 → c_read c K = c_fin (c_rl K f a u) → G g 6 0 0 kX3_read 25 [.ref 16, .ref 14, .int K, .int (nI a), w9] [] nq_ (hh sm Y u) (c_V nq_ sm Y (c_read c K)) := by
    intro f
    induction f with
    | zero =>
      intro a u w9 hw9 hk hlt ha hs
      have hPu : u 13 0 = nI (mP c) := by rw [hk 13 (by decide)]; exact hP9.1
      refine G_iload_n dX3_read_25 rfl rfl ?_
      refine G_aload_n dX3_read_26 rfl rfl ?_
      refine G_get dX3_read_27 fg_X3_34 (hx_14 _ _ _) rfl ?_
      refine G_icmp_ge (tgt := 84) dX3_read_30 (by decide) (fun c30 => ?_) (fun c30 => ?_)
      · skip
        exact fin u w9 hw9 _ hk hs
      · skip
        exact absurd (by rw [hPu, nI_leI (by omega) (by omega)]; omega) c30
    | succ f ih =>
      intro a u w9 hw9 hk hlt ha hs
      have hPu : u 13 0 = nI (mP c) := by rw [hk 13 (by decide)]; exact hP9.1
      have ePu : mP u = mP c := hk.P
      have hCu := hk.inv hC9
      have hYu := hk.Y hY
      refine G_iload_n dX3_read_25 rfl rfl ?_
      refine G_aload_n dX3_read_26 rfl rfl ?_
      refine G_get dX3_read_27 fg_X3_34 (hx_14 _ _ _) rfl ?_
      refine G_icmp_ge (tgt := 84) dX3_read_30 (by decide) (fun c30 => ?_) (fun c30 => ?_)
      · skip
        exact fin u w9 hw9 _ hk (hs.trans (congrArg c_fin (cif_t (Or.inl (by rw [ePu]; rw [hPu, nI_leI (by omega) (by omega)] at c30; exact c30)))))
      · skip
        have hau : a < mP u := by rw [ePu]; rw [hPu, nI_leI (by omega) (by omega)] at c30; omega
        refine G_aload_n dX3_read_33 rfl rfl ?_
        refine G_get dX3_read_34 fg_X3_15 (hx_16 _ _ _) rfl ?_
        refine G_if_ne (tgt := 84) dX3_read_37 (by decide) (fun c37 => ?_) (fun c37 => ?_)
        · skip
          exact fin u w9 hw9 _ hk (hs.trans (congrArg c_fin (cif_t (Or.inr c37))))
        · skip
          refine G_iload_n dX3_read_40 rfl rfl ?_
          refine G_iconst (v := 1) dX3_read_41 rfl ?_
          refine G_iadd dX3_read_42 ?_
          refine G_top (w := .int (nI (a + 1))) (congrArg Value.int (nI_1 a)) ?_
          refine G_istore dX3_read_43 (Nat.le_of_ble_eq_true rfl) rfl ?_
          refine G_aload_n dX3_read_45 rfl rfl ?_
          refine G_iload_n dX3_read_46 rfl rfl ?_
          refine G_callV (cx_byte a hYu hCu (by omega)) dX3_read_47 (mc_X3_39 rfl) tw_428 tw_429 (hx_14 _ _ _) rfl rfl rfl (Nat.le_of_ble_eq_true rfl) (Nat.le_of_ble_eq_true rfl) (Nat.le_of_ble_eq_true rfl) (Nat.le_of_ble_eq_true rfl) ?_
          rintro _ n9_ _ ⟨rfl, e9_, rfl⟩
          obtain rfl := e9_.symm
          refine G_callS (cx_blank _) dX3_read_50 (mc_X3_43 rfl) tw_432 rfl rfl (Nat.le_of_ble_eq_true rfl) (Nat.le_of_ble_eq_true rfl) (Nat.le_of_ble_eq_true rfl) (Nat.le_of_ble_eq_true rfl) ?_
          rintro _ n9_ _ ⟨rfl, e9_, rfl⟩
          obtain rfl := e9_.symm
          refine G_if_ne (tgt := 72) dX3_read_53 (by decide) (fun c53 => ?_) (fun c53 => ?_)
          · skip
            refine G_iload_n dX3_read_72 rfl rfl ?_
            refine G_iconst (v := 1) dX3_read_73 rfl ?_
            refine G_iadd dX3_read_74 ?_
            refine G_iload dX3_read_75 rfl ?_
            refine G_max dX3_read_77 tw_512 (Nat.le_of_ble_eq_true rfl) (Nat.le_of_ble_eq_true rfl) ?_
            refine G_top (w := .int (nI (a + 1))) (congrArg Value.int ((congrArg (fun z => mx z (nI (a + 1))) (nI_1 a)).trans (mx_le9 (Nat.le_refl _) (by omega)))) ?_
            refine G_istore_n dX3_read_80 rfl (Nat.le_of_ble_eq_true rfl) rfl ?_
            refine G_goto (tgt := 25) dX3_read_81 (by decide) ?_
            exact ih (a + 1) u _ rfl hk (by omega) (by omega) (hs.trans (congrArg c_fin ((cif_f (fun q => q.elim (by omega) (fun z => z c37))).trans (cif_t (b1_1 c53)))))
          · skip
            have heb := c_et_b u (wi (c_byte u a) 97 122) (wi (c_byte u a) 48 57) (mP u - (a + 1)) (a + 1)
            have he1 : a + 1 ≤ c_eot u a ∧ c_eot u a ≤ mP u := ⟨heb.1, by have := heb.2; unfold c_eot; omega⟩
            refine G_aload_n dX3_read_56 rfl rfl ?_
            refine G_iload_n dX3_read_57 rfl rfl ?_
            refine G_callS (cx_eot a hYu hCu hau) dX3_read_58 (mc_X3_47 rfl) tw_435 rfl rfl (Nat.le_of_ble_eq_true rfl) (Nat.le_of_ble_eq_true rfl) (Nat.le_of_ble_eq_true rfl) (Nat.le_of_ble_eq_true rfl) ?_
            rintro _ n9_ _ ⟨rfl, e9_, rfl⟩
            obtain rfl := e9_.symm
            refine G_istore dX3_read_61 (Nat.le_of_ble_eq_true rfl) rfl ?_
            refine G_aload_n dX3_read_63 rfl rfl ?_
            refine G_aload_n dX3_read_64 rfl rfl ?_
            refine G_iload_n dX3_read_65 rfl rfl ?_
            refine G_iload dX3_read_66 rfl ?_
            refine G_iload_n dX3_read_68 rfl rfl ?_
            refine G_top (w := .int K) rfl ?_
            have eam : a + (c_eot u a - a) = c_eot u a := by omega
            have hM := cx_take (g := g) (nq_ := nq_) (sm := sm) a (c_eot u a - a) K hYu hCu (by omega)
            rw [eam] at hM
            refine G_callV hM dX3_read_69 (mc_X3_51 rfl) tw_445 tw_4 (hx_16 _ _ _) rfl rfl rfl (Nat.le_of_ble_eq_true rfl) (Nat.le_of_ble_eq_true rfl) (Nat.le_of_ble_eq_true rfl) (Nat.le_of_ble_eq_true rfl) ?_
            rintro _ n9_ _ ⟨rfl, e9_, rfl⟩
            obtain rfl := e9_.symm
            refine G_iload_n dX3_read_72 rfl rfl ?_
            refine G_iconst (v := 1) dX3_read_73 rfl ?_
            refine G_iadd dX3_read_74 ?_
            refine G_iload dX3_read_75 rfl ?_
            refine G_max dX3_read_77 tw_512 (Nat.le_of_ble_eq_true rfl) (Nat.le_of_ble_eq_true rfl) ?_
            refine G_top (w := .int (nI (c_eot u a))) (congrArg Value.int ((congrArg (fun z => mx z (nI (c_eot u a))) (nI_1 a)).trans (mx_le9 he1.1 (by omega)))) ?_
            refine G_istore_n dX3_read_80 rfl (Nat.le_of_ble_eq_true rfl) rfl ?_
            refine G_goto (tgt := 25) dX3_read_81 (by decide) ?_
            exact ih (c_eot u a) _ _ rfl (hk.take _ _ _) (by omega) (by omega) (hs.trans (congrArg c_fin ((cif_f (fun q => q.elim (by omega) (fun z => z c37))).trans (cif_f (b1_0.mp c53)))))
  refine G_aload_n dX3_read_0 rfl rfl ?_
  refine G_get dX3_read_1 fg_X3_9 (hx_16 _ _ _) rfl ?_
  refine G_iconst (v := -1) dX3_read_4 rfl ?_
  refine G_callS (cj_fill _ (hx_17 _ _ _) (by decide)) dX3_read_5 (mc_X3_28 rfl) tw_161 rfl rfl (Nat.le_of_ble_eq_true rfl) (Nat.le_of_ble_eq_true rfl) (Nat.le_of_ble_eq_true rfl) (Nat.le_of_ble_eq_true rfl) ?_
  rintro _ n9_ _ ⟨rfl, e9_, rfl⟩
  obtain rfl := e9_.symm
  rw [hw_row17]
  refine G_aload_n dX3_read_8 rfl rfl ?_
  refine G_iconst (v := 0) dX3_read_9 rfl ?_
  refine GC_flt dX3_read_10 fp_X3_15 ?_
  refine G_aload_n dX3_read_13 rfl rfl ?_
  refine G_iconst (v := -1) dX3_read_14 rfl ?_
  refine GC_rpl dX3_read_15 fp_X3_19 ?_
  refine G_aload_n dX3_read_18 rfl rfl ?_
  refine G_iconst (v := 0) dX3_read_19 rfl ?_
  refine GC_due dX3_read_20 fp_X3_22 ?_
  refine G_iconst (v := 0) dX3_read_23 rfl ?_
  refine G_istore_n dX3_read_24 rfl (Nat.le_of_ble_eq_true rfl) rfl ?_
  exact loop 201 0 (c_r0 c) (.retAddr 0) rfl (c_k6.r0 c) (by omega) (by omega) rfl
def tl (c : mS) : Nat → mS
  | 0 => c
  | i + 1 => m_set (tl c i) 15 i (c 60 i)
theorem tl_o (c : mS) {j : Nat} (hj : j ≠ 15) : ∀ i, tl c i j = c j
  | 0 => rfl
  | i + 1 => (m_set_ne _ _ _ hj).trans (tl_o c hj i)
def c_tell (c : mS) : mS := m_set (tl c 8) 14 0 (c 14 0 + 1)
set_option maxHeartbeats 4000000 in
set_option maxRecDepth 100000 in
theorem cx_tell {g : gT} {nq_ : Nat} {sm : mS} {Y : cY} {c : mS} : M g 0 0 0 kX2_tell [.ref 18, .ref 17] nq_ (hh sm Y c) (c_V nq_ sm Y (c_tell c)) := by
  refine M_of_G (by decide +kernel) (Nat.le_of_ble_eq_true rfl) ?_
  have loop : ∀ m j, j + m = 8 → G g 0 0 0 kX2_tell 2 [.ref 18, .ref 17, .int (nI j)] [] nq_ (hh sm Y (tl c j)) (c_V nq_ sm Y (c_tell c)) := by
    intro m
    induction m with
    | zero =>
      intro j hj
      rw [Nat.add_zero] at hj
      subst hj
      refine G_iload_n dX2_tell_2 rfl rfl ?_
      refine G_bipush (v := 8) dX2_tell_3 rfl ?_
      refine G_icmp_ge (tgt := 29) dX2_tell_5 (by decide) (fun c5 => ?_) (fun c5 => ?_)
      · skip
        refine G_aload_n dX2_tell_29 rfl rfl ?_
        refine G_dup dX2_tell_30 rfl ?_
        refine G_get dX2_tell_31 fg_X2_9 (hx_18 _ _ _) rfl ?_
        refine G_iconst (v := 1) dX2_tell_34 rfl ?_
        refine G_iadd dX2_tell_35 ?_
        refine G_top (w := .int (c 14 0 + 1)) (congrArg (fun z => Value.int (z + 1)) (congrFun (tl_o c (by decide) 8) 0)) ?_
        refine GC_told dX2_tell_36 fp_X2_9 ?_
        refine G_vret dX2_tell_39 rfl ?_
        exact ⟨rfl, rfl, rfl⟩
      · skip
        exact absurd (show (8 : Int32) ≤ nI 8 by decide) c5
    | succ m ih =>
      intro j hj
      refine G_iload_n dX2_tell_2 rfl rfl ?_
      refine G_bipush (v := 8) dX2_tell_3 rfl ?_
      refine G_icmp_ge (tgt := 29) dX2_tell_5 (by decide) (fun c5 => ?_) (fun c5 => ?_)
      · skip
        exact absurd c5 (by rw [show (8 : Int32) = nI 8 from rfl, nI_leI (by decide) (by omega)]; omega)
      · skip
        refine G_iload_n dX2_tell_8 rfl rfl ?_
        refine G_aload_n dX2_tell_9 rfl rfl ?_
        refine G_alen dX2_tell_10 (fun _ => rfl) (hx_17 _ _ _) ?_
        refine G_icmp_ge (tgt := 29) dX2_tell_11 (by decide) (fun c11 => ?_) (fun c11 => ?_)
        · skip
          exact absurd c11 (by rw [nI_leI (by decide) (by omega)]; omega)
        · skip
          refine G_aload_n dX2_tell_14 rfl rfl ?_
          refine G_get dX2_tell_15 fg_X2_18 (hx_18 _ _ _) rfl ?_
          refine G_iload_n dX2_tell_18 rfl rfl ?_
          refine G_aload_n dX2_tell_19 rfl rfl ?_
          refine G_iload_n dX2_tell_20 rfl rfl ?_
          refine GR_rwt dX2_tell_21 ⟨rfl, by omega⟩ ?_
          refine G_top (w := .int (c 60 j)) (congrArg Value.int (congrFun (tl_o c (by decide) j) j)) ?_
          refine GC_lwt dX2_tell_22 ⟨rfl, by omega⟩ ?_
          refine G_iinc (b := nI (j + 1)) dX2_tell_23 rfl (nI_1 j) rfl ?_
          refine G_goto (tgt := 2) dX2_tell_26 (by decide) ?_
          exact ih (j + 1) (by omega)
  refine G_iconst (v := 0) dX2_tell_0 rfl ?_
  refine G_istore_n dX2_tell_1 rfl (Nat.le_of_ble_eq_true rfl) rfl ?_
  exact loop 8 0 rfl
noncomputable def c_lw (c : mS) : mS := m_set (m_set (c_read c (c 1 0)) 13 0 0) 18 0 (c_read c (c 1 0) 62 0)
noncomputable def cp_law (c : mS) : mS × Int32 := cif (c 14 0 < 20) (cif (c_lw c 61 0 = 0) (c_tell (c_lw c), c_lw c 14 0) (c_lw c, -1 - c_lw c 61 0)) (c, -1)
set_option maxHeartbeats 4000000 in
set_option maxRecDepth 100000 in
theorem cp9_law {g : gT} {nq_ n9 : Nat} {sm : mS} {Y : cY} {c : mS}  (hY : Yok Y c n9) (hC9 : c_inv c) : M g 7 0 0 kX8_law [.ref 8] nq_ (hh sm Y c) (c_S (.int (cp_law c).2) nq_ sm Y (cp_law c).1) := by
  refine M_of_G (by decide +kernel) (Nat.le_of_ble_eq_true rfl) ?_
  obtain ⟨hI, hG, hgv, hov, hrw, hps⟩ := id hC9
  obtain ⟨hK, hT, hB, hP9, hA, hkf, haf, hbf⟩ := id hI
  have hA2 := hA.2
  have hT2 := hT.2
  have hK2 := hK.2
  have hB2 := hB.2
  have hG2 := hG.2
  have hP2 := hP9.2
  refine G_aload_n dX8_law_0 rfl rfl ?_
  refine G_get dX8_law_1 fg_X8_45 (hx_8 _ _ _) rfl ?_
  refine G_get dX8_law_4 fg_X8_101 (hx_18 _ _ _) rfl ?_
  refine G_bipush (v := 20) dX8_law_7 rfl ?_
  refine G_icmp_lt (tgt := 14) dX8_law_9 (by decide) (fun c9 => ?_) (fun c9 => ?_)
  · skip
    refine G_aload_n dX8_law_14 rfl rfl ?_
    refine G_get dX8_law_15 fg_X8_38 (hx_8 _ _ _) rfl ?_
    refine G_aload_n dX8_law_18 rfl rfl ?_
    refine G_get dX8_law_19 fg_X8_31 (hx_8 _ _ _) rfl ?_
    refine G_aload_n dX8_law_22 rfl rfl ?_
    refine G_get dX8_law_23 fg_X8_10 (hx_8 _ _ _) rfl ?_
    refine GL_size0 dX8_law_26 (mc_X8_60 rfl) (Nat.le_of_ble_eq_true rfl) (Nat.le_of_ble_eq_true rfl) ?_
    refine G_callV (cx_read _ hY hC9) dX8_law_29 (mc_X8_104 rfl) tw_423 tw_424 (hx_16 _ _ _) rfl rfl rfl (Nat.le_of_ble_eq_true rfl) (Nat.le_of_ble_eq_true rfl) (Nat.le_of_ble_eq_true rfl) (Nat.le_of_ble_eq_true rfl) ?_
    rintro _ n9_ _ ⟨rfl, e9_, rfl⟩
    obtain rfl := e9_.symm
    refine G_aload_n dX8_law_32 rfl rfl ?_
    refine G_get dX8_law_33 fg_X8_31 (hx_8 _ _ _) rfl ?_
    refine G_iconst (v := 0) dX8_law_36 rfl ?_
    refine GC_len dX8_law_37 fp_X8_98 ?_
    refine G_aload_n dX8_law_40 rfl rfl ?_
    refine G_get dX8_law_41 fg_X8_45 (hx_8 _ _ _) rfl ?_
    refine G_aload_n dX8_law_44 rfl rfl ?_
    refine G_get dX8_law_45 fg_X8_38 (hx_8 _ _ _) rfl ?_
    refine G_get dX8_law_48 fg_X8_108 (hx_16 _ _ _) rfl ?_
    refine GC_place dX8_law_51 fp_X8_111 ?_
    refine G_aload_n dX8_law_54 rfl rfl ?_
    refine G_get dX8_law_55 fg_X8_38 (hx_8 _ _ _) rfl ?_
    refine G_get dX8_law_58 fg_X8_112 (hx_16 _ _ _) rfl ?_
    refine G_if_eq (tgt := 74) dX8_law_61 (by decide) (fun c61 => ?_) (fun c61 => ?_)
    · skip
      refine G_aload_n dX8_law_74 rfl rfl ?_
      refine G_get dX8_law_75 fg_X8_45 (hx_8 _ _ _) rfl ?_
      refine G_aload_n dX8_law_78 rfl rfl ?_
      refine G_get dX8_law_79 fg_X8_38 (hx_8 _ _ _) rfl ?_
      refine G_get dX8_law_82 fg_X8_115 (hx_16 _ _ _) rfl ?_
      refine G_callV (cx_tell) dX8_law_85 (mc_X8_119 rfl) tw_514 tw_515 (hx_18 _ _ _) rfl rfl rfl (Nat.le_of_ble_eq_true rfl) (Nat.le_of_ble_eq_true rfl) (Nat.le_of_ble_eq_true rfl) (Nat.le_of_ble_eq_true rfl) ?_
      rintro _ n9_ _ ⟨rfl, e9_, rfl⟩
      obtain rfl := e9_.symm
      refine G_aload_n dX8_law_88 rfl rfl ?_
      refine G_get dX8_law_89 fg_X8_45 (hx_8 _ _ _) rfl ?_
      refine G_get dX8_law_92 fg_X8_101 (hx_18 _ _ _) rfl ?_
      refine G_iconst (v := 1) dX8_law_95 rfl ?_
      refine G_isub dX8_law_96 ?_
      refine G_iret dX8_law_97 rfl ?_
      exact c_close ((cif_t c9).trans ((cif_t c61).trans (Prod.ext rfl (Int32.add_sub_cancel _ _).symm)))
    · skip
      refine G_iconst (v := -1) dX8_law_64 rfl ?_
      refine G_aload_n dX8_law_65 rfl rfl ?_
      refine G_get dX8_law_66 fg_X8_38 (hx_8 _ _ _) rfl ?_
      refine G_get dX8_law_69 fg_X8_112 (hx_16 _ _ _) rfl ?_
      refine G_isub dX8_law_72 ?_
      refine G_iret dX8_law_73 rfl ?_
      exact c_close ((cif_t c9).trans (cif_f c61))
  · skip
    refine G_iconst (v := -1) dX8_law_12 rfl ?_
    refine G_iret dX8_law_13 rfl ?_
    exact c_close (cif_f c9)
