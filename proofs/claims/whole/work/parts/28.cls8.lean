theorem G_hc {g : gT} {d x y : Nat} {k : mM} {pc : Nat} {L st : List Value} {n : Nat} {P : Option Value → Nat → mH → Prop} {sm : mS} {Y : cY} {c c' : mS} (e : c = c') (K : G g d x y k pc L st n (hh sm Y c') P) : G g d x y k pc L st n (hh sm Y c) P := by rw [e]; exact K
theorem G_hq {g : gT} {d x y : Nat} {k : mM} {pc : Nat} {L st : List Value} {n : Nat} {P : Option Value → Nat → mH → Prop} {h h' : mH} (e : h = h') (K : G g d x y k pc L st n h' P) : G g d x y k pc L st n h P := by rw [e]; exact K
def m_row (c : mS) (j : Nat) (f : Nat → Int32) : mS := fun a b => if a = j then f b else c a b
theorem m_row_eq (c : mS) (j : Nat) (f : Nat → Int32) : m_row c j f j = f := by funext b; simp [m_row]
theorem m_row_ne (c : mS) {j a : Nat} (f : Nat → Int32) (h : a ≠ j) : m_row c j f a = c a := by funext b; simp [m_row, h]
theorem hw_row17 (sm : mS) (Y : cY) (c : mS) (f : Nat → Int32) : va_up (hh sm Y c) 17 (some (.inl (0, 8, .inl f))) = hh sm Y (m_row c 60 f) := hw_gen (sm := sm) (Y := Y) (c := c) (c' := m_row c 60 f) (a0 := 17) (Or.inl (by decide)) ((hx_17 _ _ _).trans (by rw [m_row_eq])) (fun b hb hn => by unfold c_fx; split <;> first | rfl | exact absurd rfl hn) (fun b _ => cd_c (fun _ _ => rfl) (fun _ _ => rfl) (fun _ _ => rfl) (fun _ _ => rfl) (fun _ _ => far rfl rfl rfl rfl rfl rfl _))
theorem hw_row19 (sm : mS) (Y : cY) (c : mS) (f : Nat → Int32) : va_up (hh sm Y c) 19 (some (.inl (0, 8, .inl f))) = hh sm Y (m_row c 15 f) := hw_gen (sm := sm) (Y := Y) (c := c) (c' := m_row c 15 f) (a0 := 19) (Or.inl (by decide)) ((hx_19 _ _ _).trans (by rw [m_row_eq])) (fun b hb hn => by unfold c_fx; split <;> first | rfl | exact absurd rfl hn) (fun b _ => cd_c (fun _ _ => rfl) (fun _ _ => rfl) (fun _ _ => rfl) (fun _ _ => rfl) (fun _ _ => far rfl rfl rfl rfl rfl rfl _))
theorem hw_row22 (sm : mS) (Y : cY) (c : mS) (f : Nat → Int32) : va_up (hh sm Y c) 22 (some (.inl (0, 32, .inl f))) = hh sm Y (m_row c 72 f) := hw_gen (sm := sm) (Y := Y) (c := c) (c' := m_row c 72 f) (a0 := 22) (Or.inl (by decide)) ((hx_22 _ _ _).trans (by rw [m_row_eq])) (fun b hb hn => by unfold c_fx; split <;> first | rfl | exact absurd rfl hn) (fun b _ => cd_c (fun _ _ => rfl) (fun _ _ => rfl) (fun _ _ => rfl) (fun _ _ => rfl) (fun _ _ => far rfl rfl rfl rfl rfl rfl _))
theorem hw_row23 (sm : mS) (Y : cY) (c : mS) (f : Nat → Int32) : va_up (hh sm Y c) 23 (some (.inl (0, 32, .inl f))) = hh sm Y (m_row c 73 f) := hw_gen (sm := sm) (Y := Y) (c := c) (c' := m_row c 73 f) (a0 := 23) (Or.inl (by decide)) ((hx_23 _ _ _).trans (by rw [m_row_eq])) (fun b hb hn => by unfold c_fx; split <;> first | rfl | exact absurd rfl hn) (fun b _ => cd_c (fun _ _ => rfl) (fun _ _ => rfl) (fun _ _ => rfl) (fun _ _ => rfl) (fun _ _ => far rfl rfl rfl rfl rfl rfl _))
def pt_b (w : Int32) (j : Nat) : Int32 := (w.toUInt32 >>> ((24 - 8 * nI j : Int32).toUInt32 &&& Int32.toUInt32 31)).toInt32 &&& 255
def pt (c : mS) (w : Int32) (p : Nat) : Nat → mS
  | 0 => c
  | j + 1 => m_set (m_set (pt c w p j) 12 (p + j) (pt_b w j)) 13 0 (nI (p + j + 1))
theorem pt_13 {c : mS} {w : Int32} {p : Nat} (h : c 13 0 = nI p) : ∀ j, pt c w p j 13 0 = nI (p + j)
  | 0 => h
  | j + 1 => m_set_at _ _ _ _
theorem sh_in : ∀ j, j < 4 → ¬ (24 - 8 * nI j : Int32) < 0 := by decide
theorem sh_dn : ∀ j, j < 4 → (24 - 8 * nI j : Int32) + Int32.ofInt (-8) = 24 - 8 * nI (j + 1) := by decide
set_option maxHeartbeats 4000000 in
set_option maxRecDepth 100000 in
theorem cx_put {g : gT} {nq_ : Nat} {sm : mS} {Y : cY} {c : mS} (w : Int32) (p : Nat) (hp : c 13 0 = nI p) (hp2 : p + 4 ≤ 200) : M g 0 0 0 kX6_put [.ref 14, .int w] nq_ (hh sm Y c) (c_V nq_ sm Y (pt c w p 4)) := by
  refine M_of_G (by decide +kernel) (Nat.le_of_ble_eq_true rfl) ?_
  have loop : ∀ m j, j + m = 4 → G g 0 0 0 kX6_put 3 [.ref 14, .int w, .int (24 - 8 * nI j)] [] nq_ (hh sm Y (pt c w p j)) (c_V nq_ sm Y (pt c w p 4)) := by
    intro m
    induction m with
    | zero =>
      intro j hj
      rw [Nat.add_zero] at hj
      subst hj
      refine G_iload_n dX6_put_3 rfl rfl ?_
      refine G_if_lt (tgt := 49) dX6_put_4 (by decide) (fun c4 => ?_) (fun c4 => ?_)
      · skip
        refine G_vret dX6_put_49 rfl ?_
        exact ⟨rfl, rfl, rfl⟩
      · skip
        exact absurd (show (24 - 8 * nI 4 : Int32) < 0 by decide) c4
    | succ m ih =>
      intro j hj
      have e13 := pt_13 (w := w) hp j
      refine G_iload_n dX6_put_3 rfl rfl ?_
      refine G_if_lt (tgt := 49) dX6_put_4 (by decide) (fun c4 => ?_) (fun c4 => ?_)
      · skip
        exact absurd c4 (sh_in j (by omega))
      · skip
        refine G_aload_n dX6_put_7 rfl rfl ?_
        refine G_get dX6_put_8 fg_X6_15 (hx_14 _ _ _) rfl ?_
        refine G_sipush (v := 200) dX6_put_11 rfl ?_
        refine G_icmp_ge (tgt := 49) dX6_put_14 (by decide) (fun c14 => ?_) (fun c14 => ?_)
        · skip
          exact absurd c14 (by rw [e13, show (200 : Int32) = nI 200 from rfl, nI_leI (by decide) (by omega)]; omega)
        · skip
          refine G_aload_n dX6_put_17 rfl rfl ?_
          refine G_get dX6_put_18 fg_X6_9 (hx_14 _ _ _) rfl ?_
          refine G_aload_n dX6_put_21 rfl rfl ?_
          refine G_get dX6_put_22 fg_X6_15 (hx_14 _ _ _) rfl ?_
          refine G_iload_n dX6_put_25 rfl rfl ?_
          refine G_iload_n dX6_put_26 rfl rfl ?_
          refine G_iushr dX6_put_27 ?_
          refine G_sipush (v := 255) dX6_put_28 rfl ?_
          refine G_iand dX6_put_31 ?_
          refine GC_byt dX6_put_32 ⟨e13, by omega⟩ ?_
          refine G_aload_n dX6_put_33 rfl rfl ?_
          refine G_dup dX6_put_34 rfl ?_
          refine G_get dX6_put_35 fg_X6_15 (hx_14 _ _ _) rfl ?_
          refine G_iconst (v := 1) dX6_put_38 rfl ?_
          refine G_iadd dX6_put_39 ?_
          refine G_top (w := .int (nI (p + j + 1))) (congrArg Value.int (show pt c w p j 13 0 + 1 = _ by rw [e13]; exact nI_1 _)) ?_
          refine GC_len dX6_put_40 fp_X6_15 ?_
          refine G_iinc (b := 24 - 8 * nI (j + 1)) dX6_put_43 rfl (sh_dn j (by omega)) rfl ?_
          refine G_goto (tgt := 3) dX6_put_46 (by decide) ?_
          exact ih (j + 1) (by omega)
  refine G_bipush (v := 24) dX6_put_0 rfl ?_
  refine G_istore_n dX6_put_2 rfl (Nat.le_of_ble_eq_true rfl) rfl ?_
  exact loop 4 0 rfl
noncomputable def cp_feed (c : mS) (a b d e f : Int32) : mS × Int32 := cif (c 13 0 + 20 ≤ 200) (pt (pt (pt (pt (pt c a (mP c) 4) b (mP c + 4) 4) d (mP c + 4 + 4) 4) e (mP c + 4 + 4 + 4) 4) f (mP c + 4 + 4 + 4 + 4) 4, nI (mP c + 4 + 4 + 4 + 4 + 4)) (c, -1)
set_option maxHeartbeats 4000000 in
set_option maxRecDepth 100000 in
theorem cp9_feed {g : gT} {nq_ n9 : Nat} {sm : mS} {Y : cY} {c : mS} (a b e f i : Int32) (hY : Yok Y c n9) (hC9 : c_inv c) : M g 2 0 0 kX8_feed [.ref 8, .int a, .int b, .int e, .int f, .int i] nq_ (hh sm Y c) (c_S (.int (cp_feed c a b e f i).2) nq_ sm Y (cp_feed c a b e f i).1) := by
  refine M_of_G (by decide +kernel) (Nat.le_of_ble_eq_true rfl) ?_
  obtain ⟨hI, hG, hgv, hov, hrw, hps⟩ := id hC9
  obtain ⟨hK, hT, hB, hP9, hA, hkf, haf, hbf⟩ := id hI
  have hA2 := hA.2
  have hT2 := hT.2
  have hK2 := hK.2
  have hB2 := hB.2
  have hG2 := hG.2
  have hP2 := hP9.2
  refine G_aload_n dX8_feed_0 rfl rfl ?_
  refine G_get dX8_feed_1 fg_X8_31 (hx_8 _ _ _) rfl ?_
  refine G_callV (cx_room hY hC9) dX8_feed_4 (mc_X8_91 rfl) tw_407 tw_408 (hx_14 _ _ _) rfl rfl rfl (Nat.le_of_ble_eq_true rfl) (Nat.le_of_ble_eq_true rfl) (Nat.le_of_ble_eq_true rfl) (Nat.le_of_ble_eq_true rfl) ?_
  rintro _ n9_ _ ⟨rfl, e9_, rfl⟩
  obtain rfl := e9_.symm
  refine G_if_ne (tgt := 12) dX8_feed_7 (by decide) (fun c7 => ?_) (fun c7 => ?_)
  · skip
    have hr0 := b1_1 c7
    have hr : mP c + 20 ≤ 200 := by rw [hP9.1, show (20 : Int32) = nI 20 from rfl, nI_add, show (200 : Int32) = nI 200 from rfl, nI_leI (by omega) (by omega)] at hr0; exact hr0
    refine G_aload_n dX8_feed_12 rfl rfl ?_
    refine G_get dX8_feed_13 fg_X8_31 (hx_8 _ _ _) rfl ?_
    refine G_iload_n dX8_feed_16 rfl rfl ?_
    refine G_callV (cx_put _ (mP c) hP9.1 (by omega)) dX8_feed_17 (mc_X8_95 rfl) tw_411 tw_412 (hx_14 _ _ _) rfl rfl rfl (Nat.le_of_ble_eq_true rfl) (Nat.le_of_ble_eq_true rfl) (Nat.le_of_ble_eq_true rfl) (Nat.le_of_ble_eq_true rfl) ?_
    rintro _ n9_ _ ⟨rfl, e9_, rfl⟩
    obtain rfl := e9_.symm
    refine G_aload_n dX8_feed_20 rfl rfl ?_
    refine G_get dX8_feed_21 fg_X8_31 (hx_8 _ _ _) rfl ?_
    refine G_iload_n dX8_feed_24 rfl rfl ?_
    refine G_callV (cx_put _ (mP c + 4) (pt_13 hP9.1 4) (by omega)) dX8_feed_25 (mc_X8_95 rfl) tw_411 tw_412 (hx_14 _ _ _) rfl rfl rfl (Nat.le_of_ble_eq_true rfl) (Nat.le_of_ble_eq_true rfl) (Nat.le_of_ble_eq_true rfl) (Nat.le_of_ble_eq_true rfl) ?_
    rintro _ n9_ _ ⟨rfl, e9_, rfl⟩
    obtain rfl := e9_.symm
    refine G_aload_n dX8_feed_28 rfl rfl ?_
    refine G_get dX8_feed_29 fg_X8_31 (hx_8 _ _ _) rfl ?_
    refine G_iload_n dX8_feed_32 rfl rfl ?_
    refine G_callV (cx_put _ (mP c + 4 + 4) (pt_13 (pt_13 hP9.1 4) 4) (by omega)) dX8_feed_33 (mc_X8_95 rfl) tw_411 tw_412 (hx_14 _ _ _) rfl rfl rfl (Nat.le_of_ble_eq_true rfl) (Nat.le_of_ble_eq_true rfl) (Nat.le_of_ble_eq_true rfl) (Nat.le_of_ble_eq_true rfl) ?_
    rintro _ n9_ _ ⟨rfl, e9_, rfl⟩
    obtain rfl := e9_.symm
    refine G_aload_n dX8_feed_36 rfl rfl ?_
    refine G_get dX8_feed_37 fg_X8_31 (hx_8 _ _ _) rfl ?_
    refine G_iload dX8_feed_40 rfl ?_
    refine G_callV (cx_put _ (mP c + 4 + 4 + 4) (pt_13 (pt_13 (pt_13 hP9.1 4) 4) 4) (by omega)) dX8_feed_42 (mc_X8_95 rfl) tw_411 tw_412 (hx_14 _ _ _) rfl rfl rfl (Nat.le_of_ble_eq_true rfl) (Nat.le_of_ble_eq_true rfl) (Nat.le_of_ble_eq_true rfl) (Nat.le_of_ble_eq_true rfl) ?_
    rintro _ n9_ _ ⟨rfl, e9_, rfl⟩
    obtain rfl := e9_.symm
    refine G_aload_n dX8_feed_45 rfl rfl ?_
    refine G_get dX8_feed_46 fg_X8_31 (hx_8 _ _ _) rfl ?_
    refine G_iload dX8_feed_49 rfl ?_
    refine G_callV (cx_put _ (mP c + 4 + 4 + 4 + 4) (pt_13 (pt_13 (pt_13 (pt_13 hP9.1 4) 4) 4) 4) (by omega)) dX8_feed_51 (mc_X8_95 rfl) tw_411 tw_412 (hx_14 _ _ _) rfl rfl rfl (Nat.le_of_ble_eq_true rfl) (Nat.le_of_ble_eq_true rfl) (Nat.le_of_ble_eq_true rfl) (Nat.le_of_ble_eq_true rfl) ?_
    rintro _ n9_ _ ⟨rfl, e9_, rfl⟩
    obtain rfl := e9_.symm
    refine G_aload_n dX8_feed_54 rfl rfl ?_
    refine G_get dX8_feed_55 fg_X8_31 (hx_8 _ _ _) rfl ?_
    refine G_get dX8_feed_58 fg_X8_98 (hx_14 _ _ _) rfl ?_
    refine G_iret dX8_feed_61 rfl ?_
    exact c_close ((cif_t (b1_1 c7)).trans (Prod.ext rfl rfl))
  · skip
    refine G_iconst (v := -1) dX8_feed_10 rfl ?_
    refine G_iret dX8_feed_11 rfl ?_
    exact c_close (cif_f (b1_0.mp c7))
set_option maxHeartbeats 4000000 in
set_option maxRecDepth 100000 in
theorem cx_blank {g : gT} {nq_ : Nat} {h : mH} (v : Int32) : M g 0 0 0 kX3_isBlank [.int v] nq_ h (m_Q (.int (b1 (is_bl v))) nq_ h) := by
  refine M_of_G (by decide +kernel) (Nat.le_of_ble_eq_true rfl) ?_
  refine G_iload_n dX3_isBlank_0 rfl rfl ?_
  refine G_bipush (v := 32) dX3_isBlank_1 rfl ?_
  refine G_icmp_eq (tgt := 12) dX3_isBlank_3 (by decide) (fun c3 => ?_) (fun c3 => ?_)
  · skip
    refine G_iconst (v := 1) dX3_isBlank_12 rfl ?_
    refine G_goto (tgt := 17) dX3_isBlank_13 (by decide) ?_
    refine G_zret dX3_isBlank_17 rfl rfl ?_
    first | exact q_t (Or.inl c3) | exact q_t (Or.inr c9) | exact q_f (fun q => q.elim c3 c9)
  · skip
    refine G_iload_n dX3_isBlank_6 rfl rfl ?_
    refine G_bipush (v := 10) dX3_isBlank_7 rfl ?_
    refine G_icmp_ne (tgt := 16) dX3_isBlank_9 (by decide) (fun c9 => ?_) (fun c9 => ?_)
    · skip
      refine G_iconst (v := 0) dX3_isBlank_16 rfl ?_
      refine G_zret dX3_isBlank_17 rfl rfl ?_
      first | exact q_t (Or.inl c3) | exact q_t (Or.inr c9) | exact q_f (fun q => q.elim c3 c9)
    · skip
      refine G_iconst (v := 1) dX3_isBlank_12 rfl ?_
      refine G_goto (tgt := 17) dX3_isBlank_13 (by decide) ?_
      refine G_zret dX3_isBlank_17 rfl rfl ?_
      first | exact q_t (Or.inl c3) | exact q_t (Or.inr c9) | exact q_f (fun q => q.elim c3 c9)
set_option maxHeartbeats 4000000 in
set_option maxRecDepth 100000 in
theorem cx_letter {g : gT} {nq_ : Nat} {h : mH} (v : Int32) : M g 0 0 0 kX3_isLetter [.int v] nq_ h (m_Q (.int (b1 (wi v 97 122))) nq_ h) := by
  refine M_of_G (by decide +kernel) (Nat.le_of_ble_eq_true rfl) ?_
  refine G_iload_n dX3_isLetter_0 rfl rfl ?_
  refine G_bipush (v := 97) dX3_isLetter_1 rfl ?_
  refine G_icmp_lt (tgt := 16) dX3_isLetter_3 (by decide) (fun c3 => ?_) (fun c3 => ?_)
  · skip
    refine G_iconst (v := 0) dX3_isLetter_16 rfl ?_
    refine G_zret dX3_isLetter_17 rfl rfl ?_
    first | exact q_t ⟨Int32.not_lt.mp c3, Int32.not_lt.mp c9⟩ | exact q_f (fun q => absurd q.1 (Int32.not_le.mpr c3)) | exact q_f (fun q => absurd q.2 (Int32.not_le.mpr c9))
  · skip
    refine G_iload_n dX3_isLetter_6 rfl rfl ?_
    refine G_bipush (v := 122) dX3_isLetter_7 rfl ?_
    refine G_icmp_gt (tgt := 16) dX3_isLetter_9 (by decide) (fun c9 => ?_) (fun c9 => ?_)
    · skip
      refine G_iconst (v := 0) dX3_isLetter_16 rfl ?_
      refine G_zret dX3_isLetter_17 rfl rfl ?_
      first | exact q_t ⟨Int32.not_lt.mp c3, Int32.not_lt.mp c9⟩ | exact q_f (fun q => absurd q.1 (Int32.not_le.mpr c3)) | exact q_f (fun q => absurd q.2 (Int32.not_le.mpr c9))
    · skip
      refine G_iconst (v := 1) dX3_isLetter_12 rfl ?_
      refine G_goto (tgt := 17) dX3_isLetter_13 (by decide) ?_
      refine G_zret dX3_isLetter_17 rfl rfl ?_
      first | exact q_t ⟨Int32.not_lt.mp c3, Int32.not_lt.mp c9⟩ | exact q_f (fun q => absurd q.1 (Int32.not_le.mpr c3)) | exact q_f (fun q => absurd q.2 (Int32.not_le.mpr c9))
set_option maxHeartbeats 4000000 in
set_option maxRecDepth 100000 in
theorem cx_digit {g : gT} {nq_ : Nat} {h : mH} (v : Int32) : M g 0 0 0 kX3_isDigit [.int v] nq_ h (m_Q (.int (b1 (wi v 48 57))) nq_ h) := by
  refine M_of_G (by decide +kernel) (Nat.le_of_ble_eq_true rfl) ?_
  refine G_iload_n dX3_isDigit_0 rfl rfl ?_
  refine G_bipush (v := 48) dX3_isDigit_1 rfl ?_
  refine G_icmp_lt (tgt := 16) dX3_isDigit_3 (by decide) (fun c3 => ?_) (fun c3 => ?_)
  · skip
    refine G_iconst (v := 0) dX3_isDigit_16 rfl ?_
    refine G_zret dX3_isDigit_17 rfl rfl ?_
    first | exact q_t ⟨Int32.not_lt.mp c3, Int32.not_lt.mp c9⟩ | exact q_f (fun q => absurd q.1 (Int32.not_le.mpr c3)) | exact q_f (fun q => absurd q.2 (Int32.not_le.mpr c9))
  · skip
    refine G_iload_n dX3_isDigit_6 rfl rfl ?_
    refine G_bipush (v := 57) dX3_isDigit_7 rfl ?_
    refine G_icmp_gt (tgt := 16) dX3_isDigit_9 (by decide) (fun c9 => ?_) (fun c9 => ?_)
    · skip
      refine G_iconst (v := 0) dX3_isDigit_16 rfl ?_
      refine G_zret dX3_isDigit_17 rfl rfl ?_
      first | exact q_t ⟨Int32.not_lt.mp c3, Int32.not_lt.mp c9⟩ | exact q_f (fun q => absurd q.1 (Int32.not_le.mpr c3)) | exact q_f (fun q => absurd q.2 (Int32.not_le.mpr c9))
    · skip
      refine G_iconst (v := 1) dX3_isDigit_12 rfl ?_
      refine G_goto (tgt := 17) dX3_isDigit_13 (by decide) ?_
      refine G_zret dX3_isDigit_17 rfl rfl ?_
      first | exact q_t ⟨Int32.not_lt.mp c3, Int32.not_lt.mp c9⟩ | exact q_f (fun q => absurd q.1 (Int32.not_le.mpr c3)) | exact q_f (fun q => absurd q.2 (Int32.not_le.mpr c9))
noncomputable def c_num (c : mS) (a : Nat) : Nat → Int32
  | 0 => 0
  | m + 1 => c_num c a m * 10 + c_byte c (a + m) - 48
noncomputable def c_nof (c : mS) (a m : Nat) : Int32 := cif (wi (c_byte c a) 48 57 ∧ m ≤ 3) (c_num c a m) (-1)
set_option maxHeartbeats 4000000 in
set_option maxRecDepth 100000 in
theorem cx_numberOf {g : gT} {nq_ n9 : Nat} {sm : mS} {Y : cY} {c : mS} (a m : Nat) (hY : Yok Y c n9) (hC9 : c_inv c) (ham : a + m ≤ 200) : M g 1 0 0 kX3_numberOf [.ref 14, .int (nI a), .int (nI (a + m))] nq_ (hh sm Y c) (m_Q (.int (c_nof c a m)) nq_ (hh sm Y c)) := by
  refine M_of_G (by decide +kernel) (Nat.le_of_ble_eq_true rfl) ?_
  obtain ⟨hI, hG, hgv, hov, hrw, hps⟩ := id hC9
  obtain ⟨hK, hT, hB, hP9, hA, hkf, haf, hbf⟩ := id hI
  have hA2 := hA.2
  have hT2 := hT.2
  have hK2 := hK.2
  have hB2 := hB.2
  have hG2 := hG.2
  have hP2 := hP9.2
  have loop : wi (c_byte c a) 48 57 ∧ m ≤ 3 → ∀ r j, j + r = m → G g 1 0 0 kX3_numberOf 25 [.ref 14, .int (nI a), .int (nI (a + m)), .int (c_num c a j), .int (nI (a + j))] [] nq_ (hh sm Y c) (m_Q (.int (c_nof c a m)) nq_ (hh sm Y c)) := by
    intro hq r
    induction r with
    | zero =>
      intro j hj
      rw [Nat.add_zero] at hj
      subst hj
      refine G_iload dX3_numberOf_25 rfl ?_
      refine G_iload_n dX3_numberOf_27 rfl rfl ?_
      refine G_icmp_ge (tgt := 52) dX3_numberOf_28 (by decide) (fun c28 => ?_) (fun c28 => ?_)
      · skip
        refine G_iload_n dX3_numberOf_52 rfl rfl ?_
        refine G_iret dX3_numberOf_53 rfl ?_
        exact q_e (cif_t hq)
      · skip
        exact absurd (Int32.le_refl _) c28
    | succ r ih =>
      intro j hj
      refine G_iload dX3_numberOf_25 rfl ?_
      refine G_iload_n dX3_numberOf_27 rfl rfl ?_
      refine G_icmp_ge (tgt := 52) dX3_numberOf_28 (by decide) (fun c28 => ?_) (fun c28 => ?_)
      · skip
        exact absurd c28 (by rw [nI_leI (by omega) (by omega)]; omega)
      · skip
        refine G_iload_n dX3_numberOf_31 rfl rfl ?_
        refine G_bipush (v := 10) dX3_numberOf_32 rfl ?_
        refine G_imul dX3_numberOf_34 ?_
        refine G_aload_n dX3_numberOf_35 rfl rfl ?_
        refine G_iload dX3_numberOf_36 rfl ?_
        refine G_callV (cx_byte (a + j) hY hC9 (by omega)) dX3_numberOf_38 (mc_X3_39 rfl) tw_428 tw_429 (hx_14 _ _ _) rfl rfl rfl (Nat.le_of_ble_eq_true rfl) (Nat.le_of_ble_eq_true rfl) (Nat.le_of_ble_eq_true rfl) (Nat.le_of_ble_eq_true rfl) ?_
        rintro _ n9_ _ ⟨rfl, e9_, rfl⟩
        obtain rfl := e9_.symm
        refine G_iadd dX3_numberOf_41 ?_
        refine G_bipush (v := 48) dX3_numberOf_42 rfl ?_
        refine G_isub dX3_numberOf_44 ?_
        refine G_istore_n dX3_numberOf_45 rfl (Nat.le_of_ble_eq_true rfl) rfl ?_
        refine G_iinc (b := nI (a + (j + 1))) dX3_numberOf_46 rfl (nI_1 (a + j)) rfl ?_
        refine G_goto (tgt := 25) dX3_numberOf_49 (by decide) ?_
        exact ih (j + 1) (by omega)
  refine G_aload_n dX3_numberOf_0 rfl rfl ?_
  refine G_iload_n dX3_numberOf_1 rfl rfl ?_
  refine G_callV (cx_byte a hY hC9 (by omega)) dX3_numberOf_2 (mc_X3_39 rfl) tw_428 tw_429 (hx_14 _ _ _) rfl rfl rfl (Nat.le_of_ble_eq_true rfl) (Nat.le_of_ble_eq_true rfl) (Nat.le_of_ble_eq_true rfl) (Nat.le_of_ble_eq_true rfl) ?_
  rintro _ n9_ _ ⟨rfl, e9_, rfl⟩
  obtain rfl := e9_.symm
  refine G_callS (cx_digit _) dX3_numberOf_5 (mc_X3_78 rfl) tw_441 rfl rfl (Nat.le_of_ble_eq_true rfl) (Nat.le_of_ble_eq_true rfl) (Nat.le_of_ble_eq_true rfl) (Nat.le_of_ble_eq_true rfl) ?_
  rintro _ n9_ _ ⟨rfl, e9_, rfl⟩
  obtain rfl := e9_.symm
  refine G_if_eq (tgt := 18) dX3_numberOf_8 (by decide) (fun c8 => ?_) (fun c8 => ?_)
  · skip
    refine G_iconst (v := -1) dX3_numberOf_18 rfl ?_
    refine G_iret dX3_numberOf_19 rfl ?_
    first | exact q_e (cif_f (fun q => b1_0.mp c8 q.1)) | exact q_e (cif_f (fun q => c15 (nI_le q.2 (by decide))))
  · skip
    refine G_iload_n dX3_numberOf_11 rfl rfl ?_
    refine G_iload_n dX3_numberOf_12 rfl rfl ?_
    refine G_isub dX3_numberOf_13 ?_
    refine G_top (w := .int (nI m)) (congrArg Value.int (by rw [nI_sub (by omega), show a + m - a = m by omega])) ?_
    refine G_iconst (v := 3) dX3_numberOf_14 rfl ?_
    refine G_icmp_le (tgt := 20) dX3_numberOf_15 (by decide) (fun c15 => ?_) (fun c15 => ?_)
    · skip
      refine G_iconst (v := 0) dX3_numberOf_20 rfl ?_
      refine G_istore_n dX3_numberOf_21 rfl (Nat.le_of_ble_eq_true rfl) rfl ?_
      refine G_iload_n dX3_numberOf_22 rfl rfl ?_
      refine G_istore dX3_numberOf_23 (Nat.le_of_ble_eq_true rfl) rfl ?_
      exact loop ⟨b1_1 c8, (nI_leI (b := 3) (by omega) (by decide)).mp c15⟩ m 0 (by omega)
    · skip
      refine G_iconst (v := -1) dX3_numberOf_18 rfl ?_
      refine G_iret dX3_numberOf_19 rfl ?_
      first | exact q_e (cif_f (fun q => b1_0.mp c8 q.1)) | exact q_e (cif_f (fun q => c15 (nI_le q.2 (by decide))))
def c_ev (c : mS) (a m : Nat) : Prop := m = 5 ∧ ∀ i, i < 5 → c_byte c (a + i) = evL.getD i 0
set_option maxHeartbeats 4000000 in
set_option maxRecDepth 100000 in
theorem cx_isEvery {g : gT} {nq_ n9 : Nat} {sm : mS} {Y : cY} {c : mS} (a m : Nat) (hY : Yok Y c n9) (hC9 : c_inv c) (ham : a + m ≤ 200) : M g 4 0 0 kX3_isEvery [.ref 14, .int (nI a), .int (nI (a + m))] nq_ (hh sm Y c) (m_Q (.int (b1 (c_ev c a m))) nq_ (hh sm Y c)) := by
  refine M_of_G (by decide +kernel) (Nat.le_of_ble_eq_true rfl) ?_
  obtain ⟨hI, hG, hgv, hov, hrw, hps⟩ := id hC9
  obtain ⟨hK, hT, hB, hP9, hA, hkf, haf, hbf⟩ := id hI
  have hA2 := hA.2
  have hT2 := hT.2
  have hK2 := hK.2
  have hB2 := hB.2
  have hG2 := hG.2
  have hP2 := hP9.2
  have loop : m = 5 → ∀ r j, j + r = 5 → (∀ i, i < j → c_byte c (a + i) = evL.getD i 0) → G g 4 0 0 kX3_isEvery 15 [.ref 14, .int (nI a), .int (nI (a + m)), .int (nI j)] [] nq_ (hh sm Y c) (m_Q (.int (b1 (c_ev c a m))) nq_ (hh sm Y c)) := by
    intro hm r
    induction r with
    | zero =>
      intro j hj hn
      rw [Nat.add_zero] at hj
      subst hj
      refine G_iload_n dX3_isEvery_15 rfl rfl ?_
      refine G_ldcS dX3_isEvery_16 rfl ?_
      refine G_callStr cs_length dX3_isEvery_18 (mc_X3_83 rfl) tw_455 tw_456 rfl rfl rfl (Nat.le_of_ble_eq_true rfl) (Nat.le_of_ble_eq_true rfl) ?_
      rintro _ n9_ _ ⟨rfl, e9_, rfl⟩
      obtain rfl := e9_.symm
      refine G_icmp_ge (tgt := 48) dX3_isEvery_21 (by decide) (fun c21 => ?_) (fun c21 => ?_)
      · skip
        refine G_iconst (v := 1) dX3_isEvery_48 rfl ?_
        refine G_zret dX3_isEvery_49 rfl rfl ?_
        exact q_t ⟨hm, hn⟩
      · skip
        exact absurd (show (5 : Int32) ≤ nI 5 by decide) c21
    | succ r ih =>
      intro j hj hn
      refine G_iload_n dX3_isEvery_15 rfl rfl ?_
      refine G_ldcS dX3_isEvery_16 rfl ?_
      refine G_callStr cs_length dX3_isEvery_18 (mc_X3_83 rfl) tw_455 tw_456 rfl rfl rfl (Nat.le_of_ble_eq_true rfl) (Nat.le_of_ble_eq_true rfl) ?_
      rintro _ n9_ _ ⟨rfl, e9_, rfl⟩
      obtain rfl := e9_.symm
      refine G_icmp_ge (tgt := 48) dX3_isEvery_21 (by decide) (fun c21 => ?_) (fun c21 => ?_)
      · skip
        exact absurd c21 (by rw [show (5 : Int32) = nI 5 from rfl, nI_leI (by decide) (by omega)]; omega)
      · skip
        refine G_aload_n dX3_isEvery_24 rfl rfl ?_
        refine G_iload_n dX3_isEvery_25 rfl rfl ?_
        refine G_iload_n dX3_isEvery_26 rfl rfl ?_
        refine G_iadd dX3_isEvery_27 ?_
        rw [nI_add]
        refine G_callV (cx_byte (a + j) hY hC9 (by omega)) dX3_isEvery_28 (mc_X3_39 rfl) tw_428 tw_429 (hx_14 _ _ _) rfl rfl rfl (Nat.le_of_ble_eq_true rfl) (Nat.le_of_ble_eq_true rfl) (Nat.le_of_ble_eq_true rfl) (Nat.le_of_ble_eq_true rfl) ?_
        rintro _ n9_ _ ⟨rfl, e9_, rfl⟩
        obtain rfl := e9_.symm
        refine G_ldcS dX3_isEvery_31 rfl ?_
        refine G_iload_n dX3_isEvery_33 rfl rfl ?_
        refine G_callStr (cs_ch j (by omega)) dX3_isEvery_34 (mc_X3_88 rfl) tw_465 tw_466 rfl rfl rfl (Nat.le_of_ble_eq_true rfl) (Nat.le_of_ble_eq_true rfl) ?_
        rintro _ n9_ _ ⟨rfl, e9_, rfl⟩
        obtain rfl := e9_.symm
        refine G_icmp_eq (tgt := 42) dX3_isEvery_37 (by decide) (fun c37 => ?_) (fun c37 => ?_)
        · skip
          refine G_iinc (b := nI (j + 1)) dX3_isEvery_42 rfl (nI_1 j) rfl ?_
          refine G_goto (tgt := 15) dX3_isEvery_45 (by decide) ?_
          exact ih (j + 1) (by omega) (lt_s hn c37)
        · skip
          refine G_iconst (v := 0) dX3_isEvery_40 rfl ?_
          refine G_zret dX3_isEvery_41 rfl rfl ?_
          exact q_f (fun q => c37 (q.2 j (by omega)))
  refine G_iload_n dX3_isEvery_0 rfl rfl ?_
  refine G_iload_n dX3_isEvery_1 rfl rfl ?_
  refine G_isub dX3_isEvery_2 ?_
  refine G_top (w := .int (nI m)) (congrArg Value.int (by rw [nI_sub (by omega), show a + m - a = m by omega])) ?_
  refine G_ldcS dX3_isEvery_3 rfl ?_
  refine G_callStr cs_length dX3_isEvery_5 (mc_X3_83 rfl) tw_455 tw_456 rfl rfl rfl (Nat.le_of_ble_eq_true rfl) (Nat.le_of_ble_eq_true rfl) ?_
  rintro _ n9_ _ ⟨rfl, e9_, rfl⟩
  obtain rfl := e9_.symm
  refine G_icmp_eq (tgt := 13) dX3_isEvery_8 (by decide) (fun c8 => ?_) (fun c8 => ?_)
  · skip
    refine G_iconst (v := 0) dX3_isEvery_13 rfl ?_
    refine G_istore_n dX3_isEvery_14 rfl (Nat.le_of_ble_eq_true rfl) rfl ?_
    exact loop ((nI_eq (b := 5) (by omega) (by decide)).mp c8) 5 0 rfl (fun i hi => absurd hi (Nat.not_lt_zero i))
  · skip
    refine G_iconst (v := 0) dX3_isEvery_11 rfl ?_
    refine G_zret dX3_isEvery_12 rfl rfl ?_
    exact q_f (fun q => c8 (by rw [q.1]; rfl))
def c_in (c : mS) (W N : Prop) (e : Nat) : Prop := (W ∧ wi (c_byte c e) 97 122) ∨ (N ∧ wi (c_byte c e) 48 57)
noncomputable def c_et (c : mS) (W N : Prop) : Nat → Nat → Nat
  | 0, e => e
  | f + 1, e => cif (c_in c W N e) (c_et c W N f (e + 1)) e
theorem c_et_b (c : mS) (W N : Prop) : ∀ f e, e ≤ c_et c W N f e ∧ c_et c W N f e ≤ e + f
  | 0, e => ⟨Nat.le_refl _, Nat.le_refl _⟩
  | f + 1, e => by
    have ih := c_et_b c W N f (e + 1)
    show e ≤ cif _ _ _ ∧ cif _ _ _ ≤ e + (f + 1)
    by_cases h : c_in c W N e
    · rw [cif_t h]; omega
    · rw [cif_f h]; omega
noncomputable def c_eot (c : mS) (a : Nat) : Nat := c_et c (wi (c_byte c a) 97 122) (wi (c_byte c a) 48 57) (mP c - (a + 1)) (a + 1)
set_option maxHeartbeats 4000000 in
set_option maxRecDepth 100000 in
theorem cx_eot {g : gT} {nq_ n9 : Nat} {sm : mS} {Y : cY} {c : mS} (a : Nat) (hY : Yok Y c n9) (hC9 : c_inv c) (ha9 : a < mP c) : M g 1 0 0 kX3_endOfToken [.ref 14, .int (nI a)] nq_ (hh sm Y c) (m_Q (.int (nI (c_eot c a))) nq_ (hh sm Y c)) := by
  refine M_of_G (by decide +kernel) (Nat.le_of_ble_eq_true rfl) ?_
  obtain ⟨hI, hG, hgv, hov, hrw, hps⟩ := id hC9
  obtain ⟨hK, hT, hB, hP9, hA, hkf, haf, hbf⟩ := id hI
  have hA2 := hA.2
  have hT2 := hT.2
  have hK2 := hK.2
  have hB2 := hB.2
  have hG2 := hG.2
  have hP2 := hP9.2
  have loop : ∀ f e, e + f = mP c → c_eot c a = c_et c (wi (c_byte c a) 97 122) (wi (c_byte c a) 48 57) f e → G g 1 0 0 kX3_endOfToken 23 [.ref 14, .int (nI a), .int (b1 (wi (c_byte c a) 97 122)), .int (b1 (wi (c_byte c a) 48 57)), .int (nI e)] [] nq_ (hh sm Y c) (m_Q (.int (nI (c_eot c a))) nq_ (hh sm Y c)) := by
    intro f
    induction f with
    | zero =>
      intro e he hs
      rw [Nat.add_zero] at he
      refine G_iload dX3_endOfToken_23 rfl ?_
      refine G_aload_n dX3_endOfToken_25 rfl rfl ?_
      refine G_get dX3_endOfToken_26 fg_X3_34 (hx_14 _ _ _) rfl ?_
      refine G_icmp_ge (tgt := 70) dX3_endOfToken_29 (by decide) (fun c29 => ?_) (fun c29 => ?_)
      · skip
        refine G_iload dX3_endOfToken_70 rfl ?_
        refine G_iret dX3_endOfToken_72 rfl ?_
        exact q_e (congrArg nI hs)
      · skip
        exact absurd (by rw [hP9.1, he]; exact Int32.le_refl _) c29
    | succ f ih =>
      intro e he hs
      refine G_iload dX3_endOfToken_23 rfl ?_
      refine G_aload_n dX3_endOfToken_25 rfl rfl ?_
      refine G_get dX3_endOfToken_26 fg_X3_34 (hx_14 _ _ _) rfl ?_
      refine G_icmp_ge (tgt := 70) dX3_endOfToken_29 (by decide) (fun c29 => ?_) (fun c29 => ?_)
      · skip
        exact absurd c29 (by rw [hP9.1, nI_leI (by omega) (by omega)]; omega)
      · skip
        refine G_iload_n dX3_endOfToken_32 rfl rfl ?_
        refine G_if_eq (tgt := 48) dX3_endOfToken_33 (by decide) (fun c33 => ?_) (fun c33 => ?_)
        · skip
          refine G_iload_n dX3_endOfToken_48 rfl rfl ?_
          refine G_if_eq (tgt := 70) dX3_endOfToken_49 (by decide) (fun c49 => ?_) (fun c49 => ?_)
          · skip
            refine G_iload dX3_endOfToken_70 rfl ?_
            refine G_iret dX3_endOfToken_72 rfl ?_
            exact q_e (congrArg nI (hs.trans (cif_f (fun q => q.elim (fun z => by first | exact b1_0.mp c33 z.1 | exact b1_0.mp c45 z.2) (fun z => by first | exact b1_0.mp c49 z.1 | exact b1_0.mp c61 z.2)))))
          · skip
            refine G_aload_n dX3_endOfToken_52 rfl rfl ?_
            refine G_iload dX3_endOfToken_53 rfl ?_
            refine G_callV (cx_byte e hY hC9 (by omega)) dX3_endOfToken_55 (mc_X3_39 rfl) tw_428 tw_429 (hx_14 _ _ _) rfl rfl rfl (Nat.le_of_ble_eq_true rfl) (Nat.le_of_ble_eq_true rfl) (Nat.le_of_ble_eq_true rfl) (Nat.le_of_ble_eq_true rfl) ?_
            rintro _ n9_ _ ⟨rfl, e9_, rfl⟩
            obtain rfl := e9_.symm
            refine G_callS (cx_digit _) dX3_endOfToken_58 (mc_X3_78 rfl) tw_441 rfl rfl (Nat.le_of_ble_eq_true rfl) (Nat.le_of_ble_eq_true rfl) (Nat.le_of_ble_eq_true rfl) (Nat.le_of_ble_eq_true rfl) ?_
            rintro _ n9_ _ ⟨rfl, e9_, rfl⟩
            obtain rfl := e9_.symm
            refine G_if_eq (tgt := 70) dX3_endOfToken_61 (by decide) (fun c61 => ?_) (fun c61 => ?_)
            · skip
              refine G_iload dX3_endOfToken_70 rfl ?_
              refine G_iret dX3_endOfToken_72 rfl ?_
              exact q_e (congrArg nI (hs.trans (cif_f (fun q => q.elim (fun z => by first | exact b1_0.mp c33 z.1 | exact b1_0.mp c45 z.2) (fun z => by first | exact b1_0.mp c49 z.1 | exact b1_0.mp c61 z.2)))))
            · skip
              refine G_iinc (b := nI (e + 1)) dX3_endOfToken_64 rfl (nI_1 e) rfl ?_
              refine G_goto (tgt := 23) dX3_endOfToken_67 (by decide) ?_
              exact ih (e + 1) (by omega) (hs.trans (by first | exact cif_t (Or.inl ⟨b1_1 c33, b1_1 c45⟩) | exact cif_t (Or.inr ⟨b1_1 c49, b1_1 c61⟩)))
        · skip
          refine G_aload_n dX3_endOfToken_36 rfl rfl ?_
          refine G_iload dX3_endOfToken_37 rfl ?_
          refine G_callV (cx_byte e hY hC9 (by omega)) dX3_endOfToken_39 (mc_X3_39 rfl) tw_428 tw_429 (hx_14 _ _ _) rfl rfl rfl (Nat.le_of_ble_eq_true rfl) (Nat.le_of_ble_eq_true rfl) (Nat.le_of_ble_eq_true rfl) (Nat.le_of_ble_eq_true rfl) ?_
          rintro _ n9_ _ ⟨rfl, e9_, rfl⟩
          obtain rfl := e9_.symm
          refine G_callS (cx_letter _) dX3_endOfToken_42 (mc_X3_75 rfl) tw_438 rfl rfl (Nat.le_of_ble_eq_true rfl) (Nat.le_of_ble_eq_true rfl) (Nat.le_of_ble_eq_true rfl) (Nat.le_of_ble_eq_true rfl) ?_
          rintro _ n9_ _ ⟨rfl, e9_, rfl⟩
          obtain rfl := e9_.symm
          refine G_if_ne (tgt := 64) dX3_endOfToken_45 (by decide) (fun c45 => ?_) (fun c45 => ?_)
          · skip
            refine G_iinc (b := nI (e + 1)) dX3_endOfToken_64 rfl (nI_1 e) rfl ?_
            refine G_goto (tgt := 23) dX3_endOfToken_67 (by decide) ?_
            exact ih (e + 1) (by omega) (hs.trans (by first | exact cif_t (Or.inl ⟨b1_1 c33, b1_1 c45⟩) | exact cif_t (Or.inr ⟨b1_1 c49, b1_1 c61⟩)))
          · skip
            refine G_iload_n dX3_endOfToken_48 rfl rfl ?_
            refine G_if_eq (tgt := 70) dX3_endOfToken_49 (by decide) (fun c49 => ?_) (fun c49 => ?_)
            · skip
              refine G_iload dX3_endOfToken_70 rfl ?_
              refine G_iret dX3_endOfToken_72 rfl ?_
              exact q_e (congrArg nI (hs.trans (cif_f (fun q => q.elim (fun z => by first | exact b1_0.mp c33 z.1 | exact b1_0.mp c45 z.2) (fun z => by first | exact b1_0.mp c49 z.1 | exact b1_0.mp c61 z.2)))))
            · skip
              refine G_aload_n dX3_endOfToken_52 rfl rfl ?_
              refine G_iload dX3_endOfToken_53 rfl ?_
              refine G_callV (cx_byte e hY hC9 (by omega)) dX3_endOfToken_55 (mc_X3_39 rfl) tw_428 tw_429 (hx_14 _ _ _) rfl rfl rfl (Nat.le_of_ble_eq_true rfl) (Nat.le_of_ble_eq_true rfl) (Nat.le_of_ble_eq_true rfl) (Nat.le_of_ble_eq_true rfl) ?_
              rintro _ n9_ _ ⟨rfl, e9_, rfl⟩
              obtain rfl := e9_.symm
              refine G_callS (cx_digit _) dX3_endOfToken_58 (mc_X3_78 rfl) tw_441 rfl rfl (Nat.le_of_ble_eq_true rfl) (Nat.le_of_ble_eq_true rfl) (Nat.le_of_ble_eq_true rfl) (Nat.le_of_ble_eq_true rfl) ?_
              rintro _ n9_ _ ⟨rfl, e9_, rfl⟩
              obtain rfl := e9_.symm
              refine G_if_eq (tgt := 70) dX3_endOfToken_61 (by decide) (fun c61 => ?_) (fun c61 => ?_)
              · skip
                refine G_iload dX3_endOfToken_70 rfl ?_
                refine G_iret dX3_endOfToken_72 rfl ?_
                exact q_e (congrArg nI (hs.trans (cif_f (fun q => q.elim (fun z => by first | exact b1_0.mp c33 z.1 | exact b1_0.mp c45 z.2) (fun z => by first | exact b1_0.mp c49 z.1 | exact b1_0.mp c61 z.2)))))
              · skip
                refine G_iinc (b := nI (e + 1)) dX3_endOfToken_64 rfl (nI_1 e) rfl ?_
                refine G_goto (tgt := 23) dX3_endOfToken_67 (by decide) ?_
                exact ih (e + 1) (by omega) (hs.trans (by first | exact cif_t (Or.inl ⟨b1_1 c33, b1_1 c45⟩) | exact cif_t (Or.inr ⟨b1_1 c49, b1_1 c61⟩)))
  refine G_aload_n dX3_endOfToken_0 rfl rfl ?_
  refine G_iload_n dX3_endOfToken_1 rfl rfl ?_
  refine G_callV (cx_byte a hY hC9 (by omega)) dX3_endOfToken_2 (mc_X3_39 rfl) tw_428 tw_429 (hx_14 _ _ _) rfl rfl rfl (Nat.le_of_ble_eq_true rfl) (Nat.le_of_ble_eq_true rfl) (Nat.le_of_ble_eq_true rfl) (Nat.le_of_ble_eq_true rfl) ?_
  rintro _ n9_ _ ⟨rfl, e9_, rfl⟩
  obtain rfl := e9_.symm
  refine G_callS (cx_letter _) dX3_endOfToken_5 (mc_X3_75 rfl) tw_438 rfl rfl (Nat.le_of_ble_eq_true rfl) (Nat.le_of_ble_eq_true rfl) (Nat.le_of_ble_eq_true rfl) (Nat.le_of_ble_eq_true rfl) ?_
  rintro _ n9_ _ ⟨rfl, e9_, rfl⟩
  obtain rfl := e9_.symm
  refine G_istore_n dX3_endOfToken_8 rfl (Nat.le_of_ble_eq_true rfl) rfl ?_
  refine G_aload_n dX3_endOfToken_9 rfl rfl ?_
  refine G_iload_n dX3_endOfToken_10 rfl rfl ?_
  refine G_callV (cx_byte a hY hC9 (by omega)) dX3_endOfToken_11 (mc_X3_39 rfl) tw_428 tw_429 (hx_14 _ _ _) rfl rfl rfl (Nat.le_of_ble_eq_true rfl) (Nat.le_of_ble_eq_true rfl) (Nat.le_of_ble_eq_true rfl) (Nat.le_of_ble_eq_true rfl) ?_
  rintro _ n9_ _ ⟨rfl, e9_, rfl⟩
  obtain rfl := e9_.symm
  refine G_callS (cx_digit _) dX3_endOfToken_14 (mc_X3_78 rfl) tw_441 rfl rfl (Nat.le_of_ble_eq_true rfl) (Nat.le_of_ble_eq_true rfl) (Nat.le_of_ble_eq_true rfl) (Nat.le_of_ble_eq_true rfl) ?_
  rintro _ n9_ _ ⟨rfl, e9_, rfl⟩
  obtain rfl := e9_.symm
  refine G_istore_n dX3_endOfToken_17 rfl (Nat.le_of_ble_eq_true rfl) rfl ?_
  refine G_iload_n dX3_endOfToken_18 rfl rfl ?_
  refine G_iconst (v := 1) dX3_endOfToken_19 rfl ?_
  refine G_iadd dX3_endOfToken_20 ?_
  rw [nI_1]
  refine G_istore dX3_endOfToken_21 (Nat.le_of_ble_eq_true rfl) rfl ?_
  exact loop (mP c - (a + 1)) (a + 1) (by omega) rfl
def c_bl (c : mS) (v a : Int32) : mS := m_set (m_set c 61 0 v) 62 0 a
noncomputable def c_tkk (c : mS) (v a K : Int32) : mS := cif (v < K) (m_set (m_set c 64 0 v) 63 0 2) (c_bl c 2 a)
noncomputable def c_tkd (c : mS) (v : Int32) : mS := cif (c 64 0 < 0 ∨ 8 ≤ c 64 0) (m_set c 63 0 3) (m_set (m_set c 60 (ix (c 64 0)) v) 63 0 3)
noncomputable def c_take (c : mS) (a m : Nat) (K : Int32) : mS := cif (c 63 0 = 0 ∧ c_ev c a m) (m_set c 63 0 1) (cif (c 63 0 = 1 ∧ ¬ c_nof c a m = -1) (c_tkk c (c_nof c a m) (nI a) K) (cif (c 63 0 = 2 ∧ ¬ c_nof c a m = -1) (c_tkd c (c_nof c a m)) (cif (c 63 0 = 3 ∧ c_byte c a = 59) (m_set c 63 0 0) (c_bl c 1 (nI a)))))
theorem v_cc {nq_ : Nat} {sm : mS} {Y : cY} {u u' : mS} (e : u = u') : c_V nq_ sm Y u none nq_ (hh sm Y u') := by subst e; exact ⟨rfl, rfl, rfl⟩
set_option maxHeartbeats 4000000 in
set_option maxRecDepth 100000 in
theorem cx_blame {g : gT} {nq_ : Nat} {sm : mS} {Y : cY} {c : mS} (v a : Int32) : M g 0 0 0 kX3_blame [.ref 16, .int v, .int a] nq_ (hh sm Y c) (c_V nq_ sm Y (c_bl c v a)) := by
  refine M_of_G (by decide +kernel) (Nat.le_of_ble_eq_true rfl) ?_
  refine G_aload_n dX3_blame_0 rfl rfl ?_
  refine G_iload_n dX3_blame_1 rfl rfl ?_
  refine GC_flt dX3_blame_2 fp_X3_15 ?_
  refine G_aload_n dX3_blame_5 rfl rfl ?_
  refine G_iload_n dX3_blame_6 rfl rfl ?_
  refine GC_rpl dX3_blame_7 fp_X3_19 ?_
  refine G_vret dX3_blame_10 rfl ?_
  exact ⟨rfl, rfl, rfl⟩
set_option maxHeartbeats 4000000 in
set_option maxRecDepth 100000 in
theorem cx_takeDays {g : gT} {nq_ : Nat} {sm : mS} {Y : cY} {c : mS} (v : Int32) : M g 0 0 0 kX3_takeDays [.ref 16, .int v] nq_ (hh sm Y c) (c_V nq_ sm Y (c_tkd c v)) := by
  refine M_of_G (by decide +kernel) (Nat.le_of_ble_eq_true rfl) ?_
  refine G_aload_n dX3_takeDays_0 rfl rfl ?_
  refine G_get dX3_takeDays_1 fg_X3_25 (hx_16 _ _ _) rfl ?_
  refine G_if_lt (tgt := 26) dX3_takeDays_4 (by decide) (fun c4 => ?_) (fun c4 => ?_)
  · skip
    refine G_aload_n dX3_takeDays_26 rfl rfl ?_
    refine G_iconst (v := 3) dX3_takeDays_27 rfl ?_
    refine GC_due dX3_takeDays_28 fp_X3_22 ?_
    refine G_vret dX3_takeDays_31 rfl ?_
    first | exact v_cc (cif_t (Or.inl c4)) | exact v_cc (cif_t (Or.inr c13)) | exact v_cc (cif_f (fun q => q.elim c4 c13))
  · skip
    refine G_aload_n dX3_takeDays_7 rfl rfl ?_
    refine G_get dX3_takeDays_8 fg_X3_25 (hx_16 _ _ _) rfl ?_
    refine G_bipush (v := 8) dX3_takeDays_11 rfl ?_
    refine G_icmp_ge (tgt := 26) dX3_takeDays_13 (by decide) (fun c13 => ?_) (fun c13 => ?_)
    · skip
      refine G_aload_n dX3_takeDays_26 rfl rfl ?_
      refine G_iconst (v := 3) dX3_takeDays_27 rfl ?_
      refine GC_due dX3_takeDays_28 fp_X3_22 ?_
      refine G_vret dX3_takeDays_31 rfl ?_
      first | exact v_cc (cif_t (Or.inl c4)) | exact v_cc (cif_t (Or.inr c13)) | exact v_cc (cif_f (fun q => q.elim c4 c13))
    · skip
      have h64 : c 64 0 = nI (ix (c 64 0)) ∧ ix (c 64 0) < 8 := by
        obtain ⟨j, hj, e⟩ := nI_of c4
        rw [e, show (8 : Int32) = nI 8 from rfl, nI_leI (by decide) hj] at c13
        rw [e, show ix (nI j) = j from nI_clamp hj]
        exact ⟨rfl, by omega⟩
      refine G_aload_n dX3_takeDays_16 rfl rfl ?_
      refine G_get dX3_takeDays_17 fg_X3_9 (hx_16 _ _ _) rfl ?_
      refine G_aload_n dX3_takeDays_20 rfl rfl ?_
      refine G_get dX3_takeDays_21 fg_X3_25 (hx_16 _ _ _) rfl ?_
      refine G_iload_n dX3_takeDays_24 rfl rfl ?_
      refine GC_rwt dX3_takeDays_25 h64 ?_
      refine G_aload_n dX3_takeDays_26 rfl rfl ?_
      refine G_iconst (v := 3) dX3_takeDays_27 rfl ?_
      refine GC_due dX3_takeDays_28 fp_X3_22 ?_
      refine G_vret dX3_takeDays_31 rfl ?_
      first | exact v_cc (cif_t (Or.inl c4)) | exact v_cc (cif_t (Or.inr c13)) | exact v_cc (cif_f (fun q => q.elim c4 c13))
set_option maxHeartbeats 4000000 in
set_option maxRecDepth 100000 in
theorem cx_takeKind {g : gT} {nq_ : Nat} {sm : mS} {Y : cY} {c : mS} (v a K : Int32) : M g 1 0 0 kX3_takeKind [.ref 16, .int v, .int a, .int K] nq_ (hh sm Y c) (c_V nq_ sm Y (c_tkk c v a K)) := by
  refine M_of_G (by decide +kernel) (Nat.le_of_ble_eq_true rfl) ?_
  refine G_iload_n dX3_takeKind_0 rfl rfl ?_
  refine G_iload_n dX3_takeKind_1 rfl rfl ?_
  refine G_icmp_lt (tgt := 12) dX3_takeKind_2 (by decide) (fun c2 => ?_) (fun c2 => ?_)
  · skip
    refine G_aload_n dX3_takeKind_12 rfl rfl ?_
    refine G_iload_n dX3_takeKind_13 rfl rfl ?_
    refine GC_ktd dX3_takeKind_14 fp_X3_25 ?_
    refine G_aload_n dX3_takeKind_17 rfl rfl ?_
    refine G_iconst (v := 2) dX3_takeKind_18 rfl ?_
    refine GC_due dX3_takeKind_19 fp_X3_22 ?_
    refine G_vret dX3_takeKind_22 rfl ?_
    exact v_cc (cif_t c2)
  · skip
    refine G_aload_n dX3_takeKind_5 rfl rfl ?_
    refine G_iconst (v := 2) dX3_takeKind_6 rfl ?_
    refine G_iload_n dX3_takeKind_7 rfl rfl ?_
    refine G_callV (cx_blame _ _) dX3_takeKind_8 (mc_X3_55 rfl) tw_506 tw_6 (hx_16 _ _ _) rfl rfl rfl (Nat.le_of_ble_eq_true rfl) (Nat.le_of_ble_eq_true rfl) (Nat.le_of_ble_eq_true rfl) (Nat.le_of_ble_eq_true rfl) ?_
    rintro _ n9_ _ ⟨rfl, e9_, rfl⟩
    obtain rfl := e9_.symm
    refine G_vret dX3_takeKind_11 rfl ?_
    exact v_cc (cif_f c2)
set_option maxHeartbeats 4000000 in
set_option maxRecDepth 100000 in
theorem cx_take {g : gT} {nq_ n9 : Nat} {sm : mS} {Y : cY} {c : mS} (a m : Nat) (K : Int32) (hY : Yok Y c n9) (hC9 : c_inv c) (ham : a + m ≤ 200) : M g 5 0 0 kX3_take [.ref 16, .ref 14, .int (nI a), .int (nI (a + m)), .int K] nq_ (hh sm Y c) (c_V nq_ sm Y (c_take c a m K)) := by
  refine M_of_G (by decide +kernel) (Nat.le_of_ble_eq_true rfl) ?_
  obtain ⟨hI, hG, hgv, hov, hrw, hps⟩ := id hC9
  obtain ⟨hK, hT, hB, hP9, hA, hkf, haf, hbf⟩ := id hI
  have hA2 := hA.2
  have hT2 := hT.2
  have hK2 := hK.2
  have hB2 := hB.2
  have hG2 := hG.2
  have hP2 := hP9.2
  refine G_aload_n dX3_take_0 rfl rfl ?_
  refine G_iload_n dX3_take_1 rfl rfl ?_
  refine G_iload_n dX3_take_2 rfl rfl ?_
  refine G_callS (cx_numberOf a m hY hC9 ham) dX3_take_3 (mc_X3_59 rfl) tw_448 rfl rfl (Nat.le_of_ble_eq_true rfl) (Nat.le_of_ble_eq_true rfl) (Nat.le_of_ble_eq_true rfl) (Nat.le_of_ble_eq_true rfl) ?_
  rintro _ n9_ _ ⟨rfl, e9_, rfl⟩
  obtain rfl := e9_.symm
  refine G_istore dX3_take_6 (Nat.le_of_ble_eq_true rfl) rfl ?_
  refine G_aload_n dX3_take_8 rfl rfl ?_
  refine G_get dX3_take_9 fg_X3_22 (hx_16 _ _ _) rfl ?_
  refine G_if_ne (tgt := 32) dX3_take_12 (by decide) (fun c12 => ?_) (fun c12 => ?_)
  · skip
    refine G_aload_n dX3_take_32 rfl rfl ?_
    refine G_get dX3_take_33 fg_X3_22 (hx_16 _ _ _) rfl ?_
    refine G_iconst (v := 1) dX3_take_36 rfl ?_
    refine G_icmp_ne (tgt := 58) dX3_take_37 (by decide) (fun c37 => ?_) (fun c37 => ?_)
    · skip
      refine G_aload_n dX3_take_58 rfl rfl ?_
      refine G_get dX3_take_59 fg_X3_22 (hx_16 _ _ _) rfl ?_
      refine G_iconst (v := 2) dX3_take_62 rfl ?_
      refine G_icmp_ne (tgt := 81) dX3_take_63 (by decide) (fun c63 => ?_) (fun c63 => ?_)
      · skip
        refine G_aload_n dX3_take_81 rfl rfl ?_
        refine G_get dX3_take_82 fg_X3_22 (hx_16 _ _ _) rfl ?_
        refine G_iconst (v := 3) dX3_take_85 rfl ?_
        refine G_icmp_ne (tgt := 107) dX3_take_86 (by decide) (fun c86 => ?_) (fun c86 => ?_)
        · skip
          refine G_aload_n dX3_take_107 rfl rfl ?_
          refine G_iconst (v := 1) dX3_take_108 rfl ?_
          refine G_iload_n dX3_take_109 rfl rfl ?_
          refine G_callV (cx_blame _ _) dX3_take_110 (mc_X3_55 rfl) tw_506 tw_6 (hx_16 _ _ _) rfl rfl rfl (Nat.le_of_ble_eq_true rfl) (Nat.le_of_ble_eq_true rfl) (Nat.le_of_ble_eq_true rfl) (Nat.le_of_ble_eq_true rfl) ?_
          rintro _ n9_ _ ⟨rfl, e9_, rfl⟩
          obtain rfl := e9_.symm
          refine G_vret dX3_take_113 rfl ?_
          first | exact v_cc (cif_t ⟨c12, b1_1 c21⟩) | exact v_cc ((cif_f (by first | exact (fun q => c12 q.1) | exact (fun q => b1_0.mp c21 q.2))).trans (cif_t ⟨c37, c43⟩)) | exact v_cc ((cif_f (by first | exact (fun q => c12 q.1) | exact (fun q => b1_0.mp c21 q.2))).trans ((cif_f (by first | exact (fun q => c37 q.1) | exact (fun q => q.2 c43))).trans (cif_t ⟨c63, c69⟩))) | exact v_cc ((cif_f (by first | exact (fun q => c12 q.1) | exact (fun q => b1_0.mp c21 q.2))).trans ((cif_f (by first | exact (fun q => c37 q.1) | exact (fun q => q.2 c43))).trans ((cif_f (by first | exact (fun q => c63 q.1) | exact (fun q => q.2 c69))).trans (cif_t ⟨c86, c96⟩)))) | exact v_cc ((cif_f (by first | exact (fun q => c12 q.1) | exact (fun q => b1_0.mp c21 q.2))).trans ((cif_f (by first | exact (fun q => c37 q.1) | exact (fun q => q.2 c43))).trans ((cif_f (by first | exact (fun q => c63 q.1) | exact (fun q => q.2 c69))).trans (cif_f (by first | exact (fun q => c86 q.1) | exact (fun q => c96 q.2))))))
        · skip
          refine G_aload_n dX3_take_89 rfl rfl ?_
          refine G_iload_n dX3_take_90 rfl rfl ?_
          refine G_callV (cx_byte a hY hC9 (by omega)) dX3_take_91 (mc_X3_39 rfl) tw_428 tw_429 (hx_14 _ _ _) rfl rfl rfl (Nat.le_of_ble_eq_true rfl) (Nat.le_of_ble_eq_true rfl) (Nat.le_of_ble_eq_true rfl) (Nat.le_of_ble_eq_true rfl) ?_
          rintro _ n9_ _ ⟨rfl, e9_, rfl⟩
          obtain rfl := e9_.symm
          refine G_bipush (v := 59) dX3_take_94 rfl ?_
          refine G_icmp_ne (tgt := 107) dX3_take_96 (by decide) (fun c96 => ?_) (fun c96 => ?_)
          · skip
            refine G_aload_n dX3_take_107 rfl rfl ?_
            refine G_iconst (v := 1) dX3_take_108 rfl ?_
            refine G_iload_n dX3_take_109 rfl rfl ?_
            refine G_callV (cx_blame _ _) dX3_take_110 (mc_X3_55 rfl) tw_506 tw_6 (hx_16 _ _ _) rfl rfl rfl (Nat.le_of_ble_eq_true rfl) (Nat.le_of_ble_eq_true rfl) (Nat.le_of_ble_eq_true rfl) (Nat.le_of_ble_eq_true rfl) ?_
            rintro _ n9_ _ ⟨rfl, e9_, rfl⟩
            obtain rfl := e9_.symm
            refine G_vret dX3_take_113 rfl ?_
            first | exact v_cc (cif_t ⟨c12, b1_1 c21⟩) | exact v_cc ((cif_f (by first | exact (fun q => c12 q.1) | exact (fun q => b1_0.mp c21 q.2))).trans (cif_t ⟨c37, c43⟩)) | exact v_cc ((cif_f (by first | exact (fun q => c12 q.1) | exact (fun q => b1_0.mp c21 q.2))).trans ((cif_f (by first | exact (fun q => c37 q.1) | exact (fun q => q.2 c43))).trans (cif_t ⟨c63, c69⟩))) | exact v_cc ((cif_f (by first | exact (fun q => c12 q.1) | exact (fun q => b1_0.mp c21 q.2))).trans ((cif_f (by first | exact (fun q => c37 q.1) | exact (fun q => q.2 c43))).trans ((cif_f (by first | exact (fun q => c63 q.1) | exact (fun q => q.2 c69))).trans (cif_t ⟨c86, c96⟩)))) | exact v_cc ((cif_f (by first | exact (fun q => c12 q.1) | exact (fun q => b1_0.mp c21 q.2))).trans ((cif_f (by first | exact (fun q => c37 q.1) | exact (fun q => q.2 c43))).trans ((cif_f (by first | exact (fun q => c63 q.1) | exact (fun q => q.2 c69))).trans (cif_f (by first | exact (fun q => c86 q.1) | exact (fun q => c96 q.2))))))
          · skip
            refine G_aload_n dX3_take_99 rfl rfl ?_
            refine G_iconst (v := 0) dX3_take_100 rfl ?_
            refine GC_due dX3_take_101 fp_X3_22 ?_
            refine G_goto (tgt := 113) dX3_take_104 (by decide) ?_
            refine G_vret dX3_take_113 rfl ?_
            first | exact v_cc (cif_t ⟨c12, b1_1 c21⟩) | exact v_cc ((cif_f (by first | exact (fun q => c12 q.1) | exact (fun q => b1_0.mp c21 q.2))).trans (cif_t ⟨c37, c43⟩)) | exact v_cc ((cif_f (by first | exact (fun q => c12 q.1) | exact (fun q => b1_0.mp c21 q.2))).trans ((cif_f (by first | exact (fun q => c37 q.1) | exact (fun q => q.2 c43))).trans (cif_t ⟨c63, c69⟩))) | exact v_cc ((cif_f (by first | exact (fun q => c12 q.1) | exact (fun q => b1_0.mp c21 q.2))).trans ((cif_f (by first | exact (fun q => c37 q.1) | exact (fun q => q.2 c43))).trans ((cif_f (by first | exact (fun q => c63 q.1) | exact (fun q => q.2 c69))).trans (cif_t ⟨c86, c96⟩)))) | exact v_cc ((cif_f (by first | exact (fun q => c12 q.1) | exact (fun q => b1_0.mp c21 q.2))).trans ((cif_f (by first | exact (fun q => c37 q.1) | exact (fun q => q.2 c43))).trans ((cif_f (by first | exact (fun q => c63 q.1) | exact (fun q => q.2 c69))).trans (cif_f (by first | exact (fun q => c86 q.1) | exact (fun q => c96 q.2))))))
      · skip
        refine G_iload dX3_take_66 rfl ?_
        refine G_iconst (v := -1) dX3_take_68 rfl ?_
        refine G_icmp_eq (tgt := 81) dX3_take_69 (by decide) (fun c69 => ?_) (fun c69 => ?_)
        · skip
          refine G_aload_n dX3_take_81 rfl rfl ?_
          refine G_get dX3_take_82 fg_X3_22 (hx_16 _ _ _) rfl ?_
          refine G_iconst (v := 3) dX3_take_85 rfl ?_
          refine G_icmp_ne (tgt := 107) dX3_take_86 (by decide) (fun c86 => ?_) (fun c86 => ?_)
          · skip
            refine G_aload_n dX3_take_107 rfl rfl ?_
            refine G_iconst (v := 1) dX3_take_108 rfl ?_
            refine G_iload_n dX3_take_109 rfl rfl ?_
            refine G_callV (cx_blame _ _) dX3_take_110 (mc_X3_55 rfl) tw_506 tw_6 (hx_16 _ _ _) rfl rfl rfl (Nat.le_of_ble_eq_true rfl) (Nat.le_of_ble_eq_true rfl) (Nat.le_of_ble_eq_true rfl) (Nat.le_of_ble_eq_true rfl) ?_
            rintro _ n9_ _ ⟨rfl, e9_, rfl⟩
            obtain rfl := e9_.symm
            refine G_vret dX3_take_113 rfl ?_
            first | exact v_cc (cif_t ⟨c12, b1_1 c21⟩) | exact v_cc ((cif_f (by first | exact (fun q => c12 q.1) | exact (fun q => b1_0.mp c21 q.2))).trans (cif_t ⟨c37, c43⟩)) | exact v_cc ((cif_f (by first | exact (fun q => c12 q.1) | exact (fun q => b1_0.mp c21 q.2))).trans ((cif_f (by first | exact (fun q => c37 q.1) | exact (fun q => q.2 c43))).trans (cif_t ⟨c63, c69⟩))) | exact v_cc ((cif_f (by first | exact (fun q => c12 q.1) | exact (fun q => b1_0.mp c21 q.2))).trans ((cif_f (by first | exact (fun q => c37 q.1) | exact (fun q => q.2 c43))).trans ((cif_f (by first | exact (fun q => c63 q.1) | exact (fun q => q.2 c69))).trans (cif_t ⟨c86, c96⟩)))) | exact v_cc ((cif_f (by first | exact (fun q => c12 q.1) | exact (fun q => b1_0.mp c21 q.2))).trans ((cif_f (by first | exact (fun q => c37 q.1) | exact (fun q => q.2 c43))).trans ((cif_f (by first | exact (fun q => c63 q.1) | exact (fun q => q.2 c69))).trans (cif_f (by first | exact (fun q => c86 q.1) | exact (fun q => c96 q.2))))))
          · skip
            refine G_aload_n dX3_take_89 rfl rfl ?_
            refine G_iload_n dX3_take_90 rfl rfl ?_
            refine G_callV (cx_byte a hY hC9 (by omega)) dX3_take_91 (mc_X3_39 rfl) tw_428 tw_429 (hx_14 _ _ _) rfl rfl rfl (Nat.le_of_ble_eq_true rfl) (Nat.le_of_ble_eq_true rfl) (Nat.le_of_ble_eq_true rfl) (Nat.le_of_ble_eq_true rfl) ?_
            rintro _ n9_ _ ⟨rfl, e9_, rfl⟩
            obtain rfl := e9_.symm
            refine G_bipush (v := 59) dX3_take_94 rfl ?_
            refine G_icmp_ne (tgt := 107) dX3_take_96 (by decide) (fun c96 => ?_) (fun c96 => ?_)
            · skip
              refine G_aload_n dX3_take_107 rfl rfl ?_
              refine G_iconst (v := 1) dX3_take_108 rfl ?_
              refine G_iload_n dX3_take_109 rfl rfl ?_
              refine G_callV (cx_blame _ _) dX3_take_110 (mc_X3_55 rfl) tw_506 tw_6 (hx_16 _ _ _) rfl rfl rfl (Nat.le_of_ble_eq_true rfl) (Nat.le_of_ble_eq_true rfl) (Nat.le_of_ble_eq_true rfl) (Nat.le_of_ble_eq_true rfl) ?_
              rintro _ n9_ _ ⟨rfl, e9_, rfl⟩
              obtain rfl := e9_.symm
              refine G_vret dX3_take_113 rfl ?_
              first | exact v_cc (cif_t ⟨c12, b1_1 c21⟩) | exact v_cc ((cif_f (by first | exact (fun q => c12 q.1) | exact (fun q => b1_0.mp c21 q.2))).trans (cif_t ⟨c37, c43⟩)) | exact v_cc ((cif_f (by first | exact (fun q => c12 q.1) | exact (fun q => b1_0.mp c21 q.2))).trans ((cif_f (by first | exact (fun q => c37 q.1) | exact (fun q => q.2 c43))).trans (cif_t ⟨c63, c69⟩))) | exact v_cc ((cif_f (by first | exact (fun q => c12 q.1) | exact (fun q => b1_0.mp c21 q.2))).trans ((cif_f (by first | exact (fun q => c37 q.1) | exact (fun q => q.2 c43))).trans ((cif_f (by first | exact (fun q => c63 q.1) | exact (fun q => q.2 c69))).trans (cif_t ⟨c86, c96⟩)))) | exact v_cc ((cif_f (by first | exact (fun q => c12 q.1) | exact (fun q => b1_0.mp c21 q.2))).trans ((cif_f (by first | exact (fun q => c37 q.1) | exact (fun q => q.2 c43))).trans ((cif_f (by first | exact (fun q => c63 q.1) | exact (fun q => q.2 c69))).trans (cif_f (by first | exact (fun q => c86 q.1) | exact (fun q => c96 q.2))))))
            · skip
              refine G_aload_n dX3_take_99 rfl rfl ?_
              refine G_iconst (v := 0) dX3_take_100 rfl ?_
              refine GC_due dX3_take_101 fp_X3_22 ?_
              refine G_goto (tgt := 113) dX3_take_104 (by decide) ?_
              refine G_vret dX3_take_113 rfl ?_
              first | exact v_cc (cif_t ⟨c12, b1_1 c21⟩) | exact v_cc ((cif_f (by first | exact (fun q => c12 q.1) | exact (fun q => b1_0.mp c21 q.2))).trans (cif_t ⟨c37, c43⟩)) | exact v_cc ((cif_f (by first | exact (fun q => c12 q.1) | exact (fun q => b1_0.mp c21 q.2))).trans ((cif_f (by first | exact (fun q => c37 q.1) | exact (fun q => q.2 c43))).trans (cif_t ⟨c63, c69⟩))) | exact v_cc ((cif_f (by first | exact (fun q => c12 q.1) | exact (fun q => b1_0.mp c21 q.2))).trans ((cif_f (by first | exact (fun q => c37 q.1) | exact (fun q => q.2 c43))).trans ((cif_f (by first | exact (fun q => c63 q.1) | exact (fun q => q.2 c69))).trans (cif_t ⟨c86, c96⟩)))) | exact v_cc ((cif_f (by first | exact (fun q => c12 q.1) | exact (fun q => b1_0.mp c21 q.2))).trans ((cif_f (by first | exact (fun q => c37 q.1) | exact (fun q => q.2 c43))).trans ((cif_f (by first | exact (fun q => c63 q.1) | exact (fun q => q.2 c69))).trans (cif_f (by first | exact (fun q => c86 q.1) | exact (fun q => c96 q.2))))))
        · skip
          refine G_aload_n dX3_take_72 rfl rfl ?_
          refine G_iload dX3_take_73 rfl ?_
          refine G_callV (cx_takeDays _) dX3_take_75 (mc_X3_71 rfl) tw_510 tw_7 (hx_16 _ _ _) rfl rfl rfl (Nat.le_of_ble_eq_true rfl) (Nat.le_of_ble_eq_true rfl) (Nat.le_of_ble_eq_true rfl) (Nat.le_of_ble_eq_true rfl) ?_
          rintro _ n9_ _ ⟨rfl, e9_, rfl⟩
          obtain rfl := e9_.symm
          refine G_goto (tgt := 113) dX3_take_78 (by decide) ?_
          refine G_vret dX3_take_113 rfl ?_
          first | exact v_cc (cif_t ⟨c12, b1_1 c21⟩) | exact v_cc ((cif_f (by first | exact (fun q => c12 q.1) | exact (fun q => b1_0.mp c21 q.2))).trans (cif_t ⟨c37, c43⟩)) | exact v_cc ((cif_f (by first | exact (fun q => c12 q.1) | exact (fun q => b1_0.mp c21 q.2))).trans ((cif_f (by first | exact (fun q => c37 q.1) | exact (fun q => q.2 c43))).trans (cif_t ⟨c63, c69⟩))) | exact v_cc ((cif_f (by first | exact (fun q => c12 q.1) | exact (fun q => b1_0.mp c21 q.2))).trans ((cif_f (by first | exact (fun q => c37 q.1) | exact (fun q => q.2 c43))).trans ((cif_f (by first | exact (fun q => c63 q.1) | exact (fun q => q.2 c69))).trans (cif_t ⟨c86, c96⟩)))) | exact v_cc ((cif_f (by first | exact (fun q => c12 q.1) | exact (fun q => b1_0.mp c21 q.2))).trans ((cif_f (by first | exact (fun q => c37 q.1) | exact (fun q => q.2 c43))).trans ((cif_f (by first | exact (fun q => c63 q.1) | exact (fun q => q.2 c69))).trans (cif_f (by first | exact (fun q => c86 q.1) | exact (fun q => c96 q.2))))))
    · skip
      refine G_iload dX3_take_40 rfl ?_
      refine G_iconst (v := -1) dX3_take_42 rfl ?_
      refine G_icmp_eq (tgt := 58) dX3_take_43 (by decide) (fun c43 => ?_) (fun c43 => ?_)
      · skip
        refine G_aload_n dX3_take_58 rfl rfl ?_
        refine G_get dX3_take_59 fg_X3_22 (hx_16 _ _ _) rfl ?_
        refine G_iconst (v := 2) dX3_take_62 rfl ?_
        refine G_icmp_ne (tgt := 81) dX3_take_63 (by decide) (fun c63 => ?_) (fun c63 => ?_)
        · skip
          refine G_aload_n dX3_take_81 rfl rfl ?_
          refine G_get dX3_take_82 fg_X3_22 (hx_16 _ _ _) rfl ?_
          refine G_iconst (v := 3) dX3_take_85 rfl ?_
          refine G_icmp_ne (tgt := 107) dX3_take_86 (by decide) (fun c86 => ?_) (fun c86 => ?_)
          · skip
            refine G_aload_n dX3_take_107 rfl rfl ?_
            refine G_iconst (v := 1) dX3_take_108 rfl ?_
            refine G_iload_n dX3_take_109 rfl rfl ?_
            refine G_callV (cx_blame _ _) dX3_take_110 (mc_X3_55 rfl) tw_506 tw_6 (hx_16 _ _ _) rfl rfl rfl (Nat.le_of_ble_eq_true rfl) (Nat.le_of_ble_eq_true rfl) (Nat.le_of_ble_eq_true rfl) (Nat.le_of_ble_eq_true rfl) ?_
            rintro _ n9_ _ ⟨rfl, e9_, rfl⟩
            obtain rfl := e9_.symm
            refine G_vret dX3_take_113 rfl ?_
            first | exact v_cc (cif_t ⟨c12, b1_1 c21⟩) | exact v_cc ((cif_f (by first | exact (fun q => c12 q.1) | exact (fun q => b1_0.mp c21 q.2))).trans (cif_t ⟨c37, c43⟩)) | exact v_cc ((cif_f (by first | exact (fun q => c12 q.1) | exact (fun q => b1_0.mp c21 q.2))).trans ((cif_f (by first | exact (fun q => c37 q.1) | exact (fun q => q.2 c43))).trans (cif_t ⟨c63, c69⟩))) | exact v_cc ((cif_f (by first | exact (fun q => c12 q.1) | exact (fun q => b1_0.mp c21 q.2))).trans ((cif_f (by first | exact (fun q => c37 q.1) | exact (fun q => q.2 c43))).trans ((cif_f (by first | exact (fun q => c63 q.1) | exact (fun q => q.2 c69))).trans (cif_t ⟨c86, c96⟩)))) | exact v_cc ((cif_f (by first | exact (fun q => c12 q.1) | exact (fun q => b1_0.mp c21 q.2))).trans ((cif_f (by first | exact (fun q => c37 q.1) | exact (fun q => q.2 c43))).trans ((cif_f (by first | exact (fun q => c63 q.1) | exact (fun q => q.2 c69))).trans (cif_f (by first | exact (fun q => c86 q.1) | exact (fun q => c96 q.2))))))
          · skip
            refine G_aload_n dX3_take_89 rfl rfl ?_
            refine G_iload_n dX3_take_90 rfl rfl ?_
            refine G_callV (cx_byte a hY hC9 (by omega)) dX3_take_91 (mc_X3_39 rfl) tw_428 tw_429 (hx_14 _ _ _) rfl rfl rfl (Nat.le_of_ble_eq_true rfl) (Nat.le_of_ble_eq_true rfl) (Nat.le_of_ble_eq_true rfl) (Nat.le_of_ble_eq_true rfl) ?_
            rintro _ n9_ _ ⟨rfl, e9_, rfl⟩
            obtain rfl := e9_.symm
            refine G_bipush (v := 59) dX3_take_94 rfl ?_
            refine G_icmp_ne (tgt := 107) dX3_take_96 (by decide) (fun c96 => ?_) (fun c96 => ?_)
            · skip
              refine G_aload_n dX3_take_107 rfl rfl ?_
              refine G_iconst (v := 1) dX3_take_108 rfl ?_
              refine G_iload_n dX3_take_109 rfl rfl ?_
              refine G_callV (cx_blame _ _) dX3_take_110 (mc_X3_55 rfl) tw_506 tw_6 (hx_16 _ _ _) rfl rfl rfl (Nat.le_of_ble_eq_true rfl) (Nat.le_of_ble_eq_true rfl) (Nat.le_of_ble_eq_true rfl) (Nat.le_of_ble_eq_true rfl) ?_
              rintro _ n9_ _ ⟨rfl, e9_, rfl⟩
              obtain rfl := e9_.symm
              refine G_vret dX3_take_113 rfl ?_
              first | exact v_cc (cif_t ⟨c12, b1_1 c21⟩) | exact v_cc ((cif_f (by first | exact (fun q => c12 q.1) | exact (fun q => b1_0.mp c21 q.2))).trans (cif_t ⟨c37, c43⟩)) | exact v_cc ((cif_f (by first | exact (fun q => c12 q.1) | exact (fun q => b1_0.mp c21 q.2))).trans ((cif_f (by first | exact (fun q => c37 q.1) | exact (fun q => q.2 c43))).trans (cif_t ⟨c63, c69⟩))) | exact v_cc ((cif_f (by first | exact (fun q => c12 q.1) | exact (fun q => b1_0.mp c21 q.2))).trans ((cif_f (by first | exact (fun q => c37 q.1) | exact (fun q => q.2 c43))).trans ((cif_f (by first | exact (fun q => c63 q.1) | exact (fun q => q.2 c69))).trans (cif_t ⟨c86, c96⟩)))) | exact v_cc ((cif_f (by first | exact (fun q => c12 q.1) | exact (fun q => b1_0.mp c21 q.2))).trans ((cif_f (by first | exact (fun q => c37 q.1) | exact (fun q => q.2 c43))).trans ((cif_f (by first | exact (fun q => c63 q.1) | exact (fun q => q.2 c69))).trans (cif_f (by first | exact (fun q => c86 q.1) | exact (fun q => c96 q.2))))))
            · skip
              refine G_aload_n dX3_take_99 rfl rfl ?_
              refine G_iconst (v := 0) dX3_take_100 rfl ?_
              refine GC_due dX3_take_101 fp_X3_22 ?_
              refine G_goto (tgt := 113) dX3_take_104 (by decide) ?_
              refine G_vret dX3_take_113 rfl ?_
              first | exact v_cc (cif_t ⟨c12, b1_1 c21⟩) | exact v_cc ((cif_f (by first | exact (fun q => c12 q.1) | exact (fun q => b1_0.mp c21 q.2))).trans (cif_t ⟨c37, c43⟩)) | exact v_cc ((cif_f (by first | exact (fun q => c12 q.1) | exact (fun q => b1_0.mp c21 q.2))).trans ((cif_f (by first | exact (fun q => c37 q.1) | exact (fun q => q.2 c43))).trans (cif_t ⟨c63, c69⟩))) | exact v_cc ((cif_f (by first | exact (fun q => c12 q.1) | exact (fun q => b1_0.mp c21 q.2))).trans ((cif_f (by first | exact (fun q => c37 q.1) | exact (fun q => q.2 c43))).trans ((cif_f (by first | exact (fun q => c63 q.1) | exact (fun q => q.2 c69))).trans (cif_t ⟨c86, c96⟩)))) | exact v_cc ((cif_f (by first | exact (fun q => c12 q.1) | exact (fun q => b1_0.mp c21 q.2))).trans ((cif_f (by first | exact (fun q => c37 q.1) | exact (fun q => q.2 c43))).trans ((cif_f (by first | exact (fun q => c63 q.1) | exact (fun q => q.2 c69))).trans (cif_f (by first | exact (fun q => c86 q.1) | exact (fun q => c96 q.2))))))
        · skip
          refine G_iload dX3_take_66 rfl ?_
          refine G_iconst (v := -1) dX3_take_68 rfl ?_
          refine G_icmp_eq (tgt := 81) dX3_take_69 (by decide) (fun c69 => ?_) (fun c69 => ?_)
          · skip
            refine G_aload_n dX3_take_81 rfl rfl ?_
            refine G_get dX3_take_82 fg_X3_22 (hx_16 _ _ _) rfl ?_
            refine G_iconst (v := 3) dX3_take_85 rfl ?_
            refine G_icmp_ne (tgt := 107) dX3_take_86 (by decide) (fun c86 => ?_) (fun c86 => ?_)
            · skip
              refine G_aload_n dX3_take_107 rfl rfl ?_
              refine G_iconst (v := 1) dX3_take_108 rfl ?_
              refine G_iload_n dX3_take_109 rfl rfl ?_
              refine G_callV (cx_blame _ _) dX3_take_110 (mc_X3_55 rfl) tw_506 tw_6 (hx_16 _ _ _) rfl rfl rfl (Nat.le_of_ble_eq_true rfl) (Nat.le_of_ble_eq_true rfl) (Nat.le_of_ble_eq_true rfl) (Nat.le_of_ble_eq_true rfl) ?_
              rintro _ n9_ _ ⟨rfl, e9_, rfl⟩
              obtain rfl := e9_.symm
              refine G_vret dX3_take_113 rfl ?_
              first | exact v_cc (cif_t ⟨c12, b1_1 c21⟩) | exact v_cc ((cif_f (by first | exact (fun q => c12 q.1) | exact (fun q => b1_0.mp c21 q.2))).trans (cif_t ⟨c37, c43⟩)) | exact v_cc ((cif_f (by first | exact (fun q => c12 q.1) | exact (fun q => b1_0.mp c21 q.2))).trans ((cif_f (by first | exact (fun q => c37 q.1) | exact (fun q => q.2 c43))).trans (cif_t ⟨c63, c69⟩))) | exact v_cc ((cif_f (by first | exact (fun q => c12 q.1) | exact (fun q => b1_0.mp c21 q.2))).trans ((cif_f (by first | exact (fun q => c37 q.1) | exact (fun q => q.2 c43))).trans ((cif_f (by first | exact (fun q => c63 q.1) | exact (fun q => q.2 c69))).trans (cif_t ⟨c86, c96⟩)))) | exact v_cc ((cif_f (by first | exact (fun q => c12 q.1) | exact (fun q => b1_0.mp c21 q.2))).trans ((cif_f (by first | exact (fun q => c37 q.1) | exact (fun q => q.2 c43))).trans ((cif_f (by first | exact (fun q => c63 q.1) | exact (fun q => q.2 c69))).trans (cif_f (by first | exact (fun q => c86 q.1) | exact (fun q => c96 q.2))))))
            · skip
              refine G_aload_n dX3_take_89 rfl rfl ?_
              refine G_iload_n dX3_take_90 rfl rfl ?_
              refine G_callV (cx_byte a hY hC9 (by omega)) dX3_take_91 (mc_X3_39 rfl) tw_428 tw_429 (hx_14 _ _ _) rfl rfl rfl (Nat.le_of_ble_eq_true rfl) (Nat.le_of_ble_eq_true rfl) (Nat.le_of_ble_eq_true rfl) (Nat.le_of_ble_eq_true rfl) ?_
              rintro _ n9_ _ ⟨rfl, e9_, rfl⟩
              obtain rfl := e9_.symm
              refine G_bipush (v := 59) dX3_take_94 rfl ?_
              refine G_icmp_ne (tgt := 107) dX3_take_96 (by decide) (fun c96 => ?_) (fun c96 => ?_)
              · skip
                refine G_aload_n dX3_take_107 rfl rfl ?_
                refine G_iconst (v := 1) dX3_take_108 rfl ?_
                refine G_iload_n dX3_take_109 rfl rfl ?_
                refine G_callV (cx_blame _ _) dX3_take_110 (mc_X3_55 rfl) tw_506 tw_6 (hx_16 _ _ _) rfl rfl rfl (Nat.le_of_ble_eq_true rfl) (Nat.le_of_ble_eq_true rfl) (Nat.le_of_ble_eq_true rfl) (Nat.le_of_ble_eq_true rfl) ?_
                rintro _ n9_ _ ⟨rfl, e9_, rfl⟩
                obtain rfl := e9_.symm
                refine G_vret dX3_take_113 rfl ?_
                first | exact v_cc (cif_t ⟨c12, b1_1 c21⟩) | exact v_cc ((cif_f (by first | exact (fun q => c12 q.1) | exact (fun q => b1_0.mp c21 q.2))).trans (cif_t ⟨c37, c43⟩)) | exact v_cc ((cif_f (by first | exact (fun q => c12 q.1) | exact (fun q => b1_0.mp c21 q.2))).trans ((cif_f (by first | exact (fun q => c37 q.1) | exact (fun q => q.2 c43))).trans (cif_t ⟨c63, c69⟩))) | exact v_cc ((cif_f (by first | exact (fun q => c12 q.1) | exact (fun q => b1_0.mp c21 q.2))).trans ((cif_f (by first | exact (fun q => c37 q.1) | exact (fun q => q.2 c43))).trans ((cif_f (by first | exact (fun q => c63 q.1) | exact (fun q => q.2 c69))).trans (cif_t ⟨c86, c96⟩)))) | exact v_cc ((cif_f (by first | exact (fun q => c12 q.1) | exact (fun q => b1_0.mp c21 q.2))).trans ((cif_f (by first | exact (fun q => c37 q.1) | exact (fun q => q.2 c43))).trans ((cif_f (by first | exact (fun q => c63 q.1) | exact (fun q => q.2 c69))).trans (cif_f (by first | exact (fun q => c86 q.1) | exact (fun q => c96 q.2))))))
              · skip
                refine G_aload_n dX3_take_99 rfl rfl ?_
                refine G_iconst (v := 0) dX3_take_100 rfl ?_
                refine GC_due dX3_take_101 fp_X3_22 ?_
                refine G_goto (tgt := 113) dX3_take_104 (by decide) ?_
                refine G_vret dX3_take_113 rfl ?_
                first | exact v_cc (cif_t ⟨c12, b1_1 c21⟩) | exact v_cc ((cif_f (by first | exact (fun q => c12 q.1) | exact (fun q => b1_0.mp c21 q.2))).trans (cif_t ⟨c37, c43⟩)) | exact v_cc ((cif_f (by first | exact (fun q => c12 q.1) | exact (fun q => b1_0.mp c21 q.2))).trans ((cif_f (by first | exact (fun q => c37 q.1) | exact (fun q => q.2 c43))).trans (cif_t ⟨c63, c69⟩))) | exact v_cc ((cif_f (by first | exact (fun q => c12 q.1) | exact (fun q => b1_0.mp c21 q.2))).trans ((cif_f (by first | exact (fun q => c37 q.1) | exact (fun q => q.2 c43))).trans ((cif_f (by first | exact (fun q => c63 q.1) | exact (fun q => q.2 c69))).trans (cif_t ⟨c86, c96⟩)))) | exact v_cc ((cif_f (by first | exact (fun q => c12 q.1) | exact (fun q => b1_0.mp c21 q.2))).trans ((cif_f (by first | exact (fun q => c37 q.1) | exact (fun q => q.2 c43))).trans ((cif_f (by first | exact (fun q => c63 q.1) | exact (fun q => q.2 c69))).trans (cif_f (by first | exact (fun q => c86 q.1) | exact (fun q => c96 q.2))))))
          · skip
            refine G_aload_n dX3_take_72 rfl rfl ?_
            refine G_iload dX3_take_73 rfl ?_
            refine G_callV (cx_takeDays _) dX3_take_75 (mc_X3_71 rfl) tw_510 tw_7 (hx_16 _ _ _) rfl rfl rfl (Nat.le_of_ble_eq_true rfl) (Nat.le_of_ble_eq_true rfl) (Nat.le_of_ble_eq_true rfl) (Nat.le_of_ble_eq_true rfl) ?_
            rintro _ n9_ _ ⟨rfl, e9_, rfl⟩
            obtain rfl := e9_.symm
            refine G_goto (tgt := 113) dX3_take_78 (by decide) ?_
            refine G_vret dX3_take_113 rfl ?_
            first | exact v_cc (cif_t ⟨c12, b1_1 c21⟩) | exact v_cc ((cif_f (by first | exact (fun q => c12 q.1) | exact (fun q => b1_0.mp c21 q.2))).trans (cif_t ⟨c37, c43⟩)) | exact v_cc ((cif_f (by first | exact (fun q => c12 q.1) | exact (fun q => b1_0.mp c21 q.2))).trans ((cif_f (by first | exact (fun q => c37 q.1) | exact (fun q => q.2 c43))).trans (cif_t ⟨c63, c69⟩))) | exact v_cc ((cif_f (by first | exact (fun q => c12 q.1) | exact (fun q => b1_0.mp c21 q.2))).trans ((cif_f (by first | exact (fun q => c37 q.1) | exact (fun q => q.2 c43))).trans ((cif_f (by first | exact (fun q => c63 q.1) | exact (fun q => q.2 c69))).trans (cif_t ⟨c86, c96⟩)))) | exact v_cc ((cif_f (by first | exact (fun q => c12 q.1) | exact (fun q => b1_0.mp c21 q.2))).trans ((cif_f (by first | exact (fun q => c37 q.1) | exact (fun q => q.2 c43))).trans ((cif_f (by first | exact (fun q => c63 q.1) | exact (fun q => q.2 c69))).trans (cif_f (by first | exact (fun q => c86 q.1) | exact (fun q => c96 q.2))))))
      · skip
        refine G_aload_n dX3_take_46 rfl rfl ?_
        refine G_iload dX3_take_47 rfl ?_
        refine G_iload_n dX3_take_49 rfl rfl ?_
        refine G_iload dX3_take_50 rfl ?_
        refine G_callV (cx_takeKind _ _ _) dX3_take_52 (mc_X3_67 rfl) tw_502 tw_5 (hx_16 _ _ _) rfl rfl rfl (Nat.le_of_ble_eq_true rfl) (Nat.le_of_ble_eq_true rfl) (Nat.le_of_ble_eq_true rfl) (Nat.le_of_ble_eq_true rfl) ?_
        rintro _ n9_ _ ⟨rfl, e9_, rfl⟩
        obtain rfl := e9_.symm
        refine G_goto (tgt := 113) dX3_take_55 (by decide) ?_
        refine G_vret dX3_take_113 rfl ?_
        first | exact v_cc (cif_t ⟨c12, b1_1 c21⟩) | exact v_cc ((cif_f (by first | exact (fun q => c12 q.1) | exact (fun q => b1_0.mp c21 q.2))).trans (cif_t ⟨c37, c43⟩)) | exact v_cc ((cif_f (by first | exact (fun q => c12 q.1) | exact (fun q => b1_0.mp c21 q.2))).trans ((cif_f (by first | exact (fun q => c37 q.1) | exact (fun q => q.2 c43))).trans (cif_t ⟨c63, c69⟩))) | exact v_cc ((cif_f (by first | exact (fun q => c12 q.1) | exact (fun q => b1_0.mp c21 q.2))).trans ((cif_f (by first | exact (fun q => c37 q.1) | exact (fun q => q.2 c43))).trans ((cif_f (by first | exact (fun q => c63 q.1) | exact (fun q => q.2 c69))).trans (cif_t ⟨c86, c96⟩)))) | exact v_cc ((cif_f (by first | exact (fun q => c12 q.1) | exact (fun q => b1_0.mp c21 q.2))).trans ((cif_f (by first | exact (fun q => c37 q.1) | exact (fun q => q.2 c43))).trans ((cif_f (by first | exact (fun q => c63 q.1) | exact (fun q => q.2 c69))).trans (cif_f (by first | exact (fun q => c86 q.1) | exact (fun q => c96 q.2))))))
  · skip
    refine G_aload_n dX3_take_15 rfl rfl ?_
    refine G_iload_n dX3_take_16 rfl rfl ?_
    refine G_iload_n dX3_take_17 rfl rfl ?_
    refine G_callS (cx_isEvery a m hY hC9 ham) dX3_take_18 (mc_X3_63 rfl) tw_451 rfl rfl (Nat.le_of_ble_eq_true rfl) (Nat.le_of_ble_eq_true rfl) (Nat.le_of_ble_eq_true rfl) (Nat.le_of_ble_eq_true rfl) ?_
    rintro _ n9_ _ ⟨rfl, e9_, rfl⟩
    obtain rfl := e9_.symm
    refine G_if_eq (tgt := 32) dX3_take_21 (by decide) (fun c21 => ?_) (fun c21 => ?_)
    · skip
      refine G_aload_n dX3_take_32 rfl rfl ?_
      refine G_get dX3_take_33 fg_X3_22 (hx_16 _ _ _) rfl ?_
      refine G_iconst (v := 1) dX3_take_36 rfl ?_
      refine G_icmp_ne (tgt := 58) dX3_take_37 (by decide) (fun c37 => ?_) (fun c37 => ?_)
      · skip
        refine G_aload_n dX3_take_58 rfl rfl ?_
        refine G_get dX3_take_59 fg_X3_22 (hx_16 _ _ _) rfl ?_
        refine G_iconst (v := 2) dX3_take_62 rfl ?_
        refine G_icmp_ne (tgt := 81) dX3_take_63 (by decide) (fun c63 => ?_) (fun c63 => ?_)
        · skip
          refine G_aload_n dX3_take_81 rfl rfl ?_
          refine G_get dX3_take_82 fg_X3_22 (hx_16 _ _ _) rfl ?_
          refine G_iconst (v := 3) dX3_take_85 rfl ?_
          refine G_icmp_ne (tgt := 107) dX3_take_86 (by decide) (fun c86 => ?_) (fun c86 => ?_)
          · skip
            refine G_aload_n dX3_take_107 rfl rfl ?_
            refine G_iconst (v := 1) dX3_take_108 rfl ?_
            refine G_iload_n dX3_take_109 rfl rfl ?_
            refine G_callV (cx_blame _ _) dX3_take_110 (mc_X3_55 rfl) tw_506 tw_6 (hx_16 _ _ _) rfl rfl rfl (Nat.le_of_ble_eq_true rfl) (Nat.le_of_ble_eq_true rfl) (Nat.le_of_ble_eq_true rfl) (Nat.le_of_ble_eq_true rfl) ?_
            rintro _ n9_ _ ⟨rfl, e9_, rfl⟩
            obtain rfl := e9_.symm
            refine G_vret dX3_take_113 rfl ?_
            first | exact v_cc (cif_t ⟨c12, b1_1 c21⟩) | exact v_cc ((cif_f (by first | exact (fun q => c12 q.1) | exact (fun q => b1_0.mp c21 q.2))).trans (cif_t ⟨c37, c43⟩)) | exact v_cc ((cif_f (by first | exact (fun q => c12 q.1) | exact (fun q => b1_0.mp c21 q.2))).trans ((cif_f (by first | exact (fun q => c37 q.1) | exact (fun q => q.2 c43))).trans (cif_t ⟨c63, c69⟩))) | exact v_cc ((cif_f (by first | exact (fun q => c12 q.1) | exact (fun q => b1_0.mp c21 q.2))).trans ((cif_f (by first | exact (fun q => c37 q.1) | exact (fun q => q.2 c43))).trans ((cif_f (by first | exact (fun q => c63 q.1) | exact (fun q => q.2 c69))).trans (cif_t ⟨c86, c96⟩)))) | exact v_cc ((cif_f (by first | exact (fun q => c12 q.1) | exact (fun q => b1_0.mp c21 q.2))).trans ((cif_f (by first | exact (fun q => c37 q.1) | exact (fun q => q.2 c43))).trans ((cif_f (by first | exact (fun q => c63 q.1) | exact (fun q => q.2 c69))).trans (cif_f (by first | exact (fun q => c86 q.1) | exact (fun q => c96 q.2))))))
          · skip
            refine G_aload_n dX3_take_89 rfl rfl ?_
            refine G_iload_n dX3_take_90 rfl rfl ?_
            refine G_callV (cx_byte a hY hC9 (by omega)) dX3_take_91 (mc_X3_39 rfl) tw_428 tw_429 (hx_14 _ _ _) rfl rfl rfl (Nat.le_of_ble_eq_true rfl) (Nat.le_of_ble_eq_true rfl) (Nat.le_of_ble_eq_true rfl) (Nat.le_of_ble_eq_true rfl) ?_
            rintro _ n9_ _ ⟨rfl, e9_, rfl⟩
            obtain rfl := e9_.symm
            refine G_bipush (v := 59) dX3_take_94 rfl ?_
            refine G_icmp_ne (tgt := 107) dX3_take_96 (by decide) (fun c96 => ?_) (fun c96 => ?_)
            · skip
              refine G_aload_n dX3_take_107 rfl rfl ?_
              refine G_iconst (v := 1) dX3_take_108 rfl ?_
              refine G_iload_n dX3_take_109 rfl rfl ?_
              refine G_callV (cx_blame _ _) dX3_take_110 (mc_X3_55 rfl) tw_506 tw_6 (hx_16 _ _ _) rfl rfl rfl (Nat.le_of_ble_eq_true rfl) (Nat.le_of_ble_eq_true rfl) (Nat.le_of_ble_eq_true rfl) (Nat.le_of_ble_eq_true rfl) ?_
              rintro _ n9_ _ ⟨rfl, e9_, rfl⟩
              obtain rfl := e9_.symm
              refine G_vret dX3_take_113 rfl ?_
              first | exact v_cc (cif_t ⟨c12, b1_1 c21⟩) | exact v_cc ((cif_f (by first | exact (fun q => c12 q.1) | exact (fun q => b1_0.mp c21 q.2))).trans (cif_t ⟨c37, c43⟩)) | exact v_cc ((cif_f (by first | exact (fun q => c12 q.1) | exact (fun q => b1_0.mp c21 q.2))).trans ((cif_f (by first | exact (fun q => c37 q.1) | exact (fun q => q.2 c43))).trans (cif_t ⟨c63, c69⟩))) | exact v_cc ((cif_f (by first | exact (fun q => c12 q.1) | exact (fun q => b1_0.mp c21 q.2))).trans ((cif_f (by first | exact (fun q => c37 q.1) | exact (fun q => q.2 c43))).trans ((cif_f (by first | exact (fun q => c63 q.1) | exact (fun q => q.2 c69))).trans (cif_t ⟨c86, c96⟩)))) | exact v_cc ((cif_f (by first | exact (fun q => c12 q.1) | exact (fun q => b1_0.mp c21 q.2))).trans ((cif_f (by first | exact (fun q => c37 q.1) | exact (fun q => q.2 c43))).trans ((cif_f (by first | exact (fun q => c63 q.1) | exact (fun q => q.2 c69))).trans (cif_f (by first | exact (fun q => c86 q.1) | exact (fun q => c96 q.2))))))
            · skip
              refine G_aload_n dX3_take_99 rfl rfl ?_
              refine G_iconst (v := 0) dX3_take_100 rfl ?_
              refine GC_due dX3_take_101 fp_X3_22 ?_
              refine G_goto (tgt := 113) dX3_take_104 (by decide) ?_
              refine G_vret dX3_take_113 rfl ?_
              first | exact v_cc (cif_t ⟨c12, b1_1 c21⟩) | exact v_cc ((cif_f (by first | exact (fun q => c12 q.1) | exact (fun q => b1_0.mp c21 q.2))).trans (cif_t ⟨c37, c43⟩)) | exact v_cc ((cif_f (by first | exact (fun q => c12 q.1) | exact (fun q => b1_0.mp c21 q.2))).trans ((cif_f (by first | exact (fun q => c37 q.1) | exact (fun q => q.2 c43))).trans (cif_t ⟨c63, c69⟩))) | exact v_cc ((cif_f (by first | exact (fun q => c12 q.1) | exact (fun q => b1_0.mp c21 q.2))).trans ((cif_f (by first | exact (fun q => c37 q.1) | exact (fun q => q.2 c43))).trans ((cif_f (by first | exact (fun q => c63 q.1) | exact (fun q => q.2 c69))).trans (cif_t ⟨c86, c96⟩)))) | exact v_cc ((cif_f (by first | exact (fun q => c12 q.1) | exact (fun q => b1_0.mp c21 q.2))).trans ((cif_f (by first | exact (fun q => c37 q.1) | exact (fun q => q.2 c43))).trans ((cif_f (by first | exact (fun q => c63 q.1) | exact (fun q => q.2 c69))).trans (cif_f (by first | exact (fun q => c86 q.1) | exact (fun q => c96 q.2))))))
        · skip
          refine G_iload dX3_take_66 rfl ?_
          refine G_iconst (v := -1) dX3_take_68 rfl ?_
          refine G_icmp_eq (tgt := 81) dX3_take_69 (by decide) (fun c69 => ?_) (fun c69 => ?_)
          · skip
            refine G_aload_n dX3_take_81 rfl rfl ?_
            refine G_get dX3_take_82 fg_X3_22 (hx_16 _ _ _) rfl ?_
            refine G_iconst (v := 3) dX3_take_85 rfl ?_
            refine G_icmp_ne (tgt := 107) dX3_take_86 (by decide) (fun c86 => ?_) (fun c86 => ?_)
            · skip
              refine G_aload_n dX3_take_107 rfl rfl ?_
              refine G_iconst (v := 1) dX3_take_108 rfl ?_
              refine G_iload_n dX3_take_109 rfl rfl ?_
              refine G_callV (cx_blame _ _) dX3_take_110 (mc_X3_55 rfl) tw_506 tw_6 (hx_16 _ _ _) rfl rfl rfl (Nat.le_of_ble_eq_true rfl) (Nat.le_of_ble_eq_true rfl) (Nat.le_of_ble_eq_true rfl) (Nat.le_of_ble_eq_true rfl) ?_
              rintro _ n9_ _ ⟨rfl, e9_, rfl⟩
              obtain rfl := e9_.symm
              refine G_vret dX3_take_113 rfl ?_
              first | exact v_cc (cif_t ⟨c12, b1_1 c21⟩) | exact v_cc ((cif_f (by first | exact (fun q => c12 q.1) | exact (fun q => b1_0.mp c21 q.2))).trans (cif_t ⟨c37, c43⟩)) | exact v_cc ((cif_f (by first | exact (fun q => c12 q.1) | exact (fun q => b1_0.mp c21 q.2))).trans ((cif_f (by first | exact (fun q => c37 q.1) | exact (fun q => q.2 c43))).trans (cif_t ⟨c63, c69⟩))) | exact v_cc ((cif_f (by first | exact (fun q => c12 q.1) | exact (fun q => b1_0.mp c21 q.2))).trans ((cif_f (by first | exact (fun q => c37 q.1) | exact (fun q => q.2 c43))).trans ((cif_f (by first | exact (fun q => c63 q.1) | exact (fun q => q.2 c69))).trans (cif_t ⟨c86, c96⟩)))) | exact v_cc ((cif_f (by first | exact (fun q => c12 q.1) | exact (fun q => b1_0.mp c21 q.2))).trans ((cif_f (by first | exact (fun q => c37 q.1) | exact (fun q => q.2 c43))).trans ((cif_f (by first | exact (fun q => c63 q.1) | exact (fun q => q.2 c69))).trans (cif_f (by first | exact (fun q => c86 q.1) | exact (fun q => c96 q.2))))))
            · skip
              refine G_aload_n dX3_take_89 rfl rfl ?_
              refine G_iload_n dX3_take_90 rfl rfl ?_
              refine G_callV (cx_byte a hY hC9 (by omega)) dX3_take_91 (mc_X3_39 rfl) tw_428 tw_429 (hx_14 _ _ _) rfl rfl rfl (Nat.le_of_ble_eq_true rfl) (Nat.le_of_ble_eq_true rfl) (Nat.le_of_ble_eq_true rfl) (Nat.le_of_ble_eq_true rfl) ?_
              rintro _ n9_ _ ⟨rfl, e9_, rfl⟩
              obtain rfl := e9_.symm
              refine G_bipush (v := 59) dX3_take_94 rfl ?_
              refine G_icmp_ne (tgt := 107) dX3_take_96 (by decide) (fun c96 => ?_) (fun c96 => ?_)
              · skip
                refine G_aload_n dX3_take_107 rfl rfl ?_
                refine G_iconst (v := 1) dX3_take_108 rfl ?_
                refine G_iload_n dX3_take_109 rfl rfl ?_
                refine G_callV (cx_blame _ _) dX3_take_110 (mc_X3_55 rfl) tw_506 tw_6 (hx_16 _ _ _) rfl rfl rfl (Nat.le_of_ble_eq_true rfl) (Nat.le_of_ble_eq_true rfl) (Nat.le_of_ble_eq_true rfl) (Nat.le_of_ble_eq_true rfl) ?_
                rintro _ n9_ _ ⟨rfl, e9_, rfl⟩
                obtain rfl := e9_.symm
                refine G_vret dX3_take_113 rfl ?_
                first | exact v_cc (cif_t ⟨c12, b1_1 c21⟩) | exact v_cc ((cif_f (by first | exact (fun q => c12 q.1) | exact (fun q => b1_0.mp c21 q.2))).trans (cif_t ⟨c37, c43⟩)) | exact v_cc ((cif_f (by first | exact (fun q => c12 q.1) | exact (fun q => b1_0.mp c21 q.2))).trans ((cif_f (by first | exact (fun q => c37 q.1) | exact (fun q => q.2 c43))).trans (cif_t ⟨c63, c69⟩))) | exact v_cc ((cif_f (by first | exact (fun q => c12 q.1) | exact (fun q => b1_0.mp c21 q.2))).trans ((cif_f (by first | exact (fun q => c37 q.1) | exact (fun q => q.2 c43))).trans ((cif_f (by first | exact (fun q => c63 q.1) | exact (fun q => q.2 c69))).trans (cif_t ⟨c86, c96⟩)))) | exact v_cc ((cif_f (by first | exact (fun q => c12 q.1) | exact (fun q => b1_0.mp c21 q.2))).trans ((cif_f (by first | exact (fun q => c37 q.1) | exact (fun q => q.2 c43))).trans ((cif_f (by first | exact (fun q => c63 q.1) | exact (fun q => q.2 c69))).trans (cif_f (by first | exact (fun q => c86 q.1) | exact (fun q => c96 q.2))))))
              · skip
                refine G_aload_n dX3_take_99 rfl rfl ?_
                refine G_iconst (v := 0) dX3_take_100 rfl ?_
                refine GC_due dX3_take_101 fp_X3_22 ?_
                refine G_goto (tgt := 113) dX3_take_104 (by decide) ?_
                refine G_vret dX3_take_113 rfl ?_
                first | exact v_cc (cif_t ⟨c12, b1_1 c21⟩) | exact v_cc ((cif_f (by first | exact (fun q => c12 q.1) | exact (fun q => b1_0.mp c21 q.2))).trans (cif_t ⟨c37, c43⟩)) | exact v_cc ((cif_f (by first | exact (fun q => c12 q.1) | exact (fun q => b1_0.mp c21 q.2))).trans ((cif_f (by first | exact (fun q => c37 q.1) | exact (fun q => q.2 c43))).trans (cif_t ⟨c63, c69⟩))) | exact v_cc ((cif_f (by first | exact (fun q => c12 q.1) | exact (fun q => b1_0.mp c21 q.2))).trans ((cif_f (by first | exact (fun q => c37 q.1) | exact (fun q => q.2 c43))).trans ((cif_f (by first | exact (fun q => c63 q.1) | exact (fun q => q.2 c69))).trans (cif_t ⟨c86, c96⟩)))) | exact v_cc ((cif_f (by first | exact (fun q => c12 q.1) | exact (fun q => b1_0.mp c21 q.2))).trans ((cif_f (by first | exact (fun q => c37 q.1) | exact (fun q => q.2 c43))).trans ((cif_f (by first | exact (fun q => c63 q.1) | exact (fun q => q.2 c69))).trans (cif_f (by first | exact (fun q => c86 q.1) | exact (fun q => c96 q.2))))))
          · skip
            refine G_aload_n dX3_take_72 rfl rfl ?_
            refine G_iload dX3_take_73 rfl ?_
            refine G_callV (cx_takeDays _) dX3_take_75 (mc_X3_71 rfl) tw_510 tw_7 (hx_16 _ _ _) rfl rfl rfl (Nat.le_of_ble_eq_true rfl) (Nat.le_of_ble_eq_true rfl) (Nat.le_of_ble_eq_true rfl) (Nat.le_of_ble_eq_true rfl) ?_
            rintro _ n9_ _ ⟨rfl, e9_, rfl⟩
            obtain rfl := e9_.symm
            refine G_goto (tgt := 113) dX3_take_78 (by decide) ?_
            refine G_vret dX3_take_113 rfl ?_
            first | exact v_cc (cif_t ⟨c12, b1_1 c21⟩) | exact v_cc ((cif_f (by first | exact (fun q => c12 q.1) | exact (fun q => b1_0.mp c21 q.2))).trans (cif_t ⟨c37, c43⟩)) | exact v_cc ((cif_f (by first | exact (fun q => c12 q.1) | exact (fun q => b1_0.mp c21 q.2))).trans ((cif_f (by first | exact (fun q => c37 q.1) | exact (fun q => q.2 c43))).trans (cif_t ⟨c63, c69⟩))) | exact v_cc ((cif_f (by first | exact (fun q => c12 q.1) | exact (fun q => b1_0.mp c21 q.2))).trans ((cif_f (by first | exact (fun q => c37 q.1) | exact (fun q => q.2 c43))).trans ((cif_f (by first | exact (fun q => c63 q.1) | exact (fun q => q.2 c69))).trans (cif_t ⟨c86, c96⟩)))) | exact v_cc ((cif_f (by first | exact (fun q => c12 q.1) | exact (fun q => b1_0.mp c21 q.2))).trans ((cif_f (by first | exact (fun q => c37 q.1) | exact (fun q => q.2 c43))).trans ((cif_f (by first | exact (fun q => c63 q.1) | exact (fun q => q.2 c69))).trans (cif_f (by first | exact (fun q => c86 q.1) | exact (fun q => c96 q.2))))))
      · skip
        refine G_iload dX3_take_40 rfl ?_
        refine G_iconst (v := -1) dX3_take_42 rfl ?_
        refine G_icmp_eq (tgt := 58) dX3_take_43 (by decide) (fun c43 => ?_) (fun c43 => ?_)
        · skip
          refine G_aload_n dX3_take_58 rfl rfl ?_
          refine G_get dX3_take_59 fg_X3_22 (hx_16 _ _ _) rfl ?_
          refine G_iconst (v := 2) dX3_take_62 rfl ?_
          refine G_icmp_ne (tgt := 81) dX3_take_63 (by decide) (fun c63 => ?_) (fun c63 => ?_)
          · skip
            refine G_aload_n dX3_take_81 rfl rfl ?_
            refine G_get dX3_take_82 fg_X3_22 (hx_16 _ _ _) rfl ?_
            refine G_iconst (v := 3) dX3_take_85 rfl ?_
            refine G_icmp_ne (tgt := 107) dX3_take_86 (by decide) (fun c86 => ?_) (fun c86 => ?_)
            · skip
              refine G_aload_n dX3_take_107 rfl rfl ?_
              refine G_iconst (v := 1) dX3_take_108 rfl ?_
              refine G_iload_n dX3_take_109 rfl rfl ?_
              refine G_callV (cx_blame _ _) dX3_take_110 (mc_X3_55 rfl) tw_506 tw_6 (hx_16 _ _ _) rfl rfl rfl (Nat.le_of_ble_eq_true rfl) (Nat.le_of_ble_eq_true rfl) (Nat.le_of_ble_eq_true rfl) (Nat.le_of_ble_eq_true rfl) ?_
              rintro _ n9_ _ ⟨rfl, e9_, rfl⟩
              obtain rfl := e9_.symm
              refine G_vret dX3_take_113 rfl ?_
              first | exact v_cc (cif_t ⟨c12, b1_1 c21⟩) | exact v_cc ((cif_f (by first | exact (fun q => c12 q.1) | exact (fun q => b1_0.mp c21 q.2))).trans (cif_t ⟨c37, c43⟩)) | exact v_cc ((cif_f (by first | exact (fun q => c12 q.1) | exact (fun q => b1_0.mp c21 q.2))).trans ((cif_f (by first | exact (fun q => c37 q.1) | exact (fun q => q.2 c43))).trans (cif_t ⟨c63, c69⟩))) | exact v_cc ((cif_f (by first | exact (fun q => c12 q.1) | exact (fun q => b1_0.mp c21 q.2))).trans ((cif_f (by first | exact (fun q => c37 q.1) | exact (fun q => q.2 c43))).trans ((cif_f (by first | exact (fun q => c63 q.1) | exact (fun q => q.2 c69))).trans (cif_t ⟨c86, c96⟩)))) | exact v_cc ((cif_f (by first | exact (fun q => c12 q.1) | exact (fun q => b1_0.mp c21 q.2))).trans ((cif_f (by first | exact (fun q => c37 q.1) | exact (fun q => q.2 c43))).trans ((cif_f (by first | exact (fun q => c63 q.1) | exact (fun q => q.2 c69))).trans (cif_f (by first | exact (fun q => c86 q.1) | exact (fun q => c96 q.2))))))
            · skip
              refine G_aload_n dX3_take_89 rfl rfl ?_
              refine G_iload_n dX3_take_90 rfl rfl ?_
              refine G_callV (cx_byte a hY hC9 (by omega)) dX3_take_91 (mc_X3_39 rfl) tw_428 tw_429 (hx_14 _ _ _) rfl rfl rfl (Nat.le_of_ble_eq_true rfl) (Nat.le_of_ble_eq_true rfl) (Nat.le_of_ble_eq_true rfl) (Nat.le_of_ble_eq_true rfl) ?_
              rintro _ n9_ _ ⟨rfl, e9_, rfl⟩
              obtain rfl := e9_.symm
              refine G_bipush (v := 59) dX3_take_94 rfl ?_
              refine G_icmp_ne (tgt := 107) dX3_take_96 (by decide) (fun c96 => ?_) (fun c96 => ?_)
              · skip
                refine G_aload_n dX3_take_107 rfl rfl ?_
                refine G_iconst (v := 1) dX3_take_108 rfl ?_
                refine G_iload_n dX3_take_109 rfl rfl ?_
                refine G_callV (cx_blame _ _) dX3_take_110 (mc_X3_55 rfl) tw_506 tw_6 (hx_16 _ _ _) rfl rfl rfl (Nat.le_of_ble_eq_true rfl) (Nat.le_of_ble_eq_true rfl) (Nat.le_of_ble_eq_true rfl) (Nat.le_of_ble_eq_true rfl) ?_
                rintro _ n9_ _ ⟨rfl, e9_, rfl⟩
                obtain rfl := e9_.symm
                refine G_vret dX3_take_113 rfl ?_
                first | exact v_cc (cif_t ⟨c12, b1_1 c21⟩) | exact v_cc ((cif_f (by first | exact (fun q => c12 q.1) | exact (fun q => b1_0.mp c21 q.2))).trans (cif_t ⟨c37, c43⟩)) | exact v_cc ((cif_f (by first | exact (fun q => c12 q.1) | exact (fun q => b1_0.mp c21 q.2))).trans ((cif_f (by first | exact (fun q => c37 q.1) | exact (fun q => q.2 c43))).trans (cif_t ⟨c63, c69⟩))) | exact v_cc ((cif_f (by first | exact (fun q => c12 q.1) | exact (fun q => b1_0.mp c21 q.2))).trans ((cif_f (by first | exact (fun q => c37 q.1) | exact (fun q => q.2 c43))).trans ((cif_f (by first | exact (fun q => c63 q.1) | exact (fun q => q.2 c69))).trans (cif_t ⟨c86, c96⟩)))) | exact v_cc ((cif_f (by first | exact (fun q => c12 q.1) | exact (fun q => b1_0.mp c21 q.2))).trans ((cif_f (by first | exact (fun q => c37 q.1) | exact (fun q => q.2 c43))).trans ((cif_f (by first | exact (fun q => c63 q.1) | exact (fun q => q.2 c69))).trans (cif_f (by first | exact (fun q => c86 q.1) | exact (fun q => c96 q.2))))))
              · skip
                refine G_aload_n dX3_take_99 rfl rfl ?_
                refine G_iconst (v := 0) dX3_take_100 rfl ?_
                refine GC_due dX3_take_101 fp_X3_22 ?_
                refine G_goto (tgt := 113) dX3_take_104 (by decide) ?_
                refine G_vret dX3_take_113 rfl ?_
                first | exact v_cc (cif_t ⟨c12, b1_1 c21⟩) | exact v_cc ((cif_f (by first | exact (fun q => c12 q.1) | exact (fun q => b1_0.mp c21 q.2))).trans (cif_t ⟨c37, c43⟩)) | exact v_cc ((cif_f (by first | exact (fun q => c12 q.1) | exact (fun q => b1_0.mp c21 q.2))).trans ((cif_f (by first | exact (fun q => c37 q.1) | exact (fun q => q.2 c43))).trans (cif_t ⟨c63, c69⟩))) | exact v_cc ((cif_f (by first | exact (fun q => c12 q.1) | exact (fun q => b1_0.mp c21 q.2))).trans ((cif_f (by first | exact (fun q => c37 q.1) | exact (fun q => q.2 c43))).trans ((cif_f (by first | exact (fun q => c63 q.1) | exact (fun q => q.2 c69))).trans (cif_t ⟨c86, c96⟩)))) | exact v_cc ((cif_f (by first | exact (fun q => c12 q.1) | exact (fun q => b1_0.mp c21 q.2))).trans ((cif_f (by first | exact (fun q => c37 q.1) | exact (fun q => q.2 c43))).trans ((cif_f (by first | exact (fun q => c63 q.1) | exact (fun q => q.2 c69))).trans (cif_f (by first | exact (fun q => c86 q.1) | exact (fun q => c96 q.2))))))
          · skip
            refine G_iload dX3_take_66 rfl ?_
            refine G_iconst (v := -1) dX3_take_68 rfl ?_
            refine G_icmp_eq (tgt := 81) dX3_take_69 (by decide) (fun c69 => ?_) (fun c69 => ?_)
            · skip
              refine G_aload_n dX3_take_81 rfl rfl ?_
              refine G_get dX3_take_82 fg_X3_22 (hx_16 _ _ _) rfl ?_
              refine G_iconst (v := 3) dX3_take_85 rfl ?_
              refine G_icmp_ne (tgt := 107) dX3_take_86 (by decide) (fun c86 => ?_) (fun c86 => ?_)
              · skip
                refine G_aload_n dX3_take_107 rfl rfl ?_
                refine G_iconst (v := 1) dX3_take_108 rfl ?_
                refine G_iload_n dX3_take_109 rfl rfl ?_
                refine G_callV (cx_blame _ _) dX3_take_110 (mc_X3_55 rfl) tw_506 tw_6 (hx_16 _ _ _) rfl rfl rfl (Nat.le_of_ble_eq_true rfl) (Nat.le_of_ble_eq_true rfl) (Nat.le_of_ble_eq_true rfl) (Nat.le_of_ble_eq_true rfl) ?_
                rintro _ n9_ _ ⟨rfl, e9_, rfl⟩
                obtain rfl := e9_.symm
                refine G_vret dX3_take_113 rfl ?_
                first | exact v_cc (cif_t ⟨c12, b1_1 c21⟩) | exact v_cc ((cif_f (by first | exact (fun q => c12 q.1) | exact (fun q => b1_0.mp c21 q.2))).trans (cif_t ⟨c37, c43⟩)) | exact v_cc ((cif_f (by first | exact (fun q => c12 q.1) | exact (fun q => b1_0.mp c21 q.2))).trans ((cif_f (by first | exact (fun q => c37 q.1) | exact (fun q => q.2 c43))).trans (cif_t ⟨c63, c69⟩))) | exact v_cc ((cif_f (by first | exact (fun q => c12 q.1) | exact (fun q => b1_0.mp c21 q.2))).trans ((cif_f (by first | exact (fun q => c37 q.1) | exact (fun q => q.2 c43))).trans ((cif_f (by first | exact (fun q => c63 q.1) | exact (fun q => q.2 c69))).trans (cif_t ⟨c86, c96⟩)))) | exact v_cc ((cif_f (by first | exact (fun q => c12 q.1) | exact (fun q => b1_0.mp c21 q.2))).trans ((cif_f (by first | exact (fun q => c37 q.1) | exact (fun q => q.2 c43))).trans ((cif_f (by first | exact (fun q => c63 q.1) | exact (fun q => q.2 c69))).trans (cif_f (by first | exact (fun q => c86 q.1) | exact (fun q => c96 q.2))))))
              · skip
                refine G_aload_n dX3_take_89 rfl rfl ?_
                refine G_iload_n dX3_take_90 rfl rfl ?_
                refine G_callV (cx_byte a hY hC9 (by omega)) dX3_take_91 (mc_X3_39 rfl) tw_428 tw_429 (hx_14 _ _ _) rfl rfl rfl (Nat.le_of_ble_eq_true rfl) (Nat.le_of_ble_eq_true rfl) (Nat.le_of_ble_eq_true rfl) (Nat.le_of_ble_eq_true rfl) ?_
                rintro _ n9_ _ ⟨rfl, e9_, rfl⟩
                obtain rfl := e9_.symm
                refine G_bipush (v := 59) dX3_take_94 rfl ?_
                refine G_icmp_ne (tgt := 107) dX3_take_96 (by decide) (fun c96 => ?_) (fun c96 => ?_)
                · skip
                  refine G_aload_n dX3_take_107 rfl rfl ?_
                  refine G_iconst (v := 1) dX3_take_108 rfl ?_
                  refine G_iload_n dX3_take_109 rfl rfl ?_
                  refine G_callV (cx_blame _ _) dX3_take_110 (mc_X3_55 rfl) tw_506 tw_6 (hx_16 _ _ _) rfl rfl rfl (Nat.le_of_ble_eq_true rfl) (Nat.le_of_ble_eq_true rfl) (Nat.le_of_ble_eq_true rfl) (Nat.le_of_ble_eq_true rfl) ?_
                  rintro _ n9_ _ ⟨rfl, e9_, rfl⟩
                  obtain rfl := e9_.symm
                  refine G_vret dX3_take_113 rfl ?_
                  first | exact v_cc (cif_t ⟨c12, b1_1 c21⟩) | exact v_cc ((cif_f (by first | exact (fun q => c12 q.1) | exact (fun q => b1_0.mp c21 q.2))).trans (cif_t ⟨c37, c43⟩)) | exact v_cc ((cif_f (by first | exact (fun q => c12 q.1) | exact (fun q => b1_0.mp c21 q.2))).trans ((cif_f (by first | exact (fun q => c37 q.1) | exact (fun q => q.2 c43))).trans (cif_t ⟨c63, c69⟩))) | exact v_cc ((cif_f (by first | exact (fun q => c12 q.1) | exact (fun q => b1_0.mp c21 q.2))).trans ((cif_f (by first | exact (fun q => c37 q.1) | exact (fun q => q.2 c43))).trans ((cif_f (by first | exact (fun q => c63 q.1) | exact (fun q => q.2 c69))).trans (cif_t ⟨c86, c96⟩)))) | exact v_cc ((cif_f (by first | exact (fun q => c12 q.1) | exact (fun q => b1_0.mp c21 q.2))).trans ((cif_f (by first | exact (fun q => c37 q.1) | exact (fun q => q.2 c43))).trans ((cif_f (by first | exact (fun q => c63 q.1) | exact (fun q => q.2 c69))).trans (cif_f (by first | exact (fun q => c86 q.1) | exact (fun q => c96 q.2))))))
                · skip
                  refine G_aload_n dX3_take_99 rfl rfl ?_
                  refine G_iconst (v := 0) dX3_take_100 rfl ?_
                  refine GC_due dX3_take_101 fp_X3_22 ?_
                  refine G_goto (tgt := 113) dX3_take_104 (by decide) ?_
                  refine G_vret dX3_take_113 rfl ?_
                  first | exact v_cc (cif_t ⟨c12, b1_1 c21⟩) | exact v_cc ((cif_f (by first | exact (fun q => c12 q.1) | exact (fun q => b1_0.mp c21 q.2))).trans (cif_t ⟨c37, c43⟩)) | exact v_cc ((cif_f (by first | exact (fun q => c12 q.1) | exact (fun q => b1_0.mp c21 q.2))).trans ((cif_f (by first | exact (fun q => c37 q.1) | exact (fun q => q.2 c43))).trans (cif_t ⟨c63, c69⟩))) | exact v_cc ((cif_f (by first | exact (fun q => c12 q.1) | exact (fun q => b1_0.mp c21 q.2))).trans ((cif_f (by first | exact (fun q => c37 q.1) | exact (fun q => q.2 c43))).trans ((cif_f (by first | exact (fun q => c63 q.1) | exact (fun q => q.2 c69))).trans (cif_t ⟨c86, c96⟩)))) | exact v_cc ((cif_f (by first | exact (fun q => c12 q.1) | exact (fun q => b1_0.mp c21 q.2))).trans ((cif_f (by first | exact (fun q => c37 q.1) | exact (fun q => q.2 c43))).trans ((cif_f (by first | exact (fun q => c63 q.1) | exact (fun q => q.2 c69))).trans (cif_f (by first | exact (fun q => c86 q.1) | exact (fun q => c96 q.2))))))
            · skip
              refine G_aload_n dX3_take_72 rfl rfl ?_
              refine G_iload dX3_take_73 rfl ?_
              refine G_callV (cx_takeDays _) dX3_take_75 (mc_X3_71 rfl) tw_510 tw_7 (hx_16 _ _ _) rfl rfl rfl (Nat.le_of_ble_eq_true rfl) (Nat.le_of_ble_eq_true rfl) (Nat.le_of_ble_eq_true rfl) (Nat.le_of_ble_eq_true rfl) ?_
              rintro _ n9_ _ ⟨rfl, e9_, rfl⟩
              obtain rfl := e9_.symm
              refine G_goto (tgt := 113) dX3_take_78 (by decide) ?_
              refine G_vret dX3_take_113 rfl ?_
              first | exact v_cc (cif_t ⟨c12, b1_1 c21⟩) | exact v_cc ((cif_f (by first | exact (fun q => c12 q.1) | exact (fun q => b1_0.mp c21 q.2))).trans (cif_t ⟨c37, c43⟩)) | exact v_cc ((cif_f (by first | exact (fun q => c12 q.1) | exact (fun q => b1_0.mp c21 q.2))).trans ((cif_f (by first | exact (fun q => c37 q.1) | exact (fun q => q.2 c43))).trans (cif_t ⟨c63, c69⟩))) | exact v_cc ((cif_f (by first | exact (fun q => c12 q.1) | exact (fun q => b1_0.mp c21 q.2))).trans ((cif_f (by first | exact (fun q => c37 q.1) | exact (fun q => q.2 c43))).trans ((cif_f (by first | exact (fun q => c63 q.1) | exact (fun q => q.2 c69))).trans (cif_t ⟨c86, c96⟩)))) | exact v_cc ((cif_f (by first | exact (fun q => c12 q.1) | exact (fun q => b1_0.mp c21 q.2))).trans ((cif_f (by first | exact (fun q => c37 q.1) | exact (fun q => q.2 c43))).trans ((cif_f (by first | exact (fun q => c63 q.1) | exact (fun q => q.2 c69))).trans (cif_f (by first | exact (fun q => c86 q.1) | exact (fun q => c96 q.2))))))
        · skip
          refine G_aload_n dX3_take_46 rfl rfl ?_
          refine G_iload dX3_take_47 rfl ?_
          refine G_iload_n dX3_take_49 rfl rfl ?_
          refine G_iload dX3_take_50 rfl ?_
          refine G_callV (cx_takeKind _ _ _) dX3_take_52 (mc_X3_67 rfl) tw_502 tw_5 (hx_16 _ _ _) rfl rfl rfl (Nat.le_of_ble_eq_true rfl) (Nat.le_of_ble_eq_true rfl) (Nat.le_of_ble_eq_true rfl) (Nat.le_of_ble_eq_true rfl) ?_
          rintro _ n9_ _ ⟨rfl, e9_, rfl⟩
          obtain rfl := e9_.symm
          refine G_goto (tgt := 113) dX3_take_55 (by decide) ?_
          refine G_vret dX3_take_113 rfl ?_
          first | exact v_cc (cif_t ⟨c12, b1_1 c21⟩) | exact v_cc ((cif_f (by first | exact (fun q => c12 q.1) | exact (fun q => b1_0.mp c21 q.2))).trans (cif_t ⟨c37, c43⟩)) | exact v_cc ((cif_f (by first | exact (fun q => c12 q.1) | exact (fun q => b1_0.mp c21 q.2))).trans ((cif_f (by first | exact (fun q => c37 q.1) | exact (fun q => q.2 c43))).trans (cif_t ⟨c63, c69⟩))) | exact v_cc ((cif_f (by first | exact (fun q => c12 q.1) | exact (fun q => b1_0.mp c21 q.2))).trans ((cif_f (by first | exact (fun q => c37 q.1) | exact (fun q => q.2 c43))).trans ((cif_f (by first | exact (fun q => c63 q.1) | exact (fun q => q.2 c69))).trans (cif_t ⟨c86, c96⟩)))) | exact v_cc ((cif_f (by first | exact (fun q => c12 q.1) | exact (fun q => b1_0.mp c21 q.2))).trans ((cif_f (by first | exact (fun q => c37 q.1) | exact (fun q => q.2 c43))).trans ((cif_f (by first | exact (fun q => c63 q.1) | exact (fun q => q.2 c69))).trans (cif_f (by first | exact (fun q => c86 q.1) | exact (fun q => c96 q.2))))))
    · skip
      refine G_aload_n dX3_take_24 rfl rfl ?_
      refine G_iconst (v := 1) dX3_take_25 rfl ?_
      refine GC_due dX3_take_26 fp_X3_22 ?_
      refine G_goto (tgt := 113) dX3_take_29 (by decide) ?_
      refine G_vret dX3_take_113 rfl ?_
      first | exact v_cc (cif_t ⟨c12, b1_1 c21⟩) | exact v_cc ((cif_f (by first | exact (fun q => c12 q.1) | exact (fun q => b1_0.mp c21 q.2))).trans (cif_t ⟨c37, c43⟩)) | exact v_cc ((cif_f (by first | exact (fun q => c12 q.1) | exact (fun q => b1_0.mp c21 q.2))).trans ((cif_f (by first | exact (fun q => c37 q.1) | exact (fun q => q.2 c43))).trans (cif_t ⟨c63, c69⟩))) | exact v_cc ((cif_f (by first | exact (fun q => c12 q.1) | exact (fun q => b1_0.mp c21 q.2))).trans ((cif_f (by first | exact (fun q => c37 q.1) | exact (fun q => q.2 c43))).trans ((cif_f (by first | exact (fun q => c63 q.1) | exact (fun q => q.2 c69))).trans (cif_t ⟨c86, c96⟩)))) | exact v_cc ((cif_f (by first | exact (fun q => c12 q.1) | exact (fun q => b1_0.mp c21 q.2))).trans ((cif_f (by first | exact (fun q => c37 q.1) | exact (fun q => q.2 c43))).trans ((cif_f (by first | exact (fun q => c63 q.1) | exact (fun q => q.2 c69))).trans (cif_f (by first | exact (fun q => c86 q.1) | exact (fun q => c96 q.2))))))
theorem c_inv_eq {u c : mS} (h : ∀ j ∈ [1, 5, 8, 13, 23, 6, 28, 27, 25, 24, 81, 80, 51, 70, 71], u j = c j) (hC : c_inv c) : c_inv u := by
  have e1 := h 1 (by decide)
  have e5 := h 5 (by decide)
  have e8 := h 8 (by decide)
  have e13 := h 13 (by decide)
  have e23 := h 23 (by decide)
  have e6 := h 6 (by decide)
  have e28 := h 28 (by decide)
  have e27 := h 27 (by decide)
  have e25 := h 25 (by decide)
  have e24 := h 24 (by decide)
  have e81 := h 81 (by decide)
  have e80 := h 80 (by decide)
  have e51 := h 51 (by decide)
  have e70 := h 70 (by decide)
  have e71 := h 71 (by decide)
  unfold c_inv m_inv mK mT mB mP mA mL at *
  rw [e1, e5, e8, e13, e23, e6, e28, e27, e25, e24, e81, e80, e51, e70, e71]
  exact hC
def c_k6 (u c : mS) : Prop := ∀ j, j < 60 ∨ 64 < j → u j = c j
theorem c_k6.inv {u c : mS} (h : c_k6 u c) (hC : c_inv c) : c_inv u := c_inv_eq (fun j hj => h j (by simp only [List.mem_cons, List.not_mem_nil, or_false] at hj; omega)) hC
theorem c_k6.Y {u c : mS} {Y : cY} {n9 : Nat} (h : c_k6 u c) (hY : Yok Y c n9) : Yok Y u n9 := hY.same (congrFun (h 1 (by decide)) 0) (congrFun (h 5 (by decide)) 0) (congrFun (h 8 (by decide)) 0) (congrFun (h 23 (by decide)) 0) (congrFun (h 81 (by decide)) 0)
theorem c_k6.set {u c : mS} (h : c_k6 u c) {j i : Nat} {v : Int32} (hj : 60 ≤ j ∧ j ≤ 64) : c_k6 (m_set u j i v) c := fun a ha => (m_set_ne _ _ _ (by omega)).trans (h a ha)
theorem c_k6.P {u c : mS} (h : c_k6 u c) : mP u = mP c := by unfold mP; rw [h 13 (by decide)]
theorem c_k6.take {u c : mS} (h : c_k6 u c) (a m : Nat) (K : Int32) : c_k6 (c_take u a m K) c := by
  unfold c_take
  by_cases z0 : u 63 0 = 0 ∧ c_ev u a m
  · rw [cif_t z0]; exact h.set (by decide)
  rw [cif_f z0]
  by_cases z1 : u 63 0 = 1 ∧ ¬ c_nof u a m = -1
  · rw [cif_t z1]; unfold c_tkk
    by_cases z : c_nof u a m < K
    · rw [cif_t z]; exact (h.set (by decide)).set (by decide)
    · rw [cif_f z]; exact (h.set (by decide)).set (by decide)
  rw [cif_f z1]
  by_cases z2 : u 63 0 = 2 ∧ ¬ c_nof u a m = -1
  · rw [cif_t z2]; unfold c_tkd
    by_cases z : u 64 0 < 0 ∨ 8 ≤ u 64 0
    · rw [cif_t z]; exact h.set (by decide)
    · rw [cif_f z]; exact (h.set (by decide)).set (by decide)
  rw [cif_f z2]
  by_cases z3 : u 63 0 = 3 ∧ c_byte u a = 59
  · rw [cif_t z3]; exact h.set (by decide)
  rw [cif_f z3]; exact (h.set (by decide)).set (by decide)
noncomputable def c_rl (K : Int32) : Nat → Nat → mS → mS
  | 0, _, u => u
  | f + 1, a, u => cif (mP u ≤ a ∨ ¬ u 61 0 = 0) u (cif (is_bl (c_byte u a)) (c_rl K f (a + 1) u) (c_rl K f (c_eot u a) (c_take u a (c_eot u a - a) K)))
noncomputable def c_fin (u : mS) : mS := cif (u 61 0 = 0 ∧ ¬ u 63 0 = 0) (c_bl u 1 (u 13 0)) u
def c_r0 (c : mS) : mS := m_set (m_set (m_set (m_row c 60 (fl (c 60) (-1) 8)) 61 0 0) 62 0 (-1)) 63 0 0
noncomputable def c_read (c : mS) (K : Int32) : mS := c_fin (c_rl K 201 0 (c_r0 c))
theorem c_k6.r0 (c : mS) : c_k6 (c_r0 c) c := fun a ha => by
  unfold c_r0
  rw [m_set_ne _ _ _ (by omega), m_set_ne _ _ _ (by omega), m_set_ne _ _ _ (by omega), m_row_ne _ _ (by omega)]
theorem c_k6.rl {c : mS} (K : Int32) : ∀ f a u, c_k6 u c → c_k6 (c_rl K f a u) c
  | 0, _, u, h => h
  | f + 1, a, u, h => by
    show c_k6 (cif _ _ _) c
    by_cases z : mP u ≤ a ∨ ¬ u 61 0 = 0
    · rw [cif_t z]; exact h
    rw [cif_f z]
    by_cases w : is_bl (c_byte u a)
    · rw [cif_t w]; exact c_k6.rl K f _ u h
    · rw [cif_f w]; exact c_k6.rl K f _ _ (h.take _ _ _)
theorem c_k6.fin {u c : mS} (h : c_k6 u c) : c_k6 (c_fin u) c := by
  unfold c_fin
  by_cases z : u 61 0 = 0 ∧ ¬ u 63 0 = 0
  · rw [cif_t z]; exact (h.set (by decide)).set (by decide)
  · rw [cif_f z]; exact h
theorem c_k6.read (c : mS) (K : Int32) : c_k6 (c_read c K) c := c_k6.fin (c_k6.rl K _ _ _ (c_k6.r0 c))
set_option maxHeartbeats 4000000 in
set_option maxRecDepth 100000 in
theorem cx_read {g : gT} {nq_ n9 : Nat} {sm : mS} {Y : cY} {c : mS} (K : Int32) (hY : Yok Y c n9) (hC9 : c_inv c) : M g 6 0 0 kX3_read [.ref 16, .ref 14, .int K] nq_ (hh sm Y c) (c_V nq_ sm Y (c_read c K)) := by
  refine M_of_G (by decide +kernel) (Nat.le_of_ble_eq_true rfl) ?_
  obtain ⟨hI, hG, hgv, hov, hrw, hps⟩ := id hC9
  obtain ⟨hK, hT, hB, hP9, hA, hkf, haf, hbf⟩ := id hI
  have hA2 := hA.2
  have hT2 := hT.2
  have hK2 := hK.2
  have hB2 := hB.2
  have hG2 := hG.2
  have hP2 := hP9.2
  have fin : ∀ u w9, w9.category = 1 → ∀ a, c_k6 u c → c_read c K = c_fin u → G g 6 0 0 kX3_read 78 [.ref 16, .ref 14, .int K, .int a, w9] [] nq_ (hh sm Y u) (c_V nq_ sm Y (c_read c K)) := by
    intro u w9 hw9 a hk hs
    refine G_aload_n dX3_read_78 rfl rfl ?_
    refine G_get dX3_read_79 fg_X3_15 (hx_16 _ _ _) rfl ?_
    refine G_if_ne (tgt := 101) dX3_read_82 (by decide) (fun c82 => ?_) (fun c82 => ?_)
    · skip
      refine G_vret dX3_read_101 rfl ?_
      first | exact v_cc (hs.trans (cif_f (fun q => c82 q.1))) | exact v_cc (hs.trans (cif_f (fun q => q.2 c89))) | exact v_cc (hs.trans (cif_t ⟨c82, c89⟩))
    · skip
      refine G_aload_n dX3_read_85 rfl rfl ?_
      refine G_get dX3_read_86 fg_X3_22 (hx_16 _ _ _) rfl ?_
      refine G_if_eq (tgt := 101) dX3_read_89 (by decide) (fun c89 => ?_) (fun c89 => ?_)
      · skip
        refine G_vret dX3_read_101 rfl ?_
        first | exact v_cc (hs.trans (cif_f (fun q => c82 q.1))) | exact v_cc (hs.trans (cif_f (fun q => q.2 c89))) | exact v_cc (hs.trans (cif_t ⟨c82, c89⟩))
      · skip
        refine G_aload_n dX3_read_92 rfl rfl ?_
        refine G_iconst (v := 1) dX3_read_93 rfl ?_
        refine G_aload_n dX3_read_94 rfl rfl ?_
        refine G_get dX3_read_95 fg_X3_34 (hx_14 _ _ _) rfl ?_
        refine G_callV (cx_blame _ _) dX3_read_98 (mc_X3_55 rfl) tw_506 tw_6 (hx_16 _ _ _) rfl rfl rfl (Nat.le_of_ble_eq_true rfl) (Nat.le_of_ble_eq_true rfl) (Nat.le_of_ble_eq_true rfl) (Nat.le_of_ble_eq_true rfl) ?_
        rintro _ n9_ _ ⟨rfl, e9_, rfl⟩
        obtain rfl := e9_.symm
        refine G_vret dX3_read_101 rfl ?_
        first | exact v_cc (hs.trans (cif_f (fun q => c82 q.1))) | exact v_cc (hs.trans (cif_f (fun q => q.2 c89))) | exact v_cc (hs.trans (cif_t ⟨c82, c89⟩))
  have loop : ∀ f a u w9, w9.category = 1 → c_k6 u c → mP c < a + f → a ≤ 200 → c_read c K = c_fin (c_rl K f a u) → G g 6 0 0 kX3_read 25 [.ref 16, .ref 14, .int K, .int (nI a), w9] [] nq_ (hh sm Y u) (c_V nq_ sm Y (c_read c K)) := by
    intro f
    induction f with
    | zero =>
      intro a u w9 hw9 hk hlt ha hs
      have hPu : u 13 0 = nI (mP c) := by rw [hk 13 (by decide)]; exact hP9.1
      refine G_iload_n dX3_read_25 rfl rfl ?_
      refine G_aload_n dX3_read_26 rfl rfl ?_
      refine G_get dX3_read_27 fg_X3_34 (hx_14 _ _ _) rfl ?_
      refine G_icmp_ge (tgt := 78) dX3_read_30 (by decide) (fun c30 => ?_) (fun c30 => ?_)
      · skip
        exact fin u w9 hw9 _ hk hs
      · skip
        exact absurd (by rw [hPu, nI_leI (by omega) (by omega)]; omega) c30
    | succ f ih =>
      intro a u w9 hw9 hk hlt ha hs
      have hPu : u 13 0 = nI (mP c) := by rw [hk 13 (by decide)]; exact hP9.1
      have ePu : mP u = mP c := hk.P
      have hCu := hk.inv hC9
      have hYu := hk.Y hY
      refine G_iload_n dX3_read_25 rfl rfl ?_
      refine G_aload_n dX3_read_26 rfl rfl ?_
      refine G_get dX3_read_27 fg_X3_34 (hx_14 _ _ _) rfl ?_
      refine G_icmp_ge (tgt := 78) dX3_read_30 (by decide) (fun c30 => ?_) (fun c30 => ?_)
      · skip
        exact fin u w9 hw9 _ hk (hs.trans (congrArg c_fin (cif_t (Or.inl (by rw [ePu]; rw [hPu, nI_leI (by omega) (by omega)] at c30; exact c30)))))
      · skip
        have hau : a < mP u := by rw [ePu]; rw [hPu, nI_leI (by omega) (by omega)] at c30; omega
        refine G_aload_n dX3_read_33 rfl rfl ?_
        refine G_get dX3_read_34 fg_X3_15 (hx_16 _ _ _) rfl ?_
        refine G_if_ne (tgt := 78) dX3_read_37 (by decide) (fun c37 => ?_) (fun c37 => ?_)
        · skip
          exact fin u w9 hw9 _ hk (hs.trans (congrArg c_fin (cif_t (Or.inr c37))))
        · skip
          refine G_aload_n dX3_read_40 rfl rfl ?_
          refine G_iload_n dX3_read_41 rfl rfl ?_
          refine G_callV (cx_byte a hYu hCu (by omega)) dX3_read_42 (mc_X3_39 rfl) tw_428 tw_429 (hx_14 _ _ _) rfl rfl rfl (Nat.le_of_ble_eq_true rfl) (Nat.le_of_ble_eq_true rfl) (Nat.le_of_ble_eq_true rfl) (Nat.le_of_ble_eq_true rfl) ?_
          rintro _ n9_ _ ⟨rfl, e9_, rfl⟩
          obtain rfl := e9_.symm
          refine G_callS (cx_blank _) dX3_read_45 (mc_X3_43 rfl) tw_432 rfl rfl (Nat.le_of_ble_eq_true rfl) (Nat.le_of_ble_eq_true rfl) (Nat.le_of_ble_eq_true rfl) (Nat.le_of_ble_eq_true rfl) ?_
          rintro _ n9_ _ ⟨rfl, e9_, rfl⟩
          obtain rfl := e9_.symm
          refine G_if_ne (tgt := 72) dX3_read_48 (by decide) (fun c48 => ?_) (fun c48 => ?_)
          · skip
            refine G_iinc (b := nI (a + 1)) dX3_read_72 rfl (nI_1 a) rfl ?_
            refine G_goto (tgt := 25) dX3_read_75 (by decide) ?_
            exact ih (a + 1) u w9 hw9 hk (by omega) (by omega) (hs.trans (congrArg c_fin ((cif_f (fun q => q.elim (by omega) (fun z => z c37))).trans (cif_t (b1_1 c48)))))
          · skip
            have heb := c_et_b u (wi (c_byte u a) 97 122) (wi (c_byte u a) 48 57) (mP u - (a + 1)) (a + 1)
            have he1 : a + 1 ≤ c_eot u a ∧ c_eot u a ≤ mP u := ⟨heb.1, by have := heb.2; unfold c_eot; omega⟩
            refine G_aload_n dX3_read_51 rfl rfl ?_
            refine G_iload_n dX3_read_52 rfl rfl ?_
            refine G_callS (cx_eot a hYu hCu hau) dX3_read_53 (mc_X3_47 rfl) tw_435 rfl rfl (Nat.le_of_ble_eq_true rfl) (Nat.le_of_ble_eq_true rfl) (Nat.le_of_ble_eq_true rfl) (Nat.le_of_ble_eq_true rfl) ?_
            rintro _ n9_ _ ⟨rfl, e9_, rfl⟩
            obtain rfl := e9_.symm
            refine G_istore dX3_read_56 (Nat.le_of_ble_eq_true rfl) rfl ?_
            refine G_aload_n dX3_read_58 rfl rfl ?_
            refine G_aload_n dX3_read_59 rfl rfl ?_
            refine G_iload_n dX3_read_60 rfl rfl ?_
            refine G_iload dX3_read_61 rfl ?_
            refine G_iload_n dX3_read_63 rfl rfl ?_
            refine G_top (w := .int K) rfl ?_
            have eam : a + (c_eot u a - a) = c_eot u a := by omega
            have hM := cx_take (g := g) (nq_ := nq_) (sm := sm) a (c_eot u a - a) K hYu hCu (by omega)
            rw [eam] at hM
            refine G_callV hM dX3_read_64 (mc_X3_51 rfl) tw_445 tw_4 (hx_16 _ _ _) rfl rfl rfl (Nat.le_of_ble_eq_true rfl) (Nat.le_of_ble_eq_true rfl) (Nat.le_of_ble_eq_true rfl) (Nat.le_of_ble_eq_true rfl) ?_
            rintro _ n9_ _ ⟨rfl, e9_, rfl⟩
            obtain rfl := e9_.symm
            refine G_iload dX3_read_67 rfl ?_
            refine G_iconst (v := 1) dX3_read_69 rfl ?_
            refine G_isub dX3_read_70 ?_
            obtain ⟨e, he⟩ : ∃ e, c_eot u a = e + 1 := ⟨c_eot u a - 1, by omega⟩
            refine G_top (w := .int (nI e)) (congrArg Value.int (by rw [he, nI_pred])) ?_
            refine G_istore_n dX3_read_71 rfl (Nat.le_of_ble_eq_true rfl) rfl ?_
            refine G_iinc (b := nI (c_eot u a)) dX3_read_72 rfl (by rw [he]; exact nI_1 e) rfl ?_
            refine G_goto (tgt := 25) dX3_read_75 (by decide) ?_
            exact ih (c_eot u a) _ _ rfl (hk.take _ _ _) (by omega) (by omega) (hs.trans (congrArg c_fin ((cif_f (fun q => q.elim (by omega) (fun z => z c37))).trans (cif_f (b1_0.mp c48)))))
  refine G_aload_n dX3_read_0 rfl rfl ?_
  refine G_get dX3_read_1 fg_X3_9 (hx_16 _ _ _) rfl ?_
  refine G_iconst (v := -1) dX3_read_4 rfl ?_
  refine G_callS (cj_fill _ (hx_17 _ _ _) (by decide)) dX3_read_5 (mc_X3_28 rfl) tw_161 rfl rfl (Nat.le_of_ble_eq_true rfl) (Nat.le_of_ble_eq_true rfl) (Nat.le_of_ble_eq_true rfl) (Nat.le_of_ble_eq_true rfl) ?_
  rintro _ n9_ _ ⟨rfl, e9_, rfl⟩
  obtain rfl := e9_.symm
  rw [hw_row17]
  refine G_aload_n dX3_read_8 rfl rfl ?_
  refine G_iconst (v := 0) dX3_read_9 rfl ?_
  refine GC_flt dX3_read_10 fp_X3_15 ?_
  refine G_aload_n dX3_read_13 rfl rfl ?_
  refine G_iconst (v := -1) dX3_read_14 rfl ?_
  refine GC_rpl dX3_read_15 fp_X3_19 ?_
  refine G_aload_n dX3_read_18 rfl rfl ?_
  refine G_iconst (v := 0) dX3_read_19 rfl ?_
  refine GC_due dX3_read_20 fp_X3_22 ?_
  refine G_iconst (v := 0) dX3_read_23 rfl ?_
  refine G_istore_n dX3_read_24 rfl (Nat.le_of_ble_eq_true rfl) rfl ?_
  exact loop 201 0 (c_r0 c) (.retAddr 0) rfl (c_k6.r0 c) (by omega) (by omega) rfl
def tl (c : mS) : Nat → mS
  | 0 => c
  | i + 1 => m_set (tl c i) 15 i (c 60 i)
theorem tl_o (c : mS) {j : Nat} (hj : j ≠ 15) : ∀ i, tl c i j = c j
  | 0 => rfl
  | i + 1 => (m_set_ne _ _ _ hj).trans (tl_o c hj i)
def c_tell (c : mS) : mS := m_set (tl c 8) 14 0 (c 14 0 + 1)
set_option maxHeartbeats 4000000 in
set_option maxRecDepth 100000 in
theorem cx_tell {g : gT} {nq_ : Nat} {sm : mS} {Y : cY} {c : mS} : M g 0 0 0 kX2_tell [.ref 18, .ref 17] nq_ (hh sm Y c) (c_V nq_ sm Y (c_tell c)) := by
  refine M_of_G (by decide +kernel) (Nat.le_of_ble_eq_true rfl) ?_
  have loop : ∀ m j, j + m = 8 → G g 0 0 0 kX2_tell 2 [.ref 18, .ref 17, .int (nI j)] [] nq_ (hh sm Y (tl c j)) (c_V nq_ sm Y (c_tell c)) := by
    intro m
    induction m with
    | zero =>
      intro j hj
      rw [Nat.add_zero] at hj
      subst hj
      refine G_iload_n dX2_tell_2 rfl rfl ?_
      refine G_bipush (v := 8) dX2_tell_3 rfl ?_
      refine G_icmp_ge (tgt := 29) dX2_tell_5 (by decide) (fun c5 => ?_) (fun c5 => ?_)
      · skip
        refine G_aload_n dX2_tell_29 rfl rfl ?_
        refine G_dup dX2_tell_30 rfl ?_
        refine G_get dX2_tell_31 fg_X2_9 (hx_18 _ _ _) rfl ?_
        refine G_iconst (v := 1) dX2_tell_34 rfl ?_
        refine G_iadd dX2_tell_35 ?_
        refine G_top (w := .int (c 14 0 + 1)) (congrArg (fun z => Value.int (z + 1)) (congrFun (tl_o c (by decide) 8) 0)) ?_
        refine GC_told dX2_tell_36 fp_X2_9 ?_
        refine G_vret dX2_tell_39 rfl ?_
        exact ⟨rfl, rfl, rfl⟩
      · skip
        exact absurd (show (8 : Int32) ≤ nI 8 by decide) c5
    | succ m ih =>
      intro j hj
      refine G_iload_n dX2_tell_2 rfl rfl ?_
      refine G_bipush (v := 8) dX2_tell_3 rfl ?_
      refine G_icmp_ge (tgt := 29) dX2_tell_5 (by decide) (fun c5 => ?_) (fun c5 => ?_)
      · skip
        exact absurd c5 (by rw [show (8 : Int32) = nI 8 from rfl, nI_leI (by decide) (by omega)]; omega)
      · skip
        refine G_iload_n dX2_tell_8 rfl rfl ?_
        refine G_aload_n dX2_tell_9 rfl rfl ?_
        refine G_alen dX2_tell_10 (fun _ => rfl) (hx_17 _ _ _) ?_
        refine G_icmp_ge (tgt := 29) dX2_tell_11 (by decide) (fun c11 => ?_) (fun c11 => ?_)
        · skip
          exact absurd c11 (by rw [nI_leI (by decide) (by omega)]; omega)
        · skip
          refine G_aload_n dX2_tell_14 rfl rfl ?_
          refine G_get dX2_tell_15 fg_X2_18 (hx_18 _ _ _) rfl ?_
          refine G_iload_n dX2_tell_18 rfl rfl ?_
          refine G_aload_n dX2_tell_19 rfl rfl ?_
          refine G_iload_n dX2_tell_20 rfl rfl ?_
          refine GR_rwt dX2_tell_21 ⟨rfl, by omega⟩ ?_
          refine G_top (w := .int (c 60 j)) (congrArg Value.int (congrFun (tl_o c (by decide) j) j)) ?_
          refine GC_lwt dX2_tell_22 ⟨rfl, by omega⟩ ?_
          refine G_iinc (b := nI (j + 1)) dX2_tell_23 rfl (nI_1 j) rfl ?_
          refine G_goto (tgt := 2) dX2_tell_26 (by decide) ?_
          exact ih (j + 1) (by omega)
  refine G_iconst (v := 0) dX2_tell_0 rfl ?_
  refine G_istore_n dX2_tell_1 rfl (Nat.le_of_ble_eq_true rfl) rfl ?_
  exact loop 8 0 rfl
noncomputable def c_lw (c : mS) : mS := m_set (m_set (c_read c (c 1 0)) 13 0 0) 18 0 (c_read c (c 1 0) 62 0)
noncomputable def cp_law (c : mS) : mS × Int32 := cif (c 14 0 < 20) (cif (c_lw c 61 0 = 0) (c_tell (c_lw c), c_lw c 14 0) (c_lw c, -1 - c_lw c 61 0)) (c, -1)
set_option maxHeartbeats 4000000 in
set_option maxRecDepth 100000 in
theorem cp9_law {g : gT} {nq_ n9 : Nat} {sm : mS} {Y : cY} {c : mS}  (hY : Yok Y c n9) (hC9 : c_inv c) : M g 7 0 0 kX8_law [.ref 8] nq_ (hh sm Y c) (c_S (.int (cp_law c).2) nq_ sm Y (cp_law c).1) := by
  refine M_of_G (by decide +kernel) (Nat.le_of_ble_eq_true rfl) ?_
  obtain ⟨hI, hG, hgv, hov, hrw, hps⟩ := id hC9
  obtain ⟨hK, hT, hB, hP9, hA, hkf, haf, hbf⟩ := id hI
  have hA2 := hA.2
  have hT2 := hT.2
  have hK2 := hK.2
  have hB2 := hB.2
  have hG2 := hG.2
  have hP2 := hP9.2
  refine G_aload_n dX8_law_0 rfl rfl ?_
  refine G_get dX8_law_1 fg_X8_45 (hx_8 _ _ _) rfl ?_
  refine G_get dX8_law_4 fg_X8_101 (hx_18 _ _ _) rfl ?_
  refine G_bipush (v := 20) dX8_law_7 rfl ?_
  refine G_icmp_lt (tgt := 14) dX8_law_9 (by decide) (fun c9 => ?_) (fun c9 => ?_)
  · skip
    refine G_aload_n dX8_law_14 rfl rfl ?_
    refine G_get dX8_law_15 fg_X8_38 (hx_8 _ _ _) rfl ?_
    refine G_aload_n dX8_law_18 rfl rfl ?_
    refine G_get dX8_law_19 fg_X8_31 (hx_8 _ _ _) rfl ?_
    refine G_aload_n dX8_law_22 rfl rfl ?_
    refine G_get dX8_law_23 fg_X8_10 (hx_8 _ _ _) rfl ?_
    refine GL_size0 dX8_law_26 (mc_X8_60 rfl) (Nat.le_of_ble_eq_true rfl) (Nat.le_of_ble_eq_true rfl) ?_
    refine G_callV (cx_read _ hY hC9) dX8_law_29 (mc_X8_104 rfl) tw_423 tw_424 (hx_16 _ _ _) rfl rfl rfl (Nat.le_of_ble_eq_true rfl) (Nat.le_of_ble_eq_true rfl) (Nat.le_of_ble_eq_true rfl) (Nat.le_of_ble_eq_true rfl) ?_
    rintro _ n9_ _ ⟨rfl, e9_, rfl⟩
    obtain rfl := e9_.symm
    refine G_aload_n dX8_law_32 rfl rfl ?_
    refine G_get dX8_law_33 fg_X8_31 (hx_8 _ _ _) rfl ?_
    refine G_iconst (v := 0) dX8_law_36 rfl ?_
    refine GC_len dX8_law_37 fp_X8_98 ?_
    refine G_aload_n dX8_law_40 rfl rfl ?_
    refine G_get dX8_law_41 fg_X8_45 (hx_8 _ _ _) rfl ?_
    refine G_aload_n dX8_law_44 rfl rfl ?_
    refine G_get dX8_law_45 fg_X8_38 (hx_8 _ _ _) rfl ?_
    refine G_get dX8_law_48 fg_X8_108 (hx_16 _ _ _) rfl ?_
    refine GC_place dX8_law_51 fp_X8_111 ?_
    refine G_aload_n dX8_law_54 rfl rfl ?_
    refine G_get dX8_law_55 fg_X8_38 (hx_8 _ _ _) rfl ?_
    refine G_get dX8_law_58 fg_X8_112 (hx_16 _ _ _) rfl ?_
    refine G_if_eq (tgt := 74) dX8_law_61 (by decide) (fun c61 => ?_) (fun c61 => ?_)
    · skip
      refine G_aload_n dX8_law_74 rfl rfl ?_
      refine G_get dX8_law_75 fg_X8_45 (hx_8 _ _ _) rfl ?_
      refine G_aload_n dX8_law_78 rfl rfl ?_
      refine G_get dX8_law_79 fg_X8_38 (hx_8 _ _ _) rfl ?_
      refine G_get dX8_law_82 fg_X8_115 (hx_16 _ _ _) rfl ?_
      refine G_callV (cx_tell) dX8_law_85 (mc_X8_119 rfl) tw_513 tw_514 (hx_18 _ _ _) rfl rfl rfl (Nat.le_of_ble_eq_true rfl) (Nat.le_of_ble_eq_true rfl) (Nat.le_of_ble_eq_true rfl) (Nat.le_of_ble_eq_true rfl) ?_
      rintro _ n9_ _ ⟨rfl, e9_, rfl⟩
      obtain rfl := e9_.symm
      refine G_aload_n dX8_law_88 rfl rfl ?_
      refine G_get dX8_law_89 fg_X8_45 (hx_8 _ _ _) rfl ?_
      refine G_get dX8_law_92 fg_X8_101 (hx_18 _ _ _) rfl ?_
      refine G_iconst (v := 1) dX8_law_95 rfl ?_
      refine G_isub dX8_law_96 ?_
      refine G_iret dX8_law_97 rfl ?_
      exact c_close ((cif_t c9).trans ((cif_t c61).trans (Prod.ext rfl (Int32.add_sub_cancel _ _).symm)))
    · skip
      refine G_iconst (v := -1) dX8_law_64 rfl ?_
      refine G_aload_n dX8_law_65 rfl rfl ?_
      refine G_get dX8_law_66 fg_X8_38 (hx_8 _ _ _) rfl ?_
      refine G_get dX8_law_69 fg_X8_112 (hx_16 _ _ _) rfl ?_
      refine G_isub dX8_law_72 ?_
      refine G_iret dX8_law_73 rfl ?_
      exact c_close ((cif_t c9).trans (cif_f c61))
  · skip
    refine G_iconst (v := -1) dX8_law_12 rfl ?_
    refine G_iret dX8_law_13 rfl ?_
    exact c_close (cif_f c9)
noncomputable def c_bg (c : mS) (k : Nat) : Nat → Nat × Int32
  | 0 => (0, 0)
  | i + 1 => cif ((c_bg c k i).2 ≤ c 30 (ix (c 80 i)) ∧ s_fits c k (ix (c 80 i))) ((c_bg c k i).1 + 1, c 31 (ix (c 80 i)) + c 2 k + 1) (c_bg c k i)
noncomputable def cp_buy (c : mS) (v : Int32) : mS × Int32 := (c, cif (wi v 0 (c 1 0 - 1)) (nI (c_bg c (ix v) (mL c)).1) (-1))
set_option maxHeartbeats 4000000 in
set_option maxRecDepth 100000 in
theorem cp9_buy {g : gT} {nq_ n9 : Nat} {sm : mS} {Y : cY} {c : mS} (v : Int32) (hY : Yok Y c n9) (hC9 : c_inv c) : M g 4 0 0 kX8_buy [.ref 8, .int v] nq_ (hh sm Y c) (c_S (.int (cp_buy c v).2) nq_ sm Y (cp_buy c v).1) := by
  refine M_of_G (by decide +kernel) (Nat.le_of_ble_eq_true rfl) ?_
  obtain ⟨hI, hG, hgv, hov, hrw, hps⟩ := id hC9
  obtain ⟨hK, hT, hB, hP9, hA, hkf, haf, hbf⟩ := id hI
  have hA2 := hA.2
  have hT2 := hT.2
  have hK2 := hK.2
  have hB2 := hB.2
  have hG2 := hG.2
  have hP2 := hP9.2
  refine G_aload_n dX8_buy_0 rfl rfl ?_
  refine G_iload_n dX8_buy_1 rfl rfl ?_
  refine G_callV (cx_kindAt v hY hC9) dX8_buy_2 (mc_X8_77 rfl) tw_328 tw_3 (hx_8 _ _ _) rfl rfl rfl (Nat.le_of_ble_eq_true rfl) (Nat.le_of_ble_eq_true rfl) (Nat.le_of_ble_eq_true rfl) (Nat.le_of_ble_eq_true rfl) ?_
  rintro _ n9_ _ ⟨rfl, e9_, rfl⟩
  obtain rfl := e9_.symm
  by_cases hw2 : wi v 0 (c 1 0 - 1)
  · obtain ⟨j, hj, rfl⟩ := m_ixe hK (by decide) hw2
    have ej : ix (nI j) = j := nI_clamp (by omega)
    refine G_top (w := .ref (y_a Y 1 j)) (by unfold oW; rw [cif_t hw2, ej]; rfl) ?_
    refine G_astore_n dX8_buy_5 rfl (Nat.le_of_ble_eq_true rfl) rfl ?_
    refine G_aload_n dX8_buy_6 rfl rfl ?_
    refine G_ifnonnull (tgt := 12) dX8_buy_7 (by decide) ?_
    refine G_iconst (v := 0) dX8_buy_12 rfl ?_
    refine G_istore_n dX8_buy_13 rfl (Nat.le_of_ble_eq_true rfl) rfl ?_
    refine G_iconst (v := 0) dX8_buy_14 rfl ?_
    refine G_istore dX8_buy_15 (Nat.le_of_ble_eq_true rfl) rfl ?_
    refine G_iconst (v := 0) dX8_buy_17 rfl ?_
    refine G_istore dX8_buy_18 (Nat.le_of_ble_eq_true rfl) rfl ?_
    have loop : ∀ m i, i + m = mL c → ∀ w9 : Value, w9.category = 1 → G g 4 0 0 kX8_buy 20 [.ref 8, .int (nI j), .ref (y_a Y 1 j), .int (nI (c_bg c j i).1), .int (c_bg c j i).2, .int (nI i), w9] [] nq_ (hh sm Y c) (c_S (.int (cp_buy c (nI j)).2) nq_ sm Y (cp_buy c (nI j)).1) := by
      intro m
      induction m with
      | zero =>
        intro i hi0 w9 hw9
        rw [Nat.add_zero] at hi0
        refine G_iload dX8_buy_20 rfl ?_
        refine G_aload_n dX8_buy_22 rfl rfl ?_
        refine G_get dX8_buy_23 fg_X8_25 (hx_8 _ _ _) rfl ?_
        refine GL_size4 dX8_buy_26 (mc_X8_60 rfl) (Nat.le_of_ble_eq_true rfl) (Nat.le_of_ble_eq_true rfl) ?_
        refine G_icmp_ge (tgt := 88) dX8_buy_29 (by decide) (fun c29 => ?_) (fun c29 => ?_)
        · skip
          refine G_iload_n dX8_buy_88 rfl rfl ?_
          refine G_iret dX8_buy_89 rfl ?_
          refine c_close (Prod.ext rfl ?_)
          show cif _ (nI (c_bg c (ix (nI j)) (mL c)).1) _ = _
          rw [ej, cif_t hw2, ← hi0]
        · skip
          exact absurd (by rw [hG.1]; exact nI_le (Nat.le_of_eq hi0.symm) (by omega)) c29
      | succ m ih =>
        intro i hi0 w9 hw9
        refine G_iload dX8_buy_20 rfl ?_
        refine G_aload_n dX8_buy_22 rfl rfl ?_
        refine G_get dX8_buy_23 fg_X8_25 (hx_8 _ _ _) rfl ?_
        refine GL_size4 dX8_buy_26 (mc_X8_60 rfl) (Nat.le_of_ble_eq_true rfl) (Nat.le_of_ble_eq_true rfl) ?_
        refine G_icmp_ge (tgt := 88) dX8_buy_29 (by decide) (fun c29 => ?_) (fun c29 => ?_)
        · skip
          exact absurd c29 (by rw [hG.1, nI_leI (by omega) (by omega)]; omega)
        · skip
          refine G_aload_n dX8_buy_32 rfl rfl ?_
          refine G_get dX8_buy_33 fg_X8_25 (hx_8 _ _ _) rfl ?_
          refine G_iload dX8_buy_36 rfl ?_
          refine GL_get4 (i := i) (sz := mL c) dX8_buy_38 (mc_X8_158 rfl) hY hG.1 (show i < mL c by omega) (Nat.le_trans hG.2 (by decide)) (Nat.le_of_ble_eq_true rfl) (Nat.le_of_ble_eq_true rfl) ?_
          refine G_cast (ci := 0) dX8_buy_41 rfl tw_557 (hx_A hY (hgv _ (show i < mL c by omega)).2) ?_
          refine G_astore dX8_buy_44 (Nat.le_of_ble_eq_true rfl) rfl ?_
          refine G_aload dX8_buy_46 rfl ?_
          refine G_get dX8_buy_48 fg_X8_207 (hx_A hY (hgv _ (show i < mL c by omega)).2) rfl ?_
          refine G_iload dX8_buy_51 rfl ?_
          refine G_icmp_lt (tgt := 82) dX8_buy_53 (by decide) (fun c53 => ?_) (fun c53 => ?_)
          · skip
            refine G_iinc (b := nI (i + 1)) dX8_buy_82 rfl (nI_1 i) rfl ?_
            refine G_goto (tgt := 20) dX8_buy_85 (by decide) ?_
            first | (have z9 := ih (i + 1) (by omega) (.ref (y_a Y 0 (ix (c 80 i)))) rfl; rw [show c_bg c j (i + 1) = c_bg c j i from cif_f (fun q => absurd q.1 (Int32.not_le.mpr c53))] at z9; exact z9) | (have z9 := ih (i + 1) (by omega) (.ref (y_a Y 0 (ix (c 80 i)))) rfl; rw [show c_bg c j (i + 1) = c_bg c j i from cif_f (fun q => b1_0.mp c62 q.2)] at z9; exact z9) | (have z9 := ih (i + 1) (by omega) (.ref (y_a Y 0 (ix (c 80 i)))) rfl; rw [show c_bg c j (i + 1) = ((c_bg c j i).1 + 1, c 31 (ix (c 80 i)) + c 2 j + 1) from cif_t ⟨Int32.not_lt.mp c53, b1_1 c62⟩] at z9; exact z9)
          · skip
            refine G_aload_n dX8_buy_56 rfl rfl ?_
            refine G_aload dX8_buy_57 rfl ?_
            refine G_callV (cx_fits j _ hY hC9 hj (hgv i (by omega)).2) dX8_buy_59 (mc_X8_236 rfl) tw_636 tw_637 (hx_K hY hj) rfl rfl rfl (Nat.le_of_ble_eq_true rfl) (Nat.le_of_ble_eq_true rfl) (Nat.le_of_ble_eq_true rfl) (Nat.le_of_ble_eq_true rfl) ?_
            rintro _ n9_ _ ⟨rfl, e9_, rfl⟩
            obtain rfl := e9_.symm
            refine G_if_eq (tgt := 82) dX8_buy_62 (by decide) (fun c62 => ?_) (fun c62 => ?_)
            · skip
              refine G_iinc (b := nI (i + 1)) dX8_buy_82 rfl (nI_1 i) rfl ?_
              refine G_goto (tgt := 20) dX8_buy_85 (by decide) ?_
              first | (have z9 := ih (i + 1) (by omega) (.ref (y_a Y 0 (ix (c 80 i)))) rfl; rw [show c_bg c j (i + 1) = c_bg c j i from cif_f (fun q => absurd q.1 (Int32.not_le.mpr c53))] at z9; exact z9) | (have z9 := ih (i + 1) (by omega) (.ref (y_a Y 0 (ix (c 80 i)))) rfl; rw [show c_bg c j (i + 1) = c_bg c j i from cif_f (fun q => b1_0.mp c62 q.2)] at z9; exact z9) | (have z9 := ih (i + 1) (by omega) (.ref (y_a Y 0 (ix (c 80 i)))) rfl; rw [show c_bg c j (i + 1) = ((c_bg c j i).1 + 1, c 31 (ix (c 80 i)) + c 2 j + 1) from cif_t ⟨Int32.not_lt.mp c53, b1_1 c62⟩] at z9; exact z9)
            · skip
              refine G_iinc (b := nI ((c_bg c j i).1 + 1)) dX8_buy_65 rfl (nI_1 _) rfl ?_
              refine G_aload dX8_buy_68 rfl ?_
              refine G_get dX8_buy_70 fg_X8_198 (hx_A hY (hgv _ (show i < mL c by omega)).2) rfl ?_
              refine G_aload_n dX8_buy_73 rfl rfl ?_
              refine G_get dX8_buy_74 fg_X8_240 (hx_K hY hj) rfl ?_
              refine G_iadd dX8_buy_77 ?_
              refine G_iconst (v := 1) dX8_buy_78 rfl ?_
              refine G_iadd dX8_buy_79 ?_
              refine G_istore dX8_buy_80 (Nat.le_of_ble_eq_true rfl) rfl ?_
              refine G_iinc (b := nI (i + 1)) dX8_buy_82 rfl (nI_1 i) rfl ?_
              refine G_goto (tgt := 20) dX8_buy_85 (by decide) ?_
              first | (have z9 := ih (i + 1) (by omega) (.ref (y_a Y 0 (ix (c 80 i)))) rfl; rw [show c_bg c j (i + 1) = c_bg c j i from cif_f (fun q => absurd q.1 (Int32.not_le.mpr c53))] at z9; exact z9) | (have z9 := ih (i + 1) (by omega) (.ref (y_a Y 0 (ix (c 80 i)))) rfl; rw [show c_bg c j (i + 1) = c_bg c j i from cif_f (fun q => b1_0.mp c62 q.2)] at z9; exact z9) | (have z9 := ih (i + 1) (by omega) (.ref (y_a Y 0 (ix (c 80 i)))) rfl; rw [show c_bg c j (i + 1) = ((c_bg c j i).1 + 1, c 31 (ix (c 80 i)) + c 2 j + 1) from cif_t ⟨Int32.not_lt.mp c53, b1_1 c62⟩] at z9; exact z9)
    exact loop (mL c) 0 (by omega) (.retAddr 0) rfl
  · refine G_top (w := .null) (by unfold oW; rw [cif_f hw2]; rfl) ?_
    refine G_astore_nN dX8_buy_5 rfl (Nat.le_of_ble_eq_true rfl) rfl ?_
    refine G_aload_nN dX8_buy_6 rfl rfl ?_
    refine G_ifnonnullN dX8_buy_7 ?_
    refine G_iconst (v := -1) dX8_buy_10 rfl ?_
    refine G_iret dX8_buy_11 rfl ?_
    exact c_close (Prod.ext rfl (cif_f hw2))
theorem c_inv_st {c : mS} {a : Nat} {v : Int32} (h : c_inv c) (h1 : ¬ v = 1) (h3 : ¬ v = 3) : c_inv (m_set c 24 a v) := ⟨m_inv_st h.1 h1 h3, h.2⟩
theorem c_inv_on {c : mS} {a t : Nat} (h : c_inv c) (ht : t < mT c) : c_inv (m_set c 25 a (nI t)) := ⟨m_inv_on h.1 ht, h.2⟩
theorem c_inv_26 {c : mS} {a : Nat} {v : Int32} (h : c_inv c) : c_inv (m_set c 26 a v) := h
theorem c_inv_11 {c : mS} {v : Int32} (h : c_inv c) : c_inv (m_set c 11 0 v) := h
noncomputable def ls_r : Nat → Nat → mS → mS
  | 0, _, c => c
  | m + 1, i, c => ls_r m (i + 1) (cif (c 24 i = 1 ∧ c 31 i < c 11 0) (m_set c 24 i 5) c)
theorem ls_r_eq (c : mS) : ∀ m i, ls_r m i (ls_l c i) = ls_l c (i + m)
  | 0, i => rfl
  | m + 1, i => by
    have e : cif (ls_l c i 24 i = 1 ∧ ls_l c i 31 i < ls_l c i 11 0) (m_set (ls_l c i) 24 i 5) (ls_l c i) = ls_l c (i + 1) := by
      rw [ls_l_24 c i i (Nat.le_refl _), ls_l_o c (by decide) i, ls_l_o c (by decide) i]
      rfl
    show ls_r m (i + 1) (cif _ _ _) = _
    rw [e, ls_r_eq c m (i + 1)]
    congr 1
    omega
set_option maxHeartbeats 4000000 in
set_option maxRecDepth 100000 in
theorem cx_lose {g : gT} {nq_ n9 : Nat} {sm : mS} {Y : cY} {c fin : mS} (hY : Yok Y c n9) (hC9 : c_inv c) (he : fin = ls_l c (mA c)) : M g 3 0 0 kX8_loseWhatIsOver [.ref 8] nq_ (hh sm Y c) (c_V nq_ sm Y fin) := by
  refine M_of_G (by decide +kernel) (Nat.le_of_ble_eq_true rfl) ?_
  have loop : ∀ m i (c : mS) (w9 : Value), w9.category = 1 → c_inv c → Yok Y c n9 → i + m = mA c → fin = ls_r m i c → G g 3 0 0 kX8_loseWhatIsOver 2 [.ref 8, .int (nI i), w9] [] nq_ (hh sm Y c) (c_V nq_ sm Y fin) := by
    intro m
    induction m with
    | zero =>
      intro i c w9 hw9 hC9 hY hi0 hs
      obtain ⟨hI, hG, hgv, hov, hrw, hps⟩ := id hC9
      obtain ⟨hK, hT, hB, hP9, hA, hkf, haf, hbf⟩ := id hI
      have hA2 := hA.2
      have hT2 := hT.2
      have hK2 := hK.2
      have hB2 := hB.2
      have hG2 := hG.2
      have hP2 := hP9.2
      refine G_iload_n dX8_loseWhatIsOver_2 rfl rfl ?_
      refine G_aload_n dX8_loseWhatIsOver_3 rfl rfl ?_
      refine G_get dX8_loseWhatIsOver_4 fg_X8_22 (hx_8 _ _ _) rfl ?_
      refine GL_size3 dX8_loseWhatIsOver_7 (mc_X8_60 rfl) (Nat.le_of_ble_eq_true rfl) (Nat.le_of_ble_eq_true rfl) ?_
      refine G_icmp_ge (tgt := 55) dX8_loseWhatIsOver_10 (by decide) (fun c10 => ?_) (fun c10 => ?_)
      · skip
        refine G_vret dX8_loseWhatIsOver_55 rfl ?_
        exact v_cc hs
      · skip
        exact absurd (by rw [hA.1]; exact nI_le (by omega) (by omega)) c10
    | succ m ih =>
      intro i c w9 hw9 hC9 hY hi0 hs
      obtain ⟨hI, hG, hgv, hov, hrw, hps⟩ := id hC9
      obtain ⟨hK, hT, hB, hP9, hA, hkf, haf, hbf⟩ := id hI
      have hA2 := hA.2
      have hT2 := hT.2
      have hK2 := hK.2
      have hB2 := hB.2
      have hG2 := hG.2
      have hP2 := hP9.2
      have hi : i < mA c := by omega
      refine G_iload_n dX8_loseWhatIsOver_2 rfl rfl ?_
      refine G_aload_n dX8_loseWhatIsOver_3 rfl rfl ?_
      refine G_get dX8_loseWhatIsOver_4 fg_X8_22 (hx_8 _ _ _) rfl ?_
      refine GL_size3 dX8_loseWhatIsOver_7 (mc_X8_60 rfl) (Nat.le_of_ble_eq_true rfl) (Nat.le_of_ble_eq_true rfl) ?_
      refine G_icmp_ge (tgt := 55) dX8_loseWhatIsOver_10 (by decide) (fun c10 => ?_) (fun c10 => ?_)
      · skip
        exact absurd c10 (by rw [hA.1, nI_leI (by omega) (by omega)]; omega)
      · skip
        refine G_aload_n dX8_loseWhatIsOver_13 rfl rfl ?_
        refine G_get dX8_loseWhatIsOver_14 fg_X8_22 (hx_8 _ _ _) rfl ?_
        refine G_iload_n dX8_loseWhatIsOver_17 rfl rfl ?_
        refine GL_get3 (i := i) (sz := mA c) dX8_loseWhatIsOver_18 (mc_X8_158 rfl) hY hA.1 hi (Nat.le_trans hA.2 (by decide)) (Nat.le_of_ble_eq_true rfl) (Nat.le_of_ble_eq_true rfl) ?_
        refine G_cast (ci := 0) dX8_loseWhatIsOver_21 rfl tw_557 (hx_A hY hi) ?_
        refine G_astore_n dX8_loseWhatIsOver_24 rfl (Nat.le_of_ble_eq_true rfl) rfl ?_
        refine G_aload_n dX8_loseWhatIsOver_25 rfl rfl ?_
        refine G_get dX8_loseWhatIsOver_26 fg_X8_162 (hx_A hY hi) rfl ?_
        refine G_iconst (v := 1) dX8_loseWhatIsOver_29 rfl ?_
        refine G_icmp_ne (tgt := 49) dX8_loseWhatIsOver_30 (by decide) (fun c30 => ?_) (fun c30 => ?_)
        · skip
          refine G_iinc (b := nI (i + 1)) dX8_loseWhatIsOver_49 rfl (nI_1 i) rfl ?_
          refine G_goto (tgt := 2) dX8_loseWhatIsOver_52 (by decide) ?_
          first | exact ih (i + 1) _ _ rfl hC9 hY (by omega) (hs.trans (congrArg (ls_r m (i + 1)) (cif_f (fun q => c30 q.1)))) | exact ih (i + 1) _ _ rfl hC9 hY (by omega) (hs.trans (congrArg (ls_r m (i + 1)) (cif_f (fun q => absurd q.2 (Int32.not_lt.mpr c41))))) | exact ih (i + 1) _ _ rfl (c_inv_st hC9 (by decide) (by decide)) (hY.same rfl rfl rfl rfl rfl) (by show _ = mA c; omega) (hs.trans (congrArg (ls_r m (i + 1)) (cif_t ⟨c30, Int32.not_le.mp c41⟩)))
        · skip
          refine G_aload_n dX8_loseWhatIsOver_33 rfl rfl ?_
          refine G_get dX8_loseWhatIsOver_34 fg_X8_198 (hx_A hY hi) rfl ?_
          refine G_aload_n dX8_loseWhatIsOver_37 rfl rfl ?_
          refine G_get dX8_loseWhatIsOver_38 fg_X8_56 (hx_8 _ _ _) rfl ?_
          refine G_icmp_ge (tgt := 49) dX8_loseWhatIsOver_41 (by decide) (fun c41 => ?_) (fun c41 => ?_)
          · skip
            refine G_iinc (b := nI (i + 1)) dX8_loseWhatIsOver_49 rfl (nI_1 i) rfl ?_
            refine G_goto (tgt := 2) dX8_loseWhatIsOver_52 (by decide) ?_
            first | exact ih (i + 1) _ _ rfl hC9 hY (by omega) (hs.trans (congrArg (ls_r m (i + 1)) (cif_f (fun q => c30 q.1)))) | exact ih (i + 1) _ _ rfl hC9 hY (by omega) (hs.trans (congrArg (ls_r m (i + 1)) (cif_f (fun q => absurd q.2 (Int32.not_lt.mpr c41))))) | exact ih (i + 1) _ _ rfl (c_inv_st hC9 (by decide) (by decide)) (hY.same rfl rfl rfl rfl rfl) (by show _ = mA c; omega) (hs.trans (congrArg (ls_r m (i + 1)) (cif_t ⟨c30, Int32.not_le.mp c41⟩)))
          · skip
            refine G_aload_n dX8_loseWhatIsOver_44 rfl rfl ?_
            refine G_iconst (v := 5) dX8_loseWhatIsOver_45 rfl ?_
            refine GC_state dX8_loseWhatIsOver_46 fp_X8_162 hY hi ?_
            refine G_iinc (b := nI (i + 1)) dX8_loseWhatIsOver_49 rfl (nI_1 i) rfl ?_
            refine G_goto (tgt := 2) dX8_loseWhatIsOver_52 (by decide) ?_
            first | exact ih (i + 1) _ _ rfl hC9 hY (by omega) (hs.trans (congrArg (ls_r m (i + 1)) (cif_f (fun q => c30 q.1)))) | exact ih (i + 1) _ _ rfl hC9 hY (by omega) (hs.trans (congrArg (ls_r m (i + 1)) (cif_f (fun q => absurd q.2 (Int32.not_lt.mpr c41))))) | exact ih (i + 1) _ _ rfl (c_inv_st hC9 (by decide) (by decide)) (hY.same rfl rfl rfl rfl rfl) (by show _ = mA c; omega) (hs.trans (congrArg (ls_r m (i + 1)) (cif_t ⟨c30, Int32.not_le.mp c41⟩)))
  have h0 := loop (mA c) 0 c (.retAddr 0) rfl hC9 hY (by omega) (he.trans (by rw [show ls_r (mA c) 0 c = ls_l c (0 + mA c) from ls_r_eq c (mA c) 0, Nat.zero_add]))
  refine G_iconst (v := 0) dX8_loseWhatIsOver_0 rfl ?_
  refine G_istore_n dX8_loseWhatIsOver_1 rfl (Nat.le_of_ble_eq_true rfl) rfl ?_
  exact h0
def c_must (c : mS) (a : Nat) : Prop := c 24 a = 1 ∧ ¬ c 25 a = -1 ∧ c_late c (ix (c 25 a)) ∧ ¬ s_free c (nI (ix (c 25 a))) (c 30 a) (c 31 a) (nI a)
set_option maxHeartbeats 4000000 in
set_option maxRecDepth 100000 in
theorem cx_must {g : gT} {nq_ n9 : Nat} {sm : mS} {Y : cY} {c : mS} (a : Nat) (hY : Yok Y c n9) (hC9 : c_inv c) (ha : a < mA c) : M g 5 0 0 kX8_mustMove [.ref 8, .ref (y_a Y 0 a)] nq_ (hh sm Y c) (m_Q (.int (b1 (c_must c a))) nq_ (hh sm Y c)) := by
  refine M_of_G (by decide +kernel) (Nat.le_of_ble_eq_true rfl) ?_
  obtain ⟨hI, hG, hgv, hov, hrw, hps⟩ := id hC9
  obtain ⟨hK, hT, hB, hP9, hA, hkf, haf, hbf⟩ := id hI
  have hA2 := hA.2
  have hT2 := hT.2
  have hK2 := hK.2
  have hB2 := hB.2
  have hG2 := hG.2
  have hP2 := hP9.2
  refine G_aload_n dX8_mustMove_0 rfl rfl ?_
  refine G_get dX8_mustMove_1 fg_X8_162 (hx_A hY ha) rfl ?_
  refine G_iconst (v := 1) dX8_mustMove_4 rfl ?_
  refine G_icmp_ne (tgt := 45) dX8_mustMove_5 (by decide) (fun c5 => ?_) (fun c5 => ?_)
  · skip
    refine G_iconst (v := 0) dX8_mustMove_45 rfl ?_
    refine G_zret dX8_mustMove_46 rfl rfl ?_
    first | exact q_t ⟨c5, e12, b1_1 c26, b1_0.mp c38⟩ | exact q_f (fun q => c5 q.1) | exact q_f (fun q => q.2.1 e12) | exact q_f (fun q => b1_0.mp c26 q.2.2.1) | exact q_f (fun q => q.2.2.2 (b1_1 c38))
  · skip
    refine G_aload_n dX8_mustMove_8 rfl rfl ?_
    refine G_get dX8_mustMove_9 fg_X8_183 (hx_A hY ha) rfl ?_
    refine G_ifnullR (o := (oR (y_a Y 7) (c 25 a))) (tgt := 45) dX8_mustMove_12 (by decide) (fun c12 => ?_) (fun i12 c12 => ?_)
    · skip
      have e12 := oR_no.mp c12
      refine G_iconst (v := 0) dX8_mustMove_45 rfl ?_
      refine G_zret dX8_mustMove_46 rfl rfl ?_
      first | exact q_t ⟨c5, e12, b1_1 c26, b1_0.mp c38⟩ | exact q_f (fun q => c5 q.1) | exact q_f (fun q => q.2.1 e12) | exact q_f (fun q => b1_0.mp c26 q.2.2.1) | exact q_f (fun q => q.2.2.2 (b1_1 c38))
    · skip
      obtain ⟨e12, rfl⟩ := oR_so c12
      refine G_aload_n dX8_mustMove_15 rfl rfl ?_
      refine G_get dX8_mustMove_16 fg_X8_183 (hx_A hY ha) rfl ?_
      refine G_top (w := .ref (y_a Y 7 (ix (c 25 a)))) (congrArg va_rf (oR_at e12)) ?_
      refine G_aload_n dX8_mustMove_19 rfl rfl ?_
      refine G_get dX8_mustMove_20 fg_X8_56 (hx_8 _ _ _) rfl ?_
      refine G_callV (cx_late _ hY hC9 ((haf _ ha).2.2.resolve_left e12).2) dX8_mustMove_23 (mc_X8_265 rfl) tw_760 tw_761 (hx_T hY ((haf _ ha).2.2.resolve_left e12).2) rfl rfl rfl (Nat.le_of_ble_eq_true rfl) (Nat.le_of_ble_eq_true rfl) (Nat.le_of_ble_eq_true rfl) (Nat.le_of_ble_eq_true rfl) ?_
      rintro _ n9_ _ ⟨rfl, e9_, rfl⟩
      obtain rfl := e9_.symm
      refine G_if_eq (tgt := 45) dX8_mustMove_26 (by decide) (fun c26 => ?_) (fun c26 => ?_)
      · skip
        refine G_iconst (v := 0) dX8_mustMove_45 rfl ?_
        refine G_zret dX8_mustMove_46 rfl rfl ?_
        first | exact q_t ⟨c5, e12, b1_1 c26, b1_0.mp c38⟩ | exact q_f (fun q => c5 q.1) | exact q_f (fun q => q.2.1 e12) | exact q_f (fun q => b1_0.mp c26 q.2.2.1) | exact q_f (fun q => q.2.2.2 (b1_1 c38))
      · skip
        refine G_aload_n dX8_mustMove_29 rfl rfl ?_
        refine G_aload_n dX8_mustMove_30 rfl rfl ?_
        refine G_aload_n dX8_mustMove_31 rfl rfl ?_
        refine G_get dX8_mustMove_32 fg_X8_183 (hx_A hY ha) rfl ?_
        refine G_top (w := .ref (y_a Y 7 (ix (c 25 a)))) (congrArg va_rf (oR_at e12)) ?_
        refine G_callV (cx_freeFor a _ hY hC9 ha ((haf _ ha).2.2.resolve_left e12).2) dX8_mustMove_35 (mc_X8_299 rfl) tw_641 tw_13 (hx_8 _ _ _) rfl rfl rfl (Nat.le_of_ble_eq_true rfl) (Nat.le_of_ble_eq_true rfl) (Nat.le_of_ble_eq_true rfl) (Nat.le_of_ble_eq_true rfl) ?_
        rintro _ n9_ _ ⟨rfl, e9_, rfl⟩
        obtain rfl := e9_.symm
        refine G_if_ne (tgt := 45) dX8_mustMove_38 (by decide) (fun c38 => ?_) (fun c38 => ?_)
        · skip
          refine G_iconst (v := 0) dX8_mustMove_45 rfl ?_
          refine G_zret dX8_mustMove_46 rfl rfl ?_
          first | exact q_t ⟨c5, e12, b1_1 c26, b1_0.mp c38⟩ | exact q_f (fun q => c5 q.1) | exact q_f (fun q => q.2.1 e12) | exact q_f (fun q => b1_0.mp c26 q.2.2.1) | exact q_f (fun q => q.2.2.2 (b1_1 c38))
        · skip
          refine G_iconst (v := 1) dX8_mustMove_41 rfl ?_
          refine G_goto (tgt := 46) dX8_mustMove_42 (by decide) ?_
          refine G_zret dX8_mustMove_46 rfl rfl ?_
          first | exact q_t ⟨c5, e12, b1_1 c26, b1_0.mp c38⟩ | exact q_f (fun q => c5 q.1) | exact q_f (fun q => q.2.1 e12) | exact q_f (fun q => b1_0.mp c26 q.2.2.1) | exact q_f (fun q => q.2.2.2 (b1_1 c38))
noncomputable def c_nx (c : mS) : Nat → Option Nat
  | 0 => none
  | i + 1 => match c_nx c i with
    | none => cif (c_must c i) (some i) none
    | some b => cif (c_must c i ∧ c_ahead c i b) (some i) (some b)
theorem c_nx_n {c : mS} {i : Nat} (h : c_nx c i = none) : c_nx c (i + 1) = cif (c_must c i) (some i) none := by
  show (match c_nx c i with | none => cif (c_must c i) (some i) none | some b => cif (c_must c i ∧ c_ahead c i b) (some i) (some b)) = _
  rw [h]
theorem c_nx_s {c : mS} {i b : Nat} (h : c_nx c i = some b) : c_nx c (i + 1) = cif (c_must c i ∧ c_ahead c i b) (some i) (some b) := by
  show (match c_nx c i with | none => cif (c_must c i) (some i) none | some b => cif (c_must c i ∧ c_ahead c i b) (some i) (some b)) = _
  rw [h]
theorem c_nx_lt {c : mS} : ∀ {i b : Nat}, c_nx c i = some b → b < i ∧ c_must c b
  | 0, b, h => by cases h
  | i + 1, b, h => by
    cases e : c_nx c i with
    | none =>
      rw [c_nx_n e] at h
      by_cases z : c_must c i
      · rw [cif_t z] at h; cases h; exact ⟨by omega, z⟩
      · rw [cif_f z] at h; cases h
    | some a =>
      have ih := c_nx_lt e
      rw [c_nx_s e] at h
      by_cases z : c_must c i ∧ c_ahead c i a
      · rw [cif_t z] at h; cases h; exact ⟨by omega, z.1⟩
      · rw [cif_f z] at h; cases h; exact ⟨by omega, ih.2⟩
set_option maxHeartbeats 4000000 in
set_option maxRecDepth 100000 in
theorem cx_next {g : gT} {nq_ n9 : Nat} {sm : mS} {Y : cY} {c : mS}  (hY : Yok Y c n9) (hC9 : c_inv c) : M g 6 0 0 kX8_nextToMove [.ref 8] nq_ (hh sm Y c) (m_Q (va_rf ((c_nx c (mA c)).map (y_a Y 0))) nq_ (hh sm Y c)) := by
  refine M_of_G (by decide +kernel) (Nat.le_of_ble_eq_true rfl) ?_
  obtain ⟨hI, hG, hgv, hov, hrw, hps⟩ := id hC9
  obtain ⟨hK, hT, hB, hP9, hA, hkf, haf, hbf⟩ := id hI
  have hA2 := hA.2
  have hT2 := hT.2
  have hK2 := hK.2
  have hB2 := hB.2
  have hG2 := hG.2
  have hP2 := hP9.2
  have loop : ∀ m i (o : Option Nat) (w9 : Value), w9.category = 1 → i + m = mA c → c_nx c i = o → G g 6 0 0 kX8_nextToMove 4 [.ref 8, va_rf (o.map (y_a Y 0)), .int (nI i), w9] [] nq_ (hh sm Y c) (m_Q (va_rf ((c_nx c (mA c)).map (y_a Y 0))) nq_ (hh sm Y c)) := by
    intro m
    induction m with
    | zero =>
      intro i o w9 hw9 hi0 hs
      rw [Nat.add_zero] at hi0
      have hs2 : c_nx c (mA c) = o := by rw [← hi0]; exact hs
      refine G_iload_n dX8_nextToMove_4 rfl rfl ?_
      refine G_aload_n dX8_nextToMove_5 rfl rfl ?_
      refine G_get dX8_nextToMove_6 fg_X8_22 (hx_8 _ _ _) rfl ?_
      refine GL_size3 dX8_nextToMove_9 (mc_X8_60 rfl) (Nat.le_of_ble_eq_true rfl) (Nat.le_of_ble_eq_true rfl) ?_
      refine G_icmp_ge (tgt := 55) dX8_nextToMove_12 (by decide) (fun c12 => ?_) (fun c12 => ?_)
      · skip
        refine G_aload_nR dX8_nextToMove_55 rfl rfl ?_
        refine G_aret (o := _) dX8_nextToMove_56 rfl (Or.inl ⟨_, rfl⟩) ?_
        exact ⟨by rw [hs2], rfl, rfl⟩
      · skip
        exact absurd (by rw [hA.1]; exact nI_le (by omega) (by omega)) c12
    | succ m ih =>
      intro i o w9 hw9 hi0 hs
      have hi : i < mA c := by omega
      cases o with
      | none =>
        refine G_iload_n dX8_nextToMove_4 rfl rfl ?_
        refine G_aload_n dX8_nextToMove_5 rfl rfl ?_
        refine G_get dX8_nextToMove_6 fg_X8_22 (hx_8 _ _ _) rfl ?_
        refine GL_size3 dX8_nextToMove_9 (mc_X8_60 rfl) (Nat.le_of_ble_eq_true rfl) (Nat.le_of_ble_eq_true rfl) ?_
        refine G_icmp_ge (tgt := 55) dX8_nextToMove_12 (by decide) (fun c12 => ?_) (fun c12 => ?_)
        · skip
          exact absurd c12 (by rw [hA.1, nI_leI (by omega) (by omega)]; omega)
        · skip
          refine G_aload_n dX8_nextToMove_15 rfl rfl ?_
          refine G_get dX8_nextToMove_16 fg_X8_22 (hx_8 _ _ _) rfl ?_
          refine G_iload_n dX8_nextToMove_19 rfl rfl ?_
          refine GL_get3 (i := i) (sz := mA c) dX8_nextToMove_20 (mc_X8_158 rfl) hY hA.1 hi (Nat.le_trans hA.2 (by decide)) (Nat.le_of_ble_eq_true rfl) (Nat.le_of_ble_eq_true rfl) ?_
          refine G_cast (ci := 0) dX8_nextToMove_23 rfl tw_557 (hx_A hY hi) ?_
          refine G_astore_n dX8_nextToMove_26 rfl (Nat.le_of_ble_eq_true rfl) rfl ?_
          refine G_aload_n dX8_nextToMove_27 rfl rfl ?_
          refine G_aload_n dX8_nextToMove_28 rfl rfl ?_
          refine G_callV (cx_must i hY hC9 hi) dX8_nextToMove_29 (mc_X8_323 rfl) tw_757 tw_26 (hx_8 _ _ _) rfl rfl rfl (Nat.le_of_ble_eq_true rfl) (Nat.le_of_ble_eq_true rfl) (Nat.le_of_ble_eq_true rfl) (Nat.le_of_ble_eq_true rfl) ?_
          rintro _ n9_ _ ⟨rfl, e9_, rfl⟩
          obtain rfl := e9_.symm
          refine G_if_eq (tgt := 49) dX8_nextToMove_32 (by decide) (fun c32 => ?_) (fun c32 => ?_)
          · skip
            refine G_iinc (b := nI (i + 1)) dX8_nextToMove_49 rfl (nI_1 i) rfl ?_
            refine G_goto (tgt := 4) dX8_nextToMove_52 (by decide) ?_
            first | exact ih (i + 1) none _ rfl (by omega) ((c_nx_n hs).trans (cif_f (b1_0.mp c32))) | exact ih (i + 1) (some i) _ rfl (by omega) ((c_nx_n hs).trans (cif_t (b1_1 c32)))
          · skip
            refine G_aload_nN dX8_nextToMove_35 rfl rfl ?_
            refine G_ifnullN (tgt := 47) dX8_nextToMove_36 (by decide) ?_
            refine G_aload_n dX8_nextToMove_47 rfl rfl ?_
            refine G_astore_n dX8_nextToMove_48 rfl (Nat.le_of_ble_eq_true rfl) rfl ?_
            refine G_iinc (b := nI (i + 1)) dX8_nextToMove_49 rfl (nI_1 i) rfl ?_
            refine G_goto (tgt := 4) dX8_nextToMove_52 (by decide) ?_
            first | exact ih (i + 1) none _ rfl (by omega) ((c_nx_n hs).trans (cif_f (b1_0.mp c32))) | exact ih (i + 1) (some i) _ rfl (by omega) ((c_nx_n hs).trans (cif_t (b1_1 c32)))
      | some b =>
        have hb := (c_nx_lt hs).1
        have hbA : b < mA c := by omega
        refine G_iload_n dX8_nextToMove_4 rfl rfl ?_
        refine G_aload_n dX8_nextToMove_5 rfl rfl ?_
        refine G_get dX8_nextToMove_6 fg_X8_22 (hx_8 _ _ _) rfl ?_
        refine GL_size3 dX8_nextToMove_9 (mc_X8_60 rfl) (Nat.le_of_ble_eq_true rfl) (Nat.le_of_ble_eq_true rfl) ?_
        refine G_icmp_ge (tgt := 55) dX8_nextToMove_12 (by decide) (fun c12 => ?_) (fun c12 => ?_)
        · skip
          exact absurd c12 (by rw [hA.1, nI_leI (by omega) (by omega)]; omega)
        · skip
          refine G_aload_n dX8_nextToMove_15 rfl rfl ?_
          refine G_get dX8_nextToMove_16 fg_X8_22 (hx_8 _ _ _) rfl ?_
          refine G_iload_n dX8_nextToMove_19 rfl rfl ?_
          refine GL_get3 (i := i) (sz := mA c) dX8_nextToMove_20 (mc_X8_158 rfl) hY hA.1 hi (Nat.le_trans hA.2 (by decide)) (Nat.le_of_ble_eq_true rfl) (Nat.le_of_ble_eq_true rfl) ?_
          refine G_cast (ci := 0) dX8_nextToMove_23 rfl tw_557 (hx_A hY hi) ?_
          refine G_astore_n dX8_nextToMove_26 rfl (Nat.le_of_ble_eq_true rfl) rfl ?_
          refine G_aload_n dX8_nextToMove_27 rfl rfl ?_
          refine G_aload_n dX8_nextToMove_28 rfl rfl ?_
          refine G_callV (cx_must i hY hC9 hi) dX8_nextToMove_29 (mc_X8_323 rfl) tw_757 tw_26 (hx_8 _ _ _) rfl rfl rfl (Nat.le_of_ble_eq_true rfl) (Nat.le_of_ble_eq_true rfl) (Nat.le_of_ble_eq_true rfl) (Nat.le_of_ble_eq_true rfl) ?_
          rintro _ n9_ _ ⟨rfl, e9_, rfl⟩
          obtain rfl := e9_.symm
          refine G_if_eq (tgt := 49) dX8_nextToMove_32 (by decide) (fun c32 => ?_) (fun c32 => ?_)
          · skip
            refine G_iinc (b := nI (i + 1)) dX8_nextToMove_49 rfl (nI_1 i) rfl ?_
            refine G_goto (tgt := 4) dX8_nextToMove_52 (by decide) ?_
            first | exact ih (i + 1) (some b) _ rfl (by omega) ((c_nx_s hs).trans (cif_f (fun q => b1_0.mp c32 q.1))) | exact ih (i + 1) (some b) _ rfl (by omega) ((c_nx_s hs).trans (cif_f (fun q => b1_0.mp c44 q.2))) | exact ih (i + 1) (some i) _ rfl (by omega) ((c_nx_s hs).trans (cif_t ⟨b1_1 c32, b1_1 c44⟩))
          · skip
            refine G_aload_n dX8_nextToMove_35 rfl rfl ?_
            refine G_ifnull dX8_nextToMove_36 ?_
            refine G_aload_n dX8_nextToMove_39 rfl rfl ?_
            refine G_aload_n dX8_nextToMove_40 rfl rfl ?_
            refine G_callV (cx_ahead i b hY hC9 hi hbA) dX8_nextToMove_41 (mc_X8_326 rfl) tw_764 tw_765 (hx_A hY hi) rfl rfl rfl (Nat.le_of_ble_eq_true rfl) (Nat.le_of_ble_eq_true rfl) (Nat.le_of_ble_eq_true rfl) (Nat.le_of_ble_eq_true rfl) ?_
            rintro _ n9_ _ ⟨rfl, e9_, rfl⟩
            obtain rfl := e9_.symm
            refine G_if_eq (tgt := 49) dX8_nextToMove_44 (by decide) (fun c44 => ?_) (fun c44 => ?_)
            · skip
              refine G_iinc (b := nI (i + 1)) dX8_nextToMove_49 rfl (nI_1 i) rfl ?_
              refine G_goto (tgt := 4) dX8_nextToMove_52 (by decide) ?_
              first | exact ih (i + 1) (some b) _ rfl (by omega) ((c_nx_s hs).trans (cif_f (fun q => b1_0.mp c32 q.1))) | exact ih (i + 1) (some b) _ rfl (by omega) ((c_nx_s hs).trans (cif_f (fun q => b1_0.mp c44 q.2))) | exact ih (i + 1) (some i) _ rfl (by omega) ((c_nx_s hs).trans (cif_t ⟨b1_1 c32, b1_1 c44⟩))
            · skip
              refine G_aload_n dX8_nextToMove_47 rfl rfl ?_
              refine G_astore_n dX8_nextToMove_48 rfl (Nat.le_of_ble_eq_true rfl) rfl ?_
              refine G_iinc (b := nI (i + 1)) dX8_nextToMove_49 rfl (nI_1 i) rfl ?_
              refine G_goto (tgt := 4) dX8_nextToMove_52 (by decide) ?_
              first | exact ih (i + 1) (some b) _ rfl (by omega) ((c_nx_s hs).trans (cif_f (fun q => b1_0.mp c32 q.1))) | exact ih (i + 1) (some b) _ rfl (by omega) ((c_nx_s hs).trans (cif_f (fun q => b1_0.mp c44 q.2))) | exact ih (i + 1) (some i) _ rfl (by omega) ((c_nx_s hs).trans (cif_t ⟨b1_1 c32, b1_1 c44⟩))
  refine G_null dX8_nextToMove_0 ?_
  refine G_astore_nN dX8_nextToMove_1 rfl (Nat.le_of_ble_eq_true rfl) rfl ?_
  refine G_iconst (v := 0) dX8_nextToMove_2 rfl ?_
  refine G_istore_n dX8_nextToMove_3 rfl (Nat.le_of_ble_eq_true rfl) rfl ?_
  exact loop (mA c) 0 none (.retAddr 0) rfl (by omega) rfl
def c_mok (c : mS) (a t : Nat) : Prop := ¬ c 25 a = nI t ∧ ¬ c_late c t ∧ s_fits c (ix (c 6 t)) a ∧ s_free c (nI t) (c 30 a) (c 31 a) (nI a)
set_option maxHeartbeats 4000000 in
set_option maxRecDepth 100000 in
theorem cx_other {g : gT} {nq_ n9 : Nat} {sm : mS} {Y : cY} {c : mS} (a : Nat) (hY : Yok Y c n9) (hC9 : c_inv c) (ha : a < mA c) : M g 6 0 0 kX8_firstOtherThingFor [.ref 8, .ref (y_a Y 0 a)] nq_ (hh sm Y c) (m_Q (va_rf ((fnd (c_mok c a) (mT c)).map (y_a Y 7))) nq_ (hh sm Y c)) := by
  refine M_of_G (by decide +kernel) (Nat.le_of_ble_eq_true rfl) ?_
  obtain ⟨hI, hG, hgv, hov, hrw, hps⟩ := id hC9
  obtain ⟨hK, hT, hB, hP9, hA, hkf, haf, hbf⟩ := id hI
  have hA2 := hA.2
  have hT2 := hT.2
  have hK2 := hK.2
  have hB2 := hB.2
  have hG2 := hG.2
  have hP2 := hP9.2
  have loop : ∀ m i, i + m = mT c → ∀ w9 : Value, w9.category = 1 → (∀ j, j < i → ¬ c_mok c a j) → G g 6 0 0 kX8_firstOtherThingFor 2 [.ref 8, .ref (y_a Y 0 a), .int (nI i), w9] [] nq_ (hh sm Y c) (m_Q (va_rf ((fnd (c_mok c a) (mT c)).map (y_a Y 7))) nq_ (hh sm Y c)) := by
    intro m
    induction m with
    | zero =>
      intro i hi0 w9 hw9 hn
      rw [Nat.add_zero] at hi0
      refine G_iload_n dX8_firstOtherThingFor_2 rfl rfl ?_
      refine G_aload_n dX8_firstOtherThingFor_3 rfl rfl ?_
      refine G_get dX8_firstOtherThingFor_4 fg_X8_16 (hx_8 _ _ _) rfl ?_
      refine GL_size1 dX8_firstOtherThingFor_7 (mc_X8_60 rfl) (Nat.le_of_ble_eq_true rfl) (Nat.le_of_ble_eq_true rfl) ?_
      refine G_icmp_ge (tgt := 72) dX8_firstOtherThingFor_10 (by decide) (fun c10 => ?_) (fun c10 => ?_)
      · skip
        refine G_null dX8_firstOtherThingFor_72 ?_
        refine G_aret (o := none) dX8_firstOtherThingFor_73 rfl (Or.inl ⟨_, rfl⟩) ?_
        exact ⟨by rw [fnd_none (fun j hj => hn j (by omega))]; rfl, rfl, rfl⟩
      · skip
        exact absurd (by rw [hT.1]; exact nI_le (by omega) (by omega)) c10
    | succ m ih =>
      intro i hi0 w9 hw9 hn
      have hi : i < mT c := by omega
      refine G_iload_n dX8_firstOtherThingFor_2 rfl rfl ?_
      refine G_aload_n dX8_firstOtherThingFor_3 rfl rfl ?_
      refine G_get dX8_firstOtherThingFor_4 fg_X8_16 (hx_8 _ _ _) rfl ?_
      refine GL_size1 dX8_firstOtherThingFor_7 (mc_X8_60 rfl) (Nat.le_of_ble_eq_true rfl) (Nat.le_of_ble_eq_true rfl) ?_
      refine G_icmp_ge (tgt := 72) dX8_firstOtherThingFor_10 (by decide) (fun c10 => ?_) (fun c10 => ?_)
      · skip
        exact absurd c10 (by rw [hT.1, nI_leI (by omega) (by omega)]; omega)
      · skip
        refine G_aload_n dX8_firstOtherThingFor_13 rfl rfl ?_
        refine G_get dX8_firstOtherThingFor_14 fg_X8_16 (hx_8 _ _ _) rfl ?_
        refine G_iload_n dX8_firstOtherThingFor_17 rfl rfl ?_
        refine GL_get1 (i := i) (sz := mT c) dX8_firstOtherThingFor_18 (mc_X8_158 rfl) hY hT.1 hi (Nat.le_trans hT.2 (by decide)) (Nat.le_of_ble_eq_true rfl) (Nat.le_of_ble_eq_true rfl) ?_
        refine G_cast (ci := 7) dX8_firstOtherThingFor_21 rfl tw_344 (hx_T hY hi) ?_
        refine G_astore_n dX8_firstOtherThingFor_24 rfl (Nat.le_of_ble_eq_true rfl) rfl ?_
        refine G_aload_n dX8_firstOtherThingFor_25 rfl rfl ?_
        refine G_aload_n dX8_firstOtherThingFor_26 rfl rfl ?_
        refine G_get dX8_firstOtherThingFor_27 fg_X8_183 (hx_A hY ha) rfl ?_
        refine G_acmp_eq (a := (some (y_a Y 7 i))) (b := (oR (y_a Y 7) (c 25 a))) (tgt := 66) dX8_firstOtherThingFor_30 (by decide) (fun i1 j1 h1 _ => Or.inr (Or.inl (by cases h1; have := (ya_T hY hi).1; omega))) (fun c30 => ?_) (fun c30 => ?_)
        · skip
          refine G_iinc (b := nI (i + 1)) dX8_firstOtherThingFor_66 rfl (nI_1 i) rfl ?_
          refine G_goto (tgt := 2) dX8_firstOtherThingFor_69 (by decide) ?_
          first | exact ih (i + 1) (by omega) _ rfl (lt_s hn (fun q => q.1 ((oe_T hY hi (Nat.le_trans hT.2 (by decide)) (haf a ha).2.2).mp c30.symm))) | exact ih (i + 1) (by omega) _ rfl (lt_s hn (fun q => q.2.1 (b1_1 c41))) | exact ih (i + 1) (by omega) _ rfl (lt_s hn (fun q => b1_0.mp c52 q.2.2.1)) | exact ih (i + 1) (by omega) _ rfl (lt_s hn (fun q => b1_0.mp c61 q.2.2.2))
        · skip
          refine G_aload_n dX8_firstOtherThingFor_33 rfl rfl ?_
          refine G_aload_n dX8_firstOtherThingFor_34 rfl rfl ?_
          refine G_get dX8_firstOtherThingFor_35 fg_X8_56 (hx_8 _ _ _) rfl ?_
          refine G_callV (cx_late i hY hC9 hi) dX8_firstOtherThingFor_38 (mc_X8_265 rfl) tw_760 tw_761 (hx_T hY hi) rfl rfl rfl (Nat.le_of_ble_eq_true rfl) (Nat.le_of_ble_eq_true rfl) (Nat.le_of_ble_eq_true rfl) (Nat.le_of_ble_eq_true rfl) ?_
          rintro _ n9_ _ ⟨rfl, e9_, rfl⟩
          obtain rfl := e9_.symm
          refine G_if_ne (tgt := 66) dX8_firstOtherThingFor_41 (by decide) (fun c41 => ?_) (fun c41 => ?_)
          · skip
            refine G_iinc (b := nI (i + 1)) dX8_firstOtherThingFor_66 rfl (nI_1 i) rfl ?_
            refine G_goto (tgt := 2) dX8_firstOtherThingFor_69 (by decide) ?_
            first | exact ih (i + 1) (by omega) _ rfl (lt_s hn (fun q => q.1 ((oe_T hY hi (Nat.le_trans hT.2 (by decide)) (haf a ha).2.2).mp c30.symm))) | exact ih (i + 1) (by omega) _ rfl (lt_s hn (fun q => q.2.1 (b1_1 c41))) | exact ih (i + 1) (by omega) _ rfl (lt_s hn (fun q => b1_0.mp c52 q.2.2.1)) | exact ih (i + 1) (by omega) _ rfl (lt_s hn (fun q => b1_0.mp c61 q.2.2.2))
          · skip
            refine G_aload_n dX8_firstOtherThingFor_44 rfl rfl ?_
            refine G_get dX8_firstOtherThingFor_45 fg_X8_210 (hx_T hY hi) rfl ?_
            refine G_aload_n dX8_firstOtherThingFor_48 rfl rfl ?_
            refine G_callV (cx_fits (ix (c 6 i)) a hY hC9 (hkf i hi).2 ha) dX8_firstOtherThingFor_49 (mc_X8_236 rfl) tw_636 tw_637 (hx_K hY (hkf _ hi).2) rfl rfl rfl (Nat.le_of_ble_eq_true rfl) (Nat.le_of_ble_eq_true rfl) (Nat.le_of_ble_eq_true rfl) (Nat.le_of_ble_eq_true rfl) ?_
            rintro _ n9_ _ ⟨rfl, e9_, rfl⟩
            obtain rfl := e9_.symm
            refine G_if_eq (tgt := 66) dX8_firstOtherThingFor_52 (by decide) (fun c52 => ?_) (fun c52 => ?_)
            · skip
              refine G_iinc (b := nI (i + 1)) dX8_firstOtherThingFor_66 rfl (nI_1 i) rfl ?_
              refine G_goto (tgt := 2) dX8_firstOtherThingFor_69 (by decide) ?_
              first | exact ih (i + 1) (by omega) _ rfl (lt_s hn (fun q => q.1 ((oe_T hY hi (Nat.le_trans hT.2 (by decide)) (haf a ha).2.2).mp c30.symm))) | exact ih (i + 1) (by omega) _ rfl (lt_s hn (fun q => q.2.1 (b1_1 c41))) | exact ih (i + 1) (by omega) _ rfl (lt_s hn (fun q => b1_0.mp c52 q.2.2.1)) | exact ih (i + 1) (by omega) _ rfl (lt_s hn (fun q => b1_0.mp c61 q.2.2.2))
            · skip
              refine G_aload_n dX8_firstOtherThingFor_55 rfl rfl ?_
              refine G_aload_n dX8_firstOtherThingFor_56 rfl rfl ?_
              refine G_aload_n dX8_firstOtherThingFor_57 rfl rfl ?_
              refine G_callV (cx_freeFor a i hY hC9 ha hi) dX8_firstOtherThingFor_58 (mc_X8_299 rfl) tw_641 tw_13 (hx_8 _ _ _) rfl rfl rfl (Nat.le_of_ble_eq_true rfl) (Nat.le_of_ble_eq_true rfl) (Nat.le_of_ble_eq_true rfl) (Nat.le_of_ble_eq_true rfl) ?_
              rintro _ n9_ _ ⟨rfl, e9_, rfl⟩
              obtain rfl := e9_.symm
              refine G_if_eq (tgt := 66) dX8_firstOtherThingFor_61 (by decide) (fun c61 => ?_) (fun c61 => ?_)
              · skip
                refine G_iinc (b := nI (i + 1)) dX8_firstOtherThingFor_66 rfl (nI_1 i) rfl ?_
                refine G_goto (tgt := 2) dX8_firstOtherThingFor_69 (by decide) ?_
                first | exact ih (i + 1) (by omega) _ rfl (lt_s hn (fun q => q.1 ((oe_T hY hi (Nat.le_trans hT.2 (by decide)) (haf a ha).2.2).mp c30.symm))) | exact ih (i + 1) (by omega) _ rfl (lt_s hn (fun q => q.2.1 (b1_1 c41))) | exact ih (i + 1) (by omega) _ rfl (lt_s hn (fun q => b1_0.mp c52 q.2.2.1)) | exact ih (i + 1) (by omega) _ rfl (lt_s hn (fun q => b1_0.mp c61 q.2.2.2))
              · skip
                refine G_aload_n dX8_firstOtherThingFor_64 rfl rfl ?_
                refine G_aret (o := (some (y_a Y 7 i))) dX8_firstOtherThingFor_65 rfl (Or.inl ⟨_, rfl⟩) ?_
                exact ⟨by rw [fnd_at hn ⟨fun z => c30 ((oe_T hY hi (Nat.le_trans hT.2 (by decide)) (haf a ha).2.2).mpr z).symm, b1_0.mp c41, b1_1 c52, b1_1 c61⟩ hi]; rfl, rfl, rfl⟩
  refine G_iconst (v := 0) dX8_firstOtherThingFor_0 rfl ?_
  refine G_istore_n dX8_firstOtherThingFor_1 rfl (Nat.le_of_ble_eq_true rfl) rfl ?_
  exact loop (mT c) 0 (by omega) (.retAddr 0) rfl (fun j hj => absurd hj (Nat.not_lt_zero j))
noncomputable def c_mv1 (c : mS) (a : Nat) : mS := match fnd (c_mok c a) (mT c) with
  | none => m_set c 24 a 5
  | some t => m_set (m_set c 25 a (nI t)) 26 a (c 26 a + 1)
noncomputable def c_mv : Nat → mS → mS
  | 0, c => c
  | m + 1, c => match c_nx c (mA c) with
    | none => c
    | some a => c_mv m (c_mv1 c a)
theorem c_mv_n {m : Nat} {c : mS} (h : c_nx c (mA c) = none) : c_mv (m + 1) c = c := by
  show (match c_nx c (mA c) with | none => c | some a => c_mv m (c_mv1 c a)) = _
  rw [h]
theorem c_mv_s {m a : Nat} {c : mS} (h : c_nx c (mA c) = some a) : c_mv (m + 1) c = c_mv m (c_mv1 c a) := by
  show (match c_nx c (mA c) with | none => c | some a => c_mv m (c_mv1 c a)) = _
  rw [h]
theorem c_mv1_n {a : Nat} {c : mS} (h : fnd (c_mok c a) (mT c) = none) : c_mv1 c a = m_set c 24 a 5 := by unfold c_mv1; rw [h]
theorem c_mv1_s {a t : Nat} {c : mS} (h : fnd (c_mok c a) (mT c) = some t) : c_mv1 c a = m_set (m_set c 25 a (nI t)) 26 a (c 26 a + 1) := by unfold c_mv1; rw [h]
set_option maxHeartbeats 4000000 in
set_option maxRecDepth 100000 in
theorem cx_moves {g : gT} {nq_ n9 : Nat} {sm : mS} {Y : cY} {c fin : mS} (hY : Yok Y c n9) (hC9 : c_inv c) (he : fin = c_mv (mA c) c) : M g 7 0 0 kX8_moveFromLateThings [.ref 8] nq_ (hh sm Y c) (c_V nq_ sm Y fin) := by
  refine M_of_G (by decide +kernel) (Nat.le_of_ble_eq_true rfl) ?_
  have loop : ∀ m i (c : mS) (w8 w9 : Value), w8.category = 1 → w9.category = 1 → c_inv c → Yok Y c n9 → i + m = mA c → fin = c_mv m c → G g 7 0 0 kX8_moveFromLateThings 2 [.ref 8, .int (nI i), w8, w9] [] nq_ (hh sm Y c) (c_V nq_ sm Y fin) := by
    intro m
    induction m with
    | zero =>
      intro i c w8 w9 hw8 hw9 hC9 hY hi0 hs
      obtain ⟨hI, hG, hgv, hov, hrw, hps⟩ := id hC9
      obtain ⟨hK, hT, hB, hP9, hA, hkf, haf, hbf⟩ := id hI
      have hA2 := hA.2
      have hT2 := hT.2
      have hK2 := hK.2
      have hB2 := hB.2
      have hG2 := hG.2
      have hP2 := hP9.2
      refine G_iload_n dX8_moveFromLateThings_2 rfl rfl ?_
      refine G_aload_n dX8_moveFromLateThings_3 rfl rfl ?_
      refine G_get dX8_moveFromLateThings_4 fg_X8_22 (hx_8 _ _ _) rfl ?_
      refine GL_size3 dX8_moveFromLateThings_7 (mc_X8_60 rfl) (Nat.le_of_ble_eq_true rfl) (Nat.le_of_ble_eq_true rfl) ?_
      refine G_icmp_ge (tgt := 62) dX8_moveFromLateThings_10 (by decide) (fun c10 => ?_) (fun c10 => ?_)
      · skip
        refine G_vret dX8_moveFromLateThings_62 rfl ?_
        exact v_cc hs
      · skip
        exact absurd (by rw [hA.1]; exact nI_le (by omega) (by omega)) c10
    | succ m ih =>
      intro i c w8 w9 hw8 hw9 hC9 hY hi0 hs
      obtain ⟨hI, hG, hgv, hov, hrw, hps⟩ := id hC9
      obtain ⟨hK, hT, hB, hP9, hA, hkf, haf, hbf⟩ := id hI
      have hA2 := hA.2
      have hT2 := hT.2
      have hK2 := hK.2
      have hB2 := hB.2
      have hG2 := hG.2
      have hP2 := hP9.2
      refine G_iload_n dX8_moveFromLateThings_2 rfl rfl ?_
      refine G_aload_n dX8_moveFromLateThings_3 rfl rfl ?_
      refine G_get dX8_moveFromLateThings_4 fg_X8_22 (hx_8 _ _ _) rfl ?_
      refine GL_size3 dX8_moveFromLateThings_7 (mc_X8_60 rfl) (Nat.le_of_ble_eq_true rfl) (Nat.le_of_ble_eq_true rfl) ?_
      refine G_icmp_ge (tgt := 62) dX8_moveFromLateThings_10 (by decide) (fun c10 => ?_) (fun c10 => ?_)
      · skip
        exact absurd c10 (by rw [hA.1, nI_leI (by omega) (by omega)]; omega)
      · skip
        refine G_aload_n dX8_moveFromLateThings_13 rfl rfl ?_
        refine G_callV (cx_next hY hC9) dX8_moveFromLateThings_14 (mc_X8_315 rfl) tw_753 tw_25 (hx_8 _ _ _) rfl rfl rfl (Nat.le_of_ble_eq_true rfl) (Nat.le_of_ble_eq_true rfl) (Nat.le_of_ble_eq_true rfl) (Nat.le_of_ble_eq_true rfl) ?_
        rintro _ n9_ _ ⟨rfl, e9_, rfl⟩
        obtain rfl := e9_.symm
        cases e14 : c_nx c (mA c) with
        | none =>
          refine G_top (w := .null) rfl ?_
          refine G_astore_nN dX8_moveFromLateThings_17 rfl (Nat.le_of_ble_eq_true rfl) rfl ?_
          refine G_aload_nN dX8_moveFromLateThings_18 rfl rfl ?_
          refine G_ifnonnullN dX8_moveFromLateThings_19 ?_
          refine G_vret dX8_moveFromLateThings_22 rfl ?_
          exact v_cc (hs.trans (c_mv_n e14))
        | some a =>
          have ha := (c_nx_lt e14).1
          refine G_top (w := .ref (y_a Y 0 a)) rfl ?_
          refine G_astore_n dX8_moveFromLateThings_17 rfl (Nat.le_of_ble_eq_true rfl) rfl ?_
          refine G_aload_n dX8_moveFromLateThings_18 rfl rfl ?_
          refine G_ifnonnull (tgt := 23) dX8_moveFromLateThings_19 (by decide) ?_
          refine G_aload_n dX8_moveFromLateThings_23 rfl rfl ?_
          refine G_aload_n dX8_moveFromLateThings_24 rfl rfl ?_
          refine G_callV (cx_other a hY hC9 ha) dX8_moveFromLateThings_25 (mc_X8_319 rfl) tw_769 tw_27 (hx_8 _ _ _) rfl rfl rfl (Nat.le_of_ble_eq_true rfl) (Nat.le_of_ble_eq_true rfl) (Nat.le_of_ble_eq_true rfl) (Nat.le_of_ble_eq_true rfl) ?_
          rintro _ n9_ _ ⟨rfl, e9_, rfl⟩
          obtain rfl := e9_.symm
          cases e25 : fnd (c_mok c a) (mT c) with
          | none =>
            refine G_top (w := .null) rfl ?_
            refine G_astore_nN dX8_moveFromLateThings_28 rfl (Nat.le_of_ble_eq_true rfl) rfl ?_
            refine G_aload_nN dX8_moveFromLateThings_29 rfl rfl ?_
            refine G_ifnonnullN dX8_moveFromLateThings_30 ?_
            refine G_aload_n dX8_moveFromLateThings_33 rfl rfl ?_
            refine G_iconst (v := 5) dX8_moveFromLateThings_34 rfl ?_
            refine GC_state dX8_moveFromLateThings_35 fp_X8_162 hY ha ?_
            refine G_goto (tgt := 56) dX8_moveFromLateThings_38 (by decide) ?_
            refine G_iinc (b := nI (i + 1)) dX8_moveFromLateThings_56 rfl (nI_1 i) rfl ?_
            refine G_goto (tgt := 2) dX8_moveFromLateThings_59 (by decide) ?_
            first | exact ih (i + 1) _ _ _ rfl rfl (c_inv_st hC9 (by decide) (by decide)) (hY.same rfl rfl rfl rfl rfl) (by show _ = mA c; omega) (hs.trans ((c_mv_s e14).trans (by rw [c_mv1_n e25]))) | exact ih (i + 1) _ _ _ rfl rfl (c_inv_26 (c_inv_on hC9 ht)) (hY.same rfl rfl rfl rfl rfl) (by show _ = mA c; omega) (hs.trans ((c_mv_s e14).trans (by rw [c_mv1_s e25]; rfl)))
          | some t =>
            have ht := (fnd_spec e25).1
            refine G_top (w := .ref (y_a Y 7 t)) rfl ?_
            refine G_astore_n dX8_moveFromLateThings_28 rfl (Nat.le_of_ble_eq_true rfl) rfl ?_
            refine G_aload_n dX8_moveFromLateThings_29 rfl rfl ?_
            refine G_ifnonnull (tgt := 41) dX8_moveFromLateThings_30 (by decide) ?_
            refine G_aload_n dX8_moveFromLateThings_41 rfl rfl ?_
            refine G_aload_n dX8_moveFromLateThings_42 rfl rfl ?_
            refine G_top (w := va_rf (oR (y_a Y 7) (nI t))) (by rw [oR_nI (by omega)]; rfl) ?_
            refine GC_athing dX8_moveFromLateThings_43 fp_X8_183 (hY.same rfl rfl rfl rfl rfl) ha ?_
            refine G_aload_n dX8_moveFromLateThings_46 rfl rfl ?_
            refine G_dup dX8_moveFromLateThings_47 rfl ?_
            refine G_get dX8_moveFromLateThings_48 fg_X8_253 (hx_A (hY.same rfl rfl rfl rfl rfl) ha) rfl ?_
            refine G_iconst (v := 1) dX8_moveFromLateThings_51 rfl ?_
            refine G_iadd dX8_moveFromLateThings_52 ?_
            refine GC_moves dX8_moveFromLateThings_53 fp_X8_253 (hY.same rfl rfl rfl rfl rfl) ha ?_
            refine G_iinc (b := nI (i + 1)) dX8_moveFromLateThings_56 rfl (nI_1 i) rfl ?_
            refine G_goto (tgt := 2) dX8_moveFromLateThings_59 (by decide) ?_
            first | exact ih (i + 1) _ _ _ rfl rfl (c_inv_st hC9 (by decide) (by decide)) (hY.same rfl rfl rfl rfl rfl) (by show _ = mA c; omega) (hs.trans ((c_mv_s e14).trans (by rw [c_mv1_n e25]))) | exact ih (i + 1) _ _ _ rfl rfl (c_inv_26 (c_inv_on hC9 ht)) (hY.same rfl rfl rfl rfl rfl) (by show _ = mA c; omega) (hs.trans ((c_mv_s e14).trans (by rw [c_mv1_s e25]; rfl)))
  refine G_iconst (v := 0) dX8_moveFromLateThings_0 rfl ?_
  refine G_istore_n dX8_moveFromLateThings_1 rfl (Nat.le_of_ble_eq_true rfl) rfl ?_
  exact loop (mA c) 0 c (.retAddr 0) (.retAddr 0) rfl rfl hC9 hY (by omega) he
theorem c_mv1_inv {c : mS} {a : Nat} (h : c_inv c) : c_inv (c_mv1 c a) ∧ mA (c_mv1 c a) = mA c ∧ c_mv1 c a 11 = c 11 ∧ ∀ {Y : cY} {n9 : Nat}, Yok Y c n9 → Yok Y (c_mv1 c a) n9 := by
  cases e : fnd (c_mok c a) (mT c) with
  | none => rw [c_mv1_n e]; exact ⟨c_inv_st h (by decide) (by decide), rfl, rfl, fun hY => hY.same rfl rfl rfl rfl rfl⟩
  | some t => rw [c_mv1_s e]; exact ⟨c_inv_26 (c_inv_on h (fnd_spec e).1), rfl, rfl, fun hY => hY.same rfl rfl rfl rfl rfl⟩
theorem c_mv_inv : ∀ (m : Nat) {c : mS}, c_inv c → c_inv (c_mv m c) ∧ mA (c_mv m c) = mA c ∧ c_mv m c 11 = c 11 ∧ ∀ {Y : cY} {n9 : Nat}, Yok Y c n9 → Yok Y (c_mv m c) n9
  | 0, c, h => ⟨h, rfl, rfl, fun hY => hY⟩
  | m + 1, c, h => by
    cases e : c_nx c (mA c) with
    | none => rw [c_mv_n e]; exact ⟨h, rfl, rfl, fun hY => hY⟩
    | some a =>
      rw [c_mv_s e]
      have h1 := c_mv1_inv (a := a) h
      have ih := c_mv_inv m h1.1
      exact ⟨ih.1, ih.2.1.trans h1.2.1, ih.2.2.1.trans h1.2.2.1, fun hY => ih.2.2.2 (h1.2.2.2 hY)⟩
theorem c_ls_inv {c : mS} (h : c_inv c) : ∀ i, c_inv (ls_l c i)
  | 0 => h
  | i + 1 => by
    show c_inv (cif _ _ _)
    by_cases z : c 24 i = 1 ∧ c 31 i < c 11 0
    · rw [cif_t z]; exact c_inv_st (c_ls_inv h i) (by decide) (by decide)
    · rw [cif_f z]; exact c_ls_inv h i
theorem c_ls_Y {c : mS} {Y : cY} {n9 : Nat} (hY : Yok Y c n9) (i : Nat) : Yok Y (ls_l c i) n9 := hY.same (congrFun (ls_l_o c (by decide) i) 0) (congrFun (ls_l_o c (by decide) i) 0) (congrFun (ls_l_o c (by decide) i) 0) (congrFun (ls_l_o c (by decide) i) 0) (congrFun (ls_l_o c (by decide) i) 0)
noncomputable def c_day (c : mS) : mS := c_mv (mA c) (ls_l (m_set c 11 0 (c 11 0 + 1)) (mA c))
noncomputable def c_dys (c : mS) : Nat → mS
  | 0 => c
  | i + 1 => c_day (c_dys c i)
theorem c_day_inv {c : mS} (h : c_inv c) : c_inv (c_day c) ∧ mA (c_day c) = mA c ∧ c_day c 11 0 = c 11 0 + 1 ∧ ∀ {Y : cY} {n9 : Nat}, Yok Y c n9 → Yok Y (c_day c) n9 := by
  have h1 := c_ls_inv (c_inv_11 (v := c 11 0 + 1) h) (mA c)
  have h2 := c_mv_inv (mA c) h1
  refine ⟨h2.1, h2.2.1.trans (ls_l_A _ _), ?_, fun hY => h2.2.2.2 (c_ls_Y (c := m_set c 11 0 (c 11 0 + 1)) (hY.same rfl rfl rfl rfl rfl) _)⟩
  show c_mv (mA c) _ 11 0 = _
  rw [h2.2.2.1, ls_l_o _ (by decide)]
  rfl
theorem c_dys_inv {c : mS} (h : c_inv c) : ∀ i, c_inv (c_dys c i) ∧ mA (c_dys c i) = mA c ∧ ∀ {Y : cY} {n9 : Nat}, Yok Y c n9 → Yok Y (c_dys c i) n9
  | 0 => ⟨h, rfl, fun hY => hY⟩
  | i + 1 => by
    have ih := c_dys_inv h i
    have := c_day_inv ih.1
    exact ⟨this.1, this.2.1.trans ih.2.1, fun hY => this.2.2.2 (ih.2.2 hY)⟩
noncomputable def cp_days (c : mS) (v : Int32) : mS × Int32 := cif (wi v 1 60 ∧ c 11 0 + v ≤ 5000) (c_dys c (ix v), c_dys c (ix v) 11 0) (c, -1)
set_option maxHeartbeats 4000000 in
set_option maxRecDepth 100000 in
theorem cp9_days {g : gT} {nq_ n9 : Nat} {sm : mS} {Y : cY} {c : mS} (v : Int32) (hY : Yok Y c n9) (hC9 : c_inv c) : M g 8 0 0 kX8_days [.ref 8, .int v] nq_ (hh sm Y c) (c_S (.int (cp_days c v).2) nq_ sm Y (cp_days c v).1) := by
  refine M_of_G (by decide +kernel) (Nat.le_of_ble_eq_true rfl) ?_
  obtain ⟨hI, hG, hgv, hov, hrw, hps⟩ := id hC9
  obtain ⟨hK, hT, hB, hP9, hA, hkf, haf, hbf⟩ := id hI
  have hA2 := hA.2
  have hT2 := hT.2
  have hK2 := hK.2
  have hB2 := hB.2
  have hG2 := hG.2
  have hP2 := hP9.2
  have loop : wi v 1 60 ∧ c 11 0 + v ≤ 5000 → ∀ N, N ≤ 60 → v = nI N → ∀ m i, i + m = N → G g 8 0 0 kX8_days 26 [.ref 8, .int v, .int (nI i)] [] nq_ (hh sm Y (c_dys c i)) (c_S (.int (cp_days c v).2) nq_ sm Y (cp_days c v).1) := by
    intro hq N hN hv m
    have eN : ix v = N := by rw [hv]; exact nI_clamp (by omega)
    induction m with
    | zero =>
      intro i hi0
      rw [Nat.add_zero] at hi0
      refine G_iload_n dX8_days_26 rfl rfl ?_
      refine G_iload_n dX8_days_27 rfl rfl ?_
      refine G_icmp_ge (tgt := 55) dX8_days_28 (by decide) (fun c28 => ?_) (fun c28 => ?_)
      · skip
        refine G_aload_n dX8_days_55 rfl rfl ?_
        refine G_get dX8_days_56 fg_X8_56 (hx_8 _ _ _) rfl ?_
        refine G_iret dX8_days_59 rfl ?_
        refine c_close ?_; unfold cp_days; rw [cif_t hq, eN, hi0]
      · skip
        exact absurd (by rw [hv, hi0]; exact Int32.le_refl _) c28
    | succ m ih =>
      intro i hi0
      have hci := c_dys_inv hC9 i
      have hYi := hci.2.2 hY
      have hl := c_ls_inv (c_inv_11 (v := (c_dys c i) 11 0 + 1) hci.1) (mA (c_dys c i))
      have hYl := c_ls_Y (hYi.same (c' := m_set (c_dys c i) 11 0 ((c_dys c i) 11 0 + 1)) rfl rfl rfl rfl rfl) (mA (c_dys c i))
      refine G_iload_n dX8_days_26 rfl rfl ?_
      refine G_iload_n dX8_days_27 rfl rfl ?_
      refine G_icmp_ge (tgt := 55) dX8_days_28 (by decide) (fun c28 => ?_) (fun c28 => ?_)
      · skip
        exact absurd c28 (by rw [hv, nI_leI (by omega) (by omega)]; omega)
      · skip
        refine G_aload_n dX8_days_31 rfl rfl ?_
        refine G_dup dX8_days_32 rfl ?_
        refine G_get dX8_days_33 fg_X8_56 (hx_8 _ _ _) rfl ?_
        refine G_iconst (v := 1) dX8_days_36 rfl ?_
        refine G_iadd dX8_days_37 ?_
        refine GC_day dX8_days_38 fp_X8_56 ?_
        refine G_aload_n dX8_days_41 rfl rfl ?_
        refine G_callV (cx_lose (c := m_set (c_dys c i) 11 0 ((c_dys c i) 11 0 + 1)) (hYi.same rfl rfl rfl rfl rfl) (c_inv_11 hci.1) rfl) dX8_days_42 (mc_X8_230 rfl) tw_745 tw_23 (hx_8 _ _ _) rfl rfl rfl (Nat.le_of_ble_eq_true rfl) (Nat.le_of_ble_eq_true rfl) (Nat.le_of_ble_eq_true rfl) (Nat.le_of_ble_eq_true rfl) ?_
        rintro _ n9_ _ ⟨rfl, e9_, rfl⟩
        obtain rfl := e9_.symm
        refine G_aload_n dX8_days_45 rfl rfl ?_
        refine G_callV (cx_moves hYl hl rfl) dX8_days_46 (mc_X8_233 rfl) tw_749 tw_24 (hx_8 _ _ _) rfl rfl rfl (Nat.le_of_ble_eq_true rfl) (Nat.le_of_ble_eq_true rfl) (Nat.le_of_ble_eq_true rfl) (Nat.le_of_ble_eq_true rfl) ?_
        rintro _ n9_ _ ⟨rfl, e9_, rfl⟩
        obtain rfl := e9_.symm
        refine G_hc (c' := c_dys c (i + 1)) ?_ ?_
        · show c_mv (mA (ls_l _ _)) _ = c_mv (mA _) _
          rw [ls_l_A]
          rfl
        refine G_iinc (b := nI (i + 1)) dX8_days_49 rfl (nI_1 i) rfl ?_
        refine G_goto (tgt := 26) dX8_days_52 (by decide) ?_
        exact ih (i + 1) (by omega)
  refine G_iload_n dX8_days_0 rfl rfl ?_
  refine G_iconst (v := 1) dX8_days_1 rfl ?_
  refine G_bipush (v := 60) dX8_days_2 rfl ?_
  refine G_callS (cx_within _ _ _) dX8_days_4 (mc_X8_64 rfl) tw_236 rfl rfl (Nat.le_of_ble_eq_true rfl) (Nat.le_of_ble_eq_true rfl) (Nat.le_of_ble_eq_true rfl) (Nat.le_of_ble_eq_true rfl) ?_
  rintro _ n9_ _ ⟨rfl, e9_, rfl⟩
  obtain rfl := e9_.symm
  refine G_if_eq (tgt := 22) dX8_days_7 (by decide) (fun c7 => ?_) (fun c7 => ?_)
  · skip
    refine G_iconst (v := -1) dX8_days_22 rfl ?_
    refine G_iret dX8_days_23 rfl ?_
    first | exact c_close (cif_f (fun q => b1_0.mp c7 q.1)) | exact c_close (cif_f (fun q => c19 q.2))
  · skip
    refine G_aload_n dX8_days_10 rfl rfl ?_
    refine G_get dX8_days_11 fg_X8_56 (hx_8 _ _ _) rfl ?_
    refine G_iload_n dX8_days_14 rfl rfl ?_
    refine G_iadd dX8_days_15 ?_
    refine G_sipush (v := 5000) dX8_days_16 rfl ?_
    refine G_icmp_le (tgt := 24) dX8_days_19 (by decide) (fun c19 => ?_) (fun c19 => ?_)
    · skip
      refine G_iconst (v := 0) dX8_days_24 rfl ?_
      refine G_istore_n dX8_days_25 rfl (Nat.le_of_ble_eq_true rfl) rfl ?_
      obtain ⟨N, hN, hv⟩ := nI_of2 (x := v) (M := 60) (n := 60) rfl (fun q => absurd (Int32.lt_of_le_of_lt (b1_1 c7).1 q) (by decide)) (b1_1 c7).2
      exact loop ⟨b1_1 c7, c19⟩ N hN hv N 0 (by omega)
    · skip
      refine G_iconst (v := -1) dX8_days_22 rfl ?_
      refine G_iret dX8_days_23 rfl ?_
      first | exact c_close (cif_f (fun q => b1_0.mp c7 q.1)) | exact c_close (cif_f (fun q => c19 q.2))
