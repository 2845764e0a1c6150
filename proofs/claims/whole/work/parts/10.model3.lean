theorem sk_le (s : mS) : ∀ m p, p ≤ sk s m p ∧ sk s m p ≤ p + m
  | 0, p => ⟨Nat.le_refl p, Nat.le_refl p⟩
  | m + 1, p => by
    have h := sk_le s m (p + 1)
    show p ≤ cif _ _ _ ∧ cif _ _ _ ≤ _
    by_cases q : is_bl (s_by s p)
    · rw [cif_t q]; omega
    · rw [cif_f q]; omega
theorem lr_le (s : mS) : ∀ m o, o ≤ lr s m o ∧ lr s m o ≤ o + m
  | 0, o => ⟨Nat.le_refl o, Nat.le_refl o⟩
  | m + 1, o => by
    have h := lr_le s m (o + 1)
    show o ≤ cif _ _ _ ∧ cif _ _ _ ≤ _
    by_cases q : wi (s_by s o) 97 122
    · rw [cif_t q]; omega
    · rw [cif_f q]; omega
theorem dr_le (s : mS) (f : Nat) : ∀ m o v, o ≤ (dr s f m o v).1 ∧ (dr s f m o v).1 ≤ o + m
  | 0, o, v => ⟨Nat.le_refl o, Nat.le_refl o⟩
  | m + 1, o, v => by
    have h := dr_le s f m (o + 1) (cif (o - f < 3) (10 * v + s_by s o - 48) v)
    show o ≤ (cif _ _ _ : Nat × Int32).1 ∧ (cif _ _ _ : Nat × Int32).1 ≤ _
    by_cases q : wi (s_by s o) 48 57
    · rw [cif_t q]; omega
    · rw [cif_f q]; show o ≤ o ∧ o ≤ _; omega
/-- a token's from and over -/
theorem tok_fo (s : mS) {p : Nat} (hp : p ≤ 200) (hP : mP s ≤ 200) : ∃ f o v w, s_tok s p = st4 s f o v w ∧ p ≤ f ∧ f ≤ o ∧ o ≤ 200 ∧ (¬ w = 0 → f < o) := by
  have h1 := sk_le s (mP s - p) p
  have hq : sk s (mP s - p) p ≤ 200 := by omega
  unfold s_tok s_tkq
  generalize sk s (mP s - p) p = q at h1 hq
  by_cases a1 : mP s ≤ q
  · exact ⟨q, q, _, _, cif_t a1, h1.1, Nat.le_refl q, hq, fun z => absurd rfl z⟩
  · rw [cif_f a1]
    obtain ⟨m, hm⟩ : ∃ m, mP s - q = m + 1 := ⟨mP s - q - 1, by omega⟩
    by_cases a2 : wi (s_by s q) 97 122
    · have h2 := lr_le s m (q + 1)
      refine ⟨q, lr s (mP s - q) q, _, _, cif_t a2, h1.1, ?_, ?_, fun _ => ?_⟩ <;> rw [hm] <;> show _ <;> (first | (show q ≤ cif _ _ _; rw [cif_t a2]; omega) | (show cif _ _ _ ≤ _; rw [cif_t a2]; omega) | (show q < cif _ _ _; rw [cif_t a2]; omega))
    · rw [cif_f a2]
      by_cases a3 : wi (s_by s q) 48 57
      · have h2 := dr_le s q m (q + 1) (cif (q - q < 3) (10 * 0 + s_by s q - 48) 0)
        have e : dr s q (mP s - q) q 0 = dr s q m (q + 1) (cif (q - q < 3) (10 * 0 + s_by s q - 48) 0) := by rw [hm]; exact cif_t a3
        refine ⟨q, (dr s q (mP s - q) q 0).1, _, _, cif_t a3, h1.1, ?_, ?_, fun _ => ?_⟩ <;> rw [e] <;> omega
      · exact ⟨q, q + 1, _, _, cif_f a3, h1.1, by omega, by omega, fun _ => by omega⟩
def t_ok (s : mS) : Prop := (s 19 0 = nI (ix (s 19 0)) ∧ ix (s 19 0) ≤ 200) ∧ (s 20 0 = nI (ix (s 20 0)) ∧ ix (s 20 0) ≤ 200)
noncomputable def s_tk (s : mS) : mS := s_tok s (ix (s 20 0))
theorem st4_inv {s : mS} {f o : Nat} {v w : Int32} (h : m_inv s) : m_inv (st4 s f o v w) := h
theorem tk_ok {s : mS} (hI : m_inv s) (h : t_ok s) : m_inv (s_tk s) ∧ t_ok (s_tk s) ∧ ix (s 20 0) ≤ ix (s_tk s 20 0) ∧ (¬ s_tk s 22 0 = 0 → ix (s 20 0) < ix (s_tk s 20 0)) ∧ s_tk s 1 0 = s 1 0 := by
  obtain ⟨f, o, v, w, e, a1, a2, a3, a4⟩ := tok_fo s h.2.2 hI.2.2.2.1.2
  unfold s_tk
  rw [e]
  have e1 : ix (st4 s f o v w 19 0) = f := nI_clamp (by omega)
  have e2 : ix (st4 s f o v w 20 0) = o := nI_clamp (by omega)
  refine ⟨st4_inv hI, ⟨⟨by rw [e1]; rfl, by rw [e1]; omega⟩, by rw [e2]; rfl, by rw [e2]; omega⟩, by rw [e2]; omega, fun z => ?_, rfl⟩
  rw [e2]
  have := a4 z
  omega
def s_ev (s : mS) (f : Nat) : Prop := s 22 0 = 1 ∧ s 20 0 - s 19 0 = 5 ∧ s_by s f = 101 ∧ s_by s (f + 1) = 118 ∧ s_by s (f + 2) = 101 ∧ s_by s (f + 3) = 114 ∧ s_by s (f + 4) = 121
def s_wr (s : mS) (v : Int32) : mS := m_set (m_set s 17 0 v) 18 0 (s 19 0)
noncomputable def s_stmt (s : mS) : mS × Int32 := cif (s_ev s (ix (s 19 0))) (cif (s_tk s 22 0 = 2) (cif (wi (s_tk s 21 0) 0 (s_tk s 1 0 - 1)) (cif (s_tk (s_tk s) 22 0 = 2) (cif (s_tk (s_tk (s_tk s)) 22 0 = 3) (s_tk (m_set (s_tk (s_tk (s_tk s))) 16 (ix (s_tk s 21 0)) (s_tk (s_tk s) 21 0)), 1) (s_wr (s_tk (s_tk (s_tk s))) 1, 0)) (s_wr (s_tk (s_tk s)) 1, 0)) (s_wr (s_tk s) 2, 0)) (s_wr (s_tk s) 1, 0)) (s_wr s 1, 0)

set_option maxHeartbeats 4000000 in
set_option maxRecDepth 100000 in
theorem c9_isEvery {g : gT} {nq_ : Nat} {s : mS} {r : mH} (f : Nat) (hI : m_inv s) (hf : s 19 0 = nI f) (hf2 : f ≤ 200) : M g 1 0 0 kX9_isEvery [.ref 24] nq_ (hm s r) (m_Q (.int (b1 (s_ev s f))) nq_ (hm s r)) := by
  refine M_of_G (by decide +kernel) (Nat.le_of_ble_eq_true rfl) ?_
  obtain ⟨hK, hT, hB, hP9, hA, hkf, haf, hbf⟩ := id hI
  refine G_aload_n dX9_isEvery_0 rfl rfl ?_
  refine GM_get dX9_isEvery_1 fg_X9_130 ms_22 ?_
  refine G_iconst (v := 1) dX9_isEvery_4 rfl ?_
  refine G_icmp_ne (tgt := 98) dX9_isEvery_5 (by decide) (fun c5 => ?_) (fun c5 => ?_)
  · skip
    refine G_iconst (v := 0) dX9_isEvery_98 rfl ?_
    refine G_zret dX9_isEvery_99 rfl rfl ?_
    first | exact q_t ⟨c5, c18, c31, c46, c61, c76, c91⟩ | exact q_f (fun q => c5 q.1) | exact q_f (fun q => c18 q.2.1) | exact q_f (fun q => c31 q.2.2.1) | exact q_f (fun q => c46 q.2.2.2.1) | exact q_f (fun q => c61 q.2.2.2.2.1) | exact q_f (fun q => c76 q.2.2.2.2.2.1) | exact q_f (fun q => c91 q.2.2.2.2.2.2)
  · skip
    refine G_aload_n dX9_isEvery_8 rfl rfl ?_
    refine GM_get dX9_isEvery_9 fg_X9_120 ms_20 ?_
    refine G_aload_n dX9_isEvery_12 rfl rfl ?_
    refine GM_get dX9_isEvery_13 fg_X9_123 ms_19 ?_
    refine G_isub dX9_isEvery_16 ?_
    refine G_iconst (v := 5) dX9_isEvery_17 rfl ?_
    refine G_icmp_ne (tgt := 98) dX9_isEvery_18 (by decide) (fun c18 => ?_) (fun c18 => ?_)
    · skip
      refine G_iconst (v := 0) dX9_isEvery_98 rfl ?_
      refine G_zret dX9_isEvery_99 rfl rfl ?_
      first | exact q_t ⟨c5, c18, c31, c46, c61, c76, c91⟩ | exact q_f (fun q => c5 q.1) | exact q_f (fun q => c18 q.2.1) | exact q_f (fun q => c31 q.2.2.1) | exact q_f (fun q => c46 q.2.2.2.1) | exact q_f (fun q => c61 q.2.2.2.2.1) | exact q_f (fun q => c76 q.2.2.2.2.2.1) | exact q_f (fun q => c91 q.2.2.2.2.2.2)
    · skip
      refine G_aload_n dX9_isEvery_21 rfl rfl ?_
      refine G_aload_n dX9_isEvery_22 rfl rfl ?_
      refine GM_get dX9_isEvery_23 fg_X9_123 ms_19 ?_
      refine G_top (congrArg Value.int hf) ?_
      refine GM_call (c9_byteAt (f) hI (by omega)) dX9_isEvery_26 (mc_X9_126 rfl) tw_1053 tw_32 rfl rfl rfl (Nat.le_of_ble_eq_true rfl) (Nat.le_of_ble_eq_true rfl) ?_
      rintro _ n9_ _ ⟨rfl, e9_, rfl⟩
      obtain rfl := e9_.symm
      refine G_bipush (v := 101) dX9_isEvery_29 rfl ?_
      refine G_icmp_ne (tgt := 98) dX9_isEvery_31 (by decide) (fun c31 => ?_) (fun c31 => ?_)
      · skip
        refine G_iconst (v := 0) dX9_isEvery_98 rfl ?_
        refine G_zret dX9_isEvery_99 rfl rfl ?_
        first | exact q_t ⟨c5, c18, c31, c46, c61, c76, c91⟩ | exact q_f (fun q => c5 q.1) | exact q_f (fun q => c18 q.2.1) | exact q_f (fun q => c31 q.2.2.1) | exact q_f (fun q => c46 q.2.2.2.1) | exact q_f (fun q => c61 q.2.2.2.2.1) | exact q_f (fun q => c76 q.2.2.2.2.2.1) | exact q_f (fun q => c91 q.2.2.2.2.2.2)
      · skip
        refine G_aload_n dX9_isEvery_34 rfl rfl ?_
        refine G_aload_n dX9_isEvery_35 rfl rfl ?_
        refine GM_get dX9_isEvery_36 fg_X9_123 ms_19 ?_
        refine G_top (congrArg Value.int hf) ?_
        refine G_iconst (v := 1) dX9_isEvery_39 rfl ?_
        refine G_iadd dX9_isEvery_40 ?_
        refine G_top (congrArg Value.int (nI_add f 1)) ?_
        refine GM_call (c9_byteAt (f + 1) hI (by omega)) dX9_isEvery_41 (mc_X9_126 rfl) tw_1053 tw_32 rfl rfl rfl (Nat.le_of_ble_eq_true rfl) (Nat.le_of_ble_eq_true rfl) ?_
        rintro _ n9_ _ ⟨rfl, e9_, rfl⟩
        obtain rfl := e9_.symm
        refine G_bipush (v := 118) dX9_isEvery_44 rfl ?_
        refine G_icmp_ne (tgt := 98) dX9_isEvery_46 (by decide) (fun c46 => ?_) (fun c46 => ?_)
        · skip
          refine G_iconst (v := 0) dX9_isEvery_98 rfl ?_
          refine G_zret dX9_isEvery_99 rfl rfl ?_
          first | exact q_t ⟨c5, c18, c31, c46, c61, c76, c91⟩ | exact q_f (fun q => c5 q.1) | exact q_f (fun q => c18 q.2.1) | exact q_f (fun q => c31 q.2.2.1) | exact q_f (fun q => c46 q.2.2.2.1) | exact q_f (fun q => c61 q.2.2.2.2.1) | exact q_f (fun q => c76 q.2.2.2.2.2.1) | exact q_f (fun q => c91 q.2.2.2.2.2.2)
        · skip
          refine G_aload_n dX9_isEvery_49 rfl rfl ?_
          refine G_aload_n dX9_isEvery_50 rfl rfl ?_
          refine GM_get dX9_isEvery_51 fg_X9_123 ms_19 ?_
          refine G_top (congrArg Value.int hf) ?_
          refine G_iconst (v := 2) dX9_isEvery_54 rfl ?_
          refine G_iadd dX9_isEvery_55 ?_
          refine G_top (congrArg Value.int (nI_add f 2)) ?_
          refine GM_call (c9_byteAt (f + 2) hI (by omega)) dX9_isEvery_56 (mc_X9_126 rfl) tw_1053 tw_32 rfl rfl rfl (Nat.le_of_ble_eq_true rfl) (Nat.le_of_ble_eq_true rfl) ?_
          rintro _ n9_ _ ⟨rfl, e9_, rfl⟩
          obtain rfl := e9_.symm
          refine G_bipush (v := 101) dX9_isEvery_59 rfl ?_
          refine G_icmp_ne (tgt := 98) dX9_isEvery_61 (by decide) (fun c61 => ?_) (fun c61 => ?_)
          · skip
            refine G_iconst (v := 0) dX9_isEvery_98 rfl ?_
            refine G_zret dX9_isEvery_99 rfl rfl ?_
            first | exact q_t ⟨c5, c18, c31, c46, c61, c76, c91⟩ | exact q_f (fun q => c5 q.1) | exact q_f (fun q => c18 q.2.1) | exact q_f (fun q => c31 q.2.2.1) | exact q_f (fun q => c46 q.2.2.2.1) | exact q_f (fun q => c61 q.2.2.2.2.1) | exact q_f (fun q => c76 q.2.2.2.2.2.1) | exact q_f (fun q => c91 q.2.2.2.2.2.2)
          · skip
            refine G_aload_n dX9_isEvery_64 rfl rfl ?_
            refine G_aload_n dX9_isEvery_65 rfl rfl ?_
            refine GM_get dX9_isEvery_66 fg_X9_123 ms_19 ?_
            refine G_top (congrArg Value.int hf) ?_
            refine G_iconst (v := 3) dX9_isEvery_69 rfl ?_
            refine G_iadd dX9_isEvery_70 ?_
            refine G_top (congrArg Value.int (nI_add f 3)) ?_
            refine GM_call (c9_byteAt (f + 3) hI (by omega)) dX9_isEvery_71 (mc_X9_126 rfl) tw_1053 tw_32 rfl rfl rfl (Nat.le_of_ble_eq_true rfl) (Nat.le_of_ble_eq_true rfl) ?_
            rintro _ n9_ _ ⟨rfl, e9_, rfl⟩
            obtain rfl := e9_.symm
            refine G_bipush (v := 114) dX9_isEvery_74 rfl ?_
            refine G_icmp_ne (tgt := 98) dX9_isEvery_76 (by decide) (fun c76 => ?_) (fun c76 => ?_)
            · skip
              refine G_iconst (v := 0) dX9_isEvery_98 rfl ?_
              refine G_zret dX9_isEvery_99 rfl rfl ?_
              first | exact q_t ⟨c5, c18, c31, c46, c61, c76, c91⟩ | exact q_f (fun q => c5 q.1) | exact q_f (fun q => c18 q.2.1) | exact q_f (fun q => c31 q.2.2.1) | exact q_f (fun q => c46 q.2.2.2.1) | exact q_f (fun q => c61 q.2.2.2.2.1) | exact q_f (fun q => c76 q.2.2.2.2.2.1) | exact q_f (fun q => c91 q.2.2.2.2.2.2)
            · skip
              refine G_aload_n dX9_isEvery_79 rfl rfl ?_
              refine G_aload_n dX9_isEvery_80 rfl rfl ?_
              refine GM_get dX9_isEvery_81 fg_X9_123 ms_19 ?_
              refine G_top (congrArg Value.int hf) ?_
              refine G_iconst (v := 4) dX9_isEvery_84 rfl ?_
              refine G_iadd dX9_isEvery_85 ?_
              refine G_top (congrArg Value.int (nI_add f 4)) ?_
              refine GM_call (c9_byteAt (f + 4) hI (by omega)) dX9_isEvery_86 (mc_X9_126 rfl) tw_1053 tw_32 rfl rfl rfl (Nat.le_of_ble_eq_true rfl) (Nat.le_of_ble_eq_true rfl) ?_
              rintro _ n9_ _ ⟨rfl, e9_, rfl⟩
              obtain rfl := e9_.symm
              refine G_bipush (v := 121) dX9_isEvery_89 rfl ?_
              refine G_icmp_ne (tgt := 98) dX9_isEvery_91 (by decide) (fun c91 => ?_) (fun c91 => ?_)
              · skip
                refine G_iconst (v := 0) dX9_isEvery_98 rfl ?_
                refine G_zret dX9_isEvery_99 rfl rfl ?_
                first | exact q_t ⟨c5, c18, c31, c46, c61, c76, c91⟩ | exact q_f (fun q => c5 q.1) | exact q_f (fun q => c18 q.2.1) | exact q_f (fun q => c31 q.2.2.1) | exact q_f (fun q => c46 q.2.2.2.1) | exact q_f (fun q => c61 q.2.2.2.2.1) | exact q_f (fun q => c76 q.2.2.2.2.2.1) | exact q_f (fun q => c91 q.2.2.2.2.2.2)
              · skip
                refine G_iconst (v := 1) dX9_isEvery_94 rfl ?_
                refine G_goto (tgt := 99) dX9_isEvery_95 (by decide) ?_
                refine G_zret dX9_isEvery_99 rfl rfl ?_
                first | exact q_t ⟨c5, c18, c31, c46, c61, c76, c91⟩ | exact q_f (fun q => c5 q.1) | exact q_f (fun q => c18 q.2.1) | exact q_f (fun q => c31 q.2.2.1) | exact q_f (fun q => c46 q.2.2.2.1) | exact q_f (fun q => c61 q.2.2.2.2.1) | exact q_f (fun q => c76 q.2.2.2.2.2.1) | exact q_f (fun q => c91 q.2.2.2.2.2.2)
set_option maxHeartbeats 4000000 in
set_option maxRecDepth 100000 in
theorem c9_statement {g : gT} {nq_ : Nat} {s : mS} {r : mH}  (hI : m_inv s) (hh : t_ok s) : M g 3 0 0 kX9_statement [.ref 24] nq_ (hm s r) (m_S (.int (s_stmt s).2) nq_ (s_stmt s).1 r) := by
  refine M_of_G (by decide +kernel) (Nat.le_of_ble_eq_true rfl) ?_
  have hi0 : m_inv s ∧ t_ok s := ⟨hI, hh⟩
  have hi1 : m_inv (s_tk s) ∧ t_ok (s_tk s) := ⟨(tk_ok hI hh).1, (tk_ok hI hh).2.1⟩
  have hi2 : m_inv (s_tk (s_tk s)) ∧ t_ok (s_tk (s_tk s)) := ⟨(tk_ok hi1.1 hi1.2).1, (tk_ok hi1.1 hi1.2).2.1⟩
  have hi3 : m_inv (s_tk (s_tk (s_tk s))) ∧ t_ok (s_tk (s_tk (s_tk s))) := ⟨(tk_ok hi2.1 hi2.2).1, (tk_ok hi2.1 hi2.2).2.1⟩
  have hi4 : m_inv (m_set (s_tk (s_tk (s_tk s))) 16 (ix (s_tk s 21 0)) (s_tk (s_tk s) 21 0)) ∧ t_ok (m_set (s_tk (s_tk (s_tk s))) 16 (ix (s_tk s 21 0)) (s_tk (s_tk s) 21 0)) := ⟨inv_16 hi3.1, hi3.2⟩
  refine G_aload_n dX9_statement_0 rfl rfl ?_
  refine GM_call (c9_isEvery (ix (s 19 0)) hI hh.1.1 hh.1.2) dX9_statement_1 (mc_X9_139 rfl) tw_1061 tw_34 rfl rfl rfl (Nat.le_of_ble_eq_true rfl) (Nat.le_of_ble_eq_true rfl) ?_
  rintro _ n9_ _ ⟨rfl, e9_, rfl⟩
  obtain rfl := e9_.symm
  refine G_if_ne (tgt := 13) dX9_statement_4 (by decide) (fun c4 => ?_) (fun c4 => ?_)
  · skip
    refine G_aload_n dX9_statement_13 rfl rfl ?_
    refine GM_call (c9_token (ix (s 20 0)) hi0.1 hi0.2.2.1 hi0.2.2.2) dX9_statement_14 (mc_X9_146 rfl) tw_1049 tw_31 rfl rfl rfl (Nat.le_of_ble_eq_true rfl) (Nat.le_of_ble_eq_true rfl) ?_
    rintro _ n9_ _ ⟨rfl, e9_, rfl⟩
    obtain rfl := e9_.symm
    refine G_hp (s' := s_tk (s)) rfl ?_
    refine G_aload_n dX9_statement_17 rfl rfl ?_
    refine GM_get dX9_statement_18 fg_X9_130 ms_22 ?_
    refine G_iconst (v := 2) dX9_statement_21 rfl ?_
    refine G_icmp_eq (tgt := 31) dX9_statement_22 (by decide) (fun c22 => ?_) (fun c22 => ?_)
    · skip
      refine G_aload_n dX9_statement_31 rfl rfl ?_
      refine G_aload_n dX9_statement_32 rfl rfl ?_
      refine GM_get dX9_statement_33 fg_X9_133 ms_21 ?_
      refine GM_call (c9_isKind _) dX9_statement_36 (mc_X9_113 rfl) tw_1029 tw_30 rfl rfl rfl (Nat.le_of_ble_eq_true rfl) (Nat.le_of_ble_eq_true rfl) ?_
      rintro _ n9_ _ ⟨rfl, e9_, rfl⟩
      obtain rfl := e9_.symm
      refine G_if_ne (tgt := 48) dX9_statement_39 (by decide) (fun c39 => ?_) (fun c39 => ?_)
      · skip
        have hv := m_ix hi1.1.1 (by decide) (b1_1 c39)
        refine G_aload_n dX9_statement_48 rfl rfl ?_
        refine GM_get dX9_statement_49 fg_X9_133 ms_21 ?_
        refine G_istore_n dX9_statement_52 rfl (Nat.le_of_ble_eq_true rfl) rfl ?_
        refine G_aload_n dX9_statement_53 rfl rfl ?_
        refine GM_call (c9_token (ix (s_tk s 20 0)) hi1.1 hi1.2.2.1 hi1.2.2.2) dX9_statement_54 (mc_X9_146 rfl) tw_1049 tw_31 rfl rfl rfl (Nat.le_of_ble_eq_true rfl) (Nat.le_of_ble_eq_true rfl) ?_
        rintro _ n9_ _ ⟨rfl, e9_, rfl⟩
        obtain rfl := e9_.symm
        refine G_hp (s' := s_tk (s_tk s)) rfl ?_
        refine G_aload_n dX9_statement_57 rfl rfl ?_
        refine GM_get dX9_statement_58 fg_X9_130 ms_22 ?_
        refine G_iconst (v := 2) dX9_statement_61 rfl ?_
        refine G_icmp_eq (tgt := 71) dX9_statement_62 (by decide) (fun c62 => ?_) (fun c62 => ?_)
        · skip
          refine G_aload_n dX9_statement_71 rfl rfl ?_
          refine GM_get dX9_statement_72 fg_X9_133 ms_21 ?_
          refine G_istore_n dX9_statement_75 rfl (Nat.le_of_ble_eq_true rfl) rfl ?_
          refine G_aload_n dX9_statement_76 rfl rfl ?_
          refine GM_call (c9_token (ix (s_tk (s_tk s) 20 0)) hi2.1 hi2.2.2.1 hi2.2.2.2) dX9_statement_77 (mc_X9_146 rfl) tw_1049 tw_31 rfl rfl rfl (Nat.le_of_ble_eq_true rfl) (Nat.le_of_ble_eq_true rfl) ?_
          rintro _ n9_ _ ⟨rfl, e9_, rfl⟩
          obtain rfl := e9_.symm
          refine G_hp (s' := s_tk (s_tk (s_tk s))) rfl ?_
          refine G_aload_n dX9_statement_80 rfl rfl ?_
          refine GM_get dX9_statement_81 fg_X9_130 ms_22 ?_
          refine G_iconst (v := 3) dX9_statement_84 rfl ?_
          refine G_icmp_eq (tgt := 94) dX9_statement_85 (by decide) (fun c85 => ?_) (fun c85 => ?_)
          · skip
            refine G_aload_n dX9_statement_94 rfl rfl ?_
            refine GM_ref dX9_statement_95 fg_X9_38 (fun _ => rfl) ?_
            refine G_iload_n dX9_statement_98 rfl rfl ?_
            refine G_iload_n dX9_statement_99 rfl rfl ?_
            refine GM_st dX9_statement_100 mt_16 ma_16 (by decide) ⟨hv.1, by have := hv.2; have := hi1.1.1.2; omega⟩ ?_
            refine G_aload_n dX9_statement_101 rfl rfl ?_
            refine GM_call (c9_token (ix (m_set (s_tk (s_tk (s_tk s))) 16 (ix (s_tk s 21 0)) (s_tk (s_tk s) 21 0) 20 0)) hi4.1 hi4.2.2.1 hi4.2.2.2) dX9_statement_102 (mc_X9_146 rfl) tw_1049 tw_31 rfl rfl rfl (Nat.le_of_ble_eq_true rfl) (Nat.le_of_ble_eq_true rfl) ?_
            rintro _ n9_ _ ⟨rfl, e9_, rfl⟩
            obtain rfl := e9_.symm
            refine G_hp (s' := s_tk (m_set (s_tk (s_tk (s_tk s))) 16 (ix (s_tk s 21 0)) (s_tk (s_tk s) 21 0))) rfl ?_
            refine G_iconst (v := 1) dX9_statement_105 rfl ?_
            refine G_zret dX9_statement_106 rfl rfl ?_
            exact m_close ((cif_t (b1_1 c4)).trans ((cif_t c22).trans ((cif_t (b1_1 c39)).trans ((cif_t c62).trans (cif_t c85)))))
          · skip
            refine G_aload_n dX9_statement_88 rfl rfl ?_
            refine G_iconst (v := 1) dX9_statement_89 rfl ?_
            refine GM_call (c9_wrong _) dX9_statement_90 (mc_X9_143 rfl) tw_1065 tw_35 rfl rfl rfl (Nat.le_of_ble_eq_true rfl) (Nat.le_of_ble_eq_true rfl) ?_
            rintro _ n9_ _ ⟨rfl, e9_, rfl⟩
            obtain rfl := e9_.symm
            refine G_zret dX9_statement_93 rfl rfl ?_
            exact m_close ((cif_t (b1_1 c4)).trans ((cif_t c22).trans ((cif_t (b1_1 c39)).trans ((cif_t c62).trans (cif_f c85)))))
        · skip
          refine G_aload_n dX9_statement_65 rfl rfl ?_
          refine G_iconst (v := 1) dX9_statement_66 rfl ?_
          refine GM_call (c9_wrong _) dX9_statement_67 (mc_X9_143 rfl) tw_1065 tw_35 rfl rfl rfl (Nat.le_of_ble_eq_true rfl) (Nat.le_of_ble_eq_true rfl) ?_
          rintro _ n9_ _ ⟨rfl, e9_, rfl⟩
          obtain rfl := e9_.symm
          refine G_zret dX9_statement_70 rfl rfl ?_
          exact m_close ((cif_t (b1_1 c4)).trans ((cif_t c22).trans ((cif_t (b1_1 c39)).trans (cif_f c62))))
      · skip
        refine G_aload_n dX9_statement_42 rfl rfl ?_
        refine G_iconst (v := 2) dX9_statement_43 rfl ?_
        refine GM_call (c9_wrong _) dX9_statement_44 (mc_X9_143 rfl) tw_1065 tw_35 rfl rfl rfl (Nat.le_of_ble_eq_true rfl) (Nat.le_of_ble_eq_true rfl) ?_
        rintro _ n9_ _ ⟨rfl, e9_, rfl⟩
        obtain rfl := e9_.symm
        refine G_zret dX9_statement_47 rfl rfl ?_
        exact m_close ((cif_t (b1_1 c4)).trans ((cif_t c22).trans (cif_f (b1_0.mp c39))))
    · skip
      refine G_aload_n dX9_statement_25 rfl rfl ?_
      refine G_iconst (v := 1) dX9_statement_26 rfl ?_
      refine GM_call (c9_wrong _) dX9_statement_27 (mc_X9_143 rfl) tw_1065 tw_35 rfl rfl rfl (Nat.le_of_ble_eq_true rfl) (Nat.le_of_ble_eq_true rfl) ?_
      rintro _ n9_ _ ⟨rfl, e9_, rfl⟩
      obtain rfl := e9_.symm
      refine G_zret dX9_statement_30 rfl rfl ?_
      exact m_close ((cif_t (b1_1 c4)).trans (cif_f c22))
  · skip
    refine G_aload_n dX9_statement_7 rfl rfl ?_
    refine G_iconst (v := 1) dX9_statement_8 rfl ?_
    refine GM_call (c9_wrong _) dX9_statement_9 (mc_X9_143 rfl) tw_1065 tw_35 rfl rfl rfl (Nat.le_of_ble_eq_true rfl) (Nat.le_of_ble_eq_true rfl) ?_
    rintro _ n9_ _ ⟨rfl, e9_, rfl⟩
    obtain rfl := e9_.symm
    refine G_zret dX9_statement_12 rfl rfl ?_
    exact m_close (cif_f (b1_0.mp c4))
theorem stmt_01 {u : mS} (hI : m_inv u) (h : t_ok u) : (s_stmt u).2 = 0 ∨ ((s_stmt u).2 = 1 ∧ m_inv (s_stmt u).1 ∧ t_ok (s_stmt u).1 ∧ ix (u 20 0) < ix ((s_stmt u).1 20 0)) := by
  have h1 := tk_ok hI h
  have h2 := tk_ok h1.1 h1.2.1
  have h3 := tk_ok h2.1 h2.2.1
  by_cases c1 : s_ev u (ix (u 19 0))
  · by_cases c2 : s_tk u 22 0 = 2
    · by_cases c3 : wi (s_tk u 21 0) 0 (s_tk u 1 0 - 1)
      · by_cases c4 : s_tk (s_tk u) 22 0 = 2
        · by_cases c5 : s_tk (s_tk (s_tk u)) 22 0 = 3
          · have e : s_stmt u = (s_tk (m_set (s_tk (s_tk (s_tk u))) 16 (ix (s_tk u 21 0)) (s_tk (s_tk u) 21 0)), 1) := (cif_t c1).trans ((cif_t c2).trans ((cif_t c3).trans ((cif_t c4).trans (cif_t c5))))
            have h4 := tk_ok (s := m_set (s_tk (s_tk (s_tk u))) 16 (ix (s_tk u 21 0)) (s_tk (s_tk u) 21 0)) (inv_16 h3.1) h3.2.1
            rw [e]
            refine Or.inr ⟨rfl, h4.1, h4.2.1, ?_⟩
            have a1 := h3.2.2.2.1 (by rw [c5]; decide)
            have a2 := h4.2.2.1
            have a3 : ix (m_set (s_tk (s_tk (s_tk u))) 16 (ix (s_tk u 21 0)) (s_tk (s_tk u) 21 0) 20 0) = ix (s_tk (s_tk (s_tk u)) 20 0) := rfl
            have a4 := h1.2.2.1
            have a5 := h2.2.2.1
            show _ < ix (s_tk (m_set (s_tk (s_tk (s_tk u))) 16 (ix (s_tk u 21 0)) (s_tk (s_tk u) 21 0)) 20 0)
            omega
          · have e : s_stmt u = (s_wr (s_tk (s_tk (s_tk u))) 1, 0) := (cif_t c1).trans ((cif_t c2).trans ((cif_t c3).trans ((cif_t c4).trans (cif_f c5))))
            exact Or.inl (by rw [e])
        · have e : s_stmt u = (s_wr (s_tk (s_tk u)) 1, 0) := (cif_t c1).trans ((cif_t c2).trans ((cif_t c3).trans (cif_f c4)))
          exact Or.inl (by rw [e])
      · have e : s_stmt u = (s_wr (s_tk u) 2, 0) := (cif_t c1).trans ((cif_t c2).trans (cif_f c3))
        exact Or.inl (by rw [e])
    · have e : s_stmt u = (s_wr (s_tk u) 1, 0) := (cif_t c1).trans (cif_f c2)
      exact Or.inl (by rw [e])
  · have e : s_stmt u = (s_wr u 1, 0) := cif_f c1
    exact Or.inl (by rw [e])
noncomputable def s_pl : Nat → mS → mS
  | 0, s => s
  | m + 1, s => cif (s 22 0 = 0) s (cif ((s_stmt s).2 = 0) (s_stmt s).1 (s_pl m (s_stmt s).1))
def s_clr (s : mS) : Nat → mS
  | 0 => m_set (m_set s 17 0 0) 18 0 (-1)
  | i + 1 => m_set (s_clr s i) 16 i (-1)
def s_cp (w : mS) : Nat → mS
  | 0 => w
  | i + 1 => m_set (s_cp w i) 15 i (w 16 i)
theorem s_cp_o (w : mS) {a : Nat} (h : a ≠ 15) : ∀ i b, s_cp w i a b = w a b
  | 0, b => rfl
  | i + 1, b => by show m_set _ _ _ _ _ _ = _; rw [m_set_ne _ _ _ h]; exact s_cp_o w h i b
theorem s_clr_inv {s : mS} (h : m_inv s) : ∀ i, m_inv (s_clr s i)
  | 0 => inv_18 (inv_17 h)
  | i + 1 => inv_16 (s_clr_inv h i)
noncomputable def s_fin (u : mS) : mS × Int32 := cif (0 < u 17 0) (m_set u 13 0 0, -1 - u 17 0) (m_set (s_cp (m_set u 13 0 0) 8) 14 0 (u 14 0 + 1), u 14 0)
noncomputable def s_read (s : mS) : mS := s_pl 201 (s_tk (m_set (s_clr s 8) 20 0 0))
noncomputable def sp_law (s : mS) : mS × Int32 := cif (s 14 0 = 20) (s, -1) (s_fin (s_read s))

set_option maxHeartbeats 4000000 in
set_option maxRecDepth 100000 in
theorem c9_law {g : gT} {nq_ : Nat} {s : mS} {r : mH}  (hI : m_inv (m_set s 0 0 0)) : M g 4 0 0 kX9_law [.ref 24] nq_ (hm s r) (m_S (.int (sp_law (m_set s 0 0 0)).2) nq_ (sp_law (m_set s 0 0 0)).1 r) := by
  refine M_of_G (by decide +kernel) (Nat.le_of_ble_eq_true rfl) ?_
  refine G_aload_n dX9_law_0 rfl rfl ?_
  refine G_iconst (v := 0) dX9_law_1 rfl ?_
  refine GM_put dX9_law_2 fp_X9_97 ms_0 ?_
  generalize e0 : m_set s 0 0 0 = s0 at hI ⊢
  obtain ⟨hK, hT, hB, hP9, hA, hkf, haf, hbf⟩ := id hI
  have tl : ∀ u b9, sp_law s0 = s_fin u → G g 4 0 0 kX9_law 77 [.ref 24, .int b9, .retAddr 0] [] nq_ (hm u r) (m_S (.int (sp_law s0).2) nq_ (sp_law s0).1 r) := by
    intro u b9 hsp
    refine G_aload_n dX9_law_77 rfl rfl ?_
    refine G_iconst (v := 0) dX9_law_78 rfl ?_
    refine GM_put dX9_law_79 fp_X9_117 ms_13 ?_
    refine G_aload_n dX9_law_82 rfl rfl ?_
    refine GM_get dX9_law_83 fg_X9_136 ms_17 ?_
    refine G_top (w := .int (u 17 0)) rfl ?_
    refine G_if_le (tgt := 96) dX9_law_86 (by decide) (fun c86 => ?_) (fun c86 => ?_)
    · skip
      refine G_iconst (v := 0) dX9_law_96 rfl ?_
      refine G_istore_n dX9_law_97 rfl (Nat.le_of_ble_eq_true rfl) rfl ?_
      have loop : ∀ m i, i + m = 8 → G g 4 0 0 kX9_law 98 [.ref 24, .int b9, .int (nI i)] [] nq_ (hm (s_cp (m_set u 13 0 0) i) r) (m_S (.int (sp_law s0).2) nq_ (sp_law s0).1 r) := by
        intro m
        induction m with
        | zero =>
          intro i hi0 
          rw [Nat.add_zero] at hi0
          refine G_iload_n dX9_law_98 rfl rfl ?_
          refine G_bipush (v := 8) dX9_law_99 rfl ?_
          refine G_icmp_ge (tgt := 122) dX9_law_101 (by decide) (fun c101 => ?_) (fun c101 => ?_)
          · skip
            skip
            refine G_aload_n dX9_law_122 rfl rfl ?_
            refine G_dup dX9_law_123 rfl ?_
            refine GM_get dX9_law_124 fg_X9_149 ms_14 ?_
            refine G_iconst (v := 1) dX9_law_127 rfl ?_
            refine G_iadd dX9_law_128 ?_
            refine GM_put dX9_law_129 fp_X9_149 ms_14 ?_
            refine G_aload_n dX9_law_132 rfl rfl ?_
            refine GM_get dX9_law_133 fg_X9_149 ms_14 ?_
            refine G_iconst (v := 1) dX9_law_136 rfl ?_
            refine G_isub dX9_law_137 ?_
            refine G_iret dX9_law_138 rfl ?_
            refine m_close ?_; rw [hsp, s_fin, cif_f (Int32.not_lt.mpr c86), show i = 8 by omega]; exact Prod.ext (congrArg (m_set _ 14 0) (by show u 14 0 + 1 = _; rw [s_cp_o _ (by decide) 8 0]; rfl)) (by show u 14 0 = s_cp (m_set u 13 0 0) 8 14 0 + 1 - 1; rw [s_cp_o _ (by decide) 8 0]; exact (Int32.add_sub_cancel (u 14 0) 1).symm)
          · skip
            exact absurd (by rw [show (8 : Int32) = nI 8 from rfl]; exact nI_le (Nat.le_of_eq hi0.symm) (by omega)) c101
        | succ m ih =>
          intro i hi0 
          refine G_iload_n dX9_law_98 rfl rfl ?_
          refine G_bipush (v := 8) dX9_law_99 rfl ?_
          refine G_icmp_ge (tgt := 122) dX9_law_101 (by decide) (fun c101 => ?_) (fun c101 => ?_)
          · skip
            exact absurd c101 (by rw [show (8 : Int32) = nI 8 from rfl, nI_leI (by omega) (by omega)]; omega)
          · skip
            refine G_aload_n dX9_law_104 rfl rfl ?_
            refine GM_ref dX9_law_105 fg_X9_35 (fun _ => rfl) ?_
            refine G_iload_n dX9_law_108 rfl rfl ?_
            refine G_aload_n dX9_law_109 rfl rfl ?_
            refine GM_ref dX9_law_110 fg_X9_38 (fun _ => rfl) ?_
            refine G_iload_n dX9_law_113 rfl rfl ?_
            refine GM_ld dX9_law_114 mt_16 (by decide) ⟨rfl, by omega⟩ ?_
            refine G_top (w := .int (m_set u 13 0 0 16 i)) (congrArg Value.int (s_cp_o _ (by decide) i i)) ?_
            refine GM_st dX9_law_115 mt_15 ma_15 (by decide) ⟨rfl, by omega⟩ ?_
            refine G_hp (s' := s_cp (m_set u 13 0 0) (i + 1)) rfl ?_
            refine G_iinc (b := nI (i + 1)) dX9_law_116 rfl (nI_1 i) rfl ?_
            refine G_goto (tgt := 98) dX9_law_119 (by decide) ?_
            exact ih (i + 1) (by omega)
      exact loop 8 0 (by omega)
    · skip
      refine G_iconst (v := -1) dX9_law_89 rfl ?_
      refine G_aload_n dX9_law_90 rfl rfl ?_
      refine GM_get dX9_law_91 fg_X9_136 ms_17 ?_
      refine G_top (w := .int (u 17 0)) rfl ?_
      refine G_isub dX9_law_94 ?_
      refine G_iret dX9_law_95 rfl ?_
      refine m_close ?_; rw [hsp, s_fin, cif_t (Int32.not_le.mp c86)]
  have wl : ∀ m u, m_inv u → t_ok u → 201 ≤ m + ix (u 20 0) → sp_law s0 = s_fin (s_pl m u) → G g 4 0 0 kX9_law 58 [.ref 24, .int 1, .retAddr 0] [] nq_ (hm u r) (m_S (.int (sp_law s0).2) nq_ (sp_law s0).1 r) := by
    intro m
    induction m with
    | zero =>
      intro u hIu hou hov hsp
      refine G_iload_n dX9_law_58 rfl rfl ?_
      refine G_if_eq (tgt := 77) dX9_law_59 (by decide) (fun c59 => ?_) (fun c59 => ?_)
      · skip
        exact absurd c59 (by decide)
      · skip
        refine G_aload_n dX9_law_62 rfl rfl ?_
        refine GM_get dX9_law_63 fg_X9_130 ms_22 ?_
        refine G_if_eq (tgt := 77) dX9_law_66 (by decide) (fun c66 => ?_) (fun c66 => ?_)
        · skip
          exact tl u 1 hsp
        · skip
          exact absurd hov (by have := hou.2.2; omega)
    | succ m ih =>
      intro u hIu hou hov hsp
      refine G_iload_n dX9_law_58 rfl rfl ?_
      refine G_if_eq (tgt := 77) dX9_law_59 (by decide) (fun c59 => ?_) (fun c59 => ?_)
      · skip
        exact absurd c59 (by decide)
      · skip
        refine G_aload_n dX9_law_62 rfl rfl ?_
        refine GM_get dX9_law_63 fg_X9_130 ms_22 ?_
        refine G_if_eq (tgt := 77) dX9_law_66 (by decide) (fun c66 => ?_) (fun c66 => ?_)
        · skip
          exact tl u 1 (hsp.trans (congrArg s_fin (cif_t c66)))
        · skip
          refine G_aload_n dX9_law_69 rfl rfl ?_
          refine GM_call (c9_statement hIu hou) dX9_law_70 (mc_X9_152 rfl) tw_1057 tw_33 rfl rfl rfl (Nat.le_of_ble_eq_true rfl) (Nat.le_of_ble_eq_true rfl) ?_
          rintro _ n9_ _ ⟨rfl, e9_, rfl⟩
          obtain rfl := e9_.symm
          rcases stmt_01 hIu hou with hb | ⟨hb, hb1, hb2, hb3⟩
          · refine G_top (w := .int 0) (congrArg Value.int hb) ?_
            refine G_istore_n dX9_law_73 rfl (Nat.le_of_ble_eq_true rfl) rfl ?_
            refine G_goto (tgt := 58) dX9_law_74 (by decide) ?_
            refine G_iload_n dX9_law_58 rfl rfl ?_
            refine G_if_eq (tgt := 77) dX9_law_59 (by decide) (fun _ => ?_) (fun q => absurd rfl q)
            exact tl (s_stmt u).1 0 (hsp.trans (congrArg s_fin ((cif_f c66).trans (cif_t hb))))
          · refine G_top (w := .int 1) (congrArg Value.int hb) ?_
            refine G_istore_n dX9_law_73 rfl (Nat.le_of_ble_eq_true rfl) rfl ?_
            refine G_goto (tgt := 58) dX9_law_74 (by decide) ?_
            exact ih (s_stmt u).1 hb1 hb2 (by omega) (hsp.trans (congrArg s_fin ((cif_f c66).trans (cif_f (by rw [hb]; decide)))))
  skip
  refine G_aload_n dX9_law_5 rfl rfl ?_
  refine GM_get dX9_law_6 fg_X9_149 ms_14 ?_
  refine G_bipush (v := 20) dX9_law_9 rfl ?_
  refine G_icmp_ne (tgt := 16) dX9_law_11 (by decide) (fun c11 => ?_) (fun c11 => ?_)
  · skip
    refine G_aload_n dX9_law_16 rfl rfl ?_
    refine G_iconst (v := 0) dX9_law_17 rfl ?_
    refine GM_put dX9_law_18 fp_X9_136 ms_17 ?_
    refine G_aload_n dX9_law_21 rfl rfl ?_
    refine G_iconst (v := -1) dX9_law_22 rfl ?_
    refine GM_put dX9_law_23 fp_X9_41 ms_18 ?_
    refine G_iconst (v := 0) dX9_law_26 rfl ?_
    refine G_istore_n dX9_law_27 rfl (Nat.le_of_ble_eq_true rfl) rfl ?_
    have loop : ∀ m i, i + m = 8 → G g 4 0 0 kX9_law 28 [.ref 24, .int (nI i), .retAddr 0] [] nq_ (hm (s_clr s0 i) r) (m_S (.int (sp_law s0).2) nq_ (sp_law s0).1 r) := by
      intro m
      induction m with
      | zero =>
        intro i hi0 
        rw [Nat.add_zero] at hi0
        refine G_iload_n dX9_law_28 rfl rfl ?_
        refine G_bipush (v := 8) dX9_law_29 rfl ?_
        refine G_icmp_ge (tgt := 47) dX9_law_31 (by decide) (fun c31 => ?_) (fun c31 => ?_)
        · skip
          skip
          refine G_aload_n dX9_law_47 rfl rfl ?_
          refine G_iconst (v := 0) dX9_law_48 rfl ?_
          refine GM_put dX9_law_49 fp_X9_120 ms_20 ?_
          refine G_aload_n dX9_law_52 rfl rfl ?_
          refine GM_call (c9_token 0 (s := m_set (s_clr s0 i) 20 0 0) (inv_20 (s_clr_inv hI i)) rfl (by omega)) dX9_law_53 (mc_X9_146 rfl) tw_1049 tw_31 rfl rfl rfl (Nat.le_of_ble_eq_true rfl) (Nat.le_of_ble_eq_true rfl) ?_
          rintro _ n9_ _ ⟨rfl, e9_, rfl⟩
          obtain rfl := e9_.symm
          have hok0 : t_ok (m_set (s_clr s0 i) 20 0 0) ∨ True := Or.inr trivial
          refine G_iconst (v := 1) dX9_law_56 rfl ?_
          refine G_istore_n dX9_law_57 rfl (Nat.le_of_ble_eq_true rfl) rfl ?_
          obtain ⟨f9, o9, v9, w9, e9, a1, a2, a3, a4⟩ := tok_fo (m_set (s_clr s0 i) 20 0 0) (p := 0) (by omega) (s_clr_inv hI i).2.2.2.1.2
          have hinv : m_inv (s_tok (m_set (s_clr s0 i) 20 0 0) 0) := by rw [e9]; exact st4_inv (inv_20 (s_clr_inv hI i))
          have htok : t_ok (s_tok (m_set (s_clr s0 i) 20 0 0) 0) := by
            rw [e9]
            have z1 : ix (st4 (m_set (s_clr s0 i) 20 0 0) f9 o9 v9 w9 19 0) = f9 := nI_clamp (by omega)
            have z2 : ix (st4 (m_set (s_clr s0 i) 20 0 0) f9 o9 v9 w9 20 0) = o9 := nI_clamp (by omega)
            exact ⟨⟨by rw [z1]; rfl, by rw [z1]; omega⟩, by rw [z2]; rfl, by rw [z2]; omega⟩
          exact wl 201 (s_tok (m_set (s_clr s0 i) 20 0 0) 0) hinv htok (by omega) (by rw [sp_law, cif_f c11, s_read, show i = 8 by omega]; rfl)
        · skip
          exact absurd (by rw [show (8 : Int32) = nI 8 from rfl]; exact nI_le (Nat.le_of_eq hi0.symm) (by omega)) c31
      | succ m ih =>
        intro i hi0 
        refine G_iload_n dX9_law_28 rfl rfl ?_
        refine G_bipush (v := 8) dX9_law_29 rfl ?_
        refine G_icmp_ge (tgt := 47) dX9_law_31 (by decide) (fun c31 => ?_) (fun c31 => ?_)
        · skip
          exact absurd c31 (by rw [show (8 : Int32) = nI 8 from rfl, nI_leI (by omega) (by omega)]; omega)
        · skip
          refine G_aload_n dX9_law_34 rfl rfl ?_
          refine GM_ref dX9_law_35 fg_X9_38 (fun _ => rfl) ?_
          refine G_iload_n dX9_law_38 rfl rfl ?_
          refine G_iconst (v := -1) dX9_law_39 rfl ?_
          refine GM_st dX9_law_40 mt_16 ma_16 (by decide) ⟨rfl, by omega⟩ ?_
          refine G_hp (s' := s_clr s0 (i + 1)) rfl ?_
          refine G_iinc (b := nI (i + 1)) dX9_law_41 rfl (nI_1 i) rfl ?_
          refine G_goto (tgt := 28) dX9_law_44 (by decide) ?_
          exact ih (i + 1) (by omega)
    exact loop 8 0 (by omega)
  · skip
    refine G_iconst (v := -1) dX9_law_14 rfl ?_
    refine G_iret dX9_law_15 rfl ?_
    exact m_close (cif_t c11)
