theorem m_set2 (s : mS) (j i : Nat) (v w : Int32) : m_set (m_set s j i v) j i w = m_set s j i w := by
  funext a b
  simp only [m_set]
  by_cases h : a = j ∧ b = i <;> simp [h]
theorem m_setc (s : mS) {j j2 : Nat} (i i2 : Nat) (v w : Int32) (h : j ≠ j2) : m_set (m_set s j i v) j2 i2 w = m_set (m_set s j2 i2 w) j i v := by
  funext a b
  simp only [m_set]
  by_cases h1 : a = j ∧ b = i
  · rw [if_neg (fun q => h (h1.1.symm.trans q.1)), if_pos h1, if_pos h1]
  · by_cases h2 : a = j2 ∧ b = i2
    · rw [if_pos h2, if_neg h1, if_pos h2]
    · rw [if_neg h2, if_neg h1, if_neg h1, if_neg h2]
theorem m_set_at (s : mS) (j i : Nat) (v : Int32) : m_set s j i v j i = v := by simp [m_set]
/-- the word that byte i of a feed comes of -/
def fd_w (a b c d e : Int32) (i : Nat) : Int32 := if i < 4 then a else if i < 8 then b else if i < 12 then c else if i < 16 then d else e
def fd_b (a b c d e : Int32) (i : Nat) : Int32 := vp_nar .byte ((fd_w a b c d e i) >>> ((24 - 8 * (nI i - nI i / 4 * 4)) &&& 31)).toInt8.toInt32
def fd (s : mS) (a b c d e : Int32) : Nat → mS
  | 0 => s
  | i + 1 => m_set (m_set (fd s a b c d e i) 12 (mP s + i) (fd_b a b c d e i)) 13 0 (nI (mP s + (i + 1)))
theorem fd_13 (s : mS) (a b c d e : Int32) (h : s 13 0 = nI (mP s)) : ∀ i, fd s a b c d e i 13 0 = nI (mP s + i)
  | 0 => h
  | i + 1 => m_set_at _ 13 0 _
noncomputable def sp_feed (s : mS) (a b c d e : Int32) : mS × Int32 := cif (180 < s 13 0) (s, -1) (fd s a b c d e 20, nI (mP s + 20))

set_option maxHeartbeats 4000000 in
set_option maxRecDepth 100000 in
theorem c9_feed {g : gT} {nq_ : Nat} {s : mS} {r : mH} (a b c e f : Int32) (hI : m_inv (m_set s 0 0 0)) : M g 0 0 0 kX9_feed [.ref 24, .int a, .int b, .int c, .int e, .int f] nq_ (hm s r) (m_S (.int (sp_feed (m_set s 0 0 0) a b c e f).2) nq_ (sp_feed (m_set s 0 0 0) a b c e f).1 r) := by
  refine M_of_G (by decide +kernel) (Nat.le_of_ble_eq_true rfl) ?_
  refine G_aload_n dX9_feed_0 rfl rfl ?_
  refine G_iconst (v := 0) dX9_feed_1 rfl ?_
  refine GM_put dX9_feed_2 fp_X9_97 ms_0 ?_
  generalize e0 : m_set s 0 0 0 = s0 at hI ⊢
  obtain ⟨hK, hT, hB, hP9, hA, hkf, haf, hbf⟩ := id hI
  refine G_aload_n dX9_feed_5 rfl rfl ?_
  refine GM_get dX9_feed_6 fg_X9_117 ms_13 ?_
  refine G_sipush (v := 180) dX9_feed_9 rfl ?_
  refine G_icmp_le (tgt := 17) dX9_feed_12 (by decide) (fun c12 => ?_) (fun c12 => ?_)
  · skip
    have hp180 : mP s0 ≤ 180 := (nI_leI (by omega) (by decide)).mp (by rw [← hP9.1]; exact c12)
    refine G_iconst (v := 0) dX9_feed_17 rfl ?_
    refine G_istore dX9_feed_18 (Nat.le_of_ble_eq_true rfl) rfl ?_
    have loop : ∀ m i, i + m = 20 → ∀ z7 : Value, z7.category = 1 → G g 0 0 0 kX9_feed 20 [.ref 24, .int a, .int b, .int c, .int e, .int f, .int (nI i), z7] [] nq_ (hm (fd s0 a b c e f i) r) (m_S (.int (sp_feed s0 a b c e f).2) nq_ (sp_feed s0 a b c e f).1 r) := by
      intro m
      induction m with
      | zero =>
        intro i hi0 z7 hz7
        rw [Nat.add_zero] at hi0
        refine G_iload dX9_feed_20 rfl ?_
        refine G_bipush (v := 20) dX9_feed_22 rfl ?_
        refine G_icmp_ge (tgt := 114) dX9_feed_24 (by decide) (fun c24 => ?_) (fun c24 => ?_)
        · skip
          skip
          refine G_aload_n dX9_feed_114 rfl rfl ?_
          refine GM_get dX9_feed_115 fg_X9_117 ms_13 ?_
          refine G_iret dX9_feed_118 rfl ?_
          refine m_close ?_; rw [sp_feed, cif_f (Int32.not_lt.mpr c12), show i = 20 by omega, fd_13 s0 a b c e f hP9.1 20]
        · skip
          exact absurd (by rw [show (20 : Int32) = nI 20 from rfl]; exact nI_le (Nat.le_of_eq hi0.symm) (by omega)) c24
      | succ m ih =>
        intro i hi0 z7 hz7
        refine G_iload dX9_feed_20 rfl ?_
        refine G_bipush (v := 20) dX9_feed_22 rfl ?_
        refine G_icmp_ge (tgt := 114) dX9_feed_24 (by decide) (fun c24 => ?_) (fun c24 => ?_)
        · skip
          exact absurd c24 (by rw [show (20 : Int32) = nI 20 from rfl, nI_leI (by omega) (by omega)]; omega)
        · skip
          have h4 : ¬ (4 : Int32) ≤ nI i → i < 4 := fun q => Nat.lt_of_not_le (fun z => q (nI_le (a := 4) (b := i) z (by omega)))
          have g4 : (4 : Int32) ≤ nI i → ¬ i < 4 := fun q => Nat.not_lt.mpr ((nI_leI (a := 4) (b := i) (by decide) (by omega)).mp q)
          have h8 : ¬ (8 : Int32) ≤ nI i → i < 8 := fun q => Nat.lt_of_not_le (fun z => q (nI_le (a := 8) (b := i) z (by omega)))
          have g8 : (8 : Int32) ≤ nI i → ¬ i < 8 := fun q => Nat.not_lt.mpr ((nI_leI (a := 8) (b := i) (by decide) (by omega)).mp q)
          have h12 : ¬ (12 : Int32) ≤ nI i → i < 12 := fun q => Nat.lt_of_not_le (fun z => q (nI_le (a := 12) (b := i) z (by omega)))
          have g12 : (12 : Int32) ≤ nI i → ¬ i < 12 := fun q => Nat.not_lt.mpr ((nI_leI (a := 12) (b := i) (by decide) (by omega)).mp q)
          have h16 : ¬ (16 : Int32) ≤ nI i → i < 16 := fun q => Nat.lt_of_not_le (fun z => q (nI_le (a := 16) (b := i) z (by omega)))
          have g16 : (16 : Int32) ≤ nI i → ¬ i < 16 := fun q => Nat.not_lt.mpr ((nI_leI (a := 16) (b := i) (by decide) (by omega)).mp q)
          refine G_iload dX9_feed_27 rfl ?_
          refine G_iconst (v := 4) dX9_feed_29 rfl ?_
          refine G_icmp_ge (tgt := 37) dX9_feed_30 (by decide) (fun c30 => ?_) (fun c30 => ?_)
          · skip
            refine G_iload dX9_feed_37 rfl ?_
            refine G_bipush (v := 8) dX9_feed_39 rfl ?_
            refine G_icmp_ge (tgt := 48) dX9_feed_41 (by decide) (fun c41 => ?_) (fun c41 => ?_)
            · skip
              refine G_iload dX9_feed_48 rfl ?_
              refine G_bipush (v := 12) dX9_feed_50 rfl ?_
              refine G_icmp_ge (tgt := 59) dX9_feed_52 (by decide) (fun c52 => ?_) (fun c52 => ?_)
              · skip
                refine G_iload dX9_feed_59 rfl ?_
                refine G_bipush (v := 16) dX9_feed_61 rfl ?_
                refine G_icmp_ge (tgt := 71) dX9_feed_63 (by decide) (fun c63 => ?_) (fun c63 => ?_)
                · skip
                  refine G_iload dX9_feed_71 rfl ?_
                  refine G_top (w := .int (fd_w a b c e f i)) (by unfold fd_w; first | rw [if_pos (h4 c30)] | rw [if_neg (g4 c30), if_pos (h8 c41)] | rw [if_neg (g4 c30), if_neg (g8 c41), if_pos (h12 c52)] | rw [if_neg (g4 c30), if_neg (g8 c41), if_neg (g12 c52), if_pos (h16 c63)] | rw [if_neg (g4 c30), if_neg (g8 c41), if_neg (g12 c52), if_neg (g16 c63)]) ?_
                  refine G_istore dX9_feed_73 (Nat.le_of_ble_eq_true rfl) rfl ?_
                  refine G_aload_n dX9_feed_75 rfl rfl ?_
                  refine GM_ref dX9_feed_76 fg_X9_31 (fun _ => rfl) ?_
                  refine G_aload_n dX9_feed_79 rfl rfl ?_
                  refine GM_get dX9_feed_80 fg_X9_117 ms_13 ?_
                  refine G_iload dX9_feed_83 rfl ?_
                  refine G_bipush (v := 24) dX9_feed_85 rfl ?_
                  refine G_bipush (v := 8) dX9_feed_87 rfl ?_
                  refine G_iload dX9_feed_89 rfl ?_
                  refine G_iconst (v := 4) dX9_feed_91 rfl ?_
                  refine G_irem dX9_feed_92 (by decide) ?_
                  refine G_imul dX9_feed_93 ?_
                  refine G_isub dX9_feed_94 ?_
                  refine G_ishr dX9_feed_95 ?_
                  refine G_i2b dX9_feed_96 ?_
                  refine GM_stb dX9_feed_97 mt_12 ma_12 (by decide) ⟨fd_13 s0 a b c e f hP9.1 i, by omega⟩ ?_
                  refine G_aload_n dX9_feed_98 rfl rfl ?_
                  refine G_dup dX9_feed_99 rfl ?_
                  refine GM_get dX9_feed_100 fg_X9_117 ms_13 ?_
                  refine G_iconst (v := 1) dX9_feed_103 rfl ?_
                  refine G_iadd dX9_feed_104 ?_
                  refine GM_put dX9_feed_105 fp_X9_117 ms_13 ?_
                  refine G_hp (s' := fd s0 a b c e f (i + 1)) (by show m_set _ 13 0 (fd s0 a b c e f i 13 0 + 1) = _; rw [fd_13 s0 a b c e f hP9.1 i, nI_1]; rfl) ?_
                  refine G_iinc (b := nI (i + 1)) dX9_feed_108 rfl (nI_1 i) rfl ?_
                  refine G_goto (tgt := 20) dX9_feed_111 (by decide) ?_
                  exact ih (i + 1) (by omega) _ rfl
                · skip
                  refine G_iload dX9_feed_66 rfl ?_
                  refine G_goto (tgt := 73) dX9_feed_68 (by decide) ?_
                  refine G_top (w := .int (fd_w a b c e f i)) (by unfold fd_w; first | rw [if_pos (h4 c30)] | rw [if_neg (g4 c30), if_pos (h8 c41)] | rw [if_neg (g4 c30), if_neg (g8 c41), if_pos (h12 c52)] | rw [if_neg (g4 c30), if_neg (g8 c41), if_neg (g12 c52), if_pos (h16 c63)] | rw [if_neg (g4 c30), if_neg (g8 c41), if_neg (g12 c52), if_neg (g16 c63)]) ?_
                  refine G_istore dX9_feed_73 (Nat.le_of_ble_eq_true rfl) rfl ?_
                  refine G_aload_n dX9_feed_75 rfl rfl ?_
                  refine GM_ref dX9_feed_76 fg_X9_31 (fun _ => rfl) ?_
                  refine G_aload_n dX9_feed_79 rfl rfl ?_
                  refine GM_get dX9_feed_80 fg_X9_117 ms_13 ?_
                  refine G_iload dX9_feed_83 rfl ?_
                  refine G_bipush (v := 24) dX9_feed_85 rfl ?_
                  refine G_bipush (v := 8) dX9_feed_87 rfl ?_
                  refine G_iload dX9_feed_89 rfl ?_
                  refine G_iconst (v := 4) dX9_feed_91 rfl ?_
                  refine G_irem dX9_feed_92 (by decide) ?_
                  refine G_imul dX9_feed_93 ?_
                  refine G_isub dX9_feed_94 ?_
                  refine G_ishr dX9_feed_95 ?_
                  refine G_i2b dX9_feed_96 ?_
                  refine GM_stb dX9_feed_97 mt_12 ma_12 (by decide) ⟨fd_13 s0 a b c e f hP9.1 i, by omega⟩ ?_
                  refine G_aload_n dX9_feed_98 rfl rfl ?_
                  refine G_dup dX9_feed_99 rfl ?_
                  refine GM_get dX9_feed_100 fg_X9_117 ms_13 ?_
                  refine G_iconst (v := 1) dX9_feed_103 rfl ?_
                  refine G_iadd dX9_feed_104 ?_
                  refine GM_put dX9_feed_105 fp_X9_117 ms_13 ?_
                  refine G_hp (s' := fd s0 a b c e f (i + 1)) (by show m_set _ 13 0 (fd s0 a b c e f i 13 0 + 1) = _; rw [fd_13 s0 a b c e f hP9.1 i, nI_1]; rfl) ?_
                  refine G_iinc (b := nI (i + 1)) dX9_feed_108 rfl (nI_1 i) rfl ?_
                  refine G_goto (tgt := 20) dX9_feed_111 (by decide) ?_
                  exact ih (i + 1) (by omega) _ rfl
              · skip
                refine G_iload_n dX9_feed_55 rfl rfl ?_
                refine G_goto (tgt := 73) dX9_feed_56 (by decide) ?_
                refine G_top (w := .int (fd_w a b c e f i)) (by unfold fd_w; first | rw [if_pos (h4 c30)] | rw [if_neg (g4 c30), if_pos (h8 c41)] | rw [if_neg (g4 c30), if_neg (g8 c41), if_pos (h12 c52)] | rw [if_neg (g4 c30), if_neg (g8 c41), if_neg (g12 c52), if_pos (h16 c63)] | rw [if_neg (g4 c30), if_neg (g8 c41), if_neg (g12 c52), if_neg (g16 c63)]) ?_
                refine G_istore dX9_feed_73 (Nat.le_of_ble_eq_true rfl) rfl ?_
                refine G_aload_n dX9_feed_75 rfl rfl ?_
                refine GM_ref dX9_feed_76 fg_X9_31 (fun _ => rfl) ?_
                refine G_aload_n dX9_feed_79 rfl rfl ?_
                refine GM_get dX9_feed_80 fg_X9_117 ms_13 ?_
                refine G_iload dX9_feed_83 rfl ?_
                refine G_bipush (v := 24) dX9_feed_85 rfl ?_
                refine G_bipush (v := 8) dX9_feed_87 rfl ?_
                refine G_iload dX9_feed_89 rfl ?_
                refine G_iconst (v := 4) dX9_feed_91 rfl ?_
                refine G_irem dX9_feed_92 (by decide) ?_
                refine G_imul dX9_feed_93 ?_
                refine G_isub dX9_feed_94 ?_
                refine G_ishr dX9_feed_95 ?_
                refine G_i2b dX9_feed_96 ?_
                refine GM_stb dX9_feed_97 mt_12 ma_12 (by decide) ⟨fd_13 s0 a b c e f hP9.1 i, by omega⟩ ?_
                refine G_aload_n dX9_feed_98 rfl rfl ?_
                refine G_dup dX9_feed_99 rfl ?_
                refine GM_get dX9_feed_100 fg_X9_117 ms_13 ?_
                refine G_iconst (v := 1) dX9_feed_103 rfl ?_
                refine G_iadd dX9_feed_104 ?_
                refine GM_put dX9_feed_105 fp_X9_117 ms_13 ?_
                refine G_hp (s' := fd s0 a b c e f (i + 1)) (by show m_set _ 13 0 (fd s0 a b c e f i 13 0 + 1) = _; rw [fd_13 s0 a b c e f hP9.1 i, nI_1]; rfl) ?_
                refine G_iinc (b := nI (i + 1)) dX9_feed_108 rfl (nI_1 i) rfl ?_
                refine G_goto (tgt := 20) dX9_feed_111 (by decide) ?_
                exact ih (i + 1) (by omega) _ rfl
            · skip
              refine G_iload_n dX9_feed_44 rfl rfl ?_
              refine G_goto (tgt := 73) dX9_feed_45 (by decide) ?_
              refine G_top (w := .int (fd_w a b c e f i)) (by unfold fd_w; first | rw [if_pos (h4 c30)] | rw [if_neg (g4 c30), if_pos (h8 c41)] | rw [if_neg (g4 c30), if_neg (g8 c41), if_pos (h12 c52)] | rw [if_neg (g4 c30), if_neg (g8 c41), if_neg (g12 c52), if_pos (h16 c63)] | rw [if_neg (g4 c30), if_neg (g8 c41), if_neg (g12 c52), if_neg (g16 c63)]) ?_
              refine G_istore dX9_feed_73 (Nat.le_of_ble_eq_true rfl) rfl ?_
              refine G_aload_n dX9_feed_75 rfl rfl ?_
              refine GM_ref dX9_feed_76 fg_X9_31 (fun _ => rfl) ?_
              refine G_aload_n dX9_feed_79 rfl rfl ?_
              refine GM_get dX9_feed_80 fg_X9_117 ms_13 ?_
              refine G_iload dX9_feed_83 rfl ?_
              refine G_bipush (v := 24) dX9_feed_85 rfl ?_
              refine G_bipush (v := 8) dX9_feed_87 rfl ?_
              refine G_iload dX9_feed_89 rfl ?_
              refine G_iconst (v := 4) dX9_feed_91 rfl ?_
              refine G_irem dX9_feed_92 (by decide) ?_
              refine G_imul dX9_feed_93 ?_
              refine G_isub dX9_feed_94 ?_
              refine G_ishr dX9_feed_95 ?_
              refine G_i2b dX9_feed_96 ?_
              refine GM_stb dX9_feed_97 mt_12 ma_12 (by decide) ⟨fd_13 s0 a b c e f hP9.1 i, by omega⟩ ?_
              refine G_aload_n dX9_feed_98 rfl rfl ?_
              refine G_dup dX9_feed_99 rfl ?_
              refine GM_get dX9_feed_100 fg_X9_117 ms_13 ?_
              refine G_iconst (v := 1) dX9_feed_103 rfl ?_
              refine G_iadd dX9_feed_104 ?_
              refine GM_put dX9_feed_105 fp_X9_117 ms_13 ?_
              refine G_hp (s' := fd s0 a b c e f (i + 1)) (by show m_set _ 13 0 (fd s0 a b c e f i 13 0 + 1) = _; rw [fd_13 s0 a b c e f hP9.1 i, nI_1]; rfl) ?_
              refine G_iinc (b := nI (i + 1)) dX9_feed_108 rfl (nI_1 i) rfl ?_
              refine G_goto (tgt := 20) dX9_feed_111 (by decide) ?_
              exact ih (i + 1) (by omega) _ rfl
          · skip
            refine G_iload_n dX9_feed_33 rfl rfl ?_
            refine G_goto (tgt := 73) dX9_feed_34 (by decide) ?_
            refine G_top (w := .int (fd_w a b c e f i)) (by unfold fd_w; first | rw [if_pos (h4 c30)] | rw [if_neg (g4 c30), if_pos (h8 c41)] | rw [if_neg (g4 c30), if_neg (g8 c41), if_pos (h12 c52)] | rw [if_neg (g4 c30), if_neg (g8 c41), if_neg (g12 c52), if_pos (h16 c63)] | rw [if_neg (g4 c30), if_neg (g8 c41), if_neg (g12 c52), if_neg (g16 c63)]) ?_
            refine G_istore dX9_feed_73 (Nat.le_of_ble_eq_true rfl) rfl ?_
            refine G_aload_n dX9_feed_75 rfl rfl ?_
            refine GM_ref dX9_feed_76 fg_X9_31 (fun _ => rfl) ?_
            refine G_aload_n dX9_feed_79 rfl rfl ?_
            refine GM_get dX9_feed_80 fg_X9_117 ms_13 ?_
            refine G_iload dX9_feed_83 rfl ?_
            refine G_bipush (v := 24) dX9_feed_85 rfl ?_
            refine G_bipush (v := 8) dX9_feed_87 rfl ?_
            refine G_iload dX9_feed_89 rfl ?_
            refine G_iconst (v := 4) dX9_feed_91 rfl ?_
            refine G_irem dX9_feed_92 (by decide) ?_
            refine G_imul dX9_feed_93 ?_
            refine G_isub dX9_feed_94 ?_
            refine G_ishr dX9_feed_95 ?_
            refine G_i2b dX9_feed_96 ?_
            refine GM_stb dX9_feed_97 mt_12 ma_12 (by decide) ⟨fd_13 s0 a b c e f hP9.1 i, by omega⟩ ?_
            refine G_aload_n dX9_feed_98 rfl rfl ?_
            refine G_dup dX9_feed_99 rfl ?_
            refine GM_get dX9_feed_100 fg_X9_117 ms_13 ?_
            refine G_iconst (v := 1) dX9_feed_103 rfl ?_
            refine G_iadd dX9_feed_104 ?_
            refine GM_put dX9_feed_105 fp_X9_117 ms_13 ?_
            refine G_hp (s' := fd s0 a b c e f (i + 1)) (by show m_set _ 13 0 (fd s0 a b c e f i 13 0 + 1) = _; rw [fd_13 s0 a b c e f hP9.1 i, nI_1]; rfl) ?_
            refine G_iinc (b := nI (i + 1)) dX9_feed_108 rfl (nI_1 i) rfl ?_
            refine G_goto (tgt := 20) dX9_feed_111 (by decide) ?_
            exact ih (i + 1) (by omega) _ rfl
    exact loop 20 0 (by omega) _ rfl
  · skip
    refine G_iconst (v := -1) dX9_feed_15 rfl ?_
    refine G_iret dX9_feed_16 rfl ?_
    exact m_close (cif_t (Int32.not_le.mp c12))
theorem m_set_id (s : mS) (j i : Nat) : m_set s j i (s j i) = s := by
  funext a b
  simp only [m_set]
  by_cases h : a = j ∧ b = i
  · rw [if_pos h, h.1, h.2]
  · rw [if_neg h]
noncomputable def s_by (s : mS) (k : Nat) : Int32 := cif (k < mP s) (s 12 k &&& 255) 0
theorem by_ge {s : mS} {k : Nat} (h : mP s ≤ k) : s_by s k = 0 := cif_f (by omega)
abbrev is_bl (v : Int32) : Prop := v = 32 ∨ v = 10
noncomputable def sk (s : mS) : Nat → Nat → Nat
  | 0, p => p
  | m + 1, p => cif (is_bl (s_by s p)) (sk s m (p + 1)) p
noncomputable def lr (s : mS) : Nat → Nat → Nat
  | 0, o => o
  | m + 1, o => cif (wi (s_by s o) 97 122) (lr s m (o + 1)) o
noncomputable def dr (s : mS) (f : Nat) : Nat → Nat → Int32 → Nat × Int32
  | 0, o, v => (o, v)
  | m + 1, o, v => cif (wi (s_by s o) 48 57) (dr s f m (o + 1) (cif (o - f < 3) (10 * v + s_by s o - 48) v)) (o, v)
def st4 (s : mS) (f o : Nat) (v w : Int32) : mS := m_set (m_set (m_set (m_set s 19 0 (nI f)) 20 0 (nI o)) 21 0 v) 22 0 w
noncomputable def s_tkq (s : mS) (q : Nat) : mS := cif (mP s ≤ q) (st4 s q q (s 21 0) 0) (cif (wi (s_by s q) 97 122) (st4 s q (lr s (mP s - q) q) (s 21 0) 1) (cif (wi (s_by s q) 48 57) (st4 s q (dr s q (mP s - q) q 0).1 (dr s q (mP s - q) q 0).2 (cif (3 < (dr s q (mP s - q) q 0).1 - q) 4 2)) (st4 s q (q + 1) (s 21 0) (cif (s_by s q = 59) 3 4))))
noncomputable def s_tok (s : mS) (p : Nat) : mS := s_tkq s (sk s (mP s - p) p)

theorem inv_0 {s : mS} {i : Nat} {v : Int32} (h : m_inv s) : m_inv (m_set s 0 i v) := h
theorem inv_16 {s : mS} {i : Nat} {v : Int32} (h : m_inv s) : m_inv (m_set s 16 i v) := h
theorem inv_17 {s : mS} {i : Nat} {v : Int32} (h : m_inv s) : m_inv (m_set s 17 i v) := h
theorem inv_18 {s : mS} {i : Nat} {v : Int32} (h : m_inv s) : m_inv (m_set s 18 i v) := h
theorem inv_19 {s : mS} {i : Nat} {v : Int32} (h : m_inv s) : m_inv (m_set s 19 i v) := h
theorem inv_20 {s : mS} {i : Nat} {v : Int32} (h : m_inv s) : m_inv (m_set s 20 i v) := h
theorem inv_21 {s : mS} {i : Nat} {v : Int32} (h : m_inv s) : m_inv (m_set s 21 i v) := h
theorem inv_22 {s : mS} {i : Nat} {v : Int32} (h : m_inv s) : m_inv (m_set s 22 i v) := h
set_option maxHeartbeats 4000000 in
set_option maxRecDepth 100000 in
theorem c9_byteAt {g : gT} {nq_ : Nat} {s : mS} {r : mH} (k : Nat) (hI : m_inv s) (hk9 : k < 2 ^ 30) : M g 0 0 0 kX9_byteAt [.ref 24, .int (nI k)] nq_ (hm s r) (m_Q (.int (s_by s k)) nq_ (hm s r)) := by
  refine M_of_G (by decide +kernel) (Nat.le_of_ble_eq_true rfl) ?_
  obtain ⟨hK, hT, hB, hP9, hA, hkf, haf, hbf⟩ := id hI
  refine G_iload_n dX9_byteAt_0 rfl rfl ?_
  refine G_aload_n dX9_byteAt_1 rfl rfl ?_
  refine GM_get dX9_byteAt_2 fg_X9_117 ms_13 ?_
  refine G_icmp_ge (tgt := 21) dX9_byteAt_5 (by decide) (fun c5 => ?_) (fun c5 => ?_)
  · skip
    have hn5 : ¬ k < mP s := fun q => absurd c5 (by rw [hP9.1, nI_leI (by omega) (by omega)]; omega)
    refine G_iconst (v := 0) dX9_byteAt_21 rfl ?_
    refine G_iret dX9_byteAt_22 rfl ?_
    first | exact q_e (cif_t hy5) | exact q_e (cif_f hn5)
  · skip
    have hy5 : k < mP s := Nat.lt_of_not_le (fun q => c5 (by rw [hP9.1]; exact nI_le q (by omega)))
    refine G_aload_n dX9_byteAt_8 rfl rfl ?_
    refine GM_ref dX9_byteAt_9 fg_X9_31 (fun _ => rfl) ?_
    refine G_iload_n dX9_byteAt_12 rfl rfl ?_
    refine GM_ldb dX9_byteAt_13 mt_12 (by decide) ⟨rfl, by omega⟩ ?_
    refine G_sipush (v := 255) dX9_byteAt_14 rfl ?_
    refine G_iand dX9_byteAt_17 ?_
    refine G_goto (tgt := 22) dX9_byteAt_18 (by decide) ?_
    refine G_iret dX9_byteAt_22 rfl ?_
    first | exact q_e (cif_t hy5) | exact q_e (cif_f hn5)
set_option maxHeartbeats 4000000 in
set_option maxRecDepth 100000 in
theorem c9_wrong {g : gT} {nq_ : Nat} {s : mS} {r : mH} (v : Int32) : M g 0 0 0 kX9_wrong [.ref 24, .int v] nq_ (hm s r) (m_S (.int 0) nq_ (m_set (m_set s 17 0 v) 18 0 (s 19 0)) r) := by
  refine M_of_G (by decide +kernel) (Nat.le_of_ble_eq_true rfl) ?_
  refine G_aload_n dX9_wrong_0 rfl rfl ?_
  refine G_iload_n dX9_wrong_1 rfl rfl ?_
  refine GM_put dX9_wrong_2 fp_X9_136 ms_17 ?_
  refine G_aload_n dX9_wrong_5 rfl rfl ?_
  refine G_aload_n dX9_wrong_6 rfl rfl ?_
  refine GM_get dX9_wrong_7 fg_X9_123 ms_19 ?_
  refine GM_put dX9_wrong_10 fp_X9_41 ms_18 ?_
  refine G_iconst (v := 0) dX9_wrong_13 rfl ?_
  refine G_zret dX9_wrong_14 rfl rfl ?_
  exact ⟨rfl, rfl, rfl⟩
def m_V (n : Nat) (s : mS) (r : mH) : Option Value → Nat → mH → Prop := fun v' n' h' => v' = none ∧ n' = n ∧ h' = hm s r
theorem v_cl {nq_ : Nat} {Y X : mS} {r : mH} (e : Y = X) : m_V nq_ Y r none nq_ (hm X r) := by rw [e]; exact ⟨rfl, rfl, rfl⟩
theorem st4_id (s : mS) (f o : Nat) (w : Int32) : st4 s f o (s 21 0) w = m_set (m_set (m_set s 19 0 (nI f)) 20 0 (nI o)) 22 0 w := by
  unfold st4
  rw [show s 21 0 = (m_set (m_set s 19 0 (nI f)) 20 0 (nI o)) 21 0 from rfl, m_set_id]
set_option maxHeartbeats 4000000 in
set_option maxRecDepth 100000 in
theorem c9_token {g : gT} {nq_ : Nat} {s : mS} {r : mH} (p : Nat) (hI : m_inv s) (hp : s 20 0 = nI p) (hp2 : p ≤ 200) : M g 2 0 0 kX9_token [.ref 24] nq_ (hm s r) (m_V nq_ (s_tok s p) r) := by
  refine M_of_G (by decide +kernel) (Nat.le_of_ble_eq_true rfl) ?_
  obtain ⟨hK, hT, hB, hP9, hA, hkf, haf, hbf⟩ := id hI
  have tl : ∀ q, q ≤ 200 → s_tok s p = s_tkq s q → G g 2 0 0 kX9_token 47 [.ref 24, .retAddr 0] [] nq_ (hm (m_set s 19 0 (nI q)) r) (m_V nq_ (s_tok s p) r) := by
    intro q hq hs
    have lt_ : ∀ m o, mP s ≤ o + m → o ≤ 200 → s_tok s p = st4 s q (lr s m o) (s 21 0) 1 → G g 2 0 0 kX9_token 94 [.ref 24, .int (s_by s q)] [] nq_ (hm (m_set (m_set s 19 0 (nI q)) 20 0 (nI o)) r) (m_V nq_ (s_tok s p) r) := by
      intro m
      induction m with
      | zero =>
        intro o ho1 ho2 hs
        refine G_aload_n dX9_token_94 rfl rfl ?_
        refine G_aload_n dX9_token_95 rfl rfl ?_
        refine GM_get dX9_token_96 fg_X9_120 ms_20 ?_
        refine G_top (w := .int (nI o)) rfl ?_
        refine GM_call (c9_byteAt (o) (inv_20 (inv_19 hI)) (by omega)) dX9_token_99 (mc_X9_126 rfl) tw_1053 tw_32 rfl rfl rfl (Nat.le_of_ble_eq_true rfl) (Nat.le_of_ble_eq_true rfl) ?_
        rintro _ n9_ _ ⟨rfl, e9_, rfl⟩
        obtain rfl := e9_.symm
        refine G_top (w := .int (s_by s o)) rfl ?_
        refine G_bipush (v := 97) dX9_token_102 rfl ?_
        refine G_bipush (v := 122) dX9_token_104 rfl ?_
        refine GM_calls (c9_within _ _ _) dX9_token_106 (mc_X9_100 rfl) tw_1021 rfl rfl (Nat.le_of_ble_eq_true rfl) (Nat.le_of_ble_eq_true rfl) ?_
        rintro _ n9_ _ ⟨rfl, e9_, rfl⟩
        obtain rfl := e9_.symm
        refine G_if_eq (tgt := 125) dX9_token_109 (by decide) (fun c109 => ?_) (fun c109 => ?_)
        · skip
          refine G_aload_n dX9_token_125 rfl rfl ?_
          refine G_iconst (v := 1) dX9_token_126 rfl ?_
          refine GM_put dX9_token_127 fp_X9_130 ms_22 ?_
          refine G_goto (tgt := 266) dX9_token_130 (by decide) ?_
          refine G_vret dX9_token_266 rfl ?_
          exact v_cl (by rw [hs]; exact st4_id s q o 1)
        · skip
          exact absurd (b1_1 c109) (by rw [by_ge (by omega)]; decide)
      | succ m ih =>
        intro o ho1 ho2 hs
        refine G_aload_n dX9_token_94 rfl rfl ?_
        refine G_aload_n dX9_token_95 rfl rfl ?_
        refine GM_get dX9_token_96 fg_X9_120 ms_20 ?_
        refine G_top (w := .int (nI o)) rfl ?_
        refine GM_call (c9_byteAt (o) (inv_20 (inv_19 hI)) (by omega)) dX9_token_99 (mc_X9_126 rfl) tw_1053 tw_32 rfl rfl rfl (Nat.le_of_ble_eq_true rfl) (Nat.le_of_ble_eq_true rfl) ?_
        rintro _ n9_ _ ⟨rfl, e9_, rfl⟩
        obtain rfl := e9_.symm
        refine G_top (w := .int (s_by s o)) rfl ?_
        refine G_bipush (v := 97) dX9_token_102 rfl ?_
        refine G_bipush (v := 122) dX9_token_104 rfl ?_
        refine GM_calls (c9_within _ _ _) dX9_token_106 (mc_X9_100 rfl) tw_1021 rfl rfl (Nat.le_of_ble_eq_true rfl) (Nat.le_of_ble_eq_true rfl) ?_
        rintro _ n9_ _ ⟨rfl, e9_, rfl⟩
        obtain rfl := e9_.symm
        refine G_if_eq (tgt := 125) dX9_token_109 (by decide) (fun c109 => ?_) (fun c109 => ?_)
        · skip
          refine G_aload_n dX9_token_125 rfl rfl ?_
          refine G_iconst (v := 1) dX9_token_126 rfl ?_
          refine GM_put dX9_token_127 fp_X9_130 ms_22 ?_
          refine G_goto (tgt := 266) dX9_token_130 (by decide) ?_
          refine G_vret dX9_token_266 rfl ?_
          exact v_cl (by rw [hs]; show st4 s q (cif _ (lr s m (o + 1)) o) _ _ = _; rw [cif_f (b1_0.mp c109)]; exact st4_id s q o 1)
        · skip
          refine G_aload_n dX9_token_112 rfl rfl ?_
          refine G_dup dX9_token_113 rfl ?_
          refine GM_get dX9_token_114 fg_X9_120 ms_20 ?_
          refine G_top (w := .int (nI o)) rfl ?_
          refine G_iconst (v := 1) dX9_token_117 rfl ?_
          refine G_iadd dX9_token_118 ?_
          refine GM_put dX9_token_119 fp_X9_120 ms_20 ?_
          refine G_hp (s' := m_set (m_set s 19 0 (nI q)) 20 0 (nI (o + 1))) (by rw [m_set2, nI_1]) ?_
          refine G_goto (tgt := 94) dX9_token_122 (by decide) ?_
          exact ih (o + 1) (by omega) (by have : o < mP s := Nat.lt_of_not_le (fun z => absurd (b1_1 c109) (by rw [by_ge z]; decide)); omega) (by rw [hs]; show st4 s q (cif _ (lr s m (o + 1)) o) _ _ = _; rw [cif_t (b1_1 c109)])
    have dt_ : ∀ m o v, mP s ≤ o + m → o ≤ 200 → q ≤ o → s_tok s p = st4 s q (dr s q m o v).1 (dr s q m o v).2 (cif (3 < (dr s q m o v).1 - q) 4 2) → G g 2 0 0 kX9_token 149 [.ref 24, .int (s_by s q)] [] nq_ (hm (m_set (m_set (m_set s 19 0 (nI q)) 20 0 (nI o)) 21 0 v) r) (m_V nq_ (s_tok s p) r) := by
      intro m
      induction m with
      | zero =>
        intro o v ho1 ho2 hqo hs
        refine G_aload_n dX9_token_149 rfl rfl ?_
        refine G_aload_n dX9_token_150 rfl rfl ?_
        refine GM_get dX9_token_151 fg_X9_120 ms_20 ?_
        refine G_top (w := .int (nI o)) rfl ?_
        refine GM_call (c9_byteAt (o) (inv_21 (inv_20 (inv_19 hI))) (by omega)) dX9_token_154 (mc_X9_126 rfl) tw_1053 tw_32 rfl rfl rfl (Nat.le_of_ble_eq_true rfl) (Nat.le_of_ble_eq_true rfl) ?_
        rintro _ n9_ _ ⟨rfl, e9_, rfl⟩
        obtain rfl := e9_.symm
        refine G_top (w := .int (s_by s o)) rfl ?_
        refine G_bipush (v := 48) dX9_token_157 rfl ?_
        refine G_bipush (v := 57) dX9_token_159 rfl ?_
        refine GM_calls (c9_within _ _ _) dX9_token_161 (mc_X9_100 rfl) tw_1021 rfl rfl (Nat.le_of_ble_eq_true rfl) (Nat.le_of_ble_eq_true rfl) ?_
        rintro _ n9_ _ ⟨rfl, e9_, rfl⟩
        obtain rfl := e9_.symm
        refine G_if_eq (tgt := 216) dX9_token_164 (by decide) (fun c164 => ?_) (fun c164 => ?_)
        · skip
          refine G_aload_n dX9_token_216 rfl rfl ?_
          refine G_aload_n dX9_token_217 rfl rfl ?_
          refine GM_get dX9_token_218 fg_X9_120 ms_20 ?_
          refine G_top (w := .int (nI o)) rfl ?_
          refine G_aload_n dX9_token_221 rfl rfl ?_
          refine GM_get dX9_token_222 fg_X9_123 ms_19 ?_
          refine G_top (w := .int (nI q)) rfl ?_
          refine G_isub dX9_token_225 ?_
          refine G_top (w := .int (nI (o - q))) (congrArg Value.int (pk_sub hqo)) ?_
          refine G_iconst (v := 3) dX9_token_226 rfl ?_
          refine G_icmp_le (tgt := 234) dX9_token_227 (by decide) (fun c227 => ?_) (fun c227 => ?_)
          · skip
            have h227 : ¬ 3 < o - q := Nat.not_lt.mpr ((nI_leI (b := 3) (by omega) (by decide)).mp c227)
            refine G_iconst (v := 2) dX9_token_234 rfl ?_
            refine GM_put dX9_token_235 fp_X9_130 ms_22 ?_
            refine G_goto (tgt := 266) dX9_token_238 (by decide) ?_
            refine G_vret dX9_token_266 rfl ?_
            first | exact v_cl (hs.trans (congrArg (st4 s q o v) (cif_t h227))) | exact v_cl (hs.trans (congrArg (st4 s q o v) (cif_f h227)))
          · skip
            have h227 : 3 < o - q := Nat.lt_of_not_le (fun z => c227 (nI_le (b := 3) z (by decide)))
            refine G_iconst (v := 4) dX9_token_230 rfl ?_
            refine G_goto (tgt := 235) dX9_token_231 (by decide) ?_
            refine GM_put dX9_token_235 fp_X9_130 ms_22 ?_
            refine G_goto (tgt := 266) dX9_token_238 (by decide) ?_
            refine G_vret dX9_token_266 rfl ?_
            first | exact v_cl (hs.trans (congrArg (st4 s q o v) (cif_t h227))) | exact v_cl (hs.trans (congrArg (st4 s q o v) (cif_f h227)))
        · skip
          exact absurd (b1_1 c164) (by rw [by_ge (by omega)]; decide)
      | succ m ih =>
        intro o v ho1 ho2 hqo hs
        refine G_aload_n dX9_token_149 rfl rfl ?_
        refine G_aload_n dX9_token_150 rfl rfl ?_
        refine GM_get dX9_token_151 fg_X9_120 ms_20 ?_
        refine G_top (w := .int (nI o)) rfl ?_
        refine GM_call (c9_byteAt (o) (inv_21 (inv_20 (inv_19 hI))) (by omega)) dX9_token_154 (mc_X9_126 rfl) tw_1053 tw_32 rfl rfl rfl (Nat.le_of_ble_eq_true rfl) (Nat.le_of_ble_eq_true rfl) ?_
        rintro _ n9_ _ ⟨rfl, e9_, rfl⟩
        obtain rfl := e9_.symm
        refine G_top (w := .int (s_by s o)) rfl ?_
        refine G_bipush (v := 48) dX9_token_157 rfl ?_
        refine G_bipush (v := 57) dX9_token_159 rfl ?_
        refine GM_calls (c9_within _ _ _) dX9_token_161 (mc_X9_100 rfl) tw_1021 rfl rfl (Nat.le_of_ble_eq_true rfl) (Nat.le_of_ble_eq_true rfl) ?_
        rintro _ n9_ _ ⟨rfl, e9_, rfl⟩
        obtain rfl := e9_.symm
        refine G_if_eq (tgt := 216) dX9_token_164 (by decide) (fun c164 => ?_) (fun c164 => ?_)
        · skip
          refine G_aload_n dX9_token_216 rfl rfl ?_
          refine G_aload_n dX9_token_217 rfl rfl ?_
          refine GM_get dX9_token_218 fg_X9_120 ms_20 ?_
          refine G_top (w := .int (nI o)) rfl ?_
          refine G_aload_n dX9_token_221 rfl rfl ?_
          refine GM_get dX9_token_222 fg_X9_123 ms_19 ?_
          refine G_top (w := .int (nI q)) rfl ?_
          refine G_isub dX9_token_225 ?_
          refine G_top (w := .int (nI (o - q))) (congrArg Value.int (pk_sub hqo)) ?_
          refine G_iconst (v := 3) dX9_token_226 rfl ?_
          refine G_icmp_le (tgt := 234) dX9_token_227 (by decide) (fun c227 => ?_) (fun c227 => ?_)
          · skip
            have h227 : ¬ 3 < o - q := Nat.not_lt.mpr ((nI_leI (b := 3) (by omega) (by decide)).mp c227)
            refine G_iconst (v := 2) dX9_token_234 rfl ?_
            refine GM_put dX9_token_235 fp_X9_130 ms_22 ?_
            refine G_goto (tgt := 266) dX9_token_238 (by decide) ?_
            refine G_vret dX9_token_266 rfl ?_
            have hd9 : dr s q (m + 1) o v = (o, v) := cif_f (b1_0.mp c164)
            rw [hd9] at hs
            first | exact v_cl (hs.trans (congrArg (st4 s q o v) (cif_t h227))) | exact v_cl (hs.trans (congrArg (st4 s q o v) (cif_f h227)))
          · skip
            have h227 : 3 < o - q := Nat.lt_of_not_le (fun z => c227 (nI_le (b := 3) z (by decide)))
            refine G_iconst (v := 4) dX9_token_230 rfl ?_
            refine G_goto (tgt := 235) dX9_token_231 (by decide) ?_
            refine GM_put dX9_token_235 fp_X9_130 ms_22 ?_
            refine G_goto (tgt := 266) dX9_token_238 (by decide) ?_
            refine G_vret dX9_token_266 rfl ?_
            have hd9 : dr s q (m + 1) o v = (o, v) := cif_f (b1_0.mp c164)
            rw [hd9] at hs
            first | exact v_cl (hs.trans (congrArg (st4 s q o v) (cif_t h227))) | exact v_cl (hs.trans (congrArg (st4 s q o v) (cif_f h227)))
        · skip
          refine G_aload_n dX9_token_167 rfl rfl ?_
          refine GM_get dX9_token_168 fg_X9_120 ms_20 ?_
          refine G_top (w := .int (nI o)) rfl ?_
          refine G_aload_n dX9_token_171 rfl rfl ?_
          refine GM_get dX9_token_172 fg_X9_123 ms_19 ?_
          refine G_top (w := .int (nI q)) rfl ?_
          refine G_isub dX9_token_175 ?_
          refine G_top (w := .int (nI (o - q))) (congrArg Value.int (pk_sub hqo)) ?_
          refine G_iconst (v := 3) dX9_token_176 rfl ?_
          refine G_icmp_ge (tgt := 203) dX9_token_177 (by decide) (fun c177 => ?_) (fun c177 => ?_)
          · skip
            have hge3 : ¬ o - q < 3 := Nat.not_lt.mpr ((nI_leI (a := 3) (by decide) (by omega)).mp c177)
            refine G_hp (s' := m_set (m_set (m_set s 19 0 (nI q)) 20 0 (nI o)) 21 0 (cif (o - q < 3) (10 * v + s_by s o - 48) v)) (by rw [cif_f hge3]) ?_
            refine G_aload_n dX9_token_203 rfl rfl ?_
            refine G_dup dX9_token_204 rfl ?_
            refine GM_get dX9_token_205 fg_X9_120 ms_20 ?_
            refine G_top (w := .int (nI o)) rfl ?_
            refine G_iconst (v := 1) dX9_token_208 rfl ?_
            refine G_iadd dX9_token_209 ?_
            refine GM_put dX9_token_210 fp_X9_120 ms_20 ?_
            refine G_hp (s' := m_set (m_set (m_set s 19 0 (nI q)) 20 0 (nI (o + 1))) 21 0 (cif (o - q < 3) (10 * v + s_by s o - 48) v)) (by rw [m_setc _ _ _ _ _ (by decide), m_set2, nI_1]) ?_
            refine G_goto (tgt := 149) dX9_token_213 (by decide) ?_
            exact ih (o + 1) (cif (o - q < 3) (10 * v + s_by s o - 48) v) (by omega) (by have : o < mP s := Nat.lt_of_not_le (fun z => absurd (b1_1 c164) (by rw [by_ge z]; decide)); omega) (by omega) (by rw [hs]; show st4 s q (cif _ (dr s q m (o + 1) (cif (o - q < 3) (10 * v + s_by s o - 48) v)) (o, v)).1 (cif _ (dr s q m (o + 1) (cif (o - q < 3) (10 * v + s_by s o - 48) v)) (o, v)).2 (cif (3 < (cif _ (dr s q m (o + 1) (cif (o - q < 3) (10 * v + s_by s o - 48) v)) (o, v)).1 - q) 4 2) = _; rw [cif_t (b1_1 c164)])
          · skip
            have hlt3 : o - q < 3 := Nat.lt_of_not_le (fun z => c177 (nI_le (a := 3) z (by omega)))
            refine G_aload_n dX9_token_180 rfl rfl ?_
            refine G_bipush (v := 10) dX9_token_181 rfl ?_
            refine G_aload_n dX9_token_183 rfl rfl ?_
            refine GM_get dX9_token_184 fg_X9_133 ms_21 ?_
            refine G_top (w := .int (v)) rfl ?_
            refine G_imul dX9_token_187 ?_
            refine G_aload_n dX9_token_188 rfl rfl ?_
            refine G_aload_n dX9_token_189 rfl rfl ?_
            refine GM_get dX9_token_190 fg_X9_120 ms_20 ?_
            refine G_top (w := .int (nI o)) rfl ?_
            refine GM_call (c9_byteAt (o) (inv_21 (inv_20 (inv_19 hI))) (by omega)) dX9_token_193 (mc_X9_126 rfl) tw_1053 tw_32 rfl rfl rfl (Nat.le_of_ble_eq_true rfl) (Nat.le_of_ble_eq_true rfl) ?_
            rintro _ n9_ _ ⟨rfl, e9_, rfl⟩
            obtain rfl := e9_.symm
            refine G_top (w := .int (s_by s o)) rfl ?_
            refine G_iadd dX9_token_196 ?_
            refine G_bipush (v := 48) dX9_token_197 rfl ?_
            refine G_isub dX9_token_199 ?_
            refine GM_put dX9_token_200 fp_X9_133 ms_21 ?_
            refine G_hp (s' := m_set (m_set (m_set s 19 0 (nI q)) 20 0 (nI o)) 21 0 (cif (o - q < 3) (10 * v + s_by s o - 48) v)) (by rw [m_set2, cif_t hlt3]) ?_
            refine G_aload_n dX9_token_203 rfl rfl ?_
            refine G_dup dX9_token_204 rfl ?_
            refine GM_get dX9_token_205 fg_X9_120 ms_20 ?_
            refine G_top (w := .int (nI o)) rfl ?_
            refine G_iconst (v := 1) dX9_token_208 rfl ?_
            refine G_iadd dX9_token_209 ?_
            refine GM_put dX9_token_210 fp_X9_120 ms_20 ?_
            refine G_hp (s' := m_set (m_set (m_set s 19 0 (nI q)) 20 0 (nI (o + 1))) 21 0 (cif (o - q < 3) (10 * v + s_by s o - 48) v)) (by rw [m_setc _ _ _ _ _ (by decide), m_set2, nI_1]) ?_
            refine G_goto (tgt := 149) dX9_token_213 (by decide) ?_
            exact ih (o + 1) (cif (o - q < 3) (10 * v + s_by s o - 48) v) (by omega) (by have : o < mP s := Nat.lt_of_not_le (fun z => absurd (b1_1 c164) (by rw [by_ge z]; decide)); omega) (by omega) (by rw [hs]; show st4 s q (cif _ (dr s q m (o + 1) (cif (o - q < 3) (10 * v + s_by s o - 48) v)) (o, v)).1 (cif _ (dr s q m (o + 1) (cif (o - q < 3) (10 * v + s_by s o - 48) v)) (o, v)).2 (cif (3 < (cif _ (dr s q m (o + 1) (cif (o - q < 3) (10 * v + s_by s o - 48) v)) (o, v)).1 - q) 4 2) = _; rw [cif_t (b1_1 c164)])
    refine G_aload_n dX9_token_47 rfl rfl ?_
    refine G_aload_n dX9_token_48 rfl rfl ?_
    refine GM_get dX9_token_49 fg_X9_123 ms_19 ?_
    refine G_top (w := .int (nI q)) rfl ?_
    refine GM_put dX9_token_52 fp_X9_120 ms_20 ?_
    refine G_aload_n dX9_token_55 rfl rfl ?_
    refine G_aload_n dX9_token_56 rfl rfl ?_
    refine GM_get dX9_token_57 fg_X9_123 ms_19 ?_
    refine G_top (w := .int (nI q)) rfl ?_
    refine GM_call (c9_byteAt (q) (inv_20 (inv_19 hI)) (by omega)) dX9_token_60 (mc_X9_126 rfl) tw_1053 tw_32 rfl rfl rfl (Nat.le_of_ble_eq_true rfl) (Nat.le_of_ble_eq_true rfl) ?_
    rintro _ n9_ _ ⟨rfl, e9_, rfl⟩
    obtain rfl := e9_.symm
    refine G_top (w := .int (s_by s q)) rfl ?_
    refine G_istore_n dX9_token_63 rfl (Nat.le_of_ble_eq_true rfl) rfl ?_
    refine G_aload_n dX9_token_64 rfl rfl ?_
    refine GM_get dX9_token_65 fg_X9_123 ms_19 ?_
    refine G_top (w := .int (nI q)) rfl ?_
    refine G_aload_n dX9_token_68 rfl rfl ?_
    refine GM_get dX9_token_69 fg_X9_117 ms_13 ?_
    refine G_top (w := .int (s 13 0)) rfl ?_
    refine G_icmp_lt (tgt := 83) dX9_token_72 (by decide) (fun c72 => ?_) (fun c72 => ?_)
    · skip
      have hlt : q < mP s := (nI_ltI (by omega) (by omega)).mp (by rw [← hP9.1]; exact c72)
      have hs1 : s_tok s p = cif (wi (s_by s q) 97 122) (st4 s q (lr s (mP s - q) q) (s 21 0) 1) (cif (wi (s_by s q) 48 57) (st4 s q (dr s q (mP s - q) q 0).1 (dr s q (mP s - q) q 0).2 (cif (3 < (dr s q (mP s - q) q 0).1 - q) 4 2)) (st4 s q (q + 1) (s 21 0) (cif (s_by s q = 59) 3 4))) := hs.trans (cif_f (by omega))
      refine G_iload_n dX9_token_83 rfl rfl ?_
      refine G_bipush (v := 97) dX9_token_84 rfl ?_
      refine G_bipush (v := 122) dX9_token_86 rfl ?_
      refine GM_calls (c9_within _ _ _) dX9_token_88 (mc_X9_100 rfl) tw_1021 rfl rfl (Nat.le_of_ble_eq_true rfl) (Nat.le_of_ble_eq_true rfl) ?_
      rintro _ n9_ _ ⟨rfl, e9_, rfl⟩
      obtain rfl := e9_.symm
      refine G_if_eq (tgt := 133) dX9_token_91 (by decide) (fun c91 => ?_) (fun c91 => ?_)
      · skip
        refine G_iload_n dX9_token_133 rfl rfl ?_
        refine G_bipush (v := 48) dX9_token_134 rfl ?_
        refine G_bipush (v := 57) dX9_token_136 rfl ?_
        refine GM_calls (c9_within _ _ _) dX9_token_138 (mc_X9_100 rfl) tw_1021 rfl rfl (Nat.le_of_ble_eq_true rfl) (Nat.le_of_ble_eq_true rfl) ?_
        rintro _ n9_ _ ⟨rfl, e9_, rfl⟩
        obtain rfl := e9_.symm
        refine G_if_eq (tgt := 241) dX9_token_141 (by decide) (fun c141 => ?_) (fun c141 => ?_)
        · skip
          refine G_aload_n dX9_token_241 rfl rfl ?_
          refine G_dup dX9_token_242 rfl ?_
          refine GM_get dX9_token_243 fg_X9_120 ms_20 ?_
          refine G_top (w := .int (nI q)) rfl ?_
          refine G_iconst (v := 1) dX9_token_246 rfl ?_
          refine G_iadd dX9_token_247 ?_
          refine GM_put dX9_token_248 fp_X9_120 ms_20 ?_
          refine G_hp (s' := m_set (m_set s 19 0 (nI q)) 20 0 (nI (q + 1))) (by rw [m_set2, nI_1]) ?_
          refine G_aload_n dX9_token_251 rfl rfl ?_
          refine G_iload_n dX9_token_252 rfl rfl ?_
          refine G_bipush (v := 59) dX9_token_253 rfl ?_
          refine G_icmp_ne (tgt := 262) dX9_token_255 (by decide) (fun c255 => ?_) (fun c255 => ?_)
          · skip
            refine G_iconst (v := 4) dX9_token_262 rfl ?_
            refine GM_put dX9_token_263 fp_X9_130 ms_22 ?_
            refine G_vret dX9_token_266 rfl ?_
            first | exact v_cl (hs.trans ((cif_t hge).trans (st4_id s q q 0))) | exact v_cl (hs1.trans ((cif_f (b1_0.mp c91)).trans ((cif_f (b1_0.mp c141)).trans (by rw [cif_t c255]; exact st4_id s q (q + 1) 3)))) | exact v_cl (hs1.trans ((cif_f (b1_0.mp c91)).trans ((cif_f (b1_0.mp c141)).trans (by rw [cif_f c255]; exact st4_id s q (q + 1) 4))))
          · skip
            refine G_iconst (v := 3) dX9_token_258 rfl ?_
            refine G_goto (tgt := 263) dX9_token_259 (by decide) ?_
            refine GM_put dX9_token_263 fp_X9_130 ms_22 ?_
            refine G_vret dX9_token_266 rfl ?_
            first | exact v_cl (hs.trans ((cif_t hge).trans (st4_id s q q 0))) | exact v_cl (hs1.trans ((cif_f (b1_0.mp c91)).trans ((cif_f (b1_0.mp c141)).trans (by rw [cif_t c255]; exact st4_id s q (q + 1) 3)))) | exact v_cl (hs1.trans ((cif_f (b1_0.mp c91)).trans ((cif_f (b1_0.mp c141)).trans (by rw [cif_f c255]; exact st4_id s q (q + 1) 4))))
        · skip
          refine G_aload_n dX9_token_144 rfl rfl ?_
          refine G_iconst (v := 0) dX9_token_145 rfl ?_
          refine GM_put dX9_token_146 fp_X9_133 ms_21 ?_
          exact dt_ (mP s - q) q 0 (by omega) hq (Nat.le_refl q) (hs1.trans ((cif_f (b1_0.mp c91)).trans (cif_t (b1_1 c141))))
      · skip
        exact lt_ (mP s - q) q (by omega) hq (hs1.trans (cif_t (b1_1 c91)))
    · skip
      have hge : mP s ≤ q := Nat.le_of_not_lt (fun z => c72 (by rw [hP9.1]; exact nI_lt z (by omega)))
      refine G_aload_n dX9_token_75 rfl rfl ?_
      refine G_iconst (v := 0) dX9_token_76 rfl ?_
      refine GM_put dX9_token_77 fp_X9_130 ms_22 ?_
      refine G_goto (tgt := 266) dX9_token_80 (by decide) ?_
      refine G_vret dX9_token_266 rfl ?_
      first | exact v_cl (hs.trans ((cif_t hge).trans (st4_id s q q 0))) | exact v_cl (hs1.trans ((cif_f (b1_0.mp c91)).trans ((cif_f (b1_0.mp c141)).trans (by rw [cif_t c255]; exact st4_id s q (q + 1) 3)))) | exact v_cl (hs1.trans ((cif_f (b1_0.mp c91)).trans ((cif_f (b1_0.mp c141)).trans (by rw [cif_f c255]; exact st4_id s q (q + 1) 4))))
  have bl_ : ∀ m p2, mP s ≤ p2 + m → p2 ≤ 200 → s_tok s p = s_tkq s (sk s m p2) → G g 2 0 0 kX9_token 8 [.ref 24, .retAddr 0] [] nq_ (hm (m_set s 19 0 (nI p2)) r) (m_V nq_ (s_tok s p) r) := by
    intro m
    induction m with
    | zero =>
      intro p2 hp1 hp3 hsk
      refine G_aload_n dX9_token_8 rfl rfl ?_
      refine G_aload_n dX9_token_9 rfl rfl ?_
      refine GM_get dX9_token_10 fg_X9_123 ms_19 ?_
      refine G_top (w := .int (nI p2)) rfl ?_
      refine GM_call (c9_byteAt (p2) (inv_19 hI) (by omega)) dX9_token_13 (mc_X9_126 rfl) tw_1053 tw_32 rfl rfl rfl (Nat.le_of_ble_eq_true rfl) (Nat.le_of_ble_eq_true rfl) ?_
      rintro _ n9_ _ ⟨rfl, e9_, rfl⟩
      obtain rfl := e9_.symm
      refine G_top (w := .int (s_by s p2)) rfl ?_
      refine G_bipush (v := 32) dX9_token_16 rfl ?_
      refine G_icmp_eq (tgt := 34) dX9_token_18 (by decide) (fun c18 => ?_) (fun c18 => ?_)
      · skip
        exact absurd c18 (by rw [by_ge (by omega)]; decide)
      · skip
        refine G_aload_n dX9_token_21 rfl rfl ?_
        refine G_aload_n dX9_token_22 rfl rfl ?_
        refine GM_get dX9_token_23 fg_X9_123 ms_19 ?_
        refine G_top (w := .int (nI p2)) rfl ?_
        refine GM_call (c9_byteAt (p2) (inv_19 hI) (by omega)) dX9_token_26 (mc_X9_126 rfl) tw_1053 tw_32 rfl rfl rfl (Nat.le_of_ble_eq_true rfl) (Nat.le_of_ble_eq_true rfl) ?_
        rintro _ n9_ _ ⟨rfl, e9_, rfl⟩
        obtain rfl := e9_.symm
        refine G_top (w := .int (s_by s p2)) rfl ?_
        refine G_bipush (v := 10) dX9_token_29 rfl ?_
        refine G_icmp_ne (tgt := 47) dX9_token_31 (by decide) (fun c31 => ?_) (fun c31 => ?_)
        · skip
          exact tl p2 hp3 hsk
        · skip
          exact absurd c31 (by rw [by_ge (by omega)]; decide)
    | succ m ih =>
      intro p2 hp1 hp3 hsk
      refine G_aload_n dX9_token_8 rfl rfl ?_
      refine G_aload_n dX9_token_9 rfl rfl ?_
      refine GM_get dX9_token_10 fg_X9_123 ms_19 ?_
      refine G_top (w := .int (nI p2)) rfl ?_
      refine GM_call (c9_byteAt (p2) (inv_19 hI) (by omega)) dX9_token_13 (mc_X9_126 rfl) tw_1053 tw_32 rfl rfl rfl (Nat.le_of_ble_eq_true rfl) (Nat.le_of_ble_eq_true rfl) ?_
      rintro _ n9_ _ ⟨rfl, e9_, rfl⟩
      obtain rfl := e9_.symm
      refine G_top (w := .int (s_by s p2)) rfl ?_
      refine G_bipush (v := 32) dX9_token_16 rfl ?_
      refine G_icmp_eq (tgt := 34) dX9_token_18 (by decide) (fun c18 => ?_) (fun c18 => ?_)
      · skip
        refine G_aload_n dX9_token_34 rfl rfl ?_
        refine G_dup dX9_token_35 rfl ?_
        refine GM_get dX9_token_36 fg_X9_123 ms_19 ?_
        refine G_top (w := .int (nI p2)) rfl ?_
        refine G_iconst (v := 1) dX9_token_39 rfl ?_
        refine G_iadd dX9_token_40 ?_
        refine GM_put dX9_token_41 fp_X9_123 ms_19 ?_
        refine G_hp (s' := m_set s 19 0 (nI (p2 + 1))) (by rw [m_set2, nI_1]) ?_
        refine G_goto (tgt := 8) dX9_token_44 (by decide) ?_
        have hbl : is_bl (s_by s p2) := by first | exact Or.inl c18 | exact Or.inr c31
        exact ih (p2 + 1) (by omega) (by have : p2 < mP s := Nat.lt_of_not_le (fun z => absurd hbl (by rw [by_ge z]; decide)); omega) (by rw [hsk]; show s_tkq s (cif _ (sk s m (p2 + 1)) p2) = _; rw [cif_t hbl])
      · skip
        refine G_aload_n dX9_token_21 rfl rfl ?_
        refine G_aload_n dX9_token_22 rfl rfl ?_
        refine GM_get dX9_token_23 fg_X9_123 ms_19 ?_
        refine G_top (w := .int (nI p2)) rfl ?_
        refine GM_call (c9_byteAt (p2) (inv_19 hI) (by omega)) dX9_token_26 (mc_X9_126 rfl) tw_1053 tw_32 rfl rfl rfl (Nat.le_of_ble_eq_true rfl) (Nat.le_of_ble_eq_true rfl) ?_
        rintro _ n9_ _ ⟨rfl, e9_, rfl⟩
        obtain rfl := e9_.symm
        refine G_top (w := .int (s_by s p2)) rfl ?_
        refine G_bipush (v := 10) dX9_token_29 rfl ?_
        refine G_icmp_ne (tgt := 47) dX9_token_31 (by decide) (fun c31 => ?_) (fun c31 => ?_)
        · skip
          exact tl p2 hp3 (by rw [hsk]; show s_tkq s (cif _ (sk s m (p2 + 1)) p2) = _; rw [cif_f (fun z => z.elim c18 c31)])
        · skip
          refine G_aload_n dX9_token_34 rfl rfl ?_
          refine G_dup dX9_token_35 rfl ?_
          refine GM_get dX9_token_36 fg_X9_123 ms_19 ?_
          refine G_top (w := .int (nI p2)) rfl ?_
          refine G_iconst (v := 1) dX9_token_39 rfl ?_
          refine G_iadd dX9_token_40 ?_
          refine GM_put dX9_token_41 fp_X9_123 ms_19 ?_
          refine G_hp (s' := m_set s 19 0 (nI (p2 + 1))) (by rw [m_set2, nI_1]) ?_
          refine G_goto (tgt := 8) dX9_token_44 (by decide) ?_
          have hbl : is_bl (s_by s p2) := by first | exact Or.inl c18 | exact Or.inr c31
          exact ih (p2 + 1) (by omega) (by have : p2 < mP s := Nat.lt_of_not_le (fun z => absurd hbl (by rw [by_ge z]; decide)); omega) (by rw [hsk]; show s_tkq s (cif _ (sk s m (p2 + 1)) p2) = _; rw [cif_t hbl])
  refine G_aload_n dX9_token_0 rfl rfl ?_
  refine G_aload_n dX9_token_1 rfl rfl ?_
  refine GM_get dX9_token_2 fg_X9_120 ms_20 ?_
  refine G_top (congrArg Value.int hp) ?_
  refine GM_put dX9_token_5 fp_X9_123 ms_19 ?_
  exact bl_ (mP s - p) p (by omega) hp2 rfl
