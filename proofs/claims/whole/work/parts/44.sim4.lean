theorem by_nar (x : Int32) : vp_nar .byte x.toInt8.toInt32 = x.toInt8.toInt32 := by
  unfold vp_nar narrow
  simp
theorem by_m : ∀ j : Fin 32, (255#32)[j.1] = decide (j.1 < 8) := by decide
theorem by_24 (w : Int32) : (w.toUInt32 >>> (24 : UInt32)).toInt32 &&& (255 : Int32) = (w >>> (24 : Int32)).toInt8.toInt32 &&& (255 : Int32) := by
  refine Int32.toBitVec_inj.mp ?_
  simp only [Int32.toBitVec_and, UInt32.toBitVec_toInt32, Int8.toBitVec_toInt32, Int32.toBitVec_toInt8, UInt32.toBitVec_shiftRight, Int32.toBitVec_shiftRight, Int32.toBitVec_toUInt32]
  ext i hi
  simp
  have hm : (255#32)[i] = decide (i < 8) := by_m ⟨i, hi⟩
  rw [hm]
  by_cases h8 : i < 8
  · simp [h8, BitVec.getElem_signExtend, BitVec.getLsbD_signExtend, BitVec.getElem_sshiftRight, BitVec.getLsbD_sshiftRight]
    rw [if_pos hi, dif_pos (by omega)]
    exact BitVec.getLsbD_eq_getElem _
  · simp [h8]
theorem by_16 (w : Int32) : (w.toUInt32 >>> (16 : UInt32)).toInt32 &&& (255 : Int32) = (w >>> (16 : Int32)).toInt8.toInt32 &&& (255 : Int32) := by
  refine Int32.toBitVec_inj.mp ?_
  simp only [Int32.toBitVec_and, UInt32.toBitVec_toInt32, Int8.toBitVec_toInt32, Int32.toBitVec_toInt8, UInt32.toBitVec_shiftRight, Int32.toBitVec_shiftRight, Int32.toBitVec_toUInt32]
  ext i hi
  simp
  have hm : (255#32)[i] = decide (i < 8) := by_m ⟨i, hi⟩
  rw [hm]
  by_cases h8 : i < 8
  · simp [h8, BitVec.getElem_signExtend, BitVec.getLsbD_signExtend, BitVec.getElem_sshiftRight, BitVec.getLsbD_sshiftRight]
    rw [if_pos hi, dif_pos (by omega)]
    exact BitVec.getLsbD_eq_getElem _
  · simp [h8]
theorem by_8 (w : Int32) : (w.toUInt32 >>> (8 : UInt32)).toInt32 &&& (255 : Int32) = (w >>> (8 : Int32)).toInt8.toInt32 &&& (255 : Int32) := by
  refine Int32.toBitVec_inj.mp ?_
  simp only [Int32.toBitVec_and, UInt32.toBitVec_toInt32, Int8.toBitVec_toInt32, Int32.toBitVec_toInt8, UInt32.toBitVec_shiftRight, Int32.toBitVec_shiftRight, Int32.toBitVec_toUInt32]
  ext i hi
  simp
  have hm : (255#32)[i] = decide (i < 8) := by_m ⟨i, hi⟩
  rw [hm]
  by_cases h8 : i < 8
  · simp [h8, BitVec.getElem_signExtend, BitVec.getLsbD_signExtend, BitVec.getElem_sshiftRight, BitVec.getLsbD_sshiftRight]
    rw [if_pos hi, dif_pos (by omega)]
    exact BitVec.getLsbD_eq_getElem _
  · simp [h8]
theorem by_0 (w : Int32) : (w.toUInt32 >>> (0 : UInt32)).toInt32 &&& (255 : Int32) = (w >>> (0 : Int32)).toInt8.toInt32 &&& (255 : Int32) := by
  refine Int32.toBitVec_inj.mp ?_
  simp only [Int32.toBitVec_and, UInt32.toBitVec_toInt32, Int8.toBitVec_toInt32, Int32.toBitVec_toInt8, UInt32.toBitVec_shiftRight, Int32.toBitVec_shiftRight, Int32.toBitVec_toUInt32]
  ext i hi
  simp
  have hm : (255#32)[i] = decide (i < 8) := by_m ⟨i, hi⟩
  rw [hm]
  by_cases h8 : i < 8
  · simp [h8, BitVec.getElem_signExtend, BitVec.getLsbD_signExtend, BitVec.getElem_sshiftRight, BitVec.getLsbD_sshiftRight]
    rw [dif_pos hi]
  · simp [h8]

theorem by255 (w : Int32) : ∀ r, r < 4 → pt_b w r = vp_nar .byte (w >>> ((24 - 8 * nI r) &&& 31)).toInt8.toInt32 &&& 255 := by
  intro r hr
  rw [by_nar]
  unfold pt_b
  rcases (show r = 0 ∨ r = 1 ∨ r = 2 ∨ r = 3 by omega) with rfl | rfl | rfl | rfl
  · exact by_24 w
  · exact by_16 w
  · exact by_8 w
  · exact by_0 w
theorem pt_o {c : mS} {w : Int32} {p j : Nat} (h1 : j ≠ 12) (h2 : j ≠ 13) : ∀ n, pt c w p n j = c j
  | 0 => rfl
  | n + 1 => (m_set_ne _ _ _ h2).trans ((m_set_ne _ _ _ h1).trans (pt_o h1 h2 n))
theorem pt_12 {c : mS} {w : Int32} {p : Nat} : ∀ n i, pt c w p n 12 i = if p ≤ i ∧ i < p + n then pt_b w (i - p) else c 12 i
  | 0, i => by rw [if_neg (by omega)]; rfl
  | n + 1, i => by
    show m_set (m_set (pt c w p n) 12 (p + n) (pt_b w n)) 13 0 (nI (p + n + 1)) 12 i = _
    rw [m_set_ne _ _ _ (by decide)]
    by_cases e : i = p + n
    · rw [e, m_set_at, if_pos (by omega), show p + n - p = n by omega]
    · rw [ms_ne e, pt_12 n i]
      by_cases z : p ≤ i ∧ i < p + n
      · rw [if_pos z, if_pos (by omega)]
      · rw [if_neg z, if_neg (by omega)]
theorem fd_o {s : mS} {a b c d e : Int32} {j : Nat} (h1 : j ≠ 12) (h2 : j ≠ 13) : ∀ n, fd s a b c d e n j = s j
  | 0 => rfl
  | n + 1 => (m_set_ne _ _ _ h2).trans ((m_set_ne _ _ _ h1).trans (fd_o h1 h2 n))
theorem fd_12 {s : mS} {a b c d e : Int32} : ∀ n i, fd s a b c d e n 12 i = if mP s ≤ i ∧ i < mP s + n then fd_b a b c d e (i - mP s) else s 12 i
  | 0, i => by rw [if_neg (by omega)]; rfl
  | n + 1, i => by
    show m_set (m_set (fd s a b c d e n) 12 (mP s + n) (fd_b a b c d e n)) 13 0 (nI (mP s + (n + 1))) 12 i = _
    rw [m_set_ne _ _ _ (by decide)]
    by_cases q : i = mP s + n
    · rw [q, m_set_at, if_pos (by omega), show mP s + n - mP s = n by omega]
    · rw [ms_ne q, fd_12 n i]
      by_cases z : mP s ≤ i ∧ i < mP s + n
      · rw [if_pos z, if_pos (by omega)]
      · rw [if_neg z, if_neg (by omega)]
theorem pt_13i {c : mS} {w : Int32} {p i : Nat} (h : i ≠ 0) : ∀ n, pt c w p n 13 i = c 13 i
  | 0 => rfl
  | n + 1 => by
    show m_set (m_set (pt c w p n) 12 (p + n) (pt_b w n)) 13 0 (nI (p + n + 1)) 13 i = _
    rw [ms_ne h, m_set_ne _ _ _ (by decide)]
    exact pt_13i h n
theorem fd_13i {s : mS} {a b c d e : Int32} {i : Nat} (h : i ≠ 0) : ∀ n, fd s a b c d e n 13 i = s 13 i
  | 0 => rfl
  | n + 1 => by
    show m_set (m_set (fd s a b c d e n) 12 (mP s + n) (fd_b a b c d e n)) 13 0 (nI (mP s + (n + 1))) 13 i = _
    rw [ms_ne h, m_set_ne _ _ _ (by decide)]
    exact fd_13i h n
theorem fd_r : ∀ i, i < 20 → (24 - 8 * (nI i - nI i / 4 * 4) : Int32) &&& 31 = (24 - 8 * nI (i % 4)) &&& 31 := by decide +kernel
def feed5 (c : mS) (p : Nat) (a b d e f : Int32) : mS := pt (pt (pt (pt (pt c a p 4) b (p + 4) 4) d (p + 4 + 4) 4) e (p + 4 + 4 + 4) 4) f (p + 4 + 4 + 4 + 4) 4
theorem feed5_o {c : mS} {p : Nat} {a b d e f : Int32} {j : Nat} (h1 : j ≠ 12) (h2 : j ≠ 13) : feed5 c p a b d e f j = c j := by
  unfold feed5
  rw [pt_o h1 h2, pt_o h1 h2, pt_o h1 h2, pt_o h1 h2, pt_o h1 h2]
theorem feed5_12 {c : mS} {p i : Nat} {a b d e f : Int32} : feed5 c p a b d e f 12 i = if p ≤ i ∧ i < p + 20 then pt_b (fd_w a b d e f (i - p)) ((i - p) % 4) else c 12 i := by
  unfold feed5
  rw [pt_12, pt_12, pt_12, pt_12, pt_12]
  by_cases h : p ≤ i ∧ i < p + 20
  · rw [if_pos h]
    obtain ⟨r, rfl⟩ : ∃ r, i = p + r := ⟨i - p, by omega⟩
    have hr : r < 20 := by omega
    rw [show p + r - p = r by omega]
    unfold fd_w
    by_cases z1 : r < 4
    · rw [if_neg (by omega), if_neg (by omega), if_neg (by omega), if_neg (by omega), if_pos (by omega), if_pos z1, show r % 4 = r by omega]
    rw [if_neg z1]
    by_cases z2 : r < 8
    · rw [if_neg (by omega), if_neg (by omega), if_neg (by omega), if_pos (by omega), if_pos z2, show p + r - (p + 4) = r % 4 by omega]
    rw [if_neg z2]
    by_cases z3 : r < 12
    · rw [if_neg (by omega), if_neg (by omega), if_pos (by omega), if_pos z3, show p + r - (p + 4 + 4) = r % 4 by omega]
    rw [if_neg z3]
    by_cases z4 : r < 16
    · rw [if_neg (by omega), if_pos (by omega), if_pos z4, show p + r - (p + 4 + 4 + 4) = r % 4 by omega]
    rw [if_neg z4, if_pos (by omega), show p + r - (p + 4 + 4 + 4 + 4) = r % 4 by omega]
  · rw [if_neg h, if_neg (by omega), if_neg (by omega), if_neg (by omega), if_neg (by omega), if_neg (by omega)]
theorem sim_feed {s c : mS} (h : Inv c) (k : Lk s c) (a b d e f : Int32) : Sim (cp_feed c a b d e f) (sp_feed s a b d e f) := by
  obtain ⟨hC, hday, hcare, hask, hlook, hlaw, howe, hpend, hzero, hnb, hout, hback, haout, hlog, hwnt⟩ := id h
  obtain ⟨hI, hG, hgv, hov, hrw, hps⟩ := id hC
  obtain ⟨hK, hT, hB, hP9, hA, hkf, haf, hbf⟩ := id hI
  have hA2 := hA.2
  have hT2 := hT.2
  have hK2 := hK.2
  have hB2 := hB.2
  have hP2 := hP9.2
  unfold cp_feed sp_feed
  rw [← k.1 13 (by decide), k.1.P]
  have e1 : 180 < c 13 0 ↔ ¬ c 13 0 + 20 ≤ 200 := by
    rw [hP9.1, show (180 : Int32) = nI 180 from rfl, show (20 : Int32) = nI 20 from rfl, show (200 : Int32) = nI 200 from rfl, nI_add, nI_ltI (by decide) (by omega), nI_leI (by omega) (by decide)]
    omega
  by_cases q : c 13 0 + 20 ≤ 200
  · rw [cif_t q, cif_f (fun z => (e1.mp z) q)]
    have hp : mP c + 20 ≤ 200 := by
      rw [hP9.1, show (20 : Int32) = nI 20 from rfl, nI_add, show (200 : Int32) = nI 200 from rfl, nI_leI (by omega) (by omega)] at q
      exact q
    have e13 : feed5 c (mP c) a b d e f 13 0 = nI (mP c + 20) := rfl
    have eP : mP (feed5 c (mP c) a b d e f) = mP c + 20 := by show (feed5 c (mP c) a b d e f 13 0).toNatClampNeg = _; rw [e13]; exact nI_clamp (by omega)
    have eS : ∀ j, j ≠ 12 → j ≠ 13 → feed5 c (mP c) a b d e f j = c j := fun j h1 h2 => feed5_o h1 h2
    refine ⟨rfl, (show Inv (feed5 c (mP c) a b d e f) from ⟨?_, (i_day_eq (feed5_o (by decide) (by decide)) hday), (i_care_eq (feed5_o (by decide) (by decide)) (feed5_o (by decide) (by decide)) hcare), (i_ask_eq (feed5_o (by decide) (by decide)) (feed5_o (by decide) (by decide)) (feed5_o (by decide) (by decide)) (feed5_o (by decide) (by decide)) hask), (i_look_eq (feed5_o (by decide) (by decide)) (feed5_o (by decide) (by decide)) (feed5_o (by decide) (by decide)) hlook), (i_law_eq (feed5_o (by decide) (by decide)) hlaw), (i_owe_eq (feed5_o (by decide) (by decide)) (feed5_o (by decide) (by decide)) (feed5_o (by decide) (by decide)) (feed5_o (by decide) (by decide)) howe), (i_pend_eq (feed5_o (by decide) (by decide)) (feed5_o (by decide) (by decide)) hpend), (i_zero_eq (feed5_o (by decide) (by decide)) (feed5_o (by decide) (by decide)) (feed5_o (by decide) (by decide)) (feed5_o (by decide) (by decide)) (feed5_o (by decide) (by decide)) hzero), (i_nb_eq (feed5_o (by decide) (by decide)) (feed5_o (by decide) (by decide)) (feed5_o (by decide) (by decide)) (feed5_o (by decide) (by decide)) (feed5_o (by decide) (by decide)) (feed5_o (by decide) (by decide)) (feed5_o (by decide) (by decide)) hnb), (i_out_eq (feed5_o (by decide) (by decide)) (feed5_o (by decide) (by decide)) (feed5_o (by decide) (by decide)) (feed5_o (by decide) (by decide)) (feed5_o (by decide) (by decide)) hout), (i_back_eq (feed5_o (by decide) (by decide)) (feed5_o (by decide) (by decide)) (feed5_o (by decide) (by decide)) (feed5_o (by decide) (by decide)) (feed5_o (by decide) (by decide)) (feed5_o (by decide) (by decide)) (feed5_o (by decide) (by decide)) hback), (i_aout_eq (feed5_o (by decide) (by decide)) (feed5_o (by decide) (by decide)) (feed5_o (by decide) (by decide)) (feed5_o (by decide) (by decide)) (feed5_o (by decide) (by decide)) haout), (i_log_eq (feed5_o (by decide) (by decide)) (feed5_o (by decide) (by decide)) (feed5_o (by decide) (by decide)) (feed5_o (by decide) (by decide)) (feed5_o (by decide) (by decide)) hlog), (i_wnt_eq (feed5_o (by decide) (by decide)) (feed5_o (by decide) (by decide)) hwnt)⟩), fun j hj => ?_, fun x hx w => ?_, fun i hi => ?_, fun u hu => ?_⟩
    · have hx : c_inv (m_set c 13 0 (nI (mP c + 20))) := by
        have ex : mP (m_set c 13 0 (nI (mP c + 20))) = mP c + 20 := nI_clamp (by omega)
        exact ⟨⟨hK, hT, hB, ⟨by rw [ex]; exact m_set_at _ _ _ _, by rw [ex]; exact hp⟩, hA, hkf, haf, hbf⟩, hG, hgv, hov, hrw, hps⟩
      refine c_inv_eq (fun j hj => ?_) hx
      by_cases e : j = 13
      · subst e
        funext i
        by_cases e0 : i = 0
        · subst e0; rw [e13, m_set_at]
        · rw [ms_ne e0]; unfold feed5; rw [pt_13i e0, pt_13i e0, pt_13i e0, pt_13i e0, pt_13i e0]
      · rw [m_set_ne _ _ _ e]
        refine eS j ?_ e
        rintro rfl
        exact absurd hj (by decide)
    · show feed5 c (mP c) a b d e f j = fd s a b d e f 20 j
      by_cases e : j = 13
      · subst e
        funext i
        by_cases e0 : i = 0
        · subst e0
          rw [e13, fd_13 s a b d e f (by rw [← k.1 13 (by decide), k.1.P]; exact hP9.1), k.1.P]
        · rw [fd_13i e0]
          unfold feed5
          rw [pt_13i e0, pt_13i e0, pt_13i e0, pt_13i e0, pt_13i e0, k.1 13 (by decide)]
      · have h12 : j ≠ 12 := by rintro rfl; exact absurd hj (by decide)
        rw [eS j h12 e, fd_o h12 e]
        exact k.1 j hj
    · show feed5 c (mP c) a b d e f 33 x = fd s a b d e f 20 33 x
      rw [eS 33 (by decide) (by decide), fd_o (by decide) (by decide)]
      have w : feed5 c (mP c) a b d e f 24 x = 4 := w
      have hx : x < mA (feed5 c (mP c) a b d e f) := hx
      rw [eS 24 (by decide) (by decide)] at w
      refine k.2.1 x ?_ w
      unfold mA at hx ⊢
      rw [eS 23 (by decide) (by decide)] at hx
      exact hx
    · have hi : i < mP (feed5 c (mP c) a b d e f) := hi
      rw [eP] at hi
      show feed5 c (mP c) a b d e f 12 i = fd s a b d e f 20 12 i &&& 255
      rw [feed5_12, fd_12, k.1.P]
      by_cases z : mP c ≤ i ∧ i < mP c + 20
      · rw [if_pos z, if_pos z, by255 _ _ (Nat.mod_lt _ (by decide))]
        unfold fd_b
        rw [fd_r _ (by omega)]
      · rw [if_neg z, if_neg z]
        exact k.2.2.1 i (by omega)
    · show feed5 c (mP c) a b d e f 15 u = s_want (fd s a b d e f 20) u
      unfold s_want
      rw [eS 15 (by decide) (by decide), fd_o (by decide) (by decide), fd_o (by decide) (by decide)]
      exact k.2.2.2 u hu
  · rw [cif_f q, cif_t (e1.mpr q)]; exact ⟨rfl, h, k⟩
