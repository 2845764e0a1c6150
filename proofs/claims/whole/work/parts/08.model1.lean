theorem ct_add_t {p : Nat → Prop} {i : Nat} (h : p i) : nI (ct p i) + 1 = nI (ct p (i + 1)) := by rw [ct_t h, nI_1]
theorem ct_add_f {p : Nat → Prop} {i : Nat} (h : ¬ p i) : nI (ct p i) + 0 = nI (ct p (i + 1)) := by rw [ct_f h]; exact Int32.add_zero _
theorem G_top {g : gT} {d x y : Nat} {k : mM} {pc : Nat} {L st : List Value} {n : Nat} {h : mH} {P : Option Value → Nat → mH → Prop} {v w : Value} (e : v = w) (K : G g d x y k pc L (w :: st) n h P) : G g d x y k pc L (v :: st) n h P := by rw [e]; exact K
theorem G_hp {g : gT} {d x y : Nat} {k : mM} {pc : Nat} {L st : List Value} {nq_ : Nat} {s s' : mS} {r : mH} {P : Option Value → Nat → mH → Prop} (e : s = s') (K : G g d x y k pc L st nq_ (hm s' r) P) : G g d x y k pc L st nq_ (hm s r) P := by rw [e]; exact K
theorem q_t {p : Prop} {nq_ : Nat} {h : mH} (hp : p) : m_Q (.int (b1 p)) nq_ h (some (.int 1)) nq_ h := ⟨by rw [b1_t hp], rfl, rfl⟩
theorem q_f {p : Prop} {nq_ : Nat} {h : mH} (hp : ¬ p) : m_Q (.int (b1 p)) nq_ h (some (.int 0)) nq_ h := ⟨by rw [b1_f hp], rfl, rfl⟩
theorem q_e {X v : Int32} {nq_ : Nat} {h : mH} (e : X = v) : m_Q (.int X) nq_ h (some (.int v)) nq_ h := ⟨by rw [e], rfl, rfl⟩
set_option maxHeartbeats 4000000 in
set_option maxRecDepth 100000 in
theorem c9_within {g : gT} {nq_ : Nat} {h : mH} (v lo hi : Int32) : M g 0 0 0 kX9_within [.int v, .int lo, .int hi] nq_ h (m_Q (.int (b1 (wi v lo hi))) nq_ h) := by
  refine M_of_G (by decide +kernel) (Nat.le_of_ble_eq_true rfl) ?_
  refine G_iload_n dX9_within_0 rfl rfl ?_
  refine G_iload_n dX9_within_1 rfl rfl ?_
  refine G_icmp_lt (tgt := 14) dX9_within_2 (by decide) (fun c2 => ?_) (fun c2 => ?_)
  · skip
    refine G_iconst (v := 0) dX9_within_14 rfl ?_
    refine G_zret dX9_within_15 rfl rfl ?_
    first | exact q_t ⟨Int32.not_lt.mp c2, Int32.not_lt.mp c7⟩ | exact q_f (fun q => absurd q.1 (Int32.not_le.mpr c2)) | exact q_f (fun q => absurd q.2 (Int32.not_le.mpr c7))
  · skip
    refine G_iload_n dX9_within_5 rfl rfl ?_
    refine G_iload_n dX9_within_6 rfl rfl ?_
    refine G_icmp_gt (tgt := 14) dX9_within_7 (by decide) (fun c7 => ?_) (fun c7 => ?_)
    · skip
      refine G_iconst (v := 0) dX9_within_14 rfl ?_
      refine G_zret dX9_within_15 rfl rfl ?_
      first | exact q_t ⟨Int32.not_lt.mp c2, Int32.not_lt.mp c7⟩ | exact q_f (fun q => absurd q.1 (Int32.not_le.mpr c2)) | exact q_f (fun q => absurd q.2 (Int32.not_le.mpr c7))
    · skip
      refine G_iconst (v := 1) dX9_within_10 rfl ?_
      refine G_goto (tgt := 15) dX9_within_11 (by decide) ?_
      refine G_zret dX9_within_15 rfl rfl ?_
      first | exact q_t ⟨Int32.not_lt.mp c2, Int32.not_lt.mp c7⟩ | exact q_f (fun q => absurd q.1 (Int32.not_le.mpr c2)) | exact q_f (fun q => absurd q.2 (Int32.not_le.mpr c7))
set_option maxHeartbeats 4000000 in
set_option maxRecDepth 100000 in
theorem c9_isKind {g : gT} {nq_ : Nat} {s : mS} {r : mH} (v : Int32) : M g 1 0 0 kX9_isKind [.ref 24, .int v] nq_ (hm s r) (m_Q (.int (b1 (wi v 0 (s 1 0 - 1)))) nq_ (hm s r)) := by
  refine M_of_G (by decide +kernel) (Nat.le_of_ble_eq_true rfl) ?_
  refine G_iload_n dX9_isKind_0 rfl rfl ?_
  refine G_iconst (v := 0) dX9_isKind_1 rfl ?_
  refine G_aload_n dX9_isKind_2 rfl rfl ?_
  refine GM_get dX9_isKind_3 fg_X9_104 ms_1 ?_
  refine G_iconst (v := 1) dX9_isKind_6 rfl ?_
  refine G_isub dX9_isKind_7 ?_
  refine GM_calls (c9_within _ _ _) dX9_isKind_8 (mc_X9_100 rfl) tw_1021 rfl rfl (Nat.le_of_ble_eq_true rfl) (Nat.le_of_ble_eq_true rfl) ?_
  rintro _ n9_ _ ⟨rfl, e9_, rfl⟩
  obtain rfl := e9_.symm
  refine G_zret dX9_isKind_11 rfl b1_n ?_
  exact ⟨rfl, rfl, rfl⟩
set_option maxHeartbeats 4000000 in
set_option maxRecDepth 100000 in
theorem c9_isThing {g : gT} {nq_ : Nat} {s : mS} {r : mH} (v : Int32) : M g 1 0 0 kX9_isThing [.ref 24, .int v] nq_ (hm s r) (m_Q (.int (b1 (wi v 0 (s 5 0 - 1)))) nq_ (hm s r)) := by
  refine M_of_G (by decide +kernel) (Nat.le_of_ble_eq_true rfl) ?_
  refine G_iload_n dX9_isThing_0 rfl rfl ?_
  refine G_iconst (v := 0) dX9_isThing_1 rfl ?_
  refine G_aload_n dX9_isThing_2 rfl rfl ?_
  refine GM_get dX9_isThing_3 fg_X9_107 ms_5 ?_
  refine G_iconst (v := 1) dX9_isThing_6 rfl ?_
  refine G_isub dX9_isThing_7 ?_
  refine GM_calls (c9_within _ _ _) dX9_isThing_8 (mc_X9_100 rfl) tw_1021 rfl rfl (Nat.le_of_ble_eq_true rfl) (Nat.le_of_ble_eq_true rfl) ?_
  rintro _ n9_ _ ⟨rfl, e9_, rfl⟩
  obtain rfl := e9_.symm
  refine G_zret dX9_isThing_11 rfl b1_n ?_
  exact ⟨rfl, rfl, rfl⟩
set_option maxHeartbeats 4000000 in
set_option maxRecDepth 100000 in
theorem c9_isMember {g : gT} {nq_ : Nat} {s : mS} {r : mH} (v : Int32) : M g 1 0 0 kX9_isMember [.ref 24, .int v] nq_ (hm s r) (m_Q (.int (b1 (wi v 0 (s 8 0 - 1)))) nq_ (hm s r)) := by
  refine M_of_G (by decide +kernel) (Nat.le_of_ble_eq_true rfl) ?_
  refine G_iload_n dX9_isMember_0 rfl rfl ?_
  refine G_iconst (v := 0) dX9_isMember_1 rfl ?_
  refine G_aload_n dX9_isMember_2 rfl rfl ?_
  refine GM_get dX9_isMember_3 fg_X9_110 ms_8 ?_
  refine G_iconst (v := 1) dX9_isMember_6 rfl ?_
  refine G_isub dX9_isMember_7 ?_
  refine GM_calls (c9_within _ _ _) dX9_isMember_8 (mc_X9_100 rfl) tw_1021 rfl rfl (Nat.le_of_ble_eq_true rfl) (Nat.le_of_ble_eq_true rfl) ?_
  rintro _ n9_ _ ⟨rfl, e9_, rfl⟩
  obtain rfl := e9_.symm
  refine G_zret dX9_isMember_11 rfl b1_n ?_
  exact ⟨rfl, rfl, rfl⟩
set_option maxHeartbeats 4000000 in
set_option maxRecDepth 100000 in
theorem c9_thrown {g : gT} {nq_ : Nat} {s : mS} {r : mH}  : M g 0 0 0 kX9_thrown [.ref 24] nq_ (hm s r) (m_Q (.int (s 0 0)) nq_ (hm s r)) := by
  refine M_of_G (by decide +kernel) (Nat.le_of_ble_eq_true rfl) ?_
  refine G_aload_n dX9_thrown_0 rfl rfl ?_
  refine GM_get dX9_thrown_1 fg_X9_97 ms_0 ?_
  refine G_iret dX9_thrown_4 rfl ?_
  exact ⟨rfl, rfl, rfl⟩
set_option maxHeartbeats 4000000 in
set_option maxRecDepth 100000 in
theorem c9_kind {g : gT} {nq_ : Nat} {s : mS} {r : mH} (c f v : Int32) (hI : m_inv (m_set s 0 0 0)) : M g 1 0 0 kX9_kind [.ref 24, .int c, .int f, .int v] nq_ (hm s r) (m_S (.int (sp_kind (m_set s 0 0 0) c f v).2) nq_ (sp_kind (m_set s 0 0 0) c f v).1 r) := by
  refine M_of_G (by decide +kernel) (Nat.le_of_ble_eq_true rfl) ?_
  refine G_aload_n dX9_kind_0 rfl rfl ?_
  refine G_iconst (v := 0) dX9_kind_1 rfl ?_
  refine GM_put dX9_kind_2 fp_X9_97 ms_0 ?_
  generalize e0 : m_set s 0 0 0 = s0 at hI ⊢
  obtain ⟨hK, hT, hB, hP9, hA, hkf, haf, hbf⟩ := id hI
  refine G_iload_n dX9_kind_5 rfl rfl ?_
  refine G_iconst (v := 0) dX9_kind_6 rfl ?_
  refine G_iconst (v := 5) dX9_kind_7 rfl ?_
  refine GM_calls (c9_within _ _ _) dX9_kind_8 (mc_X9_100 rfl) tw_1021 rfl rfl (Nat.le_of_ble_eq_true rfl) (Nat.le_of_ble_eq_true rfl) ?_
  rintro _ n9_ _ ⟨rfl, e9_, rfl⟩
  obtain rfl := e9_.symm
  refine G_if_eq (tgt := 44) dX9_kind_11 (by decide) (fun c11 => ?_) (fun c11 => ?_)
  · skip
    refine G_iconst (v := -1) dX9_kind_44 rfl ?_
    refine G_iret dX9_kind_45 rfl ?_
    first | exact m_close (cif_f (fun q => b1_0.mp c11 q.1)) | exact m_close (cif_f (fun q => b1_0.mp c22 q.2.1)) | exact m_close (cif_f (fun q => b1_0.mp c32 q.2.2.1)) | exact m_close (cif_f (fun q => q.2.2.2 c41))
  · skip
    refine G_iload_n dX9_kind_14 rfl rfl ?_
    refine G_iconst (v := 0) dX9_kind_15 rfl ?_
    refine G_sipush (v := 255) dX9_kind_16 rfl ?_
    refine GM_calls (c9_within _ _ _) dX9_kind_19 (mc_X9_100 rfl) tw_1021 rfl rfl (Nat.le_of_ble_eq_true rfl) (Nat.le_of_ble_eq_true rfl) ?_
    rintro _ n9_ _ ⟨rfl, e9_, rfl⟩
    obtain rfl := e9_.symm
    refine G_if_eq (tgt := 44) dX9_kind_22 (by decide) (fun c22 => ?_) (fun c22 => ?_)
    · skip
      refine G_iconst (v := -1) dX9_kind_44 rfl ?_
      refine G_iret dX9_kind_45 rfl ?_
      first | exact m_close (cif_f (fun q => b1_0.mp c11 q.1)) | exact m_close (cif_f (fun q => b1_0.mp c22 q.2.1)) | exact m_close (cif_f (fun q => b1_0.mp c32 q.2.2.1)) | exact m_close (cif_f (fun q => q.2.2.2 c41))
    · skip
      refine G_iload_n dX9_kind_25 rfl rfl ?_
      refine G_iconst (v := 0) dX9_kind_26 rfl ?_
      refine G_bipush (v := 100) dX9_kind_27 rfl ?_
      refine GM_calls (c9_within _ _ _) dX9_kind_29 (mc_X9_100 rfl) tw_1021 rfl rfl (Nat.le_of_ble_eq_true rfl) (Nat.le_of_ble_eq_true rfl) ?_
      rintro _ n9_ _ ⟨rfl, e9_, rfl⟩
      obtain rfl := e9_.symm
      refine G_if_eq (tgt := 44) dX9_kind_32 (by decide) (fun c32 => ?_) (fun c32 => ?_)
      · skip
        refine G_iconst (v := -1) dX9_kind_44 rfl ?_
        refine G_iret dX9_kind_45 rfl ?_
        first | exact m_close (cif_f (fun q => b1_0.mp c11 q.1)) | exact m_close (cif_f (fun q => b1_0.mp c22 q.2.1)) | exact m_close (cif_f (fun q => b1_0.mp c32 q.2.2.1)) | exact m_close (cif_f (fun q => q.2.2.2 c41))
      · skip
        refine G_aload_n dX9_kind_35 rfl rfl ?_
        refine GM_get dX9_kind_36 fg_X9_104 ms_1 ?_
        refine G_bipush (v := 8) dX9_kind_39 rfl ?_
        refine G_icmp_ne (tgt := 46) dX9_kind_41 (by decide) (fun c41 => ?_) (fun c41 => ?_)
        · skip
          refine G_aload_n dX9_kind_46 rfl rfl ?_
          refine GM_ref dX9_kind_47 fg_X9_7 (fun _ => rfl) ?_
          refine G_aload_n dX9_kind_50 rfl rfl ?_
          refine GM_get dX9_kind_51 fg_X9_104 ms_1 ?_
          refine G_iload_n dX9_kind_54 rfl rfl ?_
          refine GM_st dX9_kind_55 mt_2 ma_2 (by decide) ⟨hK.1, m_lt (N := 8) hK c41⟩ ?_
          refine G_aload_n dX9_kind_56 rfl rfl ?_
          refine GM_ref dX9_kind_57 fg_X9_13 (fun _ => rfl) ?_
          refine G_aload_n dX9_kind_60 rfl rfl ?_
          refine GM_get dX9_kind_61 fg_X9_104 ms_1 ?_
          refine G_iload_n dX9_kind_64 rfl rfl ?_
          refine GM_st dX9_kind_65 mt_3 ma_3 (by decide) ⟨hK.1, m_lt (N := 8) hK c41⟩ ?_
          refine G_aload_n dX9_kind_66 rfl rfl ?_
          refine GM_ref dX9_kind_67 fg_X9_16 (fun _ => rfl) ?_
          refine G_aload_n dX9_kind_70 rfl rfl ?_
          refine GM_get dX9_kind_71 fg_X9_104 ms_1 ?_
          refine G_iload_n dX9_kind_74 rfl rfl ?_
          refine GM_st dX9_kind_75 mt_4 ma_4 (by decide) ⟨hK.1, m_lt (N := 8) hK c41⟩ ?_
          refine G_aload_n dX9_kind_76 rfl rfl ?_
          refine G_dup dX9_kind_77 rfl ?_
          refine GM_get dX9_kind_78 fg_X9_104 ms_1 ?_
          refine G_iconst (v := 1) dX9_kind_81 rfl ?_
          refine G_iadd dX9_kind_82 ?_
          refine GM_put dX9_kind_83 fp_X9_104 ms_1 ?_
          refine G_aload_n dX9_kind_86 rfl rfl ?_
          refine GM_get dX9_kind_87 fg_X9_104 ms_1 ?_
          refine G_iconst (v := 1) dX9_kind_90 rfl ?_
          refine G_isub dX9_kind_91 ?_
          refine G_iret dX9_kind_92 rfl ?_
          exact m_close ((cif_t ⟨b1_1 c11, b1_1 c22, b1_1 c32, c41⟩).trans (Prod.ext rfl (Int32.add_sub_cancel (s0 1 0) 1).symm))
        · skip
          refine G_iconst (v := -1) dX9_kind_44 rfl ?_
          refine G_iret dX9_kind_45 rfl ?_
          first | exact m_close (cif_f (fun q => b1_0.mp c11 q.1)) | exact m_close (cif_f (fun q => b1_0.mp c22 q.2.1)) | exact m_close (cif_f (fun q => b1_0.mp c32 q.2.2.1)) | exact m_close (cif_f (fun q => q.2.2.2 c41))
set_option maxHeartbeats 4000000 in
set_option maxRecDepth 100000 in
theorem c9_thing {g : gT} {nq_ : Nat} {s : mS} {r : mH} (k : Int32) (hI : m_inv (m_set s 0 0 0)) : M g 2 0 0 kX9_thing [.ref 24, .int k] nq_ (hm s r) (m_S (.int (sp_thing (m_set s 0 0 0) k).2) nq_ (sp_thing (m_set s 0 0 0) k).1 r) := by
  refine M_of_G (by decide +kernel) (Nat.le_of_ble_eq_true rfl) ?_
  refine G_aload_n dX9_thing_0 rfl rfl ?_
  refine G_iconst (v := 0) dX9_thing_1 rfl ?_
  refine GM_put dX9_thing_2 fp_X9_97 ms_0 ?_
  generalize e0 : m_set s 0 0 0 = s0 at hI ⊢
  obtain ⟨hK, hT, hB, hP9, hA, hkf, haf, hbf⟩ := id hI
  refine G_aload_n dX9_thing_5 rfl rfl ?_
  refine G_iload_n dX9_thing_6 rfl rfl ?_
  refine GM_call (c9_isKind _) dX9_thing_7 (mc_X9_113 rfl) tw_1029 tw_30 rfl rfl rfl (Nat.le_of_ble_eq_true rfl) (Nat.le_of_ble_eq_true rfl) ?_
  rintro _ n9_ _ ⟨rfl, e9_, rfl⟩
  obtain rfl := e9_.symm
  refine G_if_eq (tgt := 22) dX9_thing_10 (by decide) (fun c10 => ?_) (fun c10 => ?_)
  · skip
    refine G_iconst (v := -1) dX9_thing_22 rfl ?_
    refine G_iret dX9_thing_23 rfl ?_
    first | exact m_close (cif_f (fun q => b1_0.mp c10 q.1)) | exact m_close (cif_f (fun q => q.2 c19))
  · skip
    refine G_aload_n dX9_thing_13 rfl rfl ?_
    refine GM_get dX9_thing_14 fg_X9_107 ms_5 ?_
    refine G_bipush (v := 12) dX9_thing_17 rfl ?_
    refine G_icmp_ne (tgt := 24) dX9_thing_19 (by decide) (fun c19 => ?_) (fun c19 => ?_)
    · skip
      refine G_aload_n dX9_thing_24 rfl rfl ?_
      refine GM_ref dX9_thing_25 fg_X9_19 (fun _ => rfl) ?_
      refine G_aload_n dX9_thing_28 rfl rfl ?_
      refine GM_get dX9_thing_29 fg_X9_107 ms_5 ?_
      refine G_iload_n dX9_thing_32 rfl rfl ?_
      refine GM_st dX9_thing_33 mt_6 ma_6 (by decide) ⟨hT.1, m_lt (N := 12) hT c19⟩ ?_
      refine G_aload_n dX9_thing_34 rfl rfl ?_
      refine GM_ref dX9_thing_35 fg_X9_22 (fun _ => rfl) ?_
      refine G_aload_n dX9_thing_38 rfl rfl ?_
      refine GM_get dX9_thing_39 fg_X9_107 ms_5 ?_
      refine G_iconst (v := -1) dX9_thing_42 rfl ?_
      refine GM_st dX9_thing_43 mt_7 ma_7 (by decide) ⟨hT.1, m_lt (N := 12) hT c19⟩ ?_
      refine G_aload_n dX9_thing_44 rfl rfl ?_
      refine G_dup dX9_thing_45 rfl ?_
      refine GM_get dX9_thing_46 fg_X9_107 ms_5 ?_
      refine G_iconst (v := 1) dX9_thing_49 rfl ?_
      refine G_iadd dX9_thing_50 ?_
      refine GM_put dX9_thing_51 fp_X9_107 ms_5 ?_
      refine G_aload_n dX9_thing_54 rfl rfl ?_
      refine GM_get dX9_thing_55 fg_X9_107 ms_5 ?_
      refine G_iconst (v := 1) dX9_thing_58 rfl ?_
      refine G_isub dX9_thing_59 ?_
      refine G_iret dX9_thing_60 rfl ?_
      exact m_close ((cif_t ⟨b1_1 c10, c19⟩).trans (Prod.ext rfl (Int32.add_sub_cancel (s0 5 0) 1).symm))
    · skip
      refine G_iconst (v := -1) dX9_thing_22 rfl ?_
      refine G_iret dX9_thing_23 rfl ?_
      first | exact m_close (cif_f (fun q => b1_0.mp c10 q.1)) | exact m_close (cif_f (fun q => q.2 c19))
set_option maxHeartbeats 4000000 in
set_option maxRecDepth 100000 in
theorem c9_member {g : gT} {nq_ : Nat} {s : mS} {r : mH}  (hI : m_inv (m_set s 0 0 0)) : M g 0 0 0 kX9_member [.ref 24] nq_ (hm s r) (m_S (.int (sp_member (m_set s 0 0 0)).2) nq_ (sp_member (m_set s 0 0 0)).1 r) := by
  refine M_of_G (by decide +kernel) (Nat.le_of_ble_eq_true rfl) ?_
  refine G_aload_n dX9_member_0 rfl rfl ?_
  refine G_iconst (v := 0) dX9_member_1 rfl ?_
  refine GM_put dX9_member_2 fp_X9_97 ms_0 ?_
  generalize e0 : m_set s 0 0 0 = s0 at hI ⊢
  obtain ⟨hK, hT, hB, hP9, hA, hkf, haf, hbf⟩ := id hI
  refine G_aload_n dX9_member_5 rfl rfl ?_
  refine GM_get dX9_member_6 fg_X9_110 ms_8 ?_
  refine G_bipush (v := 10) dX9_member_9 rfl ?_
  refine G_icmp_ne (tgt := 16) dX9_member_11 (by decide) (fun c11 => ?_) (fun c11 => ?_)
  · skip
    refine G_aload_n dX9_member_16 rfl rfl ?_
    refine G_dup dX9_member_17 rfl ?_
    refine GM_get dX9_member_18 fg_X9_110 ms_8 ?_
    refine G_iconst (v := 1) dX9_member_21 rfl ?_
    refine G_iadd dX9_member_22 ?_
    refine GM_put dX9_member_23 fp_X9_110 ms_8 ?_
    refine G_aload_n dX9_member_26 rfl rfl ?_
    refine GM_get dX9_member_27 fg_X9_110 ms_8 ?_
    refine G_iconst (v := 1) dX9_member_30 rfl ?_
    refine G_isub dX9_member_31 ?_
    refine G_iret dX9_member_32 rfl ?_
    exact m_close ((cif_t c11).trans (Prod.ext rfl (Int32.add_sub_cancel (s0 8 0) 1).symm))
  · skip
    refine G_iconst (v := -1) dX9_member_14 rfl ?_
    refine G_iret dX9_member_15 rfl ?_
    exact m_close (cif_f (fun q => q c11))
set_option maxHeartbeats 4000000 in
set_option maxRecDepth 100000 in
theorem c9_end {g : gT} {nq_ : Nat} {s : mS} {r : mH} (v : Int32) (hI : m_inv (m_set s 0 0 0)) : M g 1 0 0 kX9_end [.ref 24, .int v] nq_ (hm s r) (m_S (.int (sp_end (m_set s 0 0 0) v).2) nq_ (sp_end (m_set s 0 0 0) v).1 r) := by
  refine M_of_G (by decide +kernel) (Nat.le_of_ble_eq_true rfl) ?_
  refine G_aload_n dX9_end_0 rfl rfl ?_
  refine G_iconst (v := 0) dX9_end_1 rfl ?_
  refine GM_put dX9_end_2 fp_X9_97 ms_0 ?_
  generalize e0 : m_set s 0 0 0 = s0 at hI ⊢
  obtain ⟨hK, hT, hB, hP9, hA, hkf, haf, hbf⟩ := id hI
  refine G_iload_n dX9_end_5 rfl rfl ?_
  refine G_iconst (v := 0) dX9_end_6 rfl ?_
  refine G_aload_n dX9_end_7 rfl rfl ?_
  refine GM_get dX9_end_8 fg_X9_117 ms_13 ?_
  refine GM_calls (c9_within _ _ _) dX9_end_11 (mc_X9_100 rfl) tw_1021 rfl rfl (Nat.le_of_ble_eq_true rfl) (Nat.le_of_ble_eq_true rfl) ?_
  rintro _ n9_ _ ⟨rfl, e9_, rfl⟩
  obtain rfl := e9_.symm
  refine G_if_ne (tgt := 19) dX9_end_14 (by decide) (fun c14 => ?_) (fun c14 => ?_)
  · skip
    refine G_aload_n dX9_end_19 rfl rfl ?_
    refine G_iload_n dX9_end_20 rfl rfl ?_
    refine GM_put dX9_end_21 fp_X9_117 ms_13 ?_
    refine G_iload_n dX9_end_24 rfl rfl ?_
    refine G_iret dX9_end_25 rfl ?_
    exact m_close (cif_t (b1_1 c14))
  · skip
    refine G_iconst (v := -1) dX9_end_17 rfl ?_
    refine G_iret dX9_end_18 rfl ?_
    exact m_close (cif_f (b1_0.mp c14))
set_option maxHeartbeats 4000000 in
set_option maxRecDepth 100000 in
theorem c9_place {g : gT} {nq_ : Nat} {s : mS} {r : mH}  (hI : m_inv (m_set s 0 0 0)) : M g 0 0 0 kX9_place [.ref 24] nq_ (hm s r) (m_S (.int (((m_set s 0 0 0), (m_set s 0 0 0) 18 0)).2) nq_ (((m_set s 0 0 0), (m_set s 0 0 0) 18 0)).1 r) := by
  refine M_of_G (by decide +kernel) (Nat.le_of_ble_eq_true rfl) ?_
  refine G_aload_n dX9_place_0 rfl rfl ?_
  refine G_iconst (v := 0) dX9_place_1 rfl ?_
  refine GM_put dX9_place_2 fp_X9_97 ms_0 ?_
  generalize e0 : m_set s 0 0 0 = s0 at hI ⊢
  obtain ⟨hK, hT, hB, hP9, hA, hkf, haf, hbf⟩ := id hI
  refine G_aload_n dX9_place_5 rfl rfl ?_
  refine GM_get dX9_place_6 fg_X9_41 ms_18 ?_
  refine G_iret dX9_place_9 rfl ?_
  exact ⟨rfl, rfl, rfl⟩
set_option maxHeartbeats 4000000 in
set_option maxRecDepth 100000 in
theorem c9_counted {g : gT} {nq_ : Nat} {s : mS} {r : mH} (q : Int32) (hI : m_inv s) : M g 0 0 0 kX9_counted [.ref 24, .int q] nq_ (hm s r) (m_Q (.int (nI (ct (fun a => s 24 a = q) (mA s)))) nq_ (hm s r)) := by
  refine M_of_G (by decide +kernel) (Nat.le_of_ble_eq_true rfl) ?_
  obtain ⟨hK, hT, hB, hP9, hA, hkf, haf, hbf⟩ := id hI
  have loop : ∀ m i, i + m = mA s → G g 0 0 0 kX9_counted 4 [.ref 24, .int q, .int (nI (ct (fun a => s 24 a = q) i)), .int (nI i)] [] nq_ (hm s r) (m_Q (.int (nI (ct (fun a => s 24 a = q) (mA s)))) nq_ (hm s r)) := by
    intro m
    induction m with
    | zero =>
      intro i hi0 
      rw [Nat.add_zero] at hi0
      refine G_iload_n dX9_counted_4 rfl rfl ?_
      refine G_aload_n dX9_counted_5 rfl rfl ?_
      refine GM_get dX9_counted_6 fg_X9_171 ms_23 ?_
      refine G_icmp_ge (tgt := 36) dX9_counted_9 (by decide) (fun c9 => ?_) (fun c9 => ?_)
      · skip
        skip
        refine G_iload_n dX9_counted_36 rfl rfl ?_
        refine G_iret dX9_counted_37 rfl ?_
        exact ⟨by rw [hi0], rfl, rfl⟩
      · skip
        exact absurd (by rw [hA.1]; exact nI_le (Nat.le_of_eq hi0.symm) (by omega)) c9
    | succ m ih =>
      intro i hi0 
      refine G_iload_n dX9_counted_4 rfl rfl ?_
      refine G_aload_n dX9_counted_5 rfl rfl ?_
      refine GM_get dX9_counted_6 fg_X9_171 ms_23 ?_
      refine G_icmp_ge (tgt := 36) dX9_counted_9 (by decide) (fun c9 => ?_) (fun c9 => ?_)
      · skip
        exact absurd c9 (by rw [hA.1, nI_leI (by omega) (by omega)]; omega)
      · skip
        refine G_iload_n dX9_counted_12 rfl rfl ?_
        refine G_aload_n dX9_counted_13 rfl rfl ?_
        refine GM_ref dX9_counted_14 fg_X9_45 (fun _ => rfl) ?_
        refine G_iload_n dX9_counted_17 rfl rfl ?_
        refine GM_ld dX9_counted_18 mt_24 (by decide) ⟨rfl, by omega⟩ ?_
        refine G_iload_n dX9_counted_19 rfl rfl ?_
        refine G_icmp_ne (tgt := 27) dX9_counted_20 (by decide) (fun c20 => ?_) (fun c20 => ?_)
        · skip
          refine G_iconst (v := 0) dX9_counted_27 rfl ?_
          refine G_iadd dX9_counted_28 ?_
          rw [show nI (ct (fun a => s 24 a = q) i) + _ = nI (ct (fun a => s 24 a = q) (i + 1)) from by first | rw [ct_t c20, ← nI_1] | (rw [ct_f c20]; exact Int32.add_zero _)]
          refine G_istore_n dX9_counted_29 rfl (Nat.le_of_ble_eq_true rfl) rfl ?_
          refine G_iinc (b := nI (i + 1)) dX9_counted_30 rfl (nI_1 i) rfl ?_
          refine G_goto (tgt := 4) dX9_counted_33 (by decide) ?_
          exact ih (i + 1) (by omega)
        · skip
          refine G_iconst (v := 1) dX9_counted_23 rfl ?_
          refine G_goto (tgt := 28) dX9_counted_24 (by decide) ?_
          refine G_iadd dX9_counted_28 ?_
          rw [show nI (ct (fun a => s 24 a = q) i) + _ = nI (ct (fun a => s 24 a = q) (i + 1)) from by first | rw [ct_t c20, ← nI_1] | (rw [ct_f c20]; exact Int32.add_zero _)]
          refine G_istore_n dX9_counted_29 rfl (Nat.le_of_ble_eq_true rfl) rfl ?_
          refine G_iinc (b := nI (i + 1)) dX9_counted_30 rfl (nI_1 i) rfl ?_
          refine G_goto (tgt := 4) dX9_counted_33 (by decide) ?_
          exact ih (i + 1) (by omega)
  refine G_iconst (v := 0) dX9_counted_0 rfl ?_
  refine G_istore_n dX9_counted_1 rfl (Nat.le_of_ble_eq_true rfl) rfl ?_
  refine G_iconst (v := 0) dX9_counted_2 rfl ?_
  refine G_istore_n dX9_counted_3 rfl (Nat.le_of_ble_eq_true rfl) rfl ?_
  exact loop (mA s) 0 (by omega)
set_option maxHeartbeats 4000000 in
set_option maxRecDepth 100000 in
theorem c9_fits {g : gT} {nq_ : Nat} {s : mS} {r : mH} (k a : Nat) (hI : m_inv s) (hk9 : k < mK s) (ha9 : a < mA s) : M g 0 0 0 kX9_fits [.ref 24, .int (nI k), .int (nI a)] nq_ (hm s r) (m_Q (.int (b1 (s_fits s k a))) nq_ (hm s r)) := by
  refine M_of_G (by decide +kernel) (Nat.le_of_ble_eq_true rfl) ?_
  obtain ⟨hK, hT, hB, hP9, hA, hkf, haf, hbf⟩ := id hI
  refine G_iload_n dX9_fits_0 rfl rfl ?_
  refine G_aload_n dX9_fits_1 rfl rfl ?_
  refine GM_ref dX9_fits_2 fg_X9_57 (fun _ => rfl) ?_
  refine G_iload_n dX9_fits_5 rfl rfl ?_
  refine GM_ld dX9_fits_6 mt_28 (by decide) ⟨rfl, by omega⟩ ?_
  refine G_icmp_eq (tgt := 41) dX9_fits_7 (by decide) (fun c7 => ?_) (fun c7 => ?_)
  · skip
    refine G_iconst (v := 1) dX9_fits_41 rfl ?_
    refine G_goto (tgt := 46) dX9_fits_42 (by decide) ?_
    refine G_zret dX9_fits_46 rfl rfl ?_
    first | exact q_t (Or.inl c7) | exact q_t (Or.inr ⟨c16, c38⟩) | exact q_f (fun q => q.elim c7 (fun z => z.1 c16)) | exact q_f (fun q => q.elim c7 (fun z => c38 z.2))
  · skip
    refine G_aload_n dX9_fits_10 rfl rfl ?_
    refine GM_ref dX9_fits_11 fg_X9_60 (fun _ => rfl) ?_
    refine G_iload_n dX9_fits_14 rfl rfl ?_
    refine GM_ld dX9_fits_15 mt_29 (by decide) ⟨rfl, by omega⟩ ?_
    refine G_if_eq (tgt := 45) dX9_fits_16 (by decide) (fun c16 => ?_) (fun c16 => ?_)
    · skip
      refine G_iconst (v := 0) dX9_fits_45 rfl ?_
      refine G_zret dX9_fits_46 rfl rfl ?_
      first | exact q_t (Or.inl c7) | exact q_t (Or.inr ⟨c16, c38⟩) | exact q_f (fun q => q.elim c7 (fun z => z.1 c16)) | exact q_f (fun q => q.elim c7 (fun z => c38 z.2))
    · skip
      refine G_aload_n dX9_fits_19 rfl rfl ?_
      refine GM_ref dX9_fits_20 fg_X9_13 (fun _ => rfl) ?_
      refine G_iload_n dX9_fits_23 rfl rfl ?_
      refine GM_ld dX9_fits_24 mt_3 (by decide) ⟨rfl, by omega⟩ ?_
      refine G_aload_n dX9_fits_25 rfl rfl ?_
      refine GM_ref dX9_fits_26 fg_X9_60 (fun _ => rfl) ?_
      refine G_iload_n dX9_fits_29 rfl rfl ?_
      refine GM_ld dX9_fits_30 mt_29 (by decide) ⟨rfl, by omega⟩ ?_
      refine G_iand dX9_fits_31 ?_
      refine G_aload_n dX9_fits_32 rfl rfl ?_
      refine GM_ref dX9_fits_33 fg_X9_60 (fun _ => rfl) ?_
      refine G_iload_n dX9_fits_36 rfl rfl ?_
      refine GM_ld dX9_fits_37 mt_29 (by decide) ⟨rfl, by omega⟩ ?_
      refine G_icmp_ne (tgt := 45) dX9_fits_38 (by decide) (fun c38 => ?_) (fun c38 => ?_)
      · skip
        refine G_iconst (v := 0) dX9_fits_45 rfl ?_
        refine G_zret dX9_fits_46 rfl rfl ?_
        first | exact q_t (Or.inl c7) | exact q_t (Or.inr ⟨c16, c38⟩) | exact q_f (fun q => q.elim c7 (fun z => z.1 c16)) | exact q_f (fun q => q.elim c7 (fun z => c38 z.2))
      · skip
        refine G_iconst (v := 1) dX9_fits_41 rfl ?_
        refine G_goto (tgt := 46) dX9_fits_42 (by decide) ?_
        refine G_zret dX9_fits_46 rfl rfl ?_
        first | exact q_t (Or.inl c7) | exact q_t (Or.inr ⟨c16, c38⟩) | exact q_f (fun q => q.elim c7 (fun z => z.1 c16)) | exact q_f (fun q => q.elim c7 (fun z => c38 z.2))
set_option maxHeartbeats 4000000 in
set_option maxRecDepth 100000 in
theorem c9_outWith {g : gT} {nq_ : Nat} {s : mS} {r : mH} (t : Int32) (hI : m_inv s) : M g 0 0 0 kX9_outWith [.ref 24, .int t] nq_ (hm s r) (m_Q (.int (oI (s_ow s t))) nq_ (hm s r)) := by
  refine M_of_G (by decide +kernel) (Nat.le_of_ble_eq_true rfl) ?_
  obtain ⟨hK, hT, hB, hP9, hA, hkf, haf, hbf⟩ := id hI
  have loop : ∀ m i, i + m = mA s → (∀ j, j < i → ¬ (s 24 j = 3 ∧ s 25 j = t)) → G g 0 0 0 kX9_outWith 2 [.ref 24, .int t, .int (nI i)] [] nq_ (hm s r) (m_Q (.int (oI (s_ow s t))) nq_ (hm s r)) := by
    intro m
    induction m with
    | zero =>
      intro i hi0 hn
      rw [Nat.add_zero] at hi0
      refine G_iload_n dX9_outWith_2 rfl rfl ?_
      refine G_aload_n dX9_outWith_3 rfl rfl ?_
      refine GM_get dX9_outWith_4 fg_X9_171 ms_23 ?_
      refine G_icmp_ge (tgt := 38) dX9_outWith_7 (by decide) (fun c7 => ?_) (fun c7 => ?_)
      · skip
        skip
        refine G_iconst (v := -1) dX9_outWith_38 rfl ?_
        refine G_iret dX9_outWith_39 rfl ?_
        exact ⟨by rw [show s_ow s t = none from fnd_none (fun j hj => hn j (by omega))]; rfl, rfl, rfl⟩
      · skip
        exact absurd (by rw [hA.1]; exact nI_le (Nat.le_of_eq hi0.symm) (by omega)) c7
    | succ m ih =>
      intro i hi0 hn
      refine G_iload_n dX9_outWith_2 rfl rfl ?_
      refine G_aload_n dX9_outWith_3 rfl rfl ?_
      refine GM_get dX9_outWith_4 fg_X9_171 ms_23 ?_
      refine G_icmp_ge (tgt := 38) dX9_outWith_7 (by decide) (fun c7 => ?_) (fun c7 => ?_)
      · skip
        exact absurd c7 (by rw [hA.1, nI_leI (by omega) (by omega)]; omega)
      · skip
        refine G_aload_n dX9_outWith_10 rfl rfl ?_
        refine GM_ref dX9_outWith_11 fg_X9_45 (fun _ => rfl) ?_
        refine G_iload_n dX9_outWith_14 rfl rfl ?_
        refine GM_ld dX9_outWith_15 mt_24 (by decide) ⟨rfl, by omega⟩ ?_
        refine G_iconst (v := 3) dX9_outWith_16 rfl ?_
        refine G_icmp_ne (tgt := 32) dX9_outWith_17 (by decide) (fun c17 => ?_) (fun c17 => ?_)
        · skip
          refine G_iinc (b := nI (i + 1)) dX9_outWith_32 rfl (nI_1 i) rfl ?_
          refine G_goto (tgt := 2) dX9_outWith_35 (by decide) ?_
          refine ih (i + 1) (by omega) (fun j hj q => ?_)
          rcases Nat.lt_or_ge j i with z | z
          · exact hn j z q
          · have e : j = i := by omega
            subst e
            first | exact c17 q.1 | exact c27 q.2
        · skip
          refine G_aload_n dX9_outWith_20 rfl rfl ?_
          refine GM_ref dX9_outWith_21 fg_X9_48 (fun _ => rfl) ?_
          refine G_iload_n dX9_outWith_24 rfl rfl ?_
          refine GM_ld dX9_outWith_25 mt_25 (by decide) ⟨rfl, by omega⟩ ?_
          refine G_iload_n dX9_outWith_26 rfl rfl ?_
          refine G_icmp_ne (tgt := 32) dX9_outWith_27 (by decide) (fun c27 => ?_) (fun c27 => ?_)
          · skip
            refine G_iinc (b := nI (i + 1)) dX9_outWith_32 rfl (nI_1 i) rfl ?_
            refine G_goto (tgt := 2) dX9_outWith_35 (by decide) ?_
            refine ih (i + 1) (by omega) (fun j hj q => ?_)
            rcases Nat.lt_or_ge j i with z | z
            · exact hn j z q
            · have e : j = i := by omega
              subst e
              first | exact c17 q.1 | exact c27 q.2
          · skip
            refine G_iload_n dX9_outWith_30 rfl rfl ?_
            refine G_iret dX9_outWith_31 rfl ?_
            exact ⟨by rw [show s_ow s t = some i from fnd_at hn ⟨c17, c27⟩ (by omega)]; rfl, rfl, rfl⟩
  refine G_iconst (v := 0) dX9_outWith_0 rfl ?_
  refine G_istore_n dX9_outWith_1 rfl (Nat.le_of_ble_eq_true rfl) rfl ?_
  exact loop (mA s) 0 (by omega) (fun j hj => absurd hj (Nat.not_lt_zero j))
set_option maxHeartbeats 4000000 in
set_option maxRecDepth 100000 in
theorem c9_endOf {g : gT} {nq_ : Nat} {s : mS} {r : mH} (a : Nat) (hI : m_inv s) (ha9 : a < mA s) : M g 0 0 0 kX9_endOf [.ref 24, .int (nI a)] nq_ (hm s r) (m_Q (.int (s_end s a)) nq_ (hm s r)) := by
  refine M_of_G (by decide +kernel) (Nat.le_of_ble_eq_true rfl) ?_
  obtain ⟨hK, hT, hB, hP9, hA, hkf, haf, hbf⟩ := id hI
  refine G_aload_n dX9_endOf_0 rfl rfl ?_
  refine GM_ref dX9_endOf_1 fg_X9_45 (fun _ => rfl) ?_
  refine G_iload_n dX9_endOf_4 rfl rfl ?_
  refine GM_ld dX9_endOf_5 mt_24 (by decide) ⟨rfl, by omega⟩ ?_
  refine G_iconst (v := 4) dX9_endOf_6 rfl ?_
  refine G_icmp_ne (tgt := 19) dX9_endOf_7 (by decide) (fun c7 => ?_) (fun c7 => ?_)
  · skip
    refine G_aload_n dX9_endOf_19 rfl rfl ?_
    refine GM_ref dX9_endOf_20 fg_X9_45 (fun _ => rfl) ?_
    refine G_iload_n dX9_endOf_23 rfl rfl ?_
    refine GM_ld dX9_endOf_24 mt_24 (by decide) ⟨rfl, by omega⟩ ?_
    refine G_iconst (v := 3) dX9_endOf_25 rfl ?_
    refine G_icmp_ne (tgt := 49) dX9_endOf_26 (by decide) (fun c26 => ?_) (fun c26 => ?_)
    · skip
      refine G_aload_n dX9_endOf_49 rfl rfl ?_
      refine GM_ref dX9_endOf_50 fg_X9_66 (fun _ => rfl) ?_
      refine G_iload_n dX9_endOf_53 rfl rfl ?_
      refine GM_ld dX9_endOf_54 mt_31 (by decide) ⟨rfl, by omega⟩ ?_
      refine G_iret dX9_endOf_55 rfl ?_
      first | exact q_e (cif_t c7) | exact q_e ((cif_f c7).trans (cif_t ⟨c26, Int32.not_le.mp c39⟩)) | exact q_e ((cif_f c7).trans (cif_f (fun q => absurd q.2 (Int32.not_lt.mpr c39)))) | exact q_e ((cif_f c7).trans (cif_f (fun q => c26 q.1)))
    · skip
      refine G_aload_n dX9_endOf_29 rfl rfl ?_
      refine GM_get dX9_endOf_30 fg_X9_164 ms_11 ?_
      refine G_aload_n dX9_endOf_33 rfl rfl ?_
      refine GM_ref dX9_endOf_34 fg_X9_66 (fun _ => rfl) ?_
      refine G_iload_n dX9_endOf_37 rfl rfl ?_
      refine GM_ld dX9_endOf_38 mt_31 (by decide) ⟨rfl, by omega⟩ ?_
      refine G_icmp_le (tgt := 49) dX9_endOf_39 (by decide) (fun c39 => ?_) (fun c39 => ?_)
      · skip
        refine G_aload_n dX9_endOf_49 rfl rfl ?_
        refine GM_ref dX9_endOf_50 fg_X9_66 (fun _ => rfl) ?_
        refine G_iload_n dX9_endOf_53 rfl rfl ?_
        refine GM_ld dX9_endOf_54 mt_31 (by decide) ⟨rfl, by omega⟩ ?_
        refine G_iret dX9_endOf_55 rfl ?_
        first | exact q_e (cif_t c7) | exact q_e ((cif_f c7).trans (cif_t ⟨c26, Int32.not_le.mp c39⟩)) | exact q_e ((cif_f c7).trans (cif_f (fun q => absurd q.2 (Int32.not_lt.mpr c39)))) | exact q_e ((cif_f c7).trans (cif_f (fun q => c26 q.1)))
      · skip
        refine G_aload_n dX9_endOf_42 rfl rfl ?_
        refine GM_get dX9_endOf_43 fg_X9_164 ms_11 ?_
        refine G_goto (tgt := 55) dX9_endOf_46 (by decide) ?_
        refine G_iret dX9_endOf_55 rfl ?_
        first | exact q_e (cif_t c7) | exact q_e ((cif_f c7).trans (cif_t ⟨c26, Int32.not_le.mp c39⟩)) | exact q_e ((cif_f c7).trans (cif_f (fun q => absurd q.2 (Int32.not_lt.mpr c39)))) | exact q_e ((cif_f c7).trans (cif_f (fun q => c26 q.1)))
  · skip
    refine G_aload_n dX9_endOf_10 rfl rfl ?_
    refine GM_ref dX9_endOf_11 fg_X9_72 (fun _ => rfl) ?_
    refine G_iload_n dX9_endOf_14 rfl rfl ?_
    refine GM_ld dX9_endOf_15 mt_33 (by decide) ⟨rfl, by omega⟩ ?_
    refine G_goto (tgt := 55) dX9_endOf_16 (by decide) ?_
    refine G_iret dX9_endOf_55 rfl ?_
    first | exact q_e (cif_t c7) | exact q_e ((cif_f c7).trans (cif_t ⟨c26, Int32.not_le.mp c39⟩)) | exact q_e ((cif_f c7).trans (cif_f (fun q => absurd q.2 (Int32.not_lt.mpr c39)))) | exact q_e ((cif_f c7).trans (cif_f (fun q => c26 q.1)))
theorem lg_gt (a b : Int64) : 0 < lg_cmp a b ↔ ¬ a ≤ b := by
  unfold lg_cmp
  by_cases h : a > b
  · rw [if_pos h]; exact ⟨fun _ => Int64.not_le.mpr h, fun _ => by decide⟩
  · rw [if_neg h]
    have h2 : a ≤ b := Int64.not_lt.mp h
    by_cases e : a = b
    · rw [if_pos e]; exact ⟨fun q => absurd q (by decide), fun q => absurd h2 q⟩
    · rw [if_neg e]; exact ⟨fun q => absurd q (by decide), fun q => absurd h2 q⟩
set_option maxHeartbeats 4000000 in
set_option maxRecDepth 100000 in
theorem c9_areNear {g : gT} {nq_ : Nat} {h : mH} (f l f2 l2 : Int64) (c : Int32) : M g 0 0 0 kX9_areNear [.long f, .long l, .long f2, .long l2, .int c] nq_ h (m_Q (.int (b1 (s_near f l f2 l2 c))) nq_ h) := by
  refine M_of_G (by decide +kernel) (Nat.le_of_ble_eq_true rfl) ?_
  refine G_lload_n dX9_areNear_0 rfl rfl ?_
  refine G_lload dX9_areNear_1 rfl ?_
  refine G_iload dX9_areNear_3 rfl ?_
  refine G_i2l dX9_areNear_5 ?_
  refine G_ladd dX9_areNear_6 ?_
  refine G_lcmp dX9_areNear_7 ?_
  refine G_if_gt (tgt := 26) dX9_areNear_8 (by decide) (fun c8 => ?_) (fun c8 => ?_)
  · skip
    refine G_iconst (v := 0) dX9_areNear_26 rfl ?_
    refine G_zret dX9_areNear_27 rfl rfl ?_
    first | exact q_t ⟨Classical.not_not.mp (fun q => c8 ((lg_gt _ _).mpr q)), Classical.not_not.mp (fun q => c19 ((lg_gt _ _).mpr q))⟩ | exact q_f (fun q => (lg_gt _ _).mp c8 q.1) | exact q_f (fun q => (lg_gt _ _).mp c19 q.2)
  · skip
    refine G_lload dX9_areNear_11 rfl ?_
    refine G_lload_n dX9_areNear_13 rfl rfl ?_
    refine G_iload dX9_areNear_14 rfl ?_
    refine G_i2l dX9_areNear_16 ?_
    refine G_ladd dX9_areNear_17 ?_
    refine G_lcmp dX9_areNear_18 ?_
    refine G_if_gt (tgt := 26) dX9_areNear_19 (by decide) (fun c19 => ?_) (fun c19 => ?_)
    · skip
      refine G_iconst (v := 0) dX9_areNear_26 rfl ?_
      refine G_zret dX9_areNear_27 rfl rfl ?_
      first | exact q_t ⟨Classical.not_not.mp (fun q => c8 ((lg_gt _ _).mpr q)), Classical.not_not.mp (fun q => c19 ((lg_gt _ _).mpr q))⟩ | exact q_f (fun q => (lg_gt _ _).mp c8 q.1) | exact q_f (fun q => (lg_gt _ _).mp c19 q.2)
    · skip
      refine G_iconst (v := 1) dX9_areNear_22 rfl ?_
      refine G_goto (tgt := 27) dX9_areNear_23 (by decide) ?_
      refine G_zret dX9_areNear_27 rfl rfl ?_
      first | exact q_t ⟨Classical.not_not.mp (fun q => c8 ((lg_gt _ _).mpr q)), Classical.not_not.mp (fun q => c19 ((lg_gt _ _).mpr q))⟩ | exact q_f (fun q => (lg_gt _ _).mp c8 q.1) | exact q_f (fun q => (lg_gt _ _).mp c19 q.2)
set_option maxHeartbeats 4000000 in
set_option maxRecDepth 100000 in
theorem c9_wanted {g : gT} {nq_ : Nat} {s : mS} {r : mH} (k : Nat) (hI : m_inv s) (hk9 : k < 8) : M g 0 0 0 kX9_wanted [.ref 24, .int (nI k)] nq_ (hm s r) (m_Q (.int (s_want s k)) nq_ (hm s r)) := by
  refine M_of_G (by decide +kernel) (Nat.le_of_ble_eq_true rfl) ?_
  obtain ⟨hK, hT, hB, hP9, hA, hkf, haf, hbf⟩ := id hI
  refine G_aload_n dX9_wanted_0 rfl rfl ?_
  refine GM_get dX9_wanted_1 fg_X9_149 ms_14 ?_
  refine G_if_ne (tgt := 11) dX9_wanted_4 (by decide) (fun c4 => ?_) (fun c4 => ?_)
  · skip
    refine G_aload_n dX9_wanted_11 rfl rfl ?_
    refine GM_ref dX9_wanted_12 fg_X9_35 (fun _ => rfl) ?_
    refine G_iload_n dX9_wanted_15 rfl rfl ?_
    refine GM_ld dX9_wanted_16 mt_15 (by decide) ⟨rfl, by omega⟩ ?_
    refine G_iret dX9_wanted_17 rfl ?_
    first | exact q_e (cif_f c4) | exact q_e (cif_t c4)
  · skip
    refine G_iconst (v := -1) dX9_wanted_7 rfl ?_
    refine G_goto (tgt := 17) dX9_wanted_8 (by decide) ?_
    refine G_iret dX9_wanted_17 rfl ?_
    first | exact q_e (cif_f c4) | exact q_e (cif_t c4)
theorem lg_le {a b : Int64} (h : ¬ 0 < lg_cmp a b) : a ≤ b := Classical.not_not.mp (fun q => h ((lg_gt a b).mpr q))
set_option maxHeartbeats 4000000 in
set_option maxRecDepth 100000 in
theorem c9_isLawful {g : gT} {nq_ : Nat} {s : mS} {r : mH} (t : Nat) (l : Int32) (hI : m_inv s) (ht9 : t < mT s) : M g 1 0 0 kX9_isLawful [.ref 24, .int (nI t), .int l] nq_ (hm s r) (m_Q (.int (b1 (s_law s t l))) nq_ (hm s r)) := by
  refine M_of_G (by decide +kernel) (Nat.le_of_ble_eq_true rfl) ?_
  obtain ⟨hK, hT, hB, hP9, hA, hkf, haf, hbf⟩ := id hI
  refine G_aload_n dX9_isLawful_0 rfl rfl ?_
  refine G_aload_n dX9_isLawful_1 rfl rfl ?_
  refine GM_ref dX9_isLawful_2 fg_X9_19 (fun _ => rfl) ?_
  refine G_iload_n dX9_isLawful_5 rfl rfl ?_
  refine GM_ld dX9_isLawful_6 mt_6 (by decide) ⟨rfl, by omega⟩ ?_
  refine G_top (congrArg Value.int (hkf t ht9).1) ?_
  refine GM_call (c9_wanted (ix (s 6 t)) hI (by have := (hkf t ht9).2; omega)) dX9_isLawful_7 (mc_X9_155 rfl) tw_1093 tw_39 rfl rfl rfl (Nat.le_of_ble_eq_true rfl) (Nat.le_of_ble_eq_true rfl) ?_
  rintro _ n9_ _ ⟨rfl, e9_, rfl⟩
  obtain rfl := e9_.symm
  refine G_istore_n dX9_isLawful_10 rfl (Nat.le_of_ble_eq_true rfl) rfl ?_
  refine G_iload_n dX9_isLawful_11 rfl rfl ?_
  refine G_iconst (v := -1) dX9_isLawful_12 rfl ?_
  refine G_icmp_eq (tgt := 42) dX9_isLawful_13 (by decide) (fun c13 => ?_) (fun c13 => ?_)
  · skip
    refine G_iconst (v := 1) dX9_isLawful_42 rfl ?_
    refine G_goto (tgt := 47) dX9_isLawful_43 (by decide) ?_
    refine G_zret dX9_isLawful_47 rfl rfl ?_
    first | exact q_t (Or.inl c13) | exact q_t (Or.inr ⟨c23, lg_le c39⟩) | exact q_f (fun q => q.elim c13 (fun z => z.1 c23)) | exact q_f (fun q => q.elim c13 (fun z => (lg_gt _ _).mp c39 z.2))
  · skip
    refine G_aload_n dX9_isLawful_16 rfl rfl ?_
    refine GM_ref dX9_isLawful_17 fg_X9_22 (fun _ => rfl) ?_
    refine G_iload_n dX9_isLawful_20 rfl rfl ?_
    refine GM_ld dX9_isLawful_21 mt_7 (by decide) ⟨rfl, by omega⟩ ?_
    refine G_iconst (v := -1) dX9_isLawful_22 rfl ?_
    refine G_icmp_eq (tgt := 46) dX9_isLawful_23 (by decide) (fun c23 => ?_) (fun c23 => ?_)
    · skip
      refine G_iconst (v := 0) dX9_isLawful_46 rfl ?_
      refine G_zret dX9_isLawful_47 rfl rfl ?_
      first | exact q_t (Or.inl c13) | exact q_t (Or.inr ⟨c23, lg_le c39⟩) | exact q_f (fun q => q.elim c13 (fun z => z.1 c23)) | exact q_f (fun q => q.elim c13 (fun z => (lg_gt _ _).mp c39 z.2))
    · skip
      refine G_iload_n dX9_isLawful_26 rfl rfl ?_
      refine G_i2l dX9_isLawful_27 ?_
      refine G_aload_n dX9_isLawful_28 rfl rfl ?_
      refine GM_ref dX9_isLawful_29 fg_X9_22 (fun _ => rfl) ?_
      refine G_iload_n dX9_isLawful_32 rfl rfl ?_
      refine GM_ld dX9_isLawful_33 mt_7 (by decide) ⟨rfl, by omega⟩ ?_
      refine G_i2l dX9_isLawful_34 ?_
      refine G_lsub dX9_isLawful_35 ?_
      refine G_iload_n dX9_isLawful_36 rfl rfl ?_
      refine G_i2l dX9_isLawful_37 ?_
      refine G_lcmp dX9_isLawful_38 ?_
      refine G_if_gt (tgt := 46) dX9_isLawful_39 (by decide) (fun c39 => ?_) (fun c39 => ?_)
      · skip
        refine G_iconst (v := 0) dX9_isLawful_46 rfl ?_
        refine G_zret dX9_isLawful_47 rfl rfl ?_
        first | exact q_t (Or.inl c13) | exact q_t (Or.inr ⟨c23, lg_le c39⟩) | exact q_f (fun q => q.elim c13 (fun z => z.1 c23)) | exact q_f (fun q => q.elim c13 (fun z => (lg_gt _ _).mp c39 z.2))
      · skip
        refine G_iconst (v := 1) dX9_isLawful_42 rfl ?_
        refine G_goto (tgt := 47) dX9_isLawful_43 (by decide) ?_
        refine G_zret dX9_isLawful_47 rfl rfl ?_
        first | exact q_t (Or.inl c13) | exact q_t (Or.inr ⟨c23, lg_le c39⟩) | exact q_f (fun q => q.elim c13 (fun z => z.1 c23)) | exact q_f (fun q => q.elim c13 (fun z => (lg_gt _ _).mp c39 z.2))
set_option maxHeartbeats 4000000 in
set_option maxRecDepth 100000 in
theorem c9_isFreeFor {g : gT} {nq_ : Nat} {s : mS} {r : mH} (t : Nat) (f l b : Int32) (hI : m_inv s) (ht9 : t < mT s) : M g 1 0 0 kX9_isFreeFor [.ref 24, .int (nI t), .int f, .int l, .int b] nq_ (hm s r) (m_Q (.int (b1 (s_free s (nI t) f l b))) nq_ (hm s r)) := by
  refine M_of_G (by decide +kernel) (Nat.le_of_ble_eq_true rfl) ?_
  obtain ⟨hK, hT, hB, hP9, hA, hkf, haf, hbf⟩ := id hI
  have loop : ∀ m i, i + m = mA s → (∀ j, j < i → ¬ nI j = b → s_holds s j (nI t) → ¬ s_near f.toInt64 l.toInt64 (s 30 j).toInt64 (s_end s j).toInt64 (s_care s (nI t))) → G g 1 0 0 kX9_isFreeFor 3 [.ref 24, .int (nI t), .int f, .int l, .int b, .int (nI i)] [] nq_ (hm s r) (m_Q (.int (b1 (s_free s (nI t) f l b))) nq_ (hm s r)) := by
    intro m
    induction m with
    | zero =>
      intro i hi0 hn
      rw [Nat.add_zero] at hi0
      refine G_iload dX9_isFreeFor_3 rfl ?_
      refine G_aload_n dX9_isFreeFor_5 rfl rfl ?_
      refine GM_get dX9_isFreeFor_6 fg_X9_171 ms_23 ?_
      refine G_icmp_ge (tgt := 110) dX9_isFreeFor_9 (by decide) (fun c9 => ?_) (fun c9 => ?_)
      · skip
        skip
        refine G_iconst (v := 1) dX9_isFreeFor_110 rfl ?_
        refine G_zret dX9_isFreeFor_111 rfl rfl ?_
        exact q_t (fun j hj => hn j (by omega))
      · skip
        exact absurd (by rw [hA.1]; exact nI_le (Nat.le_of_eq hi0.symm) (by omega)) c9
    | succ m ih =>
      intro i hi0 hn
      refine G_iload dX9_isFreeFor_3 rfl ?_
      refine G_aload_n dX9_isFreeFor_5 rfl rfl ?_
      refine GM_get dX9_isFreeFor_6 fg_X9_171 ms_23 ?_
      refine G_icmp_ge (tgt := 110) dX9_isFreeFor_9 (by decide) (fun c9 => ?_) (fun c9 => ?_)
      · skip
        exact absurd c9 (by rw [hA.1, nI_leI (by omega) (by omega)]; omega)
      · skip
        refine G_iload dX9_isFreeFor_12 rfl ?_
        refine G_iload dX9_isFreeFor_14 rfl ?_
        refine G_icmp_eq (tgt := 104) dX9_isFreeFor_16 (by decide) (fun c16 => ?_) (fun c16 => ?_)
        · skip
          refine G_iinc (b := nI (i + 1)) dX9_isFreeFor_104 rfl (nI_1 i) rfl ?_
          refine G_goto (tgt := 3) dX9_isFreeFor_107 (by decide) ?_
          refine ih (i + 1) (by omega) (fun j hj q1 q2 q3 => ?_)
          rcases Nat.lt_or_ge j i with z | z
          · exact hn j z q1 q2 q3
          · have e : j = i := by omega
            subst e
            first | exact q1 c16 | exact c27 q2.1 | exact q2.2.elim c38 (fun z => z.elim c49 c60) | (have w := b1_0.mp c99; rw [s_care, show ix (nI t) = t from nI_clamp (by omega)] at q3; exact w q3)
        · skip
          refine G_aload_n dX9_isFreeFor_19 rfl rfl ?_
          refine GM_ref dX9_isFreeFor_20 fg_X9_48 (fun _ => rfl) ?_
          refine G_iload dX9_isFreeFor_23 rfl ?_
          refine GM_ld dX9_isFreeFor_25 mt_25 (by decide) ⟨rfl, by omega⟩ ?_
          refine G_iload_n dX9_isFreeFor_26 rfl rfl ?_
          refine G_icmp_ne (tgt := 104) dX9_isFreeFor_27 (by decide) (fun c27 => ?_) (fun c27 => ?_)
          · skip
            refine G_iinc (b := nI (i + 1)) dX9_isFreeFor_104 rfl (nI_1 i) rfl ?_
            refine G_goto (tgt := 3) dX9_isFreeFor_107 (by decide) ?_
            refine ih (i + 1) (by omega) (fun j hj q1 q2 q3 => ?_)
            rcases Nat.lt_or_ge j i with z | z
            · exact hn j z q1 q2 q3
            · have e : j = i := by omega
              subst e
              first | exact q1 c16 | exact c27 q2.1 | exact q2.2.elim c38 (fun z => z.elim c49 c60) | (have w := b1_0.mp c99; rw [s_care, show ix (nI t) = t from nI_clamp (by omega)] at q3; exact w q3)
          · skip
            refine G_aload_n dX9_isFreeFor_30 rfl rfl ?_
            refine GM_ref dX9_isFreeFor_31 fg_X9_45 (fun _ => rfl) ?_
            refine G_iload dX9_isFreeFor_34 rfl ?_
            refine GM_ld dX9_isFreeFor_36 mt_24 (by decide) ⟨rfl, by omega⟩ ?_
            refine G_iconst (v := 1) dX9_isFreeFor_37 rfl ?_
            refine G_icmp_eq (tgt := 66) dX9_isFreeFor_38 (by decide) (fun c38 => ?_) (fun c38 => ?_)
            · skip
              refine G_iload_n dX9_isFreeFor_66 rfl rfl ?_
              refine G_i2l dX9_isFreeFor_67 ?_
              refine G_iload_n dX9_isFreeFor_68 rfl rfl ?_
              refine G_i2l dX9_isFreeFor_69 ?_
              refine G_aload_n dX9_isFreeFor_70 rfl rfl ?_
              refine GM_ref dX9_isFreeFor_71 fg_X9_63 (fun _ => rfl) ?_
              refine G_iload dX9_isFreeFor_74 rfl ?_
              refine GM_ld dX9_isFreeFor_76 mt_30 (by decide) ⟨rfl, by omega⟩ ?_
              refine G_i2l dX9_isFreeFor_77 ?_
              refine G_aload_n dX9_isFreeFor_78 rfl rfl ?_
              refine G_iload dX9_isFreeFor_79 rfl ?_
              refine GM_call (c9_endOf i hI (by omega)) dX9_isFreeFor_81 (mc_X9_180 rfl) tw_1121 tw_44 rfl rfl rfl (Nat.le_of_ble_eq_true rfl) (Nat.le_of_ble_eq_true rfl) ?_
              rintro _ n9_ _ ⟨rfl, e9_, rfl⟩
              obtain rfl := e9_.symm
              refine G_i2l dX9_isFreeFor_84 ?_
              refine G_aload_n dX9_isFreeFor_85 rfl rfl ?_
              refine GM_ref dX9_isFreeFor_86 fg_X9_7 (fun _ => rfl) ?_
              refine G_aload_n dX9_isFreeFor_89 rfl rfl ?_
              refine GM_ref dX9_isFreeFor_90 fg_X9_19 (fun _ => rfl) ?_
              refine G_iload_n dX9_isFreeFor_93 rfl rfl ?_
              refine GM_ld dX9_isFreeFor_94 mt_6 (by decide) ⟨rfl, by omega⟩ ?_
              refine GM_ld dX9_isFreeFor_95 mt_2 (by decide) ⟨(hkf t ht9).1, by have := (hkf t ht9).2; omega⟩ ?_
              refine GM_calls (c9_areNear _ _ _ _ _) dX9_isFreeFor_96 (mc_X9_183 rfl) tw_1124 rfl rfl (Nat.le_of_ble_eq_true rfl) (Nat.le_of_ble_eq_true rfl) ?_
              rintro _ n9_ _ ⟨rfl, e9_, rfl⟩
              obtain rfl := e9_.symm
              refine G_if_eq (tgt := 104) dX9_isFreeFor_99 (by decide) (fun c99 => ?_) (fun c99 => ?_)
              · skip
                refine G_iinc (b := nI (i + 1)) dX9_isFreeFor_104 rfl (nI_1 i) rfl ?_
                refine G_goto (tgt := 3) dX9_isFreeFor_107 (by decide) ?_
                refine ih (i + 1) (by omega) (fun j hj q1 q2 q3 => ?_)
                rcases Nat.lt_or_ge j i with z | z
                · exact hn j z q1 q2 q3
                · have e : j = i := by omega
                  subst e
                  first | exact q1 c16 | exact c27 q2.1 | exact q2.2.elim c38 (fun z => z.elim c49 c60) | (have w := b1_0.mp c99; rw [s_care, show ix (nI t) = t from nI_clamp (by omega)] at q3; exact w q3)
              · skip
                refine G_iconst (v := 0) dX9_isFreeFor_102 rfl ?_
                refine G_zret dX9_isFreeFor_103 rfl rfl ?_
                exact ⟨by rw [b1_f (fun q => q i (by omega) c16 ⟨c27, by first | exact Or.inl c38 | exact Or.inr (Or.inl c49) | exact Or.inr (Or.inr c60)⟩ (by have := b1_1 c99; rw [s_care, show ix (nI t) = t from nI_clamp (by omega)]; exact this))], rfl, rfl⟩
            · skip
              refine G_aload_n dX9_isFreeFor_41 rfl rfl ?_
              refine GM_ref dX9_isFreeFor_42 fg_X9_45 (fun _ => rfl) ?_
              refine G_iload dX9_isFreeFor_45 rfl ?_
              refine GM_ld dX9_isFreeFor_47 mt_24 (by decide) ⟨rfl, by omega⟩ ?_
              refine G_iconst (v := 3) dX9_isFreeFor_48 rfl ?_
              refine G_icmp_eq (tgt := 66) dX9_isFreeFor_49 (by decide) (fun c49 => ?_) (fun c49 => ?_)
              · skip
                refine G_iload_n dX9_isFreeFor_66 rfl rfl ?_
                refine G_i2l dX9_isFreeFor_67 ?_
                refine G_iload_n dX9_isFreeFor_68 rfl rfl ?_
                refine G_i2l dX9_isFreeFor_69 ?_
                refine G_aload_n dX9_isFreeFor_70 rfl rfl ?_
                refine GM_ref dX9_isFreeFor_71 fg_X9_63 (fun _ => rfl) ?_
                refine G_iload dX9_isFreeFor_74 rfl ?_
                refine GM_ld dX9_isFreeFor_76 mt_30 (by decide) ⟨rfl, by omega⟩ ?_
                refine G_i2l dX9_isFreeFor_77 ?_
                refine G_aload_n dX9_isFreeFor_78 rfl rfl ?_
                refine G_iload dX9_isFreeFor_79 rfl ?_
                refine GM_call (c9_endOf i hI (by omega)) dX9_isFreeFor_81 (mc_X9_180 rfl) tw_1121 tw_44 rfl rfl rfl (Nat.le_of_ble_eq_true rfl) (Nat.le_of_ble_eq_true rfl) ?_
                rintro _ n9_ _ ⟨rfl, e9_, rfl⟩
                obtain rfl := e9_.symm
                refine G_i2l dX9_isFreeFor_84 ?_
                refine G_aload_n dX9_isFreeFor_85 rfl rfl ?_
                refine GM_ref dX9_isFreeFor_86 fg_X9_7 (fun _ => rfl) ?_
                refine G_aload_n dX9_isFreeFor_89 rfl rfl ?_
                refine GM_ref dX9_isFreeFor_90 fg_X9_19 (fun _ => rfl) ?_
                refine G_iload_n dX9_isFreeFor_93 rfl rfl ?_
                refine GM_ld dX9_isFreeFor_94 mt_6 (by decide) ⟨rfl, by omega⟩ ?_
                refine GM_ld dX9_isFreeFor_95 mt_2 (by decide) ⟨(hkf t ht9).1, by have := (hkf t ht9).2; omega⟩ ?_
                refine GM_calls (c9_areNear _ _ _ _ _) dX9_isFreeFor_96 (mc_X9_183 rfl) tw_1124 rfl rfl (Nat.le_of_ble_eq_true rfl) (Nat.le_of_ble_eq_true rfl) ?_
                rintro _ n9_ _ ⟨rfl, e9_, rfl⟩
                obtain rfl := e9_.symm
                refine G_if_eq (tgt := 104) dX9_isFreeFor_99 (by decide) (fun c99 => ?_) (fun c99 => ?_)
                · skip
                  refine G_iinc (b := nI (i + 1)) dX9_isFreeFor_104 rfl (nI_1 i) rfl ?_
                  refine G_goto (tgt := 3) dX9_isFreeFor_107 (by decide) ?_
                  refine ih (i + 1) (by omega) (fun j hj q1 q2 q3 => ?_)
                  rcases Nat.lt_or_ge j i with z | z
                  · exact hn j z q1 q2 q3
                  · have e : j = i := by omega
                    subst e
                    first | exact q1 c16 | exact c27 q2.1 | exact q2.2.elim c38 (fun z => z.elim c49 c60) | (have w := b1_0.mp c99; rw [s_care, show ix (nI t) = t from nI_clamp (by omega)] at q3; exact w q3)
                · skip
                  refine G_iconst (v := 0) dX9_isFreeFor_102 rfl ?_
                  refine G_zret dX9_isFreeFor_103 rfl rfl ?_
                  exact ⟨by rw [b1_f (fun q => q i (by omega) c16 ⟨c27, by first | exact Or.inl c38 | exact Or.inr (Or.inl c49) | exact Or.inr (Or.inr c60)⟩ (by have := b1_1 c99; rw [s_care, show ix (nI t) = t from nI_clamp (by omega)]; exact this))], rfl, rfl⟩
              · skip
                refine G_aload_n dX9_isFreeFor_52 rfl rfl ?_
                refine GM_ref dX9_isFreeFor_53 fg_X9_45 (fun _ => rfl) ?_
                refine G_iload dX9_isFreeFor_56 rfl ?_
                refine GM_ld dX9_isFreeFor_58 mt_24 (by decide) ⟨rfl, by omega⟩ ?_
                refine G_iconst (v := 4) dX9_isFreeFor_59 rfl ?_
                refine G_icmp_eq (tgt := 66) dX9_isFreeFor_60 (by decide) (fun c60 => ?_) (fun c60 => ?_)
                · skip
                  refine G_iload_n dX9_isFreeFor_66 rfl rfl ?_
                  refine G_i2l dX9_isFreeFor_67 ?_
                  refine G_iload_n dX9_isFreeFor_68 rfl rfl ?_
                  refine G_i2l dX9_isFreeFor_69 ?_
                  refine G_aload_n dX9_isFreeFor_70 rfl rfl ?_
                  refine GM_ref dX9_isFreeFor_71 fg_X9_63 (fun _ => rfl) ?_
                  refine G_iload dX9_isFreeFor_74 rfl ?_
                  refine GM_ld dX9_isFreeFor_76 mt_30 (by decide) ⟨rfl, by omega⟩ ?_
                  refine G_i2l dX9_isFreeFor_77 ?_
                  refine G_aload_n dX9_isFreeFor_78 rfl rfl ?_
                  refine G_iload dX9_isFreeFor_79 rfl ?_
                  refine GM_call (c9_endOf i hI (by omega)) dX9_isFreeFor_81 (mc_X9_180 rfl) tw_1121 tw_44 rfl rfl rfl (Nat.le_of_ble_eq_true rfl) (Nat.le_of_ble_eq_true rfl) ?_
                  rintro _ n9_ _ ⟨rfl, e9_, rfl⟩
                  obtain rfl := e9_.symm
                  refine G_i2l dX9_isFreeFor_84 ?_
                  refine G_aload_n dX9_isFreeFor_85 rfl rfl ?_
                  refine GM_ref dX9_isFreeFor_86 fg_X9_7 (fun _ => rfl) ?_
                  refine G_aload_n dX9_isFreeFor_89 rfl rfl ?_
                  refine GM_ref dX9_isFreeFor_90 fg_X9_19 (fun _ => rfl) ?_
                  refine G_iload_n dX9_isFreeFor_93 rfl rfl ?_
                  refine GM_ld dX9_isFreeFor_94 mt_6 (by decide) ⟨rfl, by omega⟩ ?_
                  refine GM_ld dX9_isFreeFor_95 mt_2 (by decide) ⟨(hkf t ht9).1, by have := (hkf t ht9).2; omega⟩ ?_
                  refine GM_calls (c9_areNear _ _ _ _ _) dX9_isFreeFor_96 (mc_X9_183 rfl) tw_1124 rfl rfl (Nat.le_of_ble_eq_true rfl) (Nat.le_of_ble_eq_true rfl) ?_
                  rintro _ n9_ _ ⟨rfl, e9_, rfl⟩
                  obtain rfl := e9_.symm
                  refine G_if_eq (tgt := 104) dX9_isFreeFor_99 (by decide) (fun c99 => ?_) (fun c99 => ?_)
                  · skip
                    refine G_iinc (b := nI (i + 1)) dX9_isFreeFor_104 rfl (nI_1 i) rfl ?_
                    refine G_goto (tgt := 3) dX9_isFreeFor_107 (by decide) ?_
                    refine ih (i + 1) (by omega) (fun j hj q1 q2 q3 => ?_)
                    rcases Nat.lt_or_ge j i with z | z
                    · exact hn j z q1 q2 q3
                    · have e : j = i := by omega
                      subst e
                      first | exact q1 c16 | exact c27 q2.1 | exact q2.2.elim c38 (fun z => z.elim c49 c60) | (have w := b1_0.mp c99; rw [s_care, show ix (nI t) = t from nI_clamp (by omega)] at q3; exact w q3)
                  · skip
                    refine G_iconst (v := 0) dX9_isFreeFor_102 rfl ?_
                    refine G_zret dX9_isFreeFor_103 rfl rfl ?_
                    exact ⟨by rw [b1_f (fun q => q i (by omega) c16 ⟨c27, by first | exact Or.inl c38 | exact Or.inr (Or.inl c49) | exact Or.inr (Or.inr c60)⟩ (by have := b1_1 c99; rw [s_care, show ix (nI t) = t from nI_clamp (by omega)]; exact this))], rfl, rfl⟩
                · skip
                  refine G_goto (tgt := 104) dX9_isFreeFor_63 (by decide) ?_
                  refine G_iinc (b := nI (i + 1)) dX9_isFreeFor_104 rfl (nI_1 i) rfl ?_
                  refine G_goto (tgt := 3) dX9_isFreeFor_107 (by decide) ?_
                  refine ih (i + 1) (by omega) (fun j hj q1 q2 q3 => ?_)
                  rcases Nat.lt_or_ge j i with z | z
                  · exact hn j z q1 q2 q3
                  · have e : j = i := by omega
                    subst e
                    first | exact q1 c16 | exact c27 q2.1 | exact q2.2.elim c38 (fun z => z.elim c49 c60) | (have w := b1_0.mp c99; rw [s_care, show ix (nI t) = t from nI_clamp (by omega)] at q3; exact w q3)
  refine G_iconst (v := 0) dX9_isFreeFor_0 rfl ?_
  refine G_istore dX9_isFreeFor_1 (Nat.le_of_ble_eq_true rfl) rfl ?_
  exact loop (mA s) 0 (by omega) (fun j hj => absurd hj (Nat.not_lt_zero j))
set_option maxHeartbeats 4000000 in
set_option maxRecDepth 100000 in
theorem c9_isLate {g : gT} {nq_ : Nat} {s : mS} {r : mH} (t : Int32) (hI : m_inv s) : M g 1 0 0 kX9_isLate [.ref 24, .int t] nq_ (hm s r) (m_Q (.int (b1 (s_late s t))) nq_ (hm s r)) := by
  refine M_of_G (by decide +kernel) (Nat.le_of_ble_eq_true rfl) ?_
  obtain ⟨hK, hT, hB, hP9, hA, hkf, haf, hbf⟩ := id hI
  refine G_aload_n dX9_isLate_0 rfl rfl ?_
  refine G_iload_n dX9_isLate_1 rfl rfl ?_
  refine GM_call (c9_outWith t hI) dX9_isLate_2 (mc_X9_161 rfl) tw_1081 tw_37 rfl rfl rfl (Nat.le_of_ble_eq_true rfl) (Nat.le_of_ble_eq_true rfl) ?_
  rintro _ n9_ _ ⟨rfl, e9_, rfl⟩
  obtain rfl := e9_.symm
  rcases ho : s_ow s t with _ | a
  · refine G_istore_n dX9_isLate_5 rfl (Nat.le_of_ble_eq_true rfl) rfl ?_
    refine G_iload_n dX9_isLate_6 rfl rfl ?_
    refine G_iconst (v := -1) dX9_isLate_7 rfl ?_
    refine G_icmp_eq (tgt := 28) dX9_isLate_8 (by decide) (fun c8 => ?_) (fun c8 => ?_)
    · skip
      refine G_iconst (v := 0) dX9_isLate_28 rfl ?_
      refine G_zret dX9_isLate_29 rfl rfl ?_
      exact q_f (fun q => by obtain ⟨z, z1, z2⟩ := q; rw [ho] at z1; cases z1)
    · skip
      exact absurd rfl c8
  have ha9 := (fnd_spec ho).1
  refine G_istore_n dX9_isLate_5 rfl (Nat.le_of_ble_eq_true rfl) rfl ?_
  refine G_iload_n dX9_isLate_6 rfl rfl ?_
  refine G_iconst (v := -1) dX9_isLate_7 rfl ?_
  refine G_icmp_eq (tgt := 28) dX9_isLate_8 (by decide) (fun c8 => ?_) (fun c8 => ?_)
  · skip
    exact absurd c8 (oI_ne (by omega))
  · skip
    refine G_aload_n dX9_isLate_11 rfl rfl ?_
    refine GM_ref dX9_isLate_12 fg_X9_66 (fun _ => rfl) ?_
    refine G_iload_n dX9_isLate_15 rfl rfl ?_
    refine GM_ld dX9_isLate_16 mt_31 (by decide) ⟨rfl, by omega⟩ ?_
    refine G_aload_n dX9_isLate_17 rfl rfl ?_
    refine GM_get dX9_isLate_18 fg_X9_164 ms_11 ?_
    refine G_icmp_ge (tgt := 28) dX9_isLate_21 (by decide) (fun c21 => ?_) (fun c21 => ?_)
    · skip
      refine G_iconst (v := 0) dX9_isLate_28 rfl ?_
      refine G_zret dX9_isLate_29 rfl rfl ?_
      first | exact q_t ⟨a, ho, Int32.not_le.mp c21⟩ | exact q_f (fun q => by obtain ⟨z, z1, z2⟩ := q; rw [ho] at z1; cases z1; exact absurd z2 (Int32.not_lt.mpr c21))
    · skip
      refine G_iconst (v := 1) dX9_isLate_24 rfl ?_
      refine G_goto (tgt := 29) dX9_isLate_25 (by decide) ?_
      refine G_zret dX9_isLate_29 rfl rfl ?_
      first | exact q_t ⟨a, ho, Int32.not_le.mp c21⟩ | exact q_f (fun q => by obtain ⟨z, z1, z2⟩ := q; rw [ho] at z1; cases z1; exact absurd z2 (Int32.not_lt.mpr c21))
set_option maxHeartbeats 4000000 in
set_option maxRecDepth 100000 in
theorem c9_isAhead {g : gT} {nq_ : Nat} {s : mS} {r : mH} (a b : Nat) (hI : m_inv s) (ha9 : a < mA s) (hb9 : b < mA s) : M g 0 0 0 kX9_isAhead [.ref 24, .int (nI a), .int (nI b)] nq_ (hm s r) (m_Q (.int (b1 (s_ahead s a b))) nq_ (hm s r)) := by
  refine M_of_G (by decide +kernel) (Nat.le_of_ble_eq_true rfl) ?_
  obtain ⟨hK, hT, hB, hP9, hA, hkf, haf, hbf⟩ := id hI
  refine G_aload_n dX9_isAhead_0 rfl rfl ?_
  refine GM_ref dX9_isAhead_1 fg_X9_69 (fun _ => rfl) ?_
  refine G_iload_n dX9_isAhead_4 rfl rfl ?_
  refine GM_ld dX9_isAhead_5 mt_32 (by decide) ⟨rfl, by omega⟩ ?_
  refine G_aload_n dX9_isAhead_6 rfl rfl ?_
  refine GM_ref dX9_isAhead_7 fg_X9_69 (fun _ => rfl) ?_
  refine G_iload_n dX9_isAhead_10 rfl rfl ?_
  refine GM_ld dX9_isAhead_11 mt_32 (by decide) ⟨rfl, by omega⟩ ?_
  refine G_icmp_eq (tgt := 38) dX9_isAhead_12 (by decide) (fun c12 => ?_) (fun c12 => ?_)
  · skip
    refine G_aload_n dX9_isAhead_38 rfl rfl ?_
    refine GM_ref dX9_isAhead_39 fg_X9_63 (fun _ => rfl) ?_
    refine G_iload_n dX9_isAhead_42 rfl rfl ?_
    refine GM_ld dX9_isAhead_43 mt_30 (by decide) ⟨rfl, by omega⟩ ?_
    refine G_aload_n dX9_isAhead_44 rfl rfl ?_
    refine GM_ref dX9_isAhead_45 fg_X9_63 (fun _ => rfl) ?_
    refine G_iload_n dX9_isAhead_48 rfl rfl ?_
    refine GM_ld dX9_isAhead_49 mt_30 (by decide) ⟨rfl, by omega⟩ ?_
    refine G_icmp_ge (tgt := 57) dX9_isAhead_50 (by decide) (fun c50 => ?_) (fun c50 => ?_)
    · skip
      refine G_iconst (v := 0) dX9_isAhead_57 rfl ?_
      refine G_zret dX9_isAhead_58 rfl rfl ?_
      first | exact q_t (Or.inl (Int32.not_le.mp c27)) | exact q_f (fun q => q.elim (fun z => absurd z (Int32.not_lt.mpr c27)) (fun z => c12 z.1)) | exact q_t (Or.inr ⟨c12, Int32.not_le.mp c50⟩) | exact q_f (fun q => q.elim (fun z => by rw [c12] at z; exact Int32.lt_irrefl z) (fun z => absurd z.2 (Int32.not_lt.mpr c50)))
    · skip
      refine G_iconst (v := 1) dX9_isAhead_53 rfl ?_
      refine G_goto (tgt := 58) dX9_isAhead_54 (by decide) ?_
      refine G_zret dX9_isAhead_58 rfl rfl ?_
      first | exact q_t (Or.inl (Int32.not_le.mp c27)) | exact q_f (fun q => q.elim (fun z => absurd z (Int32.not_lt.mpr c27)) (fun z => c12 z.1)) | exact q_t (Or.inr ⟨c12, Int32.not_le.mp c50⟩) | exact q_f (fun q => q.elim (fun z => by rw [c12] at z; exact Int32.lt_irrefl z) (fun z => absurd z.2 (Int32.not_lt.mpr c50)))
  · skip
    refine G_aload_n dX9_isAhead_15 rfl rfl ?_
    refine GM_ref dX9_isAhead_16 fg_X9_69 (fun _ => rfl) ?_
    refine G_iload_n dX9_isAhead_19 rfl rfl ?_
    refine GM_ld dX9_isAhead_20 mt_32 (by decide) ⟨rfl, by omega⟩ ?_
    refine G_aload_n dX9_isAhead_21 rfl rfl ?_
    refine GM_ref dX9_isAhead_22 fg_X9_69 (fun _ => rfl) ?_
    refine G_iload_n dX9_isAhead_25 rfl rfl ?_
    refine GM_ld dX9_isAhead_26 mt_32 (by decide) ⟨rfl, by omega⟩ ?_
    refine G_icmp_le (tgt := 34) dX9_isAhead_27 (by decide) (fun c27 => ?_) (fun c27 => ?_)
    · skip
      refine G_iconst (v := 0) dX9_isAhead_34 rfl ?_
      refine G_goto (tgt := 58) dX9_isAhead_35 (by decide) ?_
      refine G_zret dX9_isAhead_58 rfl rfl ?_
      first | exact q_t (Or.inl (Int32.not_le.mp c27)) | exact q_f (fun q => q.elim (fun z => absurd z (Int32.not_lt.mpr c27)) (fun z => c12 z.1)) | exact q_t (Or.inr ⟨c12, Int32.not_le.mp c50⟩) | exact q_f (fun q => q.elim (fun z => by rw [c12] at z; exact Int32.lt_irrefl z) (fun z => absurd z.2 (Int32.not_lt.mpr c50)))
    · skip
      refine G_iconst (v := 1) dX9_isAhead_30 rfl ?_
      refine G_goto (tgt := 58) dX9_isAhead_31 (by decide) ?_
      refine G_zret dX9_isAhead_58 rfl rfl ?_
      first | exact q_t (Or.inl (Int32.not_le.mp c27)) | exact q_f (fun q => q.elim (fun z => absurd z (Int32.not_lt.mpr c27)) (fun z => c12 z.1)) | exact q_t (Or.inr ⟨c12, Int32.not_le.mp c50⟩) | exact q_f (fun q => q.elim (fun z => by rw [c12] at z; exact Int32.lt_irrefl z) (fun z => absurd z.2 (Int32.not_lt.mpr c50)))
theorem ow_iff {s : mS} {t : Int32} (h : mA s ≤ 120) : oI (s_ow s t) = -1 ↔ s_ow s t = none := by
  cases e : s_ow s t with
  | none => exact ⟨fun _ => rfl, fun _ => rfl⟩
  | some a => exact ⟨fun q => absurd q (oI_ne (by have := (fnd_spec e).1; omega)), fun q => by cases q⟩
theorem m_ixe {t x : Int32} {T N : Nat} (h : x = nI T ∧ T ≤ N) (hN : N < 2 ^ 30) (c : wi t 0 (x - 1)) : ∃ j, j < T ∧ t = nI j := ⟨ix t, (m_ix h hN c).2, (m_ix h hN c).1⟩
theorem ixn {j : Nat} (h : j < 2 ^ 31) : ix (nI j) = j := nI_clamp h
set_option maxHeartbeats 4000000 in
set_option maxRecDepth 100000 in
theorem c9_look {g : gT} {nq_ : Nat} {s : mS} {r : mH} (t : Int32) (hI : m_inv (m_set s 0 0 0)) : M g 2 0 0 kX9_look [.ref 24, .int t] nq_ (hm s r) (m_S (.int (sp_look (m_set s 0 0 0) t).2) nq_ (sp_look (m_set s 0 0 0) t).1 r) := by
  refine M_of_G (by decide +kernel) (Nat.le_of_ble_eq_true rfl) ?_
  refine G_aload_n dX9_look_0 rfl rfl ?_
  refine G_iconst (v := 0) dX9_look_1 rfl ?_
  refine GM_put dX9_look_2 fp_X9_97 ms_0 ?_
  generalize e0 : m_set s 0 0 0 = s0 at hI ⊢
  obtain ⟨hK, hT, hB, hP9, hA, hkf, haf, hbf⟩ := id hI
  refine G_aload_n dX9_look_5 rfl rfl ?_
  refine G_iload_n dX9_look_6 rfl rfl ?_
  refine GM_call (c9_isThing _) dX9_look_7 (mc_X9_158 rfl) tw_1077 tw_36 rfl rfl rfl (Nat.le_of_ble_eq_true rfl) (Nat.le_of_ble_eq_true rfl) ?_
  rintro _ n9_ _ ⟨rfl, e9_, rfl⟩
  obtain rfl := e9_.symm
  refine G_if_eq (tgt := 22) dX9_look_10 (by decide) (fun c10 => ?_) (fun c10 => ?_)
  · skip
    refine G_iconst (v := 0) dX9_look_22 rfl ?_
    refine G_zret dX9_look_23 rfl rfl ?_
    first | exact m_close (cif_f (fun q => b1_0.mp c10 q.1)) | exact m_close (cif_f (fun q => c19 ((ow_iff hA.2).mpr q.2)))
  · skip
    obtain ⟨j, hj, rfl⟩ := m_ixe hT (by decide) (b1_1 c10)
    have ej : ix (nI j) = j := nI_clamp (by omega)
    refine G_aload_n dX9_look_13 rfl rfl ?_
    refine G_iload_n dX9_look_14 rfl rfl ?_
    refine GM_call (c9_outWith _ hI) dX9_look_15 (mc_X9_161 rfl) tw_1081 tw_37 rfl rfl rfl (Nat.le_of_ble_eq_true rfl) (Nat.le_of_ble_eq_true rfl) ?_
    rintro _ n9_ _ ⟨rfl, e9_, rfl⟩
    obtain rfl := e9_.symm
    refine G_iconst (v := -1) dX9_look_18 rfl ?_
    refine G_icmp_eq (tgt := 24) dX9_look_19 (by decide) (fun c19 => ?_) (fun c19 => ?_)
    · skip
      refine G_aload_n dX9_look_24 rfl rfl ?_
      refine GM_ref dX9_look_25 fg_X9_22 (fun _ => rfl) ?_
      refine G_iload_n dX9_look_28 rfl rfl ?_
      refine G_aload_n dX9_look_29 rfl rfl ?_
      refine GM_get dX9_look_30 fg_X9_164 ms_11 ?_
      refine GM_st dX9_look_33 mt_7 ma_7 (by decide) ⟨rfl, by omega⟩ ?_
      refine G_iconst (v := 1) dX9_look_34 rfl ?_
      refine G_zret dX9_look_35 rfl rfl ?_
      refine m_close ?_; rw [sp_look, ej]; exact cif_t ⟨b1_1 c10, (ow_iff hA.2).mp c19⟩
    · skip
      refine G_iconst (v := 0) dX9_look_22 rfl ?_
      refine G_zret dX9_look_23 rfl rfl ?_
      first | exact m_close (cif_f (fun q => b1_0.mp c10 q.1)) | exact m_close (cif_f (fun q => c19 ((ow_iff hA.2).mpr q.2)))
set_option maxHeartbeats 4000000 in
set_option maxRecDepth 100000 in
theorem c9_lawful {g : gT} {nq_ : Nat} {s : mS} {r : mH} (t l : Int32) (hI : m_inv (m_set s 0 0 0)) : M g 2 0 0 kX9_lawful [.ref 24, .int t, .int l] nq_ (hm s r) (m_S (.int (sp_lawful (m_set s 0 0 0) t l).2) nq_ (sp_lawful (m_set s 0 0 0) t l).1 r) := by
  refine M_of_G (by decide +kernel) (Nat.le_of_ble_eq_true rfl) ?_
  refine G_aload_n dX9_lawful_0 rfl rfl ?_
  refine G_iconst (v := 0) dX9_lawful_1 rfl ?_
  refine GM_put dX9_lawful_2 fp_X9_97 ms_0 ?_
  generalize e0 : m_set s 0 0 0 = s0 at hI ⊢
  obtain ⟨hK, hT, hB, hP9, hA, hkf, haf, hbf⟩ := id hI
  refine G_aload_n dX9_lawful_5 rfl rfl ?_
  refine G_iload_n dX9_lawful_6 rfl rfl ?_
  refine GM_call (c9_isThing _) dX9_lawful_7 (mc_X9_158 rfl) tw_1077 tw_36 rfl rfl rfl (Nat.le_of_ble_eq_true rfl) (Nat.le_of_ble_eq_true rfl) ?_
  rintro _ n9_ _ ⟨rfl, e9_, rfl⟩
  obtain rfl := e9_.symm
  refine G_if_eq (tgt := 21) dX9_lawful_10 (by decide) (fun c10 => ?_) (fun c10 => ?_)
  · skip
    refine G_iconst (v := -1) dX9_lawful_21 rfl ?_
    refine G_iret dX9_lawful_22 rfl ?_
    first | exact m_close (Prod.ext rfl (cif_f (fun q => b1_0.mp c10 q.1))) | exact m_close (Prod.ext rfl (cif_f (fun q => c18 q.2)))
  · skip
    obtain ⟨j, hj, rfl⟩ := m_ixe hT (by decide) (b1_1 c10)
    have ej : ix (nI j) = j := nI_clamp (by omega)
    refine G_iload_n dX9_lawful_13 rfl rfl ?_
    refine G_aload_n dX9_lawful_14 rfl rfl ?_
    refine GM_get dX9_lawful_15 fg_X9_164 ms_11 ?_
    refine G_icmp_ge (tgt := 23) dX9_lawful_18 (by decide) (fun c18 => ?_) (fun c18 => ?_)
    · skip
      refine G_aload_n dX9_lawful_23 rfl rfl ?_
      refine G_iload_n dX9_lawful_24 rfl rfl ?_
      refine G_iload_n dX9_lawful_25 rfl rfl ?_
      refine GM_call (c9_isLawful j _ hI hj) dX9_lawful_26 (mc_X9_167 rfl) tw_1089 tw_38 rfl rfl rfl (Nat.le_of_ble_eq_true rfl) (Nat.le_of_ble_eq_true rfl) ?_
      rintro _ n9_ _ ⟨rfl, e9_, rfl⟩
      obtain rfl := e9_.symm
      refine G_if_eq (tgt := 36) dX9_lawful_29 (by decide) (fun c29 => ?_) (fun c29 => ?_)
      · skip
        refine G_iconst (v := 0) dX9_lawful_36 rfl ?_
        refine G_iret dX9_lawful_37 rfl ?_
        refine m_close (Prod.ext rfl ?_); show cif _ (b1 (s_law s0 (ix (nI j)) l)) _ = _; rw [ej, cif_t ⟨b1_1 c10, c18⟩]; first | exact c29 | exact b1_t (b1_1 c29)
      · skip
        refine G_iconst (v := 1) dX9_lawful_32 rfl ?_
        refine G_goto (tgt := 37) dX9_lawful_33 (by decide) ?_
        refine G_iret dX9_lawful_37 rfl ?_
        refine m_close (Prod.ext rfl ?_); show cif _ (b1 (s_law s0 (ix (nI j)) l)) _ = _; rw [ej, cif_t ⟨b1_1 c10, c18⟩]; first | exact c29 | exact b1_t (b1_1 c29)
    · skip
      refine G_iconst (v := -1) dX9_lawful_21 rfl ?_
      refine G_iret dX9_lawful_22 rfl ?_
      first | exact m_close (Prod.ext rfl (cif_f (fun q => b1_0.mp c10 q.1))) | exact m_close (Prod.ext rfl (cif_f (fun q => c18 q.2)))
set_option maxHeartbeats 4000000 in
set_option maxRecDepth 100000 in
theorem c9_ask {g : gT} {nq_ : Nat} {s : mS} {r : mH} (m k q f l w : Int32) (hI : m_inv (m_set s 0 0 0)) : M g 2 0 0 kX9_ask [.ref 24, .int m, .int k, .int q, .int f, .int l, .int w] nq_ (hm s r) (m_S (.int (sp_ask (m_set s 0 0 0) m k q f l w).2) nq_ (sp_ask (m_set s 0 0 0) m k q f l w).1 r) := by
  refine M_of_G (by decide +kernel) (Nat.le_of_ble_eq_true rfl) ?_
  refine G_aload_n dX9_ask_0 rfl rfl ?_
  refine G_iconst (v := 0) dX9_ask_1 rfl ?_
  refine GM_put dX9_ask_2 fp_X9_97 ms_0 ?_
  generalize e0 : m_set s 0 0 0 = s0 at hI ⊢
  obtain ⟨hK, hT, hB, hP9, hA, hkf, haf, hbf⟩ := id hI
  refine G_aload_n dX9_ask_5 rfl rfl ?_
  refine G_iload_n dX9_ask_6 rfl rfl ?_
  refine GM_call (c9_isMember _) dX9_ask_7 (mc_X9_174 rfl) tw_1101 tw_40 rfl rfl rfl (Nat.le_of_ble_eq_true rfl) (Nat.le_of_ble_eq_true rfl) ?_
  rintro _ n9_ _ ⟨rfl, e9_, rfl⟩
  obtain rfl := e9_.symm
  refine G_if_eq (tgt := 88) dX9_ask_10 (by decide) (fun c10 => ?_) (fun c10 => ?_)
  · skip
    refine G_iconst (v := -1) dX9_ask_88 rfl ?_
    refine G_iret dX9_ask_89 rfl ?_
    exact m_close (cif_f (fun z => by obtain ⟨z1, z2, z3, z4, z5, z6, z7, z8, z9⟩ := z; first | exact b1_0.mp c10 z1 | exact b1_0.mp c18 z2 | exact b1_0.mp c29 z3 | exact b1_0.mp c48 z4 | exact b1_0.mp c65 z5 | exact absurd z6 (Int32.not_le.mpr c75) | exact b1_0.mp c85 z7))
  · skip
    refine G_aload_n dX9_ask_13 rfl rfl ?_
    refine G_iload_n dX9_ask_14 rfl rfl ?_
    refine GM_call (c9_isKind _) dX9_ask_15 (mc_X9_113 rfl) tw_1029 tw_30 rfl rfl rfl (Nat.le_of_ble_eq_true rfl) (Nat.le_of_ble_eq_true rfl) ?_
    rintro _ n9_ _ ⟨rfl, e9_, rfl⟩
    obtain rfl := e9_.symm
    refine G_if_eq (tgt := 88) dX9_ask_18 (by decide) (fun c18 => ?_) (fun c18 => ?_)
    · skip
      refine G_iconst (v := -1) dX9_ask_88 rfl ?_
      refine G_iret dX9_ask_89 rfl ?_
      exact m_close (cif_f (fun z => by obtain ⟨z1, z2, z3, z4, z5, z6, z7, z8, z9⟩ := z; first | exact b1_0.mp c10 z1 | exact b1_0.mp c18 z2 | exact b1_0.mp c29 z3 | exact b1_0.mp c48 z4 | exact b1_0.mp c65 z5 | exact absurd z6 (Int32.not_le.mpr c75) | exact b1_0.mp c85 z7))
    · skip
      refine G_iload_n dX9_ask_21 rfl rfl ?_
      refine G_iconst (v := 0) dX9_ask_22 rfl ?_
      refine G_sipush (v := 255) dX9_ask_23 rfl ?_
      refine GM_calls (c9_within _ _ _) dX9_ask_26 (mc_X9_100 rfl) tw_1021 rfl rfl (Nat.le_of_ble_eq_true rfl) (Nat.le_of_ble_eq_true rfl) ?_
      rintro _ n9_ _ ⟨rfl, e9_, rfl⟩
      obtain rfl := e9_.symm
      refine G_if_eq (tgt := 88) dX9_ask_29 (by decide) (fun c29 => ?_) (fun c29 => ?_)
      · skip
        refine G_iconst (v := -1) dX9_ask_88 rfl ?_
        refine G_iret dX9_ask_89 rfl ?_
        exact m_close (cif_f (fun z => by obtain ⟨z1, z2, z3, z4, z5, z6, z7, z8, z9⟩ := z; first | exact b1_0.mp c10 z1 | exact b1_0.mp c18 z2 | exact b1_0.mp c29 z3 | exact b1_0.mp c48 z4 | exact b1_0.mp c65 z5 | exact absurd z6 (Int32.not_le.mpr c75) | exact b1_0.mp c85 z7))
      · skip
        refine G_iload dX9_ask_32 rfl ?_
        refine G_aload_n dX9_ask_34 rfl rfl ?_
        refine GM_get dX9_ask_35 fg_X9_164 ms_11 ?_
        refine G_aload_n dX9_ask_38 rfl rfl ?_
        refine GM_get dX9_ask_39 fg_X9_164 ms_11 ?_
        refine G_bipush (v := 60) dX9_ask_42 rfl ?_
        refine G_iadd dX9_ask_44 ?_
        refine GM_calls (c9_within _ _ _) dX9_ask_45 (mc_X9_100 rfl) tw_1021 rfl rfl (Nat.le_of_ble_eq_true rfl) (Nat.le_of_ble_eq_true rfl) ?_
        rintro _ n9_ _ ⟨rfl, e9_, rfl⟩
        obtain rfl := e9_.symm
        refine G_if_eq (tgt := 88) dX9_ask_48 (by decide) (fun c48 => ?_) (fun c48 => ?_)
        · skip
          refine G_iconst (v := -1) dX9_ask_88 rfl ?_
          refine G_iret dX9_ask_89 rfl ?_
          exact m_close (cif_f (fun z => by obtain ⟨z1, z2, z3, z4, z5, z6, z7, z8, z9⟩ := z; first | exact b1_0.mp c10 z1 | exact b1_0.mp c18 z2 | exact b1_0.mp c29 z3 | exact b1_0.mp c48 z4 | exact b1_0.mp c65 z5 | exact absurd z6 (Int32.not_le.mpr c75) | exact b1_0.mp c85 z7))
        · skip
          refine G_iload dX9_ask_51 rfl ?_
          refine G_iload dX9_ask_53 rfl ?_
          refine G_aload_n dX9_ask_55 rfl rfl ?_
          refine GM_get dX9_ask_56 fg_X9_164 ms_11 ?_
          refine G_bipush (v := 60) dX9_ask_59 rfl ?_
          refine G_iadd dX9_ask_61 ?_
          refine GM_calls (c9_within _ _ _) dX9_ask_62 (mc_X9_100 rfl) tw_1021 rfl rfl (Nat.le_of_ble_eq_true rfl) (Nat.le_of_ble_eq_true rfl) ?_
          rintro _ n9_ _ ⟨rfl, e9_, rfl⟩
          obtain rfl := e9_.symm
          refine G_if_eq (tgt := 88) dX9_ask_65 (by decide) (fun c65 => ?_) (fun c65 => ?_)
          · skip
            refine G_iconst (v := -1) dX9_ask_88 rfl ?_
            refine G_iret dX9_ask_89 rfl ?_
            exact m_close (cif_f (fun z => by obtain ⟨z1, z2, z3, z4, z5, z6, z7, z8, z9⟩ := z; first | exact b1_0.mp c10 z1 | exact b1_0.mp c18 z2 | exact b1_0.mp c29 z3 | exact b1_0.mp c48 z4 | exact b1_0.mp c65 z5 | exact absurd z6 (Int32.not_le.mpr c75) | exact b1_0.mp c85 z7))
          · skip
            refine G_iload dX9_ask_68 rfl ?_
            refine G_iload dX9_ask_70 rfl ?_
            refine G_isub dX9_ask_72 ?_
            refine G_bipush (v := 14) dX9_ask_73 rfl ?_
            refine G_icmp_gt (tgt := 88) dX9_ask_75 (by decide) (fun c75 => ?_) (fun c75 => ?_)
            · skip
              refine G_iconst (v := -1) dX9_ask_88 rfl ?_
              refine G_iret dX9_ask_89 rfl ?_
              exact m_close (cif_f (fun z => by obtain ⟨z1, z2, z3, z4, z5, z6, z7, z8, z9⟩ := z; first | exact b1_0.mp c10 z1 | exact b1_0.mp c18 z2 | exact b1_0.mp c29 z3 | exact b1_0.mp c48 z4 | exact b1_0.mp c65 z5 | exact absurd z6 (Int32.not_le.mpr c75) | exact b1_0.mp c85 z7))
            · skip
              refine G_iload dX9_ask_78 rfl ?_
              refine G_iconst (v := 0) dX9_ask_80 rfl ?_
              refine G_iconst (v := 2) dX9_ask_81 rfl ?_
              refine GM_calls (c9_within _ _ _) dX9_ask_82 (mc_X9_100 rfl) tw_1021 rfl rfl (Nat.le_of_ble_eq_true rfl) (Nat.le_of_ble_eq_true rfl) ?_
              rintro _ n9_ _ ⟨rfl, e9_, rfl⟩
              obtain rfl := e9_.symm
              refine G_if_ne (tgt := 90) dX9_ask_85 (by decide) (fun c85 => ?_) (fun c85 => ?_)
              · skip
                refine G_aload_n dX9_ask_90 rfl rfl ?_
                refine G_iconst (v := 0) dX9_ask_91 rfl ?_
                refine GM_call (c9_counted _ hI) dX9_ask_92 (mc_X9_177 rfl) tw_1105 tw_41 rfl rfl rfl (Nat.le_of_ble_eq_true rfl) (Nat.le_of_ble_eq_true rfl) ?_
                rintro _ n9_ _ ⟨rfl, e9_, rfl⟩
                obtain rfl := e9_.symm
                refine G_iconst (v := 5) dX9_ask_95 rfl ?_
                refine G_icmp_eq (tgt := 108) dX9_ask_96 (by decide) (fun c96 => ?_) (fun c96 => ?_)
                · skip
                  refine G_iconst (v := -1) dX9_ask_108 rfl ?_
                  refine G_iret dX9_ask_109 rfl ?_
                  exact m_close (cif_f (fun z => by obtain ⟨z1, z2, z3, z4, z5, z6, z7, z8, z9⟩ := z; first | exact z8 c96 | exact z9 c105))
                · skip
                  refine G_aload_n dX9_ask_99 rfl rfl ?_
                  refine GM_get dX9_ask_100 fg_X9_171 ms_23 ?_
                  refine G_bipush (v := 120) dX9_ask_103 rfl ?_
                  refine G_icmp_ne (tgt := 110) dX9_ask_105 (by decide) (fun c105 => ?_) (fun c105 => ?_)
                  · skip
                    refine G_aload_n dX9_ask_110 rfl rfl ?_
                    refine GM_ref dX9_ask_111 fg_X9_45 (fun _ => rfl) ?_
                    refine G_aload_n dX9_ask_114 rfl rfl ?_
                    refine GM_get dX9_ask_115 fg_X9_171 ms_23 ?_
                    refine G_iconst (v := 0) dX9_ask_118 rfl ?_
                    refine GM_st dX9_ask_119 mt_24 ma_24 (by decide) ⟨hA.1, m_lt (N := 120) hA c105⟩ ?_
                    refine G_aload_n dX9_ask_120 rfl rfl ?_
                    refine GM_ref dX9_ask_121 fg_X9_48 (fun _ => rfl) ?_
                    refine G_aload_n dX9_ask_124 rfl rfl ?_
                    refine GM_get dX9_ask_125 fg_X9_171 ms_23 ?_
                    refine G_iconst (v := -1) dX9_ask_128 rfl ?_
                    refine GM_st dX9_ask_129 mt_25 ma_25 (by decide) ⟨hA.1, m_lt (N := 120) hA c105⟩ ?_
                    refine G_aload_n dX9_ask_130 rfl rfl ?_
                    refine GM_ref dX9_ask_131 fg_X9_54 (fun _ => rfl) ?_
                    refine G_aload_n dX9_ask_134 rfl rfl ?_
                    refine GM_get dX9_ask_135 fg_X9_171 ms_23 ?_
                    refine G_iload_n dX9_ask_138 rfl rfl ?_
                    refine GM_st dX9_ask_139 mt_27 ma_27 (by decide) ⟨hA.1, m_lt (N := 120) hA c105⟩ ?_
                    refine G_aload_n dX9_ask_140 rfl rfl ?_
                    refine GM_ref dX9_ask_141 fg_X9_57 (fun _ => rfl) ?_
                    refine G_aload_n dX9_ask_144 rfl rfl ?_
                    refine GM_get dX9_ask_145 fg_X9_171 ms_23 ?_
                    refine G_iload_n dX9_ask_148 rfl rfl ?_
                    refine GM_st dX9_ask_149 mt_28 ma_28 (by decide) ⟨hA.1, m_lt (N := 120) hA c105⟩ ?_
                    refine G_aload_n dX9_ask_150 rfl rfl ?_
                    refine GM_ref dX9_ask_151 fg_X9_60 (fun _ => rfl) ?_
                    refine G_aload_n dX9_ask_154 rfl rfl ?_
                    refine GM_get dX9_ask_155 fg_X9_171 ms_23 ?_
                    refine G_iload_n dX9_ask_158 rfl rfl ?_
                    refine GM_st dX9_ask_159 mt_29 ma_29 (by decide) ⟨hA.1, m_lt (N := 120) hA c105⟩ ?_
                    refine G_aload_n dX9_ask_160 rfl rfl ?_
                    refine GM_ref dX9_ask_161 fg_X9_63 (fun _ => rfl) ?_
                    refine G_aload_n dX9_ask_164 rfl rfl ?_
                    refine GM_get dX9_ask_165 fg_X9_171 ms_23 ?_
                    refine G_iload dX9_ask_168 rfl ?_
                    refine GM_st dX9_ask_170 mt_30 ma_30 (by decide) ⟨hA.1, m_lt (N := 120) hA c105⟩ ?_
                    refine G_aload_n dX9_ask_171 rfl rfl ?_
                    refine GM_ref dX9_ask_172 fg_X9_66 (fun _ => rfl) ?_
                    refine G_aload_n dX9_ask_175 rfl rfl ?_
                    refine GM_get dX9_ask_176 fg_X9_171 ms_23 ?_
                    refine G_iload dX9_ask_179 rfl ?_
                    refine GM_st dX9_ask_181 mt_31 ma_31 (by decide) ⟨hA.1, m_lt (N := 120) hA c105⟩ ?_
                    refine G_aload_n dX9_ask_182 rfl rfl ?_
                    refine GM_ref dX9_ask_183 fg_X9_69 (fun _ => rfl) ?_
                    refine G_aload_n dX9_ask_186 rfl rfl ?_
                    refine GM_get dX9_ask_187 fg_X9_171 ms_23 ?_
                    refine G_iload dX9_ask_190 rfl ?_
                    refine GM_st dX9_ask_192 mt_32 ma_32 (by decide) ⟨hA.1, m_lt (N := 120) hA c105⟩ ?_
                    refine G_aload_n dX9_ask_193 rfl rfl ?_
                    refine G_dup dX9_ask_194 rfl ?_
                    refine GM_get dX9_ask_195 fg_X9_171 ms_23 ?_
                    refine G_iconst (v := 1) dX9_ask_198 rfl ?_
                    refine G_iadd dX9_ask_199 ?_
                    refine GM_put dX9_ask_200 fp_X9_171 ms_23 ?_
                    refine G_aload_n dX9_ask_203 rfl rfl ?_
                    refine GM_get dX9_ask_204 fg_X9_171 ms_23 ?_
                    refine G_iconst (v := 1) dX9_ask_207 rfl ?_
                    refine G_isub dX9_ask_208 ?_
                    refine G_iret dX9_ask_209 rfl ?_
                    exact m_close ((cif_t ⟨b1_1 c10, b1_1 c18, b1_1 c29, b1_1 c48, b1_1 c65, Int32.not_lt.mp c75, b1_1 c85, c96, c105⟩).trans (Prod.ext rfl (Int32.add_sub_cancel (s0 23 0) 1).symm))
                  · skip
                    refine G_iconst (v := -1) dX9_ask_108 rfl ?_
                    refine G_iret dX9_ask_109 rfl ?_
                    exact m_close (cif_f (fun z => by obtain ⟨z1, z2, z3, z4, z5, z6, z7, z8, z9⟩ := z; first | exact z8 c96 | exact z9 c105))
              · skip
                refine G_iconst (v := -1) dX9_ask_88 rfl ?_
                refine G_iret dX9_ask_89 rfl ?_
                exact m_close (cif_f (fun z => by obtain ⟨z1, z2, z3, z4, z5, z6, z7, z8, z9⟩ := z; first | exact b1_0.mp c10 z1 | exact b1_0.mp c18 z2 | exact b1_0.mp c29 z3 | exact b1_0.mp c48 z4 | exact b1_0.mp c65 z5 | exact absurd z6 (Int32.not_le.mpr c75) | exact b1_0.mp c85 z7))
set_option maxHeartbeats 4000000 in
set_option maxRecDepth 100000 in
theorem c9_off {g : gT} {nq_ : Nat} {s : mS} {r : mH} (a : Int32) (hI : m_inv (m_set s 0 0 0)) : M g 1 0 0 kX9_off [.ref 24, .int a] nq_ (hm s r) (m_S (.int (sp_off (m_set s 0 0 0) a).2) nq_ (sp_off (m_set s 0 0 0) a).1 r) := by
  refine M_of_G (by decide +kernel) (Nat.le_of_ble_eq_true rfl) ?_
  refine G_aload_n dX9_off_0 rfl rfl ?_
  refine G_iconst (v := 0) dX9_off_1 rfl ?_
  refine GM_put dX9_off_2 fp_X9_97 ms_0 ?_
  generalize e0 : m_set s 0 0 0 = s0 at hI ⊢
  obtain ⟨hK, hT, hB, hP9, hA, hkf, haf, hbf⟩ := id hI
  refine G_iload_n dX9_off_5 rfl rfl ?_
  refine G_iconst (v := 0) dX9_off_6 rfl ?_
  refine G_aload_n dX9_off_7 rfl rfl ?_
  refine GM_get dX9_off_8 fg_X9_171 ms_23 ?_
  refine G_iconst (v := 1) dX9_off_11 rfl ?_
  refine G_isub dX9_off_12 ?_
  refine GM_calls (c9_within _ _ _) dX9_off_13 (mc_X9_100 rfl) tw_1021 rfl rfl (Nat.le_of_ble_eq_true rfl) (Nat.le_of_ble_eq_true rfl) ?_
  rintro _ n9_ _ ⟨rfl, e9_, rfl⟩
  obtain rfl := e9_.symm
  refine G_if_eq (tgt := 38) dX9_off_16 (by decide) (fun c16 => ?_) (fun c16 => ?_)
  · skip
    refine G_iconst (v := 0) dX9_off_38 rfl ?_
    refine G_zret dX9_off_39 rfl rfl ?_
    first | exact m_close (cif_f (fun q => b1_0.mp c16 q.1)) | (refine m_close ?_; rw [sp_off, ej]; exact cif_f (fun q => q.2.elim c25 c35))
  · skip
    obtain ⟨j, hj, rfl⟩ := m_ixe hA (by decide) (b1_1 c16)
    have ej : ix (nI j) = j := nI_clamp (by omega)
    refine G_aload_n dX9_off_19 rfl rfl ?_
    refine GM_ref dX9_off_20 fg_X9_45 (fun _ => rfl) ?_
    refine G_iload_n dX9_off_23 rfl rfl ?_
    refine GM_ld dX9_off_24 mt_24 (by decide) ⟨rfl, by omega⟩ ?_
    refine G_if_eq (tgt := 40) dX9_off_25 (by decide) (fun c25 => ?_) (fun c25 => ?_)
    · skip
      refine G_aload_n dX9_off_40 rfl rfl ?_
      refine GM_ref dX9_off_41 fg_X9_45 (fun _ => rfl) ?_
      refine G_iload_n dX9_off_44 rfl rfl ?_
      refine G_bipush (v := 6) dX9_off_45 rfl ?_
      refine GM_st dX9_off_47 mt_24 ma_24 (by decide) ⟨rfl, by omega⟩ ?_
      refine G_iconst (v := 1) dX9_off_48 rfl ?_
      refine G_zret dX9_off_49 rfl rfl ?_
      refine m_close ?_; rw [sp_off, ej]; first | exact cif_t ⟨b1_1 c16, Or.inl c25⟩ | exact cif_t ⟨b1_1 c16, Or.inr c35⟩
    · skip
      refine G_aload_n dX9_off_28 rfl rfl ?_
      refine GM_ref dX9_off_29 fg_X9_45 (fun _ => rfl) ?_
      refine G_iload_n dX9_off_32 rfl rfl ?_
      refine GM_ld dX9_off_33 mt_24 (by decide) ⟨rfl, by omega⟩ ?_
      refine G_iconst (v := 1) dX9_off_34 rfl ?_
      refine G_icmp_eq (tgt := 40) dX9_off_35 (by decide) (fun c35 => ?_) (fun c35 => ?_)
      · skip
        refine G_aload_n dX9_off_40 rfl rfl ?_
        refine GM_ref dX9_off_41 fg_X9_45 (fun _ => rfl) ?_
        refine G_iload_n dX9_off_44 rfl rfl ?_
        refine G_bipush (v := 6) dX9_off_45 rfl ?_
        refine GM_st dX9_off_47 mt_24 ma_24 (by decide) ⟨rfl, by omega⟩ ?_
        refine G_iconst (v := 1) dX9_off_48 rfl ?_
        refine G_zret dX9_off_49 rfl rfl ?_
        refine m_close ?_; rw [sp_off, ej]; first | exact cif_t ⟨b1_1 c16, Or.inl c25⟩ | exact cif_t ⟨b1_1 c16, Or.inr c35⟩
      · skip
        refine G_iconst (v := 0) dX9_off_38 rfl ?_
        refine G_zret dX9_off_39 rfl rfl ?_
        first | exact m_close (cif_f (fun q => b1_0.mp c16 q.1)) | (refine m_close ?_; rw [sp_off, ej]; exact cif_f (fun q => q.2.elim c25 c35))
set_option maxHeartbeats 4000000 in
set_option maxRecDepth 100000 in
theorem c9_out {g : gT} {nq_ : Nat} {s : mS} {r : mH} (a : Int32) (hI : m_inv (m_set s 0 0 0)) : M g 2 0 0 kX9_out [.ref 24, .int a] nq_ (hm s r) (m_S (.int (sp_out (m_set s 0 0 0) a).2) nq_ (sp_out (m_set s 0 0 0) a).1 r) := by
  refine M_of_G (by decide +kernel) (Nat.le_of_ble_eq_true rfl) ?_
  refine G_aload_n dX9_out_0 rfl rfl ?_
  refine G_iconst (v := 0) dX9_out_1 rfl ?_
  refine GM_put dX9_out_2 fp_X9_97 ms_0 ?_
  generalize e0 : m_set s 0 0 0 = s0 at hI ⊢
  obtain ⟨hK, hT, hB, hP9, hA, hkf, haf, hbf⟩ := id hI
  refine G_iload_n dX9_out_5 rfl rfl ?_
  refine G_iconst (v := 0) dX9_out_6 rfl ?_
  refine G_aload_n dX9_out_7 rfl rfl ?_
  refine GM_get dX9_out_8 fg_X9_171 ms_23 ?_
  refine G_iconst (v := 1) dX9_out_11 rfl ?_
  refine G_isub dX9_out_12 ?_
  refine GM_calls (c9_within _ _ _) dX9_out_13 (mc_X9_100 rfl) tw_1021 rfl rfl (Nat.le_of_ble_eq_true rfl) (Nat.le_of_ble_eq_true rfl) ?_
  rintro _ n9_ _ ⟨rfl, e9_, rfl⟩
  obtain rfl := e9_.symm
  refine G_if_eq (tgt := 29) dX9_out_16 (by decide) (fun c16 => ?_) (fun c16 => ?_)
  · skip
    refine G_iconst (v := -1) dX9_out_29 rfl ?_
    refine G_iret dX9_out_30 rfl ?_
    first | exact m_close (cif_f (fun q => b1_0.mp c16 q.1)) | (refine m_close ?_; rw [sp_out, ej]; exact cif_f (fun q => c26 q.2))
  · skip
    obtain ⟨j, hj, rfl⟩ := m_ixe hA (by decide) (b1_1 c16)
    have ej : ix (nI j) = j := nI_clamp (by omega)
    have hw := (haf j hj).2.1
    refine G_aload_n dX9_out_19 rfl rfl ?_
    refine GM_ref dX9_out_20 fg_X9_45 (fun _ => rfl) ?_
    refine G_iload_n dX9_out_23 rfl rfl ?_
    refine GM_ld dX9_out_24 mt_24 (by decide) ⟨rfl, by omega⟩ ?_
    refine G_iconst (v := 1) dX9_out_25 rfl ?_
    refine G_icmp_eq (tgt := 31) dX9_out_26 (by decide) (fun c26 => ?_) (fun c26 => ?_)
    · skip
      have ho := hbf j hj (Or.inl c26)
      refine G_aload_n dX9_out_31 rfl rfl ?_
      refine GM_ref dX9_out_32 fg_X9_48 (fun _ => rfl) ?_
      refine G_iload_n dX9_out_35 rfl rfl ?_
      refine GM_ld dX9_out_36 mt_25 (by decide) ⟨rfl, by omega⟩ ?_
      refine G_istore_n dX9_out_37 rfl (Nat.le_of_ble_eq_true rfl) rfl ?_
      refine G_aload_n dX9_out_38 rfl rfl ?_
      refine GM_get dX9_out_39 fg_X9_164 ms_11 ?_
      refine G_aload_n dX9_out_42 rfl rfl ?_
      refine GM_ref dX9_out_43 fg_X9_63 (fun _ => rfl) ?_
      refine G_iload_n dX9_out_46 rfl rfl ?_
      refine GM_ld dX9_out_47 mt_30 (by decide) ⟨rfl, by omega⟩ ?_
      refine G_icmp_ge (tgt := 54) dX9_out_48 (by decide) (fun c48 => ?_) (fun c48 => ?_)
      · skip
        refine G_aload_n dX9_out_54 rfl rfl ?_
        refine GM_ref dX9_out_55 fg_X9_25 (fun _ => rfl) ?_
        refine G_aload_n dX9_out_58 rfl rfl ?_
        refine GM_ref dX9_out_59 fg_X9_54 (fun _ => rfl) ?_
        refine G_iload_n dX9_out_62 rfl rfl ?_
        refine GM_ld dX9_out_63 mt_27 (by decide) ⟨rfl, by omega⟩ ?_
        refine GM_ld dX9_out_64 mt_9 (by decide) ⟨hw.1, by have := hw.2; omega⟩ ?_
        refine G_bipush (v := 40) dX9_out_65 rfl ?_
        refine G_icmp_le (tgt := 73) dX9_out_67 (by decide) (fun c67 => ?_) (fun c67 => ?_)
        · skip
          refine G_aload_n dX9_out_73 rfl rfl ?_
          refine G_iload_n dX9_out_74 rfl rfl ?_
          refine GM_call (c9_outWith _ hI) dX9_out_75 (mc_X9_161 rfl) tw_1081 tw_37 rfl rfl rfl (Nat.le_of_ble_eq_true rfl) (Nat.le_of_ble_eq_true rfl) ?_
          rintro _ n9_ _ ⟨rfl, e9_, rfl⟩
          obtain rfl := e9_.symm
          refine G_iconst (v := -1) dX9_out_78 rfl ?_
          refine G_icmp_eq (tgt := 85) dX9_out_79 (by decide) (fun c79 => ?_) (fun c79 => ?_)
          · skip
            refine G_aload_n dX9_out_85 rfl rfl ?_
            refine G_iload_n dX9_out_86 rfl rfl ?_
            refine G_aload_n dX9_out_87 rfl rfl ?_
            refine GM_ref dX9_out_88 fg_X9_66 (fun _ => rfl) ?_
            refine G_iload_n dX9_out_91 rfl rfl ?_
            refine GM_ld dX9_out_92 mt_31 (by decide) ⟨rfl, by omega⟩ ?_
            refine GM_call (st := []) (c9_isLawful (ix (s0 25 j)) _ hI ho.2) dX9_out_93 (mc_X9_167 rfl) tw_1089 tw_38 rfl (by rw [← ho.1]; rfl) rfl (Nat.le_of_ble_eq_true rfl) (Nat.le_of_ble_eq_true rfl) ?_
            rintro _ n9_ _ ⟨rfl, e9_, rfl⟩
            obtain rfl := e9_.symm
            refine G_if_ne (tgt := 102) dX9_out_96 (by decide) (fun c96 => ?_) (fun c96 => ?_)
            · skip
              refine G_iconst (v := 0) dX9_out_102 rfl ?_
              refine G_istore_n dX9_out_103 rfl (Nat.le_of_ble_eq_true rfl) rfl ?_
              have loop : ∀ m i, i + m = mA s0 → (∀ b, b < i → ¬ (s0 25 b = s0 25 j ∧ s0 24 b = 4 ∧ s0 11 0 ≤ s0 33 b + s_care s0 (s0 25 j))) → G g 2 0 0 kX9_out 104 [.ref 24, .int (nI j), .int (s0 25 j), .int (nI i)] [] nq_ (hm s0 r) (m_S (.int (sp_out s0 (nI j)).2) nq_ (sp_out s0 (nI j)).1 r) := by
                intro m
                induction m with
                | zero =>
                  intro i hi0 hn
                  rw [Nat.add_zero] at hi0
                  refine G_iload_n dX9_out_104 rfl rfl ?_
                  refine G_aload_n dX9_out_105 rfl rfl ?_
                  refine GM_get dX9_out_106 fg_X9_171 ms_23 ?_
                  refine G_icmp_ge (tgt := 166) dX9_out_109 (by decide) (fun c109 => ?_) (fun c109 => ?_)
                  · skip
                    skip
                    refine G_aload_n dX9_out_166 rfl rfl ?_
                    refine GM_ref dX9_out_167 fg_X9_45 (fun _ => rfl) ?_
                    refine G_iload_n dX9_out_170 rfl rfl ?_
                    refine G_iconst (v := 3) dX9_out_171 rfl ?_
                    refine GM_st dX9_out_172 mt_24 ma_24 (by decide) ⟨rfl, by omega⟩ ?_
                    refine G_iconst (v := 0) dX9_out_173 rfl ?_
                    refine G_iret dX9_out_174 rfl ?_
                    refine m_close ?_; rw [sp_out, ej, cif_t ⟨b1_1 c16, c26⟩, cif_f (Int32.not_lt.mpr c48), cif_f (Int32.not_lt.mpr c67), cif_f (fun q => q ((ow_iff hA.2).mp c79)), cif_f (fun q => q (b1_1 c96))]; exact cif_f (fun q => by obtain ⟨b, z1, z2⟩ := q; exact hn b (by omega) z2)
                  · skip
                    exact absurd (by rw [hA.1]; exact nI_le (Nat.le_of_eq hi0.symm) (by omega)) c109
                | succ m ih =>
                  intro i hi0 hn
                  refine G_iload_n dX9_out_104 rfl rfl ?_
                  refine G_aload_n dX9_out_105 rfl rfl ?_
                  refine GM_get dX9_out_106 fg_X9_171 ms_23 ?_
                  refine G_icmp_ge (tgt := 166) dX9_out_109 (by decide) (fun c109 => ?_) (fun c109 => ?_)
                  · skip
                    exact absurd c109 (by rw [hA.1, nI_leI (by omega) (by omega)]; omega)
                  · skip
                    refine G_aload_n dX9_out_112 rfl rfl ?_
                    refine GM_ref dX9_out_113 fg_X9_48 (fun _ => rfl) ?_
                    refine G_iload_n dX9_out_116 rfl rfl ?_
                    refine GM_ld dX9_out_117 mt_25 (by decide) ⟨rfl, by omega⟩ ?_
                    refine G_iload_n dX9_out_118 rfl rfl ?_
                    refine G_icmp_ne (tgt := 160) dX9_out_119 (by decide) (fun c119 => ?_) (fun c119 => ?_)
                    · skip
                      refine G_iinc (b := nI (i + 1)) dX9_out_160 rfl (nI_1 i) rfl ?_
                      refine G_goto (tgt := 104) dX9_out_163 (by decide) ?_
                      refine ih (i + 1) (by omega) (fun b hb q => ?_)
                      rcases Nat.lt_or_ge b i with z | z
                      · exact hn b z q
                      · have e : b = i := by omega
                        subst e
                        first | exact c119 q.1 | exact c129 q.2.1 | exact absurd q.2.2 (Int32.not_le.mpr c154)
                    · skip
                      refine G_aload_n dX9_out_122 rfl rfl ?_
                      refine GM_ref dX9_out_123 fg_X9_45 (fun _ => rfl) ?_
                      refine G_iload_n dX9_out_126 rfl rfl ?_
                      refine GM_ld dX9_out_127 mt_24 (by decide) ⟨rfl, by omega⟩ ?_
                      refine G_iconst (v := 4) dX9_out_128 rfl ?_
                      refine G_icmp_ne (tgt := 160) dX9_out_129 (by decide) (fun c129 => ?_) (fun c129 => ?_)
                      · skip
                        refine G_iinc (b := nI (i + 1)) dX9_out_160 rfl (nI_1 i) rfl ?_
                        refine G_goto (tgt := 104) dX9_out_163 (by decide) ?_
                        refine ih (i + 1) (by omega) (fun b hb q => ?_)
                        rcases Nat.lt_or_ge b i with z | z
                        · exact hn b z q
                        · have e : b = i := by omega
                          subst e
                          first | exact c119 q.1 | exact c129 q.2.1 | exact absurd q.2.2 (Int32.not_le.mpr c154)
                      · skip
                        refine G_aload_n dX9_out_132 rfl rfl ?_
                        refine GM_get dX9_out_133 fg_X9_164 ms_11 ?_
                        refine G_aload_n dX9_out_136 rfl rfl ?_
                        refine GM_ref dX9_out_137 fg_X9_72 (fun _ => rfl) ?_
                        refine G_iload_n dX9_out_140 rfl rfl ?_
                        refine GM_ld dX9_out_141 mt_33 (by decide) ⟨rfl, by omega⟩ ?_
                        refine G_aload_n dX9_out_142 rfl rfl ?_
                        refine GM_ref dX9_out_143 fg_X9_7 (fun _ => rfl) ?_
                        refine G_aload_n dX9_out_146 rfl rfl ?_
                        refine GM_ref dX9_out_147 fg_X9_19 (fun _ => rfl) ?_
                        refine G_iload_n dX9_out_150 rfl rfl ?_
                        refine GM_ld dX9_out_151 mt_6 (by decide) ⟨ho.1, by have := ho.2; omega⟩ ?_
                        refine GM_ld dX9_out_152 mt_2 (by decide) ⟨(hkf _ ho.2).1, by have := (hkf _ ho.2).2; omega⟩ ?_
                        refine G_iadd dX9_out_153 ?_
                        refine G_icmp_gt (tgt := 160) dX9_out_154 (by decide) (fun c154 => ?_) (fun c154 => ?_)
                        · skip
                          refine G_iinc (b := nI (i + 1)) dX9_out_160 rfl (nI_1 i) rfl ?_
                          refine G_goto (tgt := 104) dX9_out_163 (by decide) ?_
                          refine ih (i + 1) (by omega) (fun b hb q => ?_)
                          rcases Nat.lt_or_ge b i with z | z
                          · exact hn b z q
                          · have e : b = i := by omega
                            subst e
                            first | exact c119 q.1 | exact c129 q.2.1 | exact absurd q.2.2 (Int32.not_le.mpr c154)
                        · skip
                          refine G_bipush (v := -6) dX9_out_157 rfl ?_
                          refine G_iret dX9_out_159 rfl ?_
                          refine m_close ?_; rw [sp_out, ej, cif_t ⟨b1_1 c16, c26⟩, cif_f (Int32.not_lt.mpr c48), cif_f (Int32.not_lt.mpr c67), cif_f (fun q => q ((ow_iff hA.2).mp c79)), cif_f (fun q => q (b1_1 c96))]; exact cif_t ⟨i, by omega, c119, c129, Int32.not_lt.mp c154⟩
              exact loop (mA s0) 0 (by omega) (fun b hb => absurd hb (Nat.not_lt_zero b))
            · skip
              refine G_bipush (v := -5) dX9_out_99 rfl ?_
              refine G_iret dX9_out_101 rfl ?_
              refine m_close ?_; rw [sp_out, ej, cif_t ⟨b1_1 c16, c26⟩, cif_f (Int32.not_lt.mpr c48), cif_f (Int32.not_lt.mpr c67), cif_f (fun q => q ((ow_iff hA.2).mp c79))]; exact cif_t (b1_0.mp c96)
          · skip
            refine G_bipush (v := -4) dX9_out_82 rfl ?_
            refine G_iret dX9_out_84 rfl ?_
            refine m_close ?_; rw [sp_out, ej, cif_t ⟨b1_1 c16, c26⟩, cif_f (Int32.not_lt.mpr c48), cif_f (Int32.not_lt.mpr c67)]; exact cif_t (fun q => c79 ((ow_iff hA.2).mpr q))
        · skip
          refine G_bipush (v := -3) dX9_out_70 rfl ?_
          refine G_iret dX9_out_72 rfl ?_
          refine m_close ?_; rw [sp_out, ej, cif_t ⟨b1_1 c16, c26⟩, cif_f (Int32.not_lt.mpr c48)]; exact cif_t (Int32.not_le.mp c67)
      · skip
        refine G_bipush (v := -2) dX9_out_51 rfl ?_
        refine G_iret dX9_out_53 rfl ?_
        refine m_close ?_; rw [sp_out, ej, cif_t ⟨b1_1 c16, c26⟩]; exact cif_t (Int32.not_le.mp c48)
    · skip
      refine G_iconst (v := -1) dX9_out_29 rfl ?_
      refine G_iret dX9_out_30 rfl ?_
      first | exact m_close (cif_f (fun q => b1_0.mp c16 q.1)) | (refine m_close ?_; rw [sp_out, ej]; exact cif_f (fun q => c26 q.2))
set_option maxHeartbeats 4000000 in
set_option maxRecDepth 100000 in
theorem c9_back {g : gT} {nq_ : Nat} {s : mS} {r : mH} (a : Int32) (hI : m_inv (m_set s 0 0 0)) : M g 1 0 0 kX9_back [.ref 24, .int a] nq_ (hm s r) (m_S (.int (sp_back (m_set s 0 0 0) a).2) nq_ (sp_back (m_set s 0 0 0) a).1 r) := by
  refine M_of_G (by decide +kernel) (Nat.le_of_ble_eq_true rfl) ?_
  refine G_aload_n dX9_back_0 rfl rfl ?_
  refine G_iconst (v := 0) dX9_back_1 rfl ?_
  refine GM_put dX9_back_2 fp_X9_97 ms_0 ?_
  generalize e0 : m_set s 0 0 0 = s0 at hI ⊢
  obtain ⟨hK, hT, hB, hP9, hA, hkf, haf, hbf⟩ := id hI
  refine G_iload_n dX9_back_5 rfl rfl ?_
  refine G_iconst (v := 0) dX9_back_6 rfl ?_
  refine G_aload_n dX9_back_7 rfl rfl ?_
  refine GM_get dX9_back_8 fg_X9_171 ms_23 ?_
  refine G_iconst (v := 1) dX9_back_11 rfl ?_
  refine G_isub dX9_back_12 ?_
  refine GM_calls (c9_within _ _ _) dX9_back_13 (mc_X9_100 rfl) tw_1021 rfl rfl (Nat.le_of_ble_eq_true rfl) (Nat.le_of_ble_eq_true rfl) ?_
  rintro _ n9_ _ ⟨rfl, e9_, rfl⟩
  obtain rfl := e9_.symm
  refine G_if_eq (tgt := 29) dX9_back_16 (by decide) (fun c16 => ?_) (fun c16 => ?_)
  · skip
    refine G_iconst (v := -1) dX9_back_29 rfl ?_
    refine G_iret dX9_back_30 rfl ?_
    first | exact m_close (cif_f (fun q => b1_0.mp c16 q.1)) | (refine m_close ?_; rw [sp_back, ej]; exact cif_f (fun q => c26 q.2))
  · skip
    obtain ⟨j, hj, rfl⟩ := m_ixe hA (by decide) (b1_1 c16)
    have ej : ix (nI j) = j := nI_clamp (by omega)
    have hw := (haf j hj).2.1
    refine G_aload_n dX9_back_19 rfl rfl ?_
    refine GM_ref dX9_back_20 fg_X9_45 (fun _ => rfl) ?_
    refine G_iload_n dX9_back_23 rfl rfl ?_
    refine GM_ld dX9_back_24 mt_24 (by decide) ⟨rfl, by omega⟩ ?_
    refine G_iconst (v := 3) dX9_back_25 rfl ?_
    refine G_icmp_eq (tgt := 31) dX9_back_26 (by decide) (fun c26 => ?_) (fun c26 => ?_)
    · skip
      have ho := hbf j hj (Or.inr c26)
      have hk := hkf _ ho.2
      refine G_aload_n dX9_back_31 rfl rfl ?_
      refine GM_get dX9_back_32 fg_X9_164 ms_11 ?_
      refine G_aload_n dX9_back_35 rfl rfl ?_
      refine GM_ref dX9_back_36 fg_X9_66 (fun _ => rfl) ?_
      refine G_iload_n dX9_back_39 rfl rfl ?_
      refine GM_ld dX9_back_40 mt_31 (by decide) ⟨rfl, by omega⟩ ?_
      refine G_icmp_le (tgt := 58) dX9_back_41 (by decide) (fun c41 => ?_) (fun c41 => ?_)
      · skip
        refine G_iconst (v := 0) dX9_back_58 rfl ?_
        refine G_istore_n dX9_back_59 rfl (Nat.le_of_ble_eq_true rfl) rfl ?_
        refine G_aload_n dX9_back_60 rfl rfl ?_
        refine GM_ref dX9_back_61 fg_X9_66 (fun _ => rfl) ?_
        refine G_iload_n dX9_back_64 rfl rfl ?_
        refine GM_ld dX9_back_65 mt_31 (by decide) ⟨rfl, by omega⟩ ?_
        refine G_aload_n dX9_back_66 rfl rfl ?_
        refine GM_ref dX9_back_67 fg_X9_63 (fun _ => rfl) ?_
        refine G_iload_n dX9_back_70 rfl rfl ?_
        refine GM_ld dX9_back_71 mt_30 (by decide) ⟨rfl, by omega⟩ ?_
        refine G_isub dX9_back_72 ?_
        refine G_iconst (v := 1) dX9_back_73 rfl ?_
        refine G_iadd dX9_back_74 ?_
        refine G_iconst (v := 2) dX9_back_75 rfl ?_
        refine G_iload_n dX9_back_76 rfl rfl ?_
        refine G_imul dX9_back_77 ?_
        refine G_iadd dX9_back_78 ?_
        refine G_istore_n dX9_back_79 rfl (Nat.le_of_ble_eq_true rfl) rfl ?_
        refine G_aload_n dX9_back_80 rfl rfl ?_
        refine GM_ref dX9_back_81 fg_X9_25 (fun _ => rfl) ?_
        refine G_aload_n dX9_back_84 rfl rfl ?_
        refine GM_ref dX9_back_85 fg_X9_54 (fun _ => rfl) ?_
        refine G_iload_n dX9_back_88 rfl rfl ?_
        refine GM_ld dX9_back_89 mt_27 (by decide) ⟨rfl, by omega⟩ ?_
        refine G_dup2 dX9_back_90 rfl rfl ?_
        refine GM_ld dX9_back_91 mt_9 (by decide) ⟨hw.1, by have := hw.2; omega⟩ ?_
        refine G_iload_n dX9_back_92 rfl rfl ?_
        refine G_iadd dX9_back_93 ?_
        refine GM_st dX9_back_94 mt_9 ma_9 (by decide) ⟨hw.1, by have := hw.2; omega⟩ ?_
        refine G_aload_n dX9_back_95 rfl rfl ?_
        refine GM_ref dX9_back_96 fg_X9_28 (fun _ => rfl) ?_
        refine G_aload_n dX9_back_99 rfl rfl ?_
        refine GM_ref dX9_back_100 fg_X9_54 (fun _ => rfl) ?_
        refine G_iload_n dX9_back_103 rfl rfl ?_
        refine GM_ld dX9_back_104 mt_27 (by decide) ⟨rfl, by omega⟩ ?_
        refine G_dup2 dX9_back_105 rfl rfl ?_
        refine GM_ld dX9_back_106 mt_10 (by decide) ⟨hw.1, by have := hw.2; omega⟩ ?_
        refine G_iload_n dX9_back_107 rfl rfl ?_
        refine G_aload_n dX9_back_108 rfl rfl ?_
        refine GM_ref dX9_back_109 fg_X9_16 (fun _ => rfl) ?_
        refine G_aload_n dX9_back_112 rfl rfl ?_
        refine GM_ref dX9_back_113 fg_X9_19 (fun _ => rfl) ?_
        refine G_aload_n dX9_back_116 rfl rfl ?_
        refine GM_ref dX9_back_117 fg_X9_48 (fun _ => rfl) ?_
        refine G_iload_n dX9_back_120 rfl rfl ?_
        refine GM_ld dX9_back_121 mt_25 (by decide) ⟨rfl, by omega⟩ ?_
        refine GM_ld dX9_back_122 mt_6 (by decide) ⟨ho.1, by have := ho.2; omega⟩ ?_
        refine GM_ld dX9_back_123 mt_4 (by decide) ⟨hk.1, by have := hk.2; omega⟩ ?_
        refine G_imul dX9_back_124 ?_
        refine G_iadd dX9_back_125 ?_
        refine GM_st dX9_back_126 mt_10 ma_10 (by decide) ⟨hw.1, by have := hw.2; omega⟩ ?_
        refine G_aload_n dX9_back_127 rfl rfl ?_
        refine GM_ref dX9_back_128 fg_X9_45 (fun _ => rfl) ?_
        refine G_iload_n dX9_back_131 rfl rfl ?_
        refine G_iconst (v := 4) dX9_back_132 rfl ?_
        refine GM_st dX9_back_133 mt_24 ma_24 (by decide) ⟨rfl, by omega⟩ ?_
        refine G_aload_n dX9_back_134 rfl rfl ?_
        refine GM_ref dX9_back_135 fg_X9_72 (fun _ => rfl) ?_
        refine G_iload_n dX9_back_138 rfl rfl ?_
        refine G_aload_n dX9_back_139 rfl rfl ?_
        refine GM_get dX9_back_140 fg_X9_164 ms_11 ?_
        refine GM_st dX9_back_143 mt_33 ma_33 (by decide) ⟨rfl, by omega⟩ ?_
        refine G_iload_n dX9_back_144 rfl rfl ?_
        refine G_iret dX9_back_145 rfl ?_
        refine m_close ?_; rw [sp_back, ej, cif_t ⟨b1_1 c16, c26⟩]; first | (rw [s_hours, s_behind, cif_t (Int32.not_le.mp c41)]; rfl) | (rw [s_hours, s_behind, cif_f (Int32.not_lt.mpr c41)]; rfl)
      · skip
        refine G_aload_n dX9_back_44 rfl rfl ?_
        refine GM_get dX9_back_45 fg_X9_164 ms_11 ?_
        refine G_aload_n dX9_back_48 rfl rfl ?_
        refine GM_ref dX9_back_49 fg_X9_66 (fun _ => rfl) ?_
        refine G_iload_n dX9_back_52 rfl rfl ?_
        refine GM_ld dX9_back_53 mt_31 (by decide) ⟨rfl, by omega⟩ ?_
        refine G_isub dX9_back_54 ?_
        refine G_goto (tgt := 59) dX9_back_55 (by decide) ?_
        refine G_istore_n dX9_back_59 rfl (Nat.le_of_ble_eq_true rfl) rfl ?_
        refine G_aload_n dX9_back_60 rfl rfl ?_
        refine GM_ref dX9_back_61 fg_X9_66 (fun _ => rfl) ?_
        refine G_iload_n dX9_back_64 rfl rfl ?_
        refine GM_ld dX9_back_65 mt_31 (by decide) ⟨rfl, by omega⟩ ?_
        refine G_aload_n dX9_back_66 rfl rfl ?_
        refine GM_ref dX9_back_67 fg_X9_63 (fun _ => rfl) ?_
        refine G_iload_n dX9_back_70 rfl rfl ?_
        refine GM_ld dX9_back_71 mt_30 (by decide) ⟨rfl, by omega⟩ ?_
        refine G_isub dX9_back_72 ?_
        refine G_iconst (v := 1) dX9_back_73 rfl ?_
        refine G_iadd dX9_back_74 ?_
        refine G_iconst (v := 2) dX9_back_75 rfl ?_
        refine G_iload_n dX9_back_76 rfl rfl ?_
        refine G_imul dX9_back_77 ?_
        refine G_iadd dX9_back_78 ?_
        refine G_istore_n dX9_back_79 rfl (Nat.le_of_ble_eq_true rfl) rfl ?_
        refine G_aload_n dX9_back_80 rfl rfl ?_
        refine GM_ref dX9_back_81 fg_X9_25 (fun _ => rfl) ?_
        refine G_aload_n dX9_back_84 rfl rfl ?_
        refine GM_ref dX9_back_85 fg_X9_54 (fun _ => rfl) ?_
        refine G_iload_n dX9_back_88 rfl rfl ?_
        refine GM_ld dX9_back_89 mt_27 (by decide) ⟨rfl, by omega⟩ ?_
        refine G_dup2 dX9_back_90 rfl rfl ?_
        refine GM_ld dX9_back_91 mt_9 (by decide) ⟨hw.1, by have := hw.2; omega⟩ ?_
        refine G_iload_n dX9_back_92 rfl rfl ?_
        refine G_iadd dX9_back_93 ?_
        refine GM_st dX9_back_94 mt_9 ma_9 (by decide) ⟨hw.1, by have := hw.2; omega⟩ ?_
        refine G_aload_n dX9_back_95 rfl rfl ?_
        refine GM_ref dX9_back_96 fg_X9_28 (fun _ => rfl) ?_
        refine G_aload_n dX9_back_99 rfl rfl ?_
        refine GM_ref dX9_back_100 fg_X9_54 (fun _ => rfl) ?_
        refine G_iload_n dX9_back_103 rfl rfl ?_
        refine GM_ld dX9_back_104 mt_27 (by decide) ⟨rfl, by omega⟩ ?_
        refine G_dup2 dX9_back_105 rfl rfl ?_
        refine GM_ld dX9_back_106 mt_10 (by decide) ⟨hw.1, by have := hw.2; omega⟩ ?_
        refine G_iload_n dX9_back_107 rfl rfl ?_
        refine G_aload_n dX9_back_108 rfl rfl ?_
        refine GM_ref dX9_back_109 fg_X9_16 (fun _ => rfl) ?_
        refine G_aload_n dX9_back_112 rfl rfl ?_
        refine GM_ref dX9_back_113 fg_X9_19 (fun _ => rfl) ?_
        refine G_aload_n dX9_back_116 rfl rfl ?_
        refine GM_ref dX9_back_117 fg_X9_48 (fun _ => rfl) ?_
        refine G_iload_n dX9_back_120 rfl rfl ?_
        refine GM_ld dX9_back_121 mt_25 (by decide) ⟨rfl, by omega⟩ ?_
        refine GM_ld dX9_back_122 mt_6 (by decide) ⟨ho.1, by have := ho.2; omega⟩ ?_
        refine GM_ld dX9_back_123 mt_4 (by decide) ⟨hk.1, by have := hk.2; omega⟩ ?_
        refine G_imul dX9_back_124 ?_
        refine G_iadd dX9_back_125 ?_
        refine GM_st dX9_back_126 mt_10 ma_10 (by decide) ⟨hw.1, by have := hw.2; omega⟩ ?_
        refine G_aload_n dX9_back_127 rfl rfl ?_
        refine GM_ref dX9_back_128 fg_X9_45 (fun _ => rfl) ?_
        refine G_iload_n dX9_back_131 rfl rfl ?_
        refine G_iconst (v := 4) dX9_back_132 rfl ?_
        refine GM_st dX9_back_133 mt_24 ma_24 (by decide) ⟨rfl, by omega⟩ ?_
        refine G_aload_n dX9_back_134 rfl rfl ?_
        refine GM_ref dX9_back_135 fg_X9_72 (fun _ => rfl) ?_
        refine G_iload_n dX9_back_138 rfl rfl ?_
        refine G_aload_n dX9_back_139 rfl rfl ?_
        refine GM_get dX9_back_140 fg_X9_164 ms_11 ?_
        refine GM_st dX9_back_143 mt_33 ma_33 (by decide) ⟨rfl, by omega⟩ ?_
        refine G_iload_n dX9_back_144 rfl rfl ?_
        refine G_iret dX9_back_145 rfl ?_
        refine m_close ?_; rw [sp_back, ej, cif_t ⟨b1_1 c16, c26⟩]; first | (rw [s_hours, s_behind, cif_t (Int32.not_le.mp c41)]; rfl) | (rw [s_hours, s_behind, cif_f (Int32.not_lt.mpr c41)]; rfl)
    · skip
      refine G_iconst (v := -1) dX9_back_29 rfl ?_
      refine G_iret dX9_back_30 rfl ?_
      first | exact m_close (cif_f (fun q => b1_0.mp c16 q.1)) | (refine m_close ?_; rw [sp_back, ej]; exact cif_f (fun q => c26 q.2))
set_option maxHeartbeats 4000000 in
set_option maxRecDepth 100000 in
theorem c9_work {g : gT} {nq_ : Nat} {s : mS} {r : mH} (m q : Int32) (hI : m_inv (m_set s 0 0 0)) : M g 2 0 0 kX9_work [.ref 24, .int m, .int q] nq_ (hm s r) (m_S (.int (sp_work (m_set s 0 0 0) m q).2) nq_ (sp_work (m_set s 0 0 0) m q).1 r) := by
  refine M_of_G (by decide +kernel) (Nat.le_of_ble_eq_true rfl) ?_
  refine G_aload_n dX9_work_0 rfl rfl ?_
  refine G_iconst (v := 0) dX9_work_1 rfl ?_
  refine GM_put dX9_work_2 fp_X9_97 ms_0 ?_
  generalize e0 : m_set s 0 0 0 = s0 at hI ⊢
  obtain ⟨hK, hT, hB, hP9, hA, hkf, haf, hbf⟩ := id hI
  refine G_aload_n dX9_work_5 rfl rfl ?_
  refine G_iload_n dX9_work_6 rfl rfl ?_
  refine GM_call (c9_isMember _) dX9_work_7 (mc_X9_174 rfl) tw_1101 tw_40 rfl rfl rfl (Nat.le_of_ble_eq_true rfl) (Nat.le_of_ble_eq_true rfl) ?_
  rintro _ n9_ _ ⟨rfl, e9_, rfl⟩
  obtain rfl := e9_.symm
  refine G_if_eq (tgt := 23) dX9_work_10 (by decide) (fun c10 => ?_) (fun c10 => ?_)
  · skip
    refine G_iconst (v := -1) dX9_work_23 rfl ?_
    refine G_iret dX9_work_24 rfl ?_
    first | exact m_close (cif_f (fun z => b1_0.mp c10 z.1)) | exact m_close (cif_f (fun z => b1_0.mp c20 z.2))
  · skip
    obtain ⟨j, hj, rfl⟩ := m_ixe hB (by decide) (b1_1 c10)
    have ej : ix (nI j) = j := nI_clamp (by omega)
    refine G_iload_n dX9_work_13 rfl rfl ?_
    refine G_iconst (v := 1) dX9_work_14 rfl ?_
    refine G_bipush (v := 100) dX9_work_15 rfl ?_
    refine GM_calls (c9_within _ _ _) dX9_work_17 (mc_X9_100 rfl) tw_1021 rfl rfl (Nat.le_of_ble_eq_true rfl) (Nat.le_of_ble_eq_true rfl) ?_
    rintro _ n9_ _ ⟨rfl, e9_, rfl⟩
    obtain rfl := e9_.symm
    refine G_if_ne (tgt := 25) dX9_work_20 (by decide) (fun c20 => ?_) (fun c20 => ?_)
    · skip
      refine G_aload_n dX9_work_25 rfl rfl ?_
      refine GM_ref dX9_work_26 fg_X9_25 (fun _ => rfl) ?_
      refine G_iload_n dX9_work_29 rfl rfl ?_
      refine G_aload_n dX9_work_30 rfl rfl ?_
      refine GM_ref dX9_work_31 fg_X9_25 (fun _ => rfl) ?_
      refine G_iload_n dX9_work_34 rfl rfl ?_
      refine GM_ld dX9_work_35 mt_9 (by decide) ⟨rfl, by omega⟩ ?_
      refine G_iload_n dX9_work_36 rfl rfl ?_
      refine G_icmp_le (tgt := 51) dX9_work_37 (by decide) (fun c37 => ?_) (fun c37 => ?_)
      · skip
        refine G_iconst (v := 0) dX9_work_51 rfl ?_
        refine GM_st dX9_work_52 mt_9 ma_9 (by decide) ⟨rfl, by omega⟩ ?_
        refine G_aload_n dX9_work_53 rfl rfl ?_
        refine GM_ref dX9_work_54 fg_X9_25 (fun _ => rfl) ?_
        refine G_iload_n dX9_work_57 rfl rfl ?_
        refine GM_ld dX9_work_58 mt_9 (by decide) ⟨rfl, by omega⟩ ?_
        refine G_iret dX9_work_59 rfl ?_
        refine m_close ?_; rw [sp_work, ej, cif_t ⟨b1_1 c10, b1_1 c20⟩]; first | (rw [cif_t (Int32.not_le.mp c37)]; exact Prod.ext rfl (by simp [m_set])) | (rw [cif_f (Int32.not_lt.mpr c37)]; exact Prod.ext rfl (by simp [m_set]))
      · skip
        refine G_aload_n dX9_work_40 rfl rfl ?_
        refine GM_ref dX9_work_41 fg_X9_25 (fun _ => rfl) ?_
        refine G_iload_n dX9_work_44 rfl rfl ?_
        refine GM_ld dX9_work_45 mt_9 (by decide) ⟨rfl, by omega⟩ ?_
        refine G_iload_n dX9_work_46 rfl rfl ?_
        refine G_isub dX9_work_47 ?_
        refine G_goto (tgt := 52) dX9_work_48 (by decide) ?_
        refine GM_st dX9_work_52 mt_9 ma_9 (by decide) ⟨rfl, by omega⟩ ?_
        refine G_aload_n dX9_work_53 rfl rfl ?_
        refine GM_ref dX9_work_54 fg_X9_25 (fun _ => rfl) ?_
        refine G_iload_n dX9_work_57 rfl rfl ?_
        refine GM_ld dX9_work_58 mt_9 (by decide) ⟨rfl, by omega⟩ ?_
        refine G_iret dX9_work_59 rfl ?_
        refine m_close ?_; rw [sp_work, ej, cif_t ⟨b1_1 c10, b1_1 c20⟩]; first | (rw [cif_t (Int32.not_le.mp c37)]; exact Prod.ext rfl (by simp [m_set])) | (rw [cif_f (Int32.not_lt.mpr c37)]; exact Prod.ext rfl (by simp [m_set]))
    · skip
      refine G_iconst (v := -1) dX9_work_23 rfl ?_
      refine G_iret dX9_work_24 rfl ?_
      first | exact m_close (cif_f (fun z => b1_0.mp c10 z.1)) | exact m_close (cif_f (fun z => b1_0.mp c20 z.2))
set_option maxHeartbeats 4000000 in
set_option maxRecDepth 100000 in
theorem c9_of {g : gT} {nq_ : Nat} {s : mS} {r : mH} (a w : Int32) (hI : m_inv s) : M g 1 0 0 kX9_of [.ref 24, .int a, .int w] nq_ (hm s r) (m_S (.int (sp_of s a w).2) nq_ (sp_of s a w).1 r) := by
  refine M_of_G (by decide +kernel) (Nat.le_of_ble_eq_true rfl) ?_
  obtain ⟨hK, hT, hB, hP9, hA, hkf, haf, hbf⟩ := id hI
  refine G_iload_n dX9_of_0 rfl rfl ?_
  refine G_iconst (v := 0) dX9_of_1 rfl ?_
  refine G_aload_n dX9_of_2 rfl rfl ?_
  refine GM_get dX9_of_3 fg_X9_171 ms_23 ?_
  refine G_iconst (v := 1) dX9_of_6 rfl ?_
  refine G_isub dX9_of_7 ?_
  refine GM_calls (c9_within _ _ _) dX9_of_8 (mc_X9_100 rfl) tw_1021 rfl rfl (Nat.le_of_ble_eq_true rfl) (Nat.le_of_ble_eq_true rfl) ?_
  rintro _ n9_ _ ⟨rfl, e9_, rfl⟩
  obtain rfl := e9_.symm
  refine G_if_eq (tgt := 28) dX9_of_11 (by decide) (fun c11 => ?_) (fun c11 => ?_)
  · skip
    refine G_iconst (v := 0) dX9_of_28 rfl ?_
    refine G_istore_n dX9_of_29 rfl (Nat.le_of_ble_eq_true rfl) rfl ?_
    refine G_aload_n dX9_of_30 rfl rfl ?_
    refine G_iload_n dX9_of_31 rfl rfl ?_
    refine G_if_eq (tgt := 39) dX9_of_32 (by decide) (fun c32 => ?_) (fun c32 => ?_)
    · skip
      refine G_iconst (v := 1) dX9_of_39 rfl ?_
      refine GM_put dX9_of_40 fp_X9_97 ms_0 ?_
      refine G_iload_n dX9_of_43 rfl rfl ?_
      refine G_if_ne (tgt := 49) dX9_of_44 (by decide) (fun c44 => ?_) (fun c44 => ?_)
      · skip
        exact absurd rfl c44
      · skip
        refine G_iconst (v := 0) dX9_of_47 rfl ?_
        refine G_iret dX9_of_48 rfl ?_
        refine m_close ?_; first | exact cif_f (fun q => b1_0.mp c11 q.1) | exact cif_f (fun q => b1_0.mp c21 q.2)
    · skip
      exact absurd rfl c32
  · skip
    obtain ⟨j, hj, rfl⟩ := m_ixe hA (by decide) (b1_1 c11)
    have ej : ix (nI j) = j := nI_clamp (by omega)
    refine G_iload_n dX9_of_14 rfl rfl ?_
    refine G_iconst (v := 0) dX9_of_15 rfl ?_
    refine G_bipush (v := 8) dX9_of_16 rfl ?_
    refine GM_calls (c9_within _ _ _) dX9_of_18 (mc_X9_100 rfl) tw_1021 rfl rfl (Nat.le_of_ble_eq_true rfl) (Nat.le_of_ble_eq_true rfl) ?_
    rintro _ n9_ _ ⟨rfl, e9_, rfl⟩
    obtain rfl := e9_.symm
    refine G_if_eq (tgt := 28) dX9_of_21 (by decide) (fun c21 => ?_) (fun c21 => ?_)
    · skip
      refine G_iconst (v := 0) dX9_of_28 rfl ?_
      refine G_istore_n dX9_of_29 rfl (Nat.le_of_ble_eq_true rfl) rfl ?_
      refine G_aload_n dX9_of_30 rfl rfl ?_
      refine G_iload_n dX9_of_31 rfl rfl ?_
      refine G_if_eq (tgt := 39) dX9_of_32 (by decide) (fun c32 => ?_) (fun c32 => ?_)
      · skip
        refine G_iconst (v := 1) dX9_of_39 rfl ?_
        refine GM_put dX9_of_40 fp_X9_97 ms_0 ?_
        refine G_iload_n dX9_of_43 rfl rfl ?_
        refine G_if_ne (tgt := 49) dX9_of_44 (by decide) (fun c44 => ?_) (fun c44 => ?_)
        · skip
          exact absurd rfl c44
        · skip
          refine G_iconst (v := 0) dX9_of_47 rfl ?_
          refine G_iret dX9_of_48 rfl ?_
          refine m_close ?_; first | exact cif_f (fun q => b1_0.mp c11 q.1) | exact cif_f (fun q => b1_0.mp c21 q.2)
      · skip
        exact absurd rfl c32
    · skip
      refine G_iconst (v := 1) dX9_of_24 rfl ?_
      refine G_goto (tgt := 29) dX9_of_25 (by decide) ?_
      refine G_istore_n dX9_of_29 rfl (Nat.le_of_ble_eq_true rfl) rfl ?_
      refine G_aload_n dX9_of_30 rfl rfl ?_
      refine G_iload_n dX9_of_31 rfl rfl ?_
      refine G_if_eq (tgt := 39) dX9_of_32 (by decide) (fun c32 => ?_) (fun c32 => ?_)
      · skip
        exact absurd c32 (by decide)
      · skip
        refine G_iconst (v := 0) dX9_of_35 rfl ?_
        refine G_goto (tgt := 40) dX9_of_36 (by decide) ?_
        refine GM_put dX9_of_40 fp_X9_97 ms_0 ?_
        refine G_iload_n dX9_of_43 rfl rfl ?_
        refine G_if_ne (tgt := 49) dX9_of_44 (by decide) (fun c44 => ?_) (fun c44 => ?_)
        · skip
          refine G_iload_n dX9_of_49 rfl rfl ?_
          refine G_tsw (tgt := 152) dX9_of_50 (by decide) (fun c50 => ?_) (fun j9 e9 l9 => ?_)
          · skip
            have hw8 : w = nI 8 := by
              have h1 := Int32.le_iff_toInt_le.mp (b1_1 c21).1
              have h2 := Int32.le_iff_toInt_le.mp (b1_1 c21).2
              have h3 : (0 : Int32).toInt = 0 := by decide
              have h4 : (8 : Int32).toInt = 8 := by decide
              exact Int32.toInt_inj.mp (by rw [show (nI 8).toInt = 8 by decide]; omega)
            subst hw8
            refine G_aload_n dX9_of_152 rfl rfl ?_
            refine GM_ref dX9_of_153 fg_X9_48 (fun _ => rfl) ?_
            refine G_iload_n dX9_of_156 rfl rfl ?_
            refine GM_ld dX9_of_157 mt_25 (by decide) ⟨rfl, by omega⟩ ?_
            refine G_iconst (v := -1) dX9_of_158 rfl ?_
            refine G_icmp_ne (tgt := 166) dX9_of_159 (by decide) (fun c159 => ?_) (fun c159 => ?_)
            · skip
              have ho := ((haf j hj).2.2).resolve_left c159
              refine G_aload_n dX9_of_166 rfl rfl ?_
              refine GM_ref dX9_of_167 fg_X9_19 (fun _ => rfl) ?_
              refine G_aload_n dX9_of_170 rfl rfl ?_
              refine GM_ref dX9_of_171 fg_X9_48 (fun _ => rfl) ?_
              refine G_iload_n dX9_of_174 rfl rfl ?_
              refine GM_ld dX9_of_175 mt_25 (by decide) ⟨rfl, by omega⟩ ?_
              refine GM_ld dX9_of_176 mt_6 (by decide) ⟨ho.1, by have := ho.2; omega⟩ ?_
              refine G_aload_n dX9_of_177 rfl rfl ?_
              refine GM_ref dX9_of_178 fg_X9_57 (fun _ => rfl) ?_
              refine G_iload_n dX9_of_181 rfl rfl ?_
              refine GM_ld dX9_of_182 mt_28 (by decide) ⟨rfl, by omega⟩ ?_
              refine G_icmp_ne (tgt := 190) dX9_of_183 (by decide) (fun c183 => ?_) (fun c183 => ?_)
              · skip
                refine G_iconst (v := 1) dX9_of_190 rfl ?_
                refine G_iret dX9_of_191 rfl ?_
                refine m_close ?_; rw [sp_of, ej]; refine (cif_t ⟨b1_1 c11, b1_1 c21⟩).trans (Prod.ext rfl ?_); show cif _ _ _ = _; first | exact cif_t c159 | exact (cif_f c159).trans (cif_t c183) | exact (cif_f c159).trans (cif_f c183)
              · skip
                refine G_iconst (v := 0) dX9_of_186 rfl ?_
                refine G_goto (tgt := 191) dX9_of_187 (by decide) ?_
                refine G_iret dX9_of_191 rfl ?_
                refine m_close ?_; rw [sp_of, ej]; refine (cif_t ⟨b1_1 c11, b1_1 c21⟩).trans (Prod.ext rfl ?_); show cif _ _ _ = _; first | exact cif_t c159 | exact (cif_f c159).trans (cif_t c183) | exact (cif_f c159).trans (cif_f c183)
            · skip
              refine G_iconst (v := -1) dX9_of_162 rfl ?_
              refine G_goto (tgt := 191) dX9_of_163 (by decide) ?_
              refine G_iret dX9_of_191 rfl ?_
              refine m_close ?_; rw [sp_of, ej]; refine (cif_t ⟨b1_1 c11, b1_1 c21⟩).trans (Prod.ext rfl ?_); show cif _ _ _ = _; first | exact cif_t c159 | exact (cif_f c159).trans (cif_t c183) | exact (cif_f c159).trans (cif_f c183)
          · rcases (show j9 = 0 ∨ j9 = 1 ∨ j9 = 2 ∨ j9 = 3 ∨ j9 = 4 ∨ j9 = 5 ∨ j9 = 6 ∨ j9 = 7 by omega) with rfl | rfl | rfl | rfl | rfl | rfl | rfl | rfl
            · refine ⟨46, 96, rfl, by decide, ?_⟩
              obtain rfl : w = nI 0 := tsw_e e9 (by decide)
              refine G_aload_n dX9_of_96 rfl rfl ?_
              refine GM_ref dX9_of_97 fg_X9_45 (fun _ => rfl) ?_
              refine G_iload_n dX9_of_100 rfl rfl ?_
              refine GM_ld dX9_of_101 mt_24 (by decide) ⟨rfl, by omega⟩ ?_
              refine G_iret dX9_of_102 rfl ?_
              refine m_close ?_; rw [sp_of, ej]; exact (cif_t ⟨b1_1 c11, b1_1 c21⟩).trans (Prod.ext rfl rfl)
            · refine ⟨53, 103, rfl, by decide, ?_⟩
              obtain rfl : w = nI 1 := tsw_e e9 (by decide)
              refine G_aload_n dX9_of_103 rfl rfl ?_
              refine GM_ref dX9_of_104 fg_X9_48 (fun _ => rfl) ?_
              refine G_iload_n dX9_of_107 rfl rfl ?_
              refine GM_ld dX9_of_108 mt_25 (by decide) ⟨rfl, by omega⟩ ?_
              refine G_iret dX9_of_109 rfl ?_
              refine m_close ?_; rw [sp_of, ej]; exact (cif_t ⟨b1_1 c11, b1_1 c21⟩).trans (Prod.ext rfl rfl)
            · refine ⟨60, 110, rfl, by decide, ?_⟩
              obtain rfl : w = nI 2 := tsw_e e9 (by decide)
              refine G_aload_n dX9_of_110 rfl rfl ?_
              refine GM_ref dX9_of_111 fg_X9_51 (fun _ => rfl) ?_
              refine G_iload_n dX9_of_114 rfl rfl ?_
              refine GM_ld dX9_of_115 mt_26 (by decide) ⟨rfl, by omega⟩ ?_
              refine G_iret dX9_of_116 rfl ?_
              refine m_close ?_; rw [sp_of, ej]; exact (cif_t ⟨b1_1 c11, b1_1 c21⟩).trans (Prod.ext rfl rfl)
            · refine ⟨67, 117, rfl, by decide, ?_⟩
              obtain rfl : w = nI 3 := tsw_e e9 (by decide)
              refine G_aload_n dX9_of_117 rfl rfl ?_
              refine GM_ref dX9_of_118 fg_X9_54 (fun _ => rfl) ?_
              refine G_iload_n dX9_of_121 rfl rfl ?_
              refine GM_ld dX9_of_122 mt_27 (by decide) ⟨rfl, by omega⟩ ?_
              refine G_iret dX9_of_123 rfl ?_
              refine m_close ?_; rw [sp_of, ej]; exact (cif_t ⟨b1_1 c11, b1_1 c21⟩).trans (Prod.ext rfl rfl)
            · refine ⟨74, 124, rfl, by decide, ?_⟩
              obtain rfl : w = nI 4 := tsw_e e9 (by decide)
              refine G_aload_n dX9_of_124 rfl rfl ?_
              refine GM_ref dX9_of_125 fg_X9_57 (fun _ => rfl) ?_
              refine G_iload_n dX9_of_128 rfl rfl ?_
              refine GM_ld dX9_of_129 mt_28 (by decide) ⟨rfl, by omega⟩ ?_
              refine G_iret dX9_of_130 rfl ?_
              refine m_close ?_; rw [sp_of, ej]; exact (cif_t ⟨b1_1 c11, b1_1 c21⟩).trans (Prod.ext rfl rfl)
            · refine ⟨81, 131, rfl, by decide, ?_⟩
              obtain rfl : w = nI 5 := tsw_e e9 (by decide)
              refine G_aload_n dX9_of_131 rfl rfl ?_
              refine GM_ref dX9_of_132 fg_X9_63 (fun _ => rfl) ?_
              refine G_iload_n dX9_of_135 rfl rfl ?_
              refine GM_ld dX9_of_136 mt_30 (by decide) ⟨rfl, by omega⟩ ?_
              refine G_iret dX9_of_137 rfl ?_
              refine m_close ?_; rw [sp_of, ej]; exact (cif_t ⟨b1_1 c11, b1_1 c21⟩).trans (Prod.ext rfl rfl)
            · refine ⟨88, 138, rfl, by decide, ?_⟩
              obtain rfl : w = nI 6 := tsw_e e9 (by decide)
              refine G_aload_n dX9_of_138 rfl rfl ?_
              refine GM_ref dX9_of_139 fg_X9_66 (fun _ => rfl) ?_
              refine G_iload_n dX9_of_142 rfl rfl ?_
              refine GM_ld dX9_of_143 mt_31 (by decide) ⟨rfl, by omega⟩ ?_
              refine G_iret dX9_of_144 rfl ?_
              refine m_close ?_; rw [sp_of, ej]; exact (cif_t ⟨b1_1 c11, b1_1 c21⟩).trans (Prod.ext rfl rfl)
            · refine ⟨95, 145, rfl, by decide, ?_⟩
              obtain rfl : w = nI 7 := tsw_e e9 (by decide)
              refine G_aload_n dX9_of_145 rfl rfl ?_
              refine GM_ref dX9_of_146 fg_X9_69 (fun _ => rfl) ?_
              refine G_iload_n dX9_of_149 rfl rfl ?_
              refine GM_ld dX9_of_150 mt_32 (by decide) ⟨rfl, by omega⟩ ?_
              refine G_iret dX9_of_151 rfl ?_
              refine m_close ?_; rw [sp_of, ej]; exact (cif_t ⟨b1_1 c11, b1_1 c21⟩).trans (Prod.ext rfl rfl)
        · skip
          exact absurd c44 (by decide)
set_option maxHeartbeats 4000000 in
set_option maxRecDepth 100000 in
theorem c9_thingOf {g : gT} {nq_ : Nat} {s : mS} {r : mH} (t w : Int32) (hI : m_inv (m_set s 0 0 0)) : M g 2 0 0 kX9_thingOf [.ref 24, .int t, .int w] nq_ (hm s r) (m_S (.int (sp_thingOf (m_set s 0 0 0) t w).2) nq_ (sp_thingOf (m_set s 0 0 0) t w).1 r) := by
  refine M_of_G (by decide +kernel) (Nat.le_of_ble_eq_true rfl) ?_
  refine G_aload_n dX9_thingOf_0 rfl rfl ?_
  refine G_iconst (v := 0) dX9_thingOf_1 rfl ?_
  refine GM_put dX9_thingOf_2 fp_X9_97 ms_0 ?_
  generalize e0 : m_set s 0 0 0 = s0 at hI ⊢
  obtain ⟨hK, hT, hB, hP9, hA, hkf, haf, hbf⟩ := id hI
  refine G_aload_n dX9_thingOf_5 rfl rfl ?_
  refine G_iload_n dX9_thingOf_6 rfl rfl ?_
  refine GM_call (c9_isThing _) dX9_thingOf_7 (mc_X9_158 rfl) tw_1077 tw_36 rfl rfl rfl (Nat.le_of_ble_eq_true rfl) (Nat.le_of_ble_eq_true rfl) ?_
  rintro _ n9_ _ ⟨rfl, e9_, rfl⟩
  obtain rfl := e9_.symm
  refine G_if_ne (tgt := 15) dX9_thingOf_10 (by decide) (fun c10 => ?_) (fun c10 => ?_)
  · skip
    obtain ⟨j, hj, rfl⟩ := m_ixe hT (by decide) (b1_1 c10)
    have ej : ix (nI j) = j := nI_clamp (by omega)
    refine G_iload_n dX9_thingOf_15 rfl rfl ?_
    refine G_tsw (tgt := 138) dX9_thingOf_16 (by decide) (fun c16 => ?_) (fun j9 e9 l9 => ?_)
    · skip
      skip
      refine G_iconst (v := -1) dX9_thingOf_138 rfl ?_
      refine G_iret dX9_thingOf_139 rfl ?_
      refine m_close (Prod.ext rfl ?_); show cif _ (cif _ _ _) _ = _; rw [cif_t (b1_1 c10), cif_f (tsw_w (hi := 4) c16)]
    · rcases (show j9 = 0 ∨ j9 = 1 ∨ j9 = 2 ∨ j9 = 3 ∨ j9 = 4 by omega) with rfl | rfl | rfl | rfl | rfl
      · refine ⟨36, 52, rfl, by decide, ?_⟩
        obtain rfl : w = nI 0 := tsw_e e9 (by decide)
        refine G_aload_n dX9_thingOf_52 rfl rfl ?_
        refine GM_ref dX9_thingOf_53 fg_X9_19 (fun _ => rfl) ?_
        refine G_iload_n dX9_thingOf_56 rfl rfl ?_
        refine GM_ld dX9_thingOf_57 mt_6 (by decide) ⟨rfl, by omega⟩ ?_
        refine G_iret dX9_thingOf_58 rfl ?_
        refine m_close (Prod.ext rfl ?_); show cif _ (cif _ (s_tof s0 (ix (nI j)) _) _) _ = _; rw [ej, cif_t (b1_1 c10), cif_t (by decide)]; rfl
      · refine ⟨43, 59, rfl, by decide, ?_⟩
        obtain rfl : w = nI 1 := tsw_e e9 (by decide)
        refine G_aload_n dX9_thingOf_59 rfl rfl ?_
        refine GM_ref dX9_thingOf_60 fg_X9_22 (fun _ => rfl) ?_
        refine G_iload_n dX9_thingOf_63 rfl rfl ?_
        refine GM_ld dX9_thingOf_64 mt_7 (by decide) ⟨rfl, by omega⟩ ?_
        refine G_iret dX9_thingOf_65 rfl ?_
        refine m_close (Prod.ext rfl ?_); show cif _ (cif _ (s_tof s0 (ix (nI j)) _) _) _ = _; rw [ej, cif_t (b1_1 c10), cif_t (by decide)]; rfl
      · refine ⟨50, 66, rfl, by decide, ?_⟩
        obtain rfl : w = nI 2 := tsw_e e9 (by decide)
        refine G_aload_n dX9_thingOf_66 rfl rfl ?_
        refine G_iload_n dX9_thingOf_67 rfl rfl ?_
        refine GM_call (c9_outWith _ hI) dX9_thingOf_68 (mc_X9_161 rfl) tw_1081 tw_37 rfl rfl rfl (Nat.le_of_ble_eq_true rfl) (Nat.le_of_ble_eq_true rfl) ?_
        rintro _ n9_ _ ⟨rfl, e9_, rfl⟩
        obtain rfl := e9_.symm
        refine G_iret dX9_thingOf_71 rfl ?_
        refine m_close (Prod.ext rfl ?_); show cif _ (cif _ (s_tof s0 (ix (nI j)) _) _) _ = _; rw [ej, cif_t (b1_1 c10), cif_t (by decide)]; rfl
      · refine ⟨56, 72, rfl, by decide, ?_⟩
        obtain rfl : w = nI 3 := tsw_e e9 (by decide)
        refine G_aload_n dX9_thingOf_72 rfl rfl ?_
        refine G_iload_n dX9_thingOf_73 rfl rfl ?_
        refine GM_call (c9_isLate _ hI) dX9_thingOf_74 (mc_X9_214 rfl) tw_1164 tw_49 rfl rfl rfl (Nat.le_of_ble_eq_true rfl) (Nat.le_of_ble_eq_true rfl) ?_
        rintro _ n9_ _ ⟨rfl, e9_, rfl⟩
        obtain rfl := e9_.symm
        refine G_if_eq (tgt := 84) dX9_thingOf_77 (by decide) (fun c77 => ?_) (fun c77 => ?_)
        · skip
          refine G_iconst (v := 0) dX9_thingOf_84 rfl ?_
          refine G_iret dX9_thingOf_85 rfl ?_
          refine m_close (Prod.ext rfl ?_); show cif _ (cif _ (s_tof s0 (ix (nI j)) _) _) _ = _; rw [ej, cif_t (b1_1 c10), cif_t (by decide)]; first | exact c77 | exact b1_t (b1_1 c77)
        · skip
          refine G_iconst (v := 1) dX9_thingOf_80 rfl ?_
          refine G_goto (tgt := 85) dX9_thingOf_81 (by decide) ?_
          refine G_iret dX9_thingOf_85 rfl ?_
          refine m_close (Prod.ext rfl ?_); show cif _ (cif _ (s_tof s0 (ix (nI j)) _) _) _ = _; rw [ej, cif_t (b1_1 c10), cif_t (by decide)]; first | exact c77 | exact b1_t (b1_1 c77)
      · refine ⟨70, 86, rfl, by decide, ?_⟩
        obtain rfl : w = nI 4 := tsw_e e9 (by decide)
        refine G_iconst (v := 0) dX9_thingOf_86 rfl ?_
        refine G_istore_n dX9_thingOf_87 rfl (Nat.le_of_ble_eq_true rfl) rfl ?_
        refine G_iconst (v := 0) dX9_thingOf_88 rfl ?_
        refine G_istore dX9_thingOf_89 (Nat.le_of_ble_eq_true rfl) rfl ?_
        have loop : ∀ m i, i + m = mA s0 → G g 2 0 0 kX9_thingOf 91 [.ref 24, .int (nI j), .int (nI 4), .int (nI (ct (fun a => s0 24 a = 1 ∧ s0 25 a = nI j) i)), .int (nI i)] [] nq_ (hm s0 r) (m_S (.int (sp_thingOf s0 (nI j) (nI 4)).2) nq_ (sp_thingOf s0 (nI j) (nI 4)).1 r) := by
          intro m
          induction m with
          | zero =>
            intro i hi0 
            rw [Nat.add_zero] at hi0
            refine G_iload dX9_thingOf_91 rfl ?_
            refine G_aload_n dX9_thingOf_93 rfl rfl ?_
            refine GM_get dX9_thingOf_94 fg_X9_171 ms_23 ?_
            refine G_icmp_ge (tgt := 136) dX9_thingOf_97 (by decide) (fun c97 => ?_) (fun c97 => ?_)
            · skip
              skip
              refine G_iload_n dX9_thingOf_136 rfl rfl ?_
              refine G_iret dX9_thingOf_137 rfl ?_
              refine m_close (Prod.ext rfl ?_); show cif _ (cif _ (s_tof s0 (ix (nI j)) _) _) _ = _; rw [ej, cif_t (b1_1 c10), cif_t (by decide)]; rw [hi0]; rfl
            · skip
              exact absurd (by rw [hA.1]; exact nI_le (Nat.le_of_eq hi0.symm) (by omega)) c97
          | succ m ih =>
            intro i hi0 
            refine G_iload dX9_thingOf_91 rfl ?_
            refine G_aload_n dX9_thingOf_93 rfl rfl ?_
            refine GM_get dX9_thingOf_94 fg_X9_171 ms_23 ?_
            refine G_icmp_ge (tgt := 136) dX9_thingOf_97 (by decide) (fun c97 => ?_) (fun c97 => ?_)
            · skip
              exact absurd c97 (by rw [hA.1, nI_leI (by omega) (by omega)]; omega)
            · skip
              refine G_iload_n dX9_thingOf_100 rfl rfl ?_
              refine G_aload_n dX9_thingOf_101 rfl rfl ?_
              refine GM_ref dX9_thingOf_102 fg_X9_45 (fun _ => rfl) ?_
              refine G_iload dX9_thingOf_105 rfl ?_
              refine GM_ld dX9_thingOf_107 mt_24 (by decide) ⟨rfl, by omega⟩ ?_
              refine G_iconst (v := 1) dX9_thingOf_108 rfl ?_
              refine G_icmp_ne (tgt := 127) dX9_thingOf_109 (by decide) (fun c109 => ?_) (fun c109 => ?_)
              · skip
                refine G_iconst (v := 0) dX9_thingOf_127 rfl ?_
                refine G_iadd dX9_thingOf_128 ?_
                refine G_top (w := .int (nI (ct (fun a => s0 24 a = 1 ∧ s0 25 a = nI j) (i + 1)))) (congrArg Value.int (by first | exact ct_add_t (p := fun a => s0 24 a = 1 ∧ s0 25 a = nI j) ⟨c109, c120⟩ | exact ct_add_f (p := fun a => s0 24 a = 1 ∧ s0 25 a = nI j) (fun z => c109 z.1) | exact ct_add_f (p := fun a => s0 24 a = 1 ∧ s0 25 a = nI j) (fun z => c120 z.2))) ?_
                refine G_istore_n dX9_thingOf_129 rfl (Nat.le_of_ble_eq_true rfl) rfl ?_
                refine G_iinc (b := nI (i + 1)) dX9_thingOf_130 rfl (nI_1 i) rfl ?_
                refine G_goto (tgt := 91) dX9_thingOf_133 (by decide) ?_
                exact ih (i + 1) (by omega)
              · skip
                refine G_aload_n dX9_thingOf_112 rfl rfl ?_
                refine GM_ref dX9_thingOf_113 fg_X9_48 (fun _ => rfl) ?_
                refine G_iload dX9_thingOf_116 rfl ?_
                refine GM_ld dX9_thingOf_118 mt_25 (by decide) ⟨rfl, by omega⟩ ?_
                refine G_iload_n dX9_thingOf_119 rfl rfl ?_
                refine G_icmp_ne (tgt := 127) dX9_thingOf_120 (by decide) (fun c120 => ?_) (fun c120 => ?_)
                · skip
                  refine G_iconst (v := 0) dX9_thingOf_127 rfl ?_
                  refine G_iadd dX9_thingOf_128 ?_
                  refine G_top (w := .int (nI (ct (fun a => s0 24 a = 1 ∧ s0 25 a = nI j) (i + 1)))) (congrArg Value.int (by first | exact ct_add_t (p := fun a => s0 24 a = 1 ∧ s0 25 a = nI j) ⟨c109, c120⟩ | exact ct_add_f (p := fun a => s0 24 a = 1 ∧ s0 25 a = nI j) (fun z => c109 z.1) | exact ct_add_f (p := fun a => s0 24 a = 1 ∧ s0 25 a = nI j) (fun z => c120 z.2))) ?_
                  refine G_istore_n dX9_thingOf_129 rfl (Nat.le_of_ble_eq_true rfl) rfl ?_
                  refine G_iinc (b := nI (i + 1)) dX9_thingOf_130 rfl (nI_1 i) rfl ?_
                  refine G_goto (tgt := 91) dX9_thingOf_133 (by decide) ?_
                  exact ih (i + 1) (by omega)
                · skip
                  refine G_iconst (v := 1) dX9_thingOf_123 rfl ?_
                  refine G_goto (tgt := 128) dX9_thingOf_124 (by decide) ?_
                  refine G_iadd dX9_thingOf_128 ?_
                  refine G_top (w := .int (nI (ct (fun a => s0 24 a = 1 ∧ s0 25 a = nI j) (i + 1)))) (congrArg Value.int (by first | exact ct_add_t (p := fun a => s0 24 a = 1 ∧ s0 25 a = nI j) ⟨c109, c120⟩ | exact ct_add_f (p := fun a => s0 24 a = 1 ∧ s0 25 a = nI j) (fun z => c109 z.1) | exact ct_add_f (p := fun a => s0 24 a = 1 ∧ s0 25 a = nI j) (fun z => c120 z.2))) ?_
                  refine G_istore_n dX9_thingOf_129 rfl (Nat.le_of_ble_eq_true rfl) rfl ?_
                  refine G_iinc (b := nI (i + 1)) dX9_thingOf_130 rfl (nI_1 i) rfl ?_
                  refine G_goto (tgt := 91) dX9_thingOf_133 (by decide) ?_
                  exact ih (i + 1) (by omega)
        exact loop (mA s0) 0 (by omega)
  · skip
    refine G_iconst (v := -1) dX9_thingOf_13 rfl ?_
    refine G_iret dX9_thingOf_14 rfl ?_
    exact m_close (Prod.ext rfl (cif_f (b1_0.mp c10)))
set_option maxHeartbeats 4000000 in
set_option maxRecDepth 100000 in
theorem c9_isFree {g : gT} {nq_ : Nat} {s : mS} {r : mH} (t f l : Int32) (hI : m_inv (m_set s 0 0 0)) : M g 2 0 0 kX9_isFree [.ref 24, .int t, .int f, .int l] nq_ (hm s r) (m_S (.int (sp_isFree (m_set s 0 0 0) t f l).2) nq_ (sp_isFree (m_set s 0 0 0) t f l).1 r) := by
  refine M_of_G (by decide +kernel) (Nat.le_of_ble_eq_true rfl) ?_
  refine G_aload_n dX9_isFree_0 rfl rfl ?_
  refine G_iconst (v := 0) dX9_isFree_1 rfl ?_
  refine GM_put dX9_isFree_2 fp_X9_97 ms_0 ?_
  generalize e0 : m_set s 0 0 0 = s0 at hI ⊢
  obtain ⟨hK, hT, hB, hP9, hA, hkf, haf, hbf⟩ := id hI
  refine G_aload_n dX9_isFree_5 rfl rfl ?_
  refine G_iload_n dX9_isFree_6 rfl rfl ?_
  refine GM_call (c9_isThing _) dX9_isFree_7 (mc_X9_158 rfl) tw_1077 tw_36 rfl rfl rfl (Nat.le_of_ble_eq_true rfl) (Nat.le_of_ble_eq_true rfl) ?_
  rintro _ n9_ _ ⟨rfl, e9_, rfl⟩
  obtain rfl := e9_.symm
  refine G_if_eq (tgt := 26) dX9_isFree_10 (by decide) (fun c10 => ?_) (fun c10 => ?_)
  · skip
    refine G_iconst (v := -1) dX9_isFree_26 rfl ?_
    refine G_iret dX9_isFree_27 rfl ?_
    refine m_close (Prod.ext rfl ?_); first | exact cif_f (fun q => b1_0.mp c10 q.1) | exact cif_f (fun q => absurd q.2.1 (Int32.not_le.mpr c18)) | exact cif_f (fun q => c23 q.2.2)
  · skip
    obtain ⟨j, hj, rfl⟩ := m_ixe hT (by decide) (b1_1 c10)
    have ej : ix (nI j) = j := nI_clamp (by omega)
    refine G_iload_n dX9_isFree_13 rfl rfl ?_
    refine G_aload_n dX9_isFree_14 rfl rfl ?_
    refine GM_get dX9_isFree_15 fg_X9_164 ms_11 ?_
    refine G_icmp_lt (tgt := 26) dX9_isFree_18 (by decide) (fun c18 => ?_) (fun c18 => ?_)
    · skip
      refine G_iconst (v := -1) dX9_isFree_26 rfl ?_
      refine G_iret dX9_isFree_27 rfl ?_
      refine m_close (Prod.ext rfl ?_); first | exact cif_f (fun q => b1_0.mp c10 q.1) | exact cif_f (fun q => absurd q.2.1 (Int32.not_le.mpr c18)) | exact cif_f (fun q => c23 q.2.2)
    · skip
      refine G_iload_n dX9_isFree_21 rfl rfl ?_
      refine G_iload_n dX9_isFree_22 rfl rfl ?_
      refine G_icmp_ge (tgt := 28) dX9_isFree_23 (by decide) (fun c23 => ?_) (fun c23 => ?_)
      · skip
        refine G_aload_n dX9_isFree_28 rfl rfl ?_
        refine G_iload_n dX9_isFree_29 rfl rfl ?_
        refine G_iload_n dX9_isFree_30 rfl rfl ?_
        refine G_iload_n dX9_isFree_31 rfl rfl ?_
        refine G_iconst (v := -1) dX9_isFree_32 rfl ?_
        refine GM_call (c9_isFreeFor j _ _ _ hI hj) dX9_isFree_33 (mc_X9_207 rfl) tw_1117 tw_43 rfl rfl rfl (Nat.le_of_ble_eq_true rfl) (Nat.le_of_ble_eq_true rfl) ?_
        rintro _ n9_ _ ⟨rfl, e9_, rfl⟩
        obtain rfl := e9_.symm
        refine G_if_eq (tgt := 43) dX9_isFree_36 (by decide) (fun c36 => ?_) (fun c36 => ?_)
        · skip
          refine G_iconst (v := 0) dX9_isFree_43 rfl ?_
          refine G_iret dX9_isFree_44 rfl ?_
          refine m_close (Prod.ext rfl ?_); show cif _ _ _ = _; rw [cif_t ⟨b1_1 c10, Int32.not_lt.mp c18, c23⟩]; first | exact c36 | exact b1_t (b1_1 c36)
        · skip
          refine G_iconst (v := 1) dX9_isFree_39 rfl ?_
          refine G_goto (tgt := 44) dX9_isFree_40 (by decide) ?_
          refine G_iret dX9_isFree_44 rfl ?_
          refine m_close (Prod.ext rfl ?_); show cif _ _ _ = _; rw [cif_t ⟨b1_1 c10, Int32.not_lt.mp c18, c23⟩]; first | exact c36 | exact b1_t (b1_1 c36)
      · skip
        refine G_iconst (v := -1) dX9_isFree_26 rfl ?_
        refine G_iret dX9_isFree_27 rfl ?_
        refine m_close (Prod.ext rfl ?_); first | exact cif_f (fun q => b1_0.mp c10 q.1) | exact cif_f (fun q => absurd q.2.1 (Int32.not_le.mpr c18)) | exact cif_f (fun q => c23 q.2.2)
set_option maxHeartbeats 4000000 in
set_option maxRecDepth 100000 in
theorem c9_memberOf {g : gT} {nq_ : Nat} {s : mS} {r : mH} (m w : Int32) (hI : m_inv (m_set s 0 0 0)) : M g 2 0 0 kX9_memberOf [.ref 24, .int m, .int w] nq_ (hm s r) (m_S (.int (sp_memberOf (m_set s 0 0 0) m w).2) nq_ (sp_memberOf (m_set s 0 0 0) m w).1 r) := by
  refine M_of_G (by decide +kernel) (Nat.le_of_ble_eq_true rfl) ?_
  refine G_aload_n dX9_memberOf_0 rfl rfl ?_
  refine G_iconst (v := 0) dX9_memberOf_1 rfl ?_
  refine GM_put dX9_memberOf_2 fp_X9_97 ms_0 ?_
  generalize e0 : m_set s 0 0 0 = s0 at hI ⊢
  obtain ⟨hK, hT, hB, hP9, hA, hkf, haf, hbf⟩ := id hI
  refine G_aload_n dX9_memberOf_5 rfl rfl ?_
  refine G_iload_n dX9_memberOf_6 rfl rfl ?_
  refine GM_call (c9_isMember _) dX9_memberOf_7 (mc_X9_174 rfl) tw_1101 tw_40 rfl rfl rfl (Nat.le_of_ble_eq_true rfl) (Nat.le_of_ble_eq_true rfl) ?_
  rintro _ n9_ _ ⟨rfl, e9_, rfl⟩
  obtain rfl := e9_.symm
  refine G_if_ne (tgt := 15) dX9_memberOf_10 (by decide) (fun c10 => ?_) (fun c10 => ?_)
  · skip
    obtain ⟨j, hj, rfl⟩ := m_ixe hB (by decide) (b1_1 c10)
    have ej : ix (nI j) = j := nI_clamp (by omega)
    refine G_iload_n dX9_memberOf_15 rfl rfl ?_
    refine G_tsw (tgt := 110) dX9_memberOf_16 (by decide) (fun c16 => ?_) (fun j9 e9 l9 => ?_)
    · skip
      skip
      refine G_iconst (v := -1) dX9_memberOf_110 rfl ?_
      refine G_iret dX9_memberOf_111 rfl ?_
      refine m_close (Prod.ext rfl ?_); show cif _ (cif _ _ _) _ = _; rw [cif_t (b1_1 c10), cif_f (tsw_w (hi := 2) c16)]
    · rcases (show j9 = 0 ∨ j9 = 1 ∨ j9 = 2 by omega) with rfl | rfl | rfl
      · refine ⟨28, 44, rfl, by decide, ?_⟩
        obtain rfl : w = nI 0 := tsw_e e9 (by decide)
        refine G_aload_n dX9_memberOf_44 rfl rfl ?_
        refine GM_ref dX9_memberOf_45 fg_X9_25 (fun _ => rfl) ?_
        refine G_iload_n dX9_memberOf_48 rfl rfl ?_
        refine GM_ld dX9_memberOf_49 mt_9 (by decide) ⟨rfl, by omega⟩ ?_
        refine G_iret dX9_memberOf_50 rfl ?_
        refine m_close (Prod.ext rfl ?_); show cif _ (cif _ (s_mof s0 (ix (nI j)) _) _) _ = _; rw [ej, cif_t (b1_1 c10), cif_t (by decide)]; rfl
      · refine ⟨35, 51, rfl, by decide, ?_⟩
        obtain rfl : w = nI 1 := tsw_e e9 (by decide)
        refine G_aload_n dX9_memberOf_51 rfl rfl ?_
        refine GM_ref dX9_memberOf_52 fg_X9_28 (fun _ => rfl) ?_
        refine G_iload_n dX9_memberOf_55 rfl rfl ?_
        refine GM_ld dX9_memberOf_56 mt_10 (by decide) ⟨rfl, by omega⟩ ?_
        refine G_iret dX9_memberOf_57 rfl ?_
        refine m_close (Prod.ext rfl ?_); show cif _ (cif _ (s_mof s0 (ix (nI j)) _) _) _ = _; rw [ej, cif_t (b1_1 c10), cif_t (by decide)]; rfl
      · refine ⟨42, 58, rfl, by decide, ?_⟩
        obtain rfl : w = nI 2 := tsw_e e9 (by decide)
        refine G_iconst (v := 0) dX9_memberOf_58 rfl ?_
        refine G_istore_n dX9_memberOf_59 rfl (Nat.le_of_ble_eq_true rfl) rfl ?_
        refine G_iconst (v := 0) dX9_memberOf_60 rfl ?_
        refine G_istore dX9_memberOf_61 (Nat.le_of_ble_eq_true rfl) rfl ?_
        have loop : ∀ m i, i + m = mA s0 → G g 2 0 0 kX9_memberOf 63 [.ref 24, .int (nI j), .int (nI 2), .int (nI (ct (fun a => s0 24 a = 3 ∧ s0 27 a = nI j) i)), .int (nI i)] [] nq_ (hm s0 r) (m_S (.int (sp_memberOf s0 (nI j) (nI 2)).2) nq_ (sp_memberOf s0 (nI j) (nI 2)).1 r) := by
          intro m
          induction m with
          | zero =>
            intro i hi0 
            rw [Nat.add_zero] at hi0
            refine G_iload dX9_memberOf_63 rfl ?_
            refine G_aload_n dX9_memberOf_65 rfl rfl ?_
            refine GM_get dX9_memberOf_66 fg_X9_171 ms_23 ?_
            refine G_icmp_ge (tgt := 108) dX9_memberOf_69 (by decide) (fun c69 => ?_) (fun c69 => ?_)
            · skip
              skip
              refine G_iload_n dX9_memberOf_108 rfl rfl ?_
              refine G_iret dX9_memberOf_109 rfl ?_
              refine m_close (Prod.ext rfl ?_); show cif _ (cif _ (s_mof s0 (ix (nI j)) _) _) _ = _; rw [ej, cif_t (b1_1 c10), cif_t (by decide)]; rw [hi0]; rfl
            · skip
              exact absurd (by rw [hA.1]; exact nI_le (Nat.le_of_eq hi0.symm) (by omega)) c69
          | succ m ih =>
            intro i hi0 
            refine G_iload dX9_memberOf_63 rfl ?_
            refine G_aload_n dX9_memberOf_65 rfl rfl ?_
            refine GM_get dX9_memberOf_66 fg_X9_171 ms_23 ?_
            refine G_icmp_ge (tgt := 108) dX9_memberOf_69 (by decide) (fun c69 => ?_) (fun c69 => ?_)
            · skip
              exact absurd c69 (by rw [hA.1, nI_leI (by omega) (by omega)]; omega)
            · skip
              refine G_iload_n dX9_memberOf_72 rfl rfl ?_
              refine G_aload_n dX9_memberOf_73 rfl rfl ?_
              refine GM_ref dX9_memberOf_74 fg_X9_45 (fun _ => rfl) ?_
              refine G_iload dX9_memberOf_77 rfl ?_
              refine GM_ld dX9_memberOf_79 mt_24 (by decide) ⟨rfl, by omega⟩ ?_
              refine G_iconst (v := 3) dX9_memberOf_80 rfl ?_
              refine G_icmp_ne (tgt := 99) dX9_memberOf_81 (by decide) (fun c81 => ?_) (fun c81 => ?_)
              · skip
                refine G_iconst (v := 0) dX9_memberOf_99 rfl ?_
                refine G_iadd dX9_memberOf_100 ?_
                refine G_top (w := .int (nI (ct (fun a => s0 24 a = 3 ∧ s0 27 a = nI j) (i + 1)))) (congrArg Value.int (by first | exact ct_add_t (p := fun a => s0 24 a = 3 ∧ s0 27 a = nI j) ⟨c81, c92⟩ | exact ct_add_f (p := fun a => s0 24 a = 3 ∧ s0 27 a = nI j) (fun z => c81 z.1) | exact ct_add_f (p := fun a => s0 24 a = 3 ∧ s0 27 a = nI j) (fun z => c92 z.2))) ?_
                refine G_istore_n dX9_memberOf_101 rfl (Nat.le_of_ble_eq_true rfl) rfl ?_
                refine G_iinc (b := nI (i + 1)) dX9_memberOf_102 rfl (nI_1 i) rfl ?_
                refine G_goto (tgt := 63) dX9_memberOf_105 (by decide) ?_
                exact ih (i + 1) (by omega)
              · skip
                refine G_aload_n dX9_memberOf_84 rfl rfl ?_
                refine GM_ref dX9_memberOf_85 fg_X9_54 (fun _ => rfl) ?_
                refine G_iload dX9_memberOf_88 rfl ?_
                refine GM_ld dX9_memberOf_90 mt_27 (by decide) ⟨rfl, by omega⟩ ?_
                refine G_iload_n dX9_memberOf_91 rfl rfl ?_
                refine G_icmp_ne (tgt := 99) dX9_memberOf_92 (by decide) (fun c92 => ?_) (fun c92 => ?_)
                · skip
                  refine G_iconst (v := 0) dX9_memberOf_99 rfl ?_
                  refine G_iadd dX9_memberOf_100 ?_
                  refine G_top (w := .int (nI (ct (fun a => s0 24 a = 3 ∧ s0 27 a = nI j) (i + 1)))) (congrArg Value.int (by first | exact ct_add_t (p := fun a => s0 24 a = 3 ∧ s0 27 a = nI j) ⟨c81, c92⟩ | exact ct_add_f (p := fun a => s0 24 a = 3 ∧ s0 27 a = nI j) (fun z => c81 z.1) | exact ct_add_f (p := fun a => s0 24 a = 3 ∧ s0 27 a = nI j) (fun z => c92 z.2))) ?_
                  refine G_istore_n dX9_memberOf_101 rfl (Nat.le_of_ble_eq_true rfl) rfl ?_
                  refine G_iinc (b := nI (i + 1)) dX9_memberOf_102 rfl (nI_1 i) rfl ?_
                  refine G_goto (tgt := 63) dX9_memberOf_105 (by decide) ?_
                  exact ih (i + 1) (by omega)
                · skip
                  refine G_iconst (v := 1) dX9_memberOf_95 rfl ?_
                  refine G_goto (tgt := 100) dX9_memberOf_96 (by decide) ?_
                  refine G_iadd dX9_memberOf_100 ?_
                  refine G_top (w := .int (nI (ct (fun a => s0 24 a = 3 ∧ s0 27 a = nI j) (i + 1)))) (congrArg Value.int (by first | exact ct_add_t (p := fun a => s0 24 a = 3 ∧ s0 27 a = nI j) ⟨c81, c92⟩ | exact ct_add_f (p := fun a => s0 24 a = 3 ∧ s0 27 a = nI j) (fun z => c81 z.1) | exact ct_add_f (p := fun a => s0 24 a = 3 ∧ s0 27 a = nI j) (fun z => c92 z.2))) ?_
                  refine G_istore_n dX9_memberOf_101 rfl (Nat.le_of_ble_eq_true rfl) rfl ?_
                  refine G_iinc (b := nI (i + 1)) dX9_memberOf_102 rfl (nI_1 i) rfl ?_
                  refine G_goto (tgt := 63) dX9_memberOf_105 (by decide) ?_
                  exact ih (i + 1) (by omega)
        exact loop (mA s0) 0 (by omega)
  · skip
    refine G_iconst (v := -1) dX9_memberOf_13 rfl ?_
    refine G_iret dX9_memberOf_14 rfl ?_
    exact m_close (Prod.ext rfl (cif_f (b1_0.mp c10)))
set_option maxHeartbeats 4000000 in
set_option maxRecDepth 100000 in
theorem c9_count {g : gT} {nq_ : Nat} {s : mS} {r : mH} (w : Int32) (hI : m_inv (m_set s 0 0 0)) : M g 2 0 0 kX9_count [.ref 24, .int w] nq_ (hm s r) (m_S (.int (sp_count (m_set s 0 0 0) w).2) nq_ (sp_count (m_set s 0 0 0) w).1 r) := by
  refine M_of_G (by decide +kernel) (Nat.le_of_ble_eq_true rfl) ?_
  refine G_aload_n dX9_count_0 rfl rfl ?_
  refine G_iconst (v := 0) dX9_count_1 rfl ?_
  refine GM_put dX9_count_2 fp_X9_97 ms_0 ?_
  generalize e0 : m_set s 0 0 0 = s0 at hI ⊢
  obtain ⟨hK, hT, hB, hP9, hA, hkf, haf, hbf⟩ := id hI
  refine G_iload_n dX9_count_5 rfl rfl ?_
  refine G_tsw (tgt := 83) dX9_count_6 (by decide) (fun c6 => ?_) (fun j9 e9 l9 => ?_)
  · skip
    skip
    refine G_iload_n dX9_count_83 rfl rfl ?_
    refine G_bipush (v := 10) dX9_count_84 rfl ?_
    refine G_bipush (v := 16) dX9_count_86 rfl ?_
    refine GM_calls (c9_within _ _ _) dX9_count_88 (mc_X9_100 rfl) tw_1021 rfl rfl (Nat.le_of_ble_eq_true rfl) (Nat.le_of_ble_eq_true rfl) ?_
    rintro _ n9_ _ ⟨rfl, e9_, rfl⟩
    obtain rfl := e9_.symm
    refine G_if_eq (tgt := 103) dX9_count_91 (by decide) (fun c91 => ?_) (fun c91 => ?_)
    · skip
      refine G_aload_n dX9_count_103 rfl rfl ?_
      refine G_iload_n dX9_count_104 rfl rfl ?_
      refine G_bipush (v := 20) dX9_count_105 rfl ?_
      refine G_isub dX9_count_107 ?_
      refine GM_call (c9_isKind _) dX9_count_108 (mc_X9_113 rfl) tw_1029 tw_30 rfl rfl rfl (Nat.le_of_ble_eq_true rfl) (Nat.le_of_ble_eq_true rfl) ?_
      rintro _ n9_ _ ⟨rfl, e9_, rfl⟩
      obtain rfl := e9_.symm
      refine G_if_eq (tgt := 125) dX9_count_111 (by decide) (fun c111 => ?_) (fun c111 => ?_)
      · skip
        refine G_iconst (v := -1) dX9_count_125 rfl ?_
        refine G_iret dX9_count_126 rfl ?_
        refine m_close (Prod.ext rfl ?_); show cif _ _ (cif _ _ (cif _ _ _)) = _; rw [cif_f (tsw_w (hi := 6) c6)]; rw [cif_f (b1_0.mp c91)]; first | exact cif_f (b1_0.mp c111) | (rw [cif_t (b1_1 c111), ejw, ixn (by omega)])
      · skip
        obtain ⟨j, hj, ejw⟩ := m_ixe hK (by decide) (b1_1 c111)
        refine G_aload_n dX9_count_114 rfl rfl ?_
        refine G_iload_n dX9_count_115 rfl rfl ?_
        refine G_bipush (v := 20) dX9_count_116 rfl ?_
        refine G_isub dX9_count_118 ?_
        refine G_top (congrArg Value.int ejw) ?_
        refine GM_call (c9_wanted j hI (by omega)) dX9_count_119 (mc_X9_155 rfl) tw_1093 tw_39 rfl rfl rfl (Nat.le_of_ble_eq_true rfl) (Nat.le_of_ble_eq_true rfl) ?_
        rintro _ n9_ _ ⟨rfl, e9_, rfl⟩
        obtain rfl := e9_.symm
        refine G_goto (tgt := 126) dX9_count_122 (by decide) ?_
        refine G_iret dX9_count_126 rfl ?_
        refine m_close (Prod.ext rfl ?_); show cif _ _ (cif _ _ (cif _ _ _)) = _; rw [cif_f (tsw_w (hi := 6) c6)]; rw [cif_f (b1_0.mp c91)]; first | exact cif_f (b1_0.mp c111) | (rw [cif_t (b1_1 c111), ejw, ixn (by omega)])
    · skip
      refine G_aload_n dX9_count_94 rfl rfl ?_
      refine G_iload_n dX9_count_95 rfl rfl ?_
      refine G_bipush (v := 10) dX9_count_96 rfl ?_
      refine G_isub dX9_count_98 ?_
      refine GM_call (c9_counted _ hI) dX9_count_99 (mc_X9_177 rfl) tw_1105 tw_41 rfl rfl rfl (Nat.le_of_ble_eq_true rfl) (Nat.le_of_ble_eq_true rfl) ?_
      rintro _ n9_ _ ⟨rfl, e9_, rfl⟩
      obtain rfl := e9_.symm
      refine G_iret dX9_count_102 rfl ?_
      refine m_close (Prod.ext rfl ?_); show cif _ _ (cif _ _ (cif _ _ _)) = _; rw [cif_f (tsw_w (hi := 6) c6)]; rw [cif_t (b1_1 c91)]
  · rcases (show j9 = 0 ∨ j9 = 1 ∨ j9 = 2 ∨ j9 = 3 ∨ j9 = 4 ∨ j9 = 5 ∨ j9 = 6 by omega) with rfl | rfl | rfl | rfl | rfl | rfl | rfl
    · refine ⟨42, 48, rfl, by decide, ?_⟩
      obtain rfl : w = nI 0 := tsw_e e9 (by decide)
      refine G_aload_n dX9_count_48 rfl rfl ?_
      refine GM_get dX9_count_49 fg_X9_104 ms_1 ?_
      refine G_iret dX9_count_52 rfl ?_
      refine m_close (Prod.ext rfl ?_); show cif _ (s_cnt s0 _) _ = _; rw [cif_t (by decide)]; rfl
    · refine ⟨47, 53, rfl, by decide, ?_⟩
      obtain rfl : w = nI 1 := tsw_e e9 (by decide)
      refine G_aload_n dX9_count_53 rfl rfl ?_
      refine GM_get dX9_count_54 fg_X9_107 ms_5 ?_
      refine G_iret dX9_count_57 rfl ?_
      refine m_close (Prod.ext rfl ?_); show cif _ (s_cnt s0 _) _ = _; rw [cif_t (by decide)]; rfl
    · refine ⟨52, 58, rfl, by decide, ?_⟩
      obtain rfl : w = nI 2 := tsw_e e9 (by decide)
      refine G_aload_n dX9_count_58 rfl rfl ?_
      refine GM_get dX9_count_59 fg_X9_110 ms_8 ?_
      refine G_iret dX9_count_62 rfl ?_
      refine m_close (Prod.ext rfl ?_); show cif _ (s_cnt s0 _) _ = _; rw [cif_t (by decide)]; rfl
    · refine ⟨57, 63, rfl, by decide, ?_⟩
      obtain rfl : w = nI 3 := tsw_e e9 (by decide)
      refine G_aload_n dX9_count_63 rfl rfl ?_
      refine GM_get dX9_count_64 fg_X9_149 ms_14 ?_
      refine G_iret dX9_count_67 rfl ?_
      refine m_close (Prod.ext rfl ?_); show cif _ (s_cnt s0 _) _ = _; rw [cif_t (by decide)]; rfl
    · refine ⟨62, 68, rfl, by decide, ?_⟩
      obtain rfl : w = nI 4 := tsw_e e9 (by decide)
      refine G_aload_n dX9_count_68 rfl rfl ?_
      refine GM_get dX9_count_69 fg_X9_164 ms_11 ?_
      refine G_iret dX9_count_72 rfl ?_
      refine m_close (Prod.ext rfl ?_); show cif _ (s_cnt s0 _) _ = _; rw [cif_t (by decide)]; rfl
    · refine ⟨67, 73, rfl, by decide, ?_⟩
      obtain rfl : w = nI 5 := tsw_e e9 (by decide)
      refine G_aload_n dX9_count_73 rfl rfl ?_
      refine GM_get dX9_count_74 fg_X9_171 ms_23 ?_
      refine G_iret dX9_count_77 rfl ?_
      refine m_close (Prod.ext rfl ?_); show cif _ (s_cnt s0 _) _ = _; rw [cif_t (by decide)]; rfl
    · refine ⟨72, 78, rfl, by decide, ?_⟩
      obtain rfl : w = nI 6 := tsw_e e9 (by decide)
      refine G_aload_n dX9_count_78 rfl rfl ?_
      refine GM_get dX9_count_79 fg_X9_117 ms_13 ?_
      refine G_iret dX9_count_82 rfl ?_
      refine m_close (Prod.ext rfl ?_); show cif _ (s_cnt s0 _) _ = _; rw [cif_t (by decide)]; rfl
