/-! the reference: its object is cell 24, its arrays the cells behind it; s j i is place i of its field j -/
abbrev mS : Type := Nat → Nat → Int32
def m_tab : List (Nat × Nat × Nat) := [(0, 8, 2), (0, 8, 3), (0, 8, 4), (0, 12, 6), (0, 12, 7), (0, 10, 9), (0, 10, 10), (1, 200, 12), (0, 8, 15), (0, 8, 16), (0, 120, 24), (0, 120, 25), (0, 120, 26), (0, 120, 27), (0, 120, 28), (0, 120, 29), (0, 120, 30), (0, 120, 31), (0, 120, 32), (0, 120, 33), (0, 5, 34), (0, 5, 36), (0, 5, 37), (2, 60, 39), (2, 120, 40), (0, 120, 41), (0, 120, 42)]
def m_t (a : Nat) : Option (Nat × Nat × Nat) := if a ≤ 24 then none else m_tab[a - 25]?
def m_set (s : mS) (j i : Nat) (v : Int32) : mS := fun a b => if a = j ∧ b = i then v else s a b
def m_fs (s : mS) : List Value := [.int (s 0 0), .int (s 1 0), .ref 25, .ref 26, .ref 27, .int (s 5 0), .ref 28, .ref 29, .int (s 8 0), .ref 30, .ref 31, .int (s 11 0), .ref 32, .int (s 13 0), .int (s 14 0), .ref 33, .ref 34, .int (s 17 0), .int (s 18 0), .int (s 19 0), .int (s 20 0), .int (s 21 0), .int (s 22 0), .int (s 23 0), .ref 35, .ref 36, .ref 37, .ref 38, .ref 39, .ref 40, .ref 41, .ref 42, .ref 43, .ref 44, .ref 45, .int (s 35 0), .ref 46, .ref 47, .int (s 38 0), .ref 48, .ref 49, .ref 50, .ref 51]
def hm (s : mS) (r : mH) : mH := fun a => if a = 24 then some (.inr (9, m_fs s)) else match m_t a with
  | some (kd, N, j) => some (.inl (kd, N, .inl (s j)))
  | none => r a
theorem hm_o (s : mS) (r : mH) : hm s r 24 = some (.inr (9, m_fs s)) := if_pos rfl
theorem hm_a (s : mS) (r : mH) {a kd N j : Nat} (h : m_t a = some (kd, N, j)) : hm s r a = some (.inl (kd, N, .inl (s j))) := by
  have h24 : a ≠ 24 := fun q => by subst q; cases h
  unfold hm
  rw [if_neg h24, h]
theorem hm_r (s : mS) (r : mH) {a : Nat} (h : a < 24 ∨ 52 ≤ a) : hm s r a = r a := by
  have h24 : a ≠ 24 := by omega
  unfold hm
  rw [if_neg h24]
  have e : m_t a = none := by
    unfold m_t
    by_cases h1 : a ≤ 24
    · rw [if_pos h1]
    · rw [if_neg h1, List.getElem?_eq_none]
      show 27 ≤ a - 25
      omega
  rw [e]
theorem m_set_eq (s : mS) (j i : Nat) (v : Int32) : m_set s j i v j = upd (s j) i v := by
  funext b
  simp [m_set, upd]
theorem m_set_ne (s : mS) {j a : Nat} (i : Nat) (v : Int32) (h : a ≠ j) : m_set s j i v a = s a := by
  funext b
  simp [m_set, h]
theorem m_tab_inj : ∀ p, p < 27 → ∀ q, q < 27 → (m_tab[p]?).map (·.2.2) = (m_tab[q]?).map (·.2.2) → p = q := by decide
theorem m_t_inj {a b : Nat} {u w : Nat × Nat × Nat} (ha : m_t a = some u) (hb : m_t b = some w) (e : u.2.2 = w.2.2) : a = b := by
  unfold m_t at ha hb
  split at ha
  · cases ha
  · split at hb
    · cases hb
    · have h1 := (List.getElem?_eq_some_iff.mp ha).1
      have h2 := (List.getElem?_eq_some_iff.mp hb).1
      have := m_tab_inj (a - 25) h1 (b - 25) h2 (by rw [ha, hb]; simp [e])
      omega
def m_ar (j : Nat) : Prop := ∀ (s : mS) (i : Nat) (v : Int32), m_fs (m_set s j i v) = m_fs s
def m_sc (j : Nat) : Prop := (∀ (s : mS), (m_fs s)[j]? = some (.int (s j 0))) ∧ (∀ (s : mS) (v : Int32), m_fs (m_set s j 0 v) = (m_fs s).set j (.int v)) ∧ ∀ q ∈ m_tab, q.2.2 ≠ j
theorem hm_st (s : mS) (r : mH) {a kd N j : Nat} (i : Nat) (v : Int32) (h : m_t a = some (kd, N, j)) (hj : m_ar j) : va_up (hm s r) a (some (.inl (kd, N, .inl (upd (s j) i v)))) = hm (m_set s j i v) r := by
  funext b
  by_cases hb : b = a
  · subst hb
    rw [va_up_self, hm_a _ _ h, m_set_eq]
  · rw [va_up_ne _ _ hb]
    by_cases h24 : b = 24
    · subst h24
      rw [hm_o, hm_o, hj]
    · cases hq : m_t b with
      | none => unfold hm; rw [if_neg h24, if_neg h24, hq]
      | some w =>
        obtain ⟨kd2, N2, j2⟩ := w
        rw [hm_a _ _ hq, hm_a _ _ hq, m_set_ne]
        intro e
        exact hb (m_t_inj hq h e)
theorem hm_pt (s : mS) (r : mH) {j : Nat} (v : Int32) (hj : m_sc j) : va_up (hm s r) 24 (some (.inr (9, (m_fs s).set j (.int v)))) = hm (m_set s j 0 v) r := by
  funext b
  by_cases h24 : b = 24
  · subst h24
    rw [va_up_self, hm_o, hj.2.1]
  · rw [va_up_ne _ _ h24]
    cases hq : m_t b with
    | none => unfold hm; rw [if_neg h24, if_neg h24, hq]
    | some w =>
      obtain ⟨kd2, N2, j2⟩ := w
      rw [hm_a _ _ hq, hm_a _ _ hq, m_set_ne]
      have h1 : (kd2, N2, j2) ∈ m_tab := by
        unfold m_t at hq
        split at hq
        · cases hq
        · exact List.mem_of_getElem? hq
      exact hj.2.2 _ h1
theorem ms_0 : m_sc 0 := ⟨fun _ => rfl, fun _ _ => rfl, by decide⟩
theorem ms_1 : m_sc 1 := ⟨fun _ => rfl, fun _ _ => rfl, by decide⟩
theorem ma_2 : m_ar 2 := fun _ _ _ => rfl
theorem mt_2 : m_t 25 = some (0, 8, 2) := rfl
theorem ma_3 : m_ar 3 := fun _ _ _ => rfl
theorem mt_3 : m_t 26 = some (0, 8, 3) := rfl
theorem ma_4 : m_ar 4 := fun _ _ _ => rfl
theorem mt_4 : m_t 27 = some (0, 8, 4) := rfl
theorem ms_5 : m_sc 5 := ⟨fun _ => rfl, fun _ _ => rfl, by decide⟩
theorem ma_6 : m_ar 6 := fun _ _ _ => rfl
theorem mt_6 : m_t 28 = some (0, 12, 6) := rfl
theorem ma_7 : m_ar 7 := fun _ _ _ => rfl
theorem mt_7 : m_t 29 = some (0, 12, 7) := rfl
theorem ms_8 : m_sc 8 := ⟨fun _ => rfl, fun _ _ => rfl, by decide⟩
theorem ma_9 : m_ar 9 := fun _ _ _ => rfl
theorem mt_9 : m_t 30 = some (0, 10, 9) := rfl
theorem ma_10 : m_ar 10 := fun _ _ _ => rfl
theorem mt_10 : m_t 31 = some (0, 10, 10) := rfl
theorem ms_11 : m_sc 11 := ⟨fun _ => rfl, fun _ _ => rfl, by decide⟩
theorem ma_12 : m_ar 12 := fun _ _ _ => rfl
theorem mt_12 : m_t 32 = some (1, 200, 12) := rfl
theorem ms_13 : m_sc 13 := ⟨fun _ => rfl, fun _ _ => rfl, by decide⟩
theorem ms_14 : m_sc 14 := ⟨fun _ => rfl, fun _ _ => rfl, by decide⟩
theorem ma_15 : m_ar 15 := fun _ _ _ => rfl
theorem mt_15 : m_t 33 = some (0, 8, 15) := rfl
theorem ma_16 : m_ar 16 := fun _ _ _ => rfl
theorem mt_16 : m_t 34 = some (0, 8, 16) := rfl
theorem ms_17 : m_sc 17 := ⟨fun _ => rfl, fun _ _ => rfl, by decide⟩
theorem ms_18 : m_sc 18 := ⟨fun _ => rfl, fun _ _ => rfl, by decide⟩
theorem ms_19 : m_sc 19 := ⟨fun _ => rfl, fun _ _ => rfl, by decide⟩
theorem ms_20 : m_sc 20 := ⟨fun _ => rfl, fun _ _ => rfl, by decide⟩
theorem ms_21 : m_sc 21 := ⟨fun _ => rfl, fun _ _ => rfl, by decide⟩
theorem ms_22 : m_sc 22 := ⟨fun _ => rfl, fun _ _ => rfl, by decide⟩
theorem ms_23 : m_sc 23 := ⟨fun _ => rfl, fun _ _ => rfl, by decide⟩
theorem ma_24 : m_ar 24 := fun _ _ _ => rfl
theorem mt_24 : m_t 35 = some (0, 120, 24) := rfl
theorem ma_25 : m_ar 25 := fun _ _ _ => rfl
theorem mt_25 : m_t 36 = some (0, 120, 25) := rfl
theorem ma_26 : m_ar 26 := fun _ _ _ => rfl
theorem mt_26 : m_t 37 = some (0, 120, 26) := rfl
theorem ma_27 : m_ar 27 := fun _ _ _ => rfl
theorem mt_27 : m_t 38 = some (0, 120, 27) := rfl
theorem ma_28 : m_ar 28 := fun _ _ _ => rfl
theorem mt_28 : m_t 39 = some (0, 120, 28) := rfl
theorem ma_29 : m_ar 29 := fun _ _ _ => rfl
theorem mt_29 : m_t 40 = some (0, 120, 29) := rfl
theorem ma_30 : m_ar 30 := fun _ _ _ => rfl
theorem mt_30 : m_t 41 = some (0, 120, 30) := rfl
theorem ma_31 : m_ar 31 := fun _ _ _ => rfl
theorem mt_31 : m_t 42 = some (0, 120, 31) := rfl
theorem ma_32 : m_ar 32 := fun _ _ _ => rfl
theorem mt_32 : m_t 43 = some (0, 120, 32) := rfl
theorem ma_33 : m_ar 33 := fun _ _ _ => rfl
theorem mt_33 : m_t 44 = some (0, 120, 33) := rfl
theorem ma_34 : m_ar 34 := fun _ _ _ => rfl
theorem mt_34 : m_t 45 = some (0, 5, 34) := rfl
theorem ms_35 : m_sc 35 := ⟨fun _ => rfl, fun _ _ => rfl, by decide⟩
theorem ma_36 : m_ar 36 := fun _ _ _ => rfl
theorem mt_36 : m_t 46 = some (0, 5, 36) := rfl
theorem ma_37 : m_ar 37 := fun _ _ _ => rfl
theorem mt_37 : m_t 47 = some (0, 5, 37) := rfl
theorem ms_38 : m_sc 38 := ⟨fun _ => rfl, fun _ _ => rfl, by decide⟩
theorem ma_39 : m_ar 39 := fun _ _ _ => rfl
theorem mt_39 : m_t 48 = some (2, 60, 39) := rfl
theorem ma_40 : m_ar 40 := fun _ _ _ => rfl
theorem mt_40 : m_t 49 = some (2, 120, 40) := rfl
theorem ma_41 : m_ar 41 := fun _ _ _ => rfl
theorem mt_41 : m_t 50 = some (0, 120, 41) := rfl
theorem ma_42 : m_ar 42 := fun _ _ _ => rfl
theorem mt_42 : m_t 51 = some (0, 120, 42) := rfl
theorem GM_get {g : gT} {d x y : Nat} {k : mM} {pc : Nat} {L st : List Value} {n : Nat} {s : mS} {r : mH} {P : Option Value → Nat → mH → Prop} {index j : Nat} (hd : decode k.2.1 pc = .ok (.getfield index, 3)) (hf : g_f k.1.cls index 9 j) (hj : m_sc j) (K : G g d x y k (pc + 3) L (.int (s j 0) :: st) n (hm s r) P) : G g d x y k pc L (.ref 24 :: st) n (hm s r) P := G_get hd hf (hm_o s r) (hj.1 s) K
theorem GM_ref {g : gT} {d x y : Nat} {k : mM} {pc : Nat} {L st : List Value} {n : Nat} {s : mS} {r : mH} {P : Option Value → Nat → mH → Prop} {index j a : Nat} (hd : decode k.2.1 pc = .ok (.getfield index, 3)) (hf : g_f k.1.cls index 9 j) (hj : ∀ s, (m_fs s)[j]? = some (.ref a)) (K : G g d x y k (pc + 3) L (.ref a :: st) n (hm s r) P) : G g d x y k pc L (.ref 24 :: st) n (hm s r) P := G_get hd hf (hm_o s r) (hj s) K
theorem GM_put {g : gT} {d x y : Nat} {k : mM} {pc : Nat} {L st : List Value} {n : Nat} {s : mS} {r : mH} {P : Option Value → Nat → mH → Prop} {index j : Nat} {v : Int32} (hd : decode k.2.1 pc = .ok (.putfield index, 3)) (hf : g_fp k.1.cls index 9 j .int false) (hj : m_sc j) (K : G g d x y k (pc + 3) L st n (hm (m_set s j 0 v) r) P) : G g d x y k pc L (.int v :: .ref 24 :: st) n (hm s r) P := by
  refine G_put hd hf (hm_o s r) (List.getElem?_eq_some_iff.mp (hj.1 s)).1 g_fit_i ?_
  rw [hm_pt s r v hj]
  exact K
/-- an index that is a number: a = nI i, i < N -/
theorem GM_ld {g : gT} {d x y : Nat} {k : mM} {pc : Nat} {L st : List Value} {n : Nat} {s : mS} {r : mH} {P : Option Value → Nat → mH → Prop} {a N j i : Nat} {b : Int32} (hd : decode k.2.1 pc = .ok (.iaload, 1)) (ht : m_t a = some (0, N, j)) (hN : N < 2 ^ 31) (hi : b = nI i ∧ i < N) (K : G g d x y k (pc + 1) L (.int (s j i) :: st) n (hm s r) P) : G g d x y k pc L (.int b :: .ref a :: st) n (hm s r) P := by
  obtain ⟨rfl, h1⟩ := hi
  refine G_iald hd (hm_a s r ht) (vp_in_nI h1 hN) ?_
  rw [nI_clamp (by omega)]
  exact K
theorem GM_ldb {g : gT} {d x y : Nat} {k : mM} {pc : Nat} {L st : List Value} {n : Nat} {s : mS} {r : mH} {P : Option Value → Nat → mH → Prop} {a N j i : Nat} {b : Int32} (hd : decode k.2.1 pc = .ok (.baload, 1)) (ht : m_t a = some (1, N, j)) (hN : N < 2 ^ 31) (hi : b = nI i ∧ i < N) (K : G g d x y k (pc + 1) L (.int (s j i) :: st) n (hm s r) P) : G g d x y k pc L (.int b :: .ref a :: st) n (hm s r) P := by
  obtain ⟨rfl, h1⟩ := hi
  refine G_bald hd (hm_a s r ht) (vp_in_nI h1 hN) ?_
  rw [nI_clamp (by omega)]
  exact K
theorem GM_ldz {g : gT} {d x y : Nat} {k : mM} {pc : Nat} {L st : List Value} {n : Nat} {s : mS} {r : mH} {P : Option Value → Nat → mH → Prop} {a N j i : Nat} {b : Int32} (hd : decode k.2.1 pc = .ok (.baload, 1)) (ht : m_t a = some (2, N, j)) (hN : N < 2 ^ 31) (hi : b = nI i ∧ i < N) (K : G g d x y k (pc + 1) L (.int (s j i) :: st) n (hm s r) P) : G g d x y k pc L (.int b :: .ref a :: st) n (hm s r) P := by
  obtain ⟨rfl, h1⟩ := hi
  refine G_zald hd (hm_a s r ht) (vp_in_nI h1 hN) ?_
  rw [nI_clamp (by omega)]
  exact K
theorem GM_st {g : gT} {d x y : Nat} {k : mM} {pc : Nat} {L st : List Value} {n : Nat} {s : mS} {r : mH} {P : Option Value → Nat → mH → Prop} {a N j i : Nat} {b v : Int32} (hd : decode k.2.1 pc = .ok (.iastore, 1)) (ht : m_t a = some (0, N, j)) (hj : m_ar j) (hN : N < 2 ^ 31) (hi : b = nI i ∧ i < N) (K : G g d x y k (pc + 1) L st n (hm (m_set s j i v) r) P) : G g d x y k pc L (.int v :: .int b :: .ref a :: st) n (hm s r) P := by
  obtain ⟨rfl, h1⟩ := hi
  refine G_iast hd (hm_a s r ht) (vp_in_nI h1 hN) ?_
  rw [nI_clamp (by omega), hm_st s r i v ht hj]
  exact K
theorem GM_stb {g : gT} {d x y : Nat} {k : mM} {pc : Nat} {L st : List Value} {n : Nat} {s : mS} {r : mH} {P : Option Value → Nat → mH → Prop} {a N j i : Nat} {b v : Int32} (hd : decode k.2.1 pc = .ok (.bastore, 1)) (ht : m_t a = some (1, N, j)) (hj : m_ar j) (hN : N < 2 ^ 31) (hi : b = nI i ∧ i < N) (K : G g d x y k (pc + 1) L st n (hm (m_set s j i (vp_nar .byte v)) r) P) : G g d x y k pc L (.int v :: .int b :: .ref a :: st) n (hm s r) P := by
  obtain ⟨rfl, h1⟩ := hi
  refine G_bast hd (hm_a s r ht) (vp_in_nI h1 hN) ?_
  rw [nI_clamp (by omega), hm_st s r i (vp_nar .byte v) ht hj]
  exact K
theorem GM_stz {g : gT} {d x y : Nat} {k : mM} {pc : Nat} {L st : List Value} {n : Nat} {s : mS} {r : mH} {P : Option Value → Nat → mH → Prop} {a N j i : Nat} {b v : Int32} (hd : decode k.2.1 pc = .ok (.bastore, 1)) (ht : m_t a = some (2, N, j)) (hj : m_ar j) (hN : N < 2 ^ 31) (hi : b = nI i ∧ i < N) (K : G g d x y k (pc + 1) L st n (hm (m_set s j i (vp_nar .boolean v)) r) P) : G g d x y k pc L (.int v :: .int b :: .ref a :: st) n (hm s r) P := by
  obtain ⟨rfl, h1⟩ := hi
  refine G_zast hd (hm_a s r ht) (vp_in_nI h1 hN) ?_
  rw [nI_clamp (by omega), hm_st s r i (vp_nar .boolean v) ht hj]
  exact K
/-- calls of the reference's own methods -/
theorem GM_call {g : gT} {d x y : Nat} {k : mM} {pc : Nat} {L st : List Value} {n : Nat} {s : mS} {r : mH} {P : Option Value → Nat → mH → Prop} {c9 : mM} {d' index na : Nat} {As st0 : List Value} {P' : Option Value → Nat → mH → Prop} (hM : M g d' 0 0 c9 (.ref 24 :: As) n (hm s r) P') (hd : decode k.2.1 pc = .ok (.invokevirtual index, 3)) (hc : g_cm k c9 index na) (hi9 : Cond.instanceMethod c9.1 ∈ TB) (hs9 : Cond.selects c9.1.cls c9.1 c9.1 ∈ TB) (hb2 : some RX9 = some c9.1.cls) (hs : st0 = As.reverse ++ .ref 24 :: st) (hn : As.length = na) (hw : (st.map fun v => v.category).sum ≤ 8) (hd9 : d' + 1 ≤ d)
    (K : ∀ v n' h', P' v n' h' → G g d x y k (pc + 3) L (v.toList ++ st) n' h' P) : G g d x y k pc L st0 n (hm s r) P := G_callV hM hd hc hi9 hs9 (hm_o s r) (ci := 9) hb2 hs hn hw hd9 (Nat.zero_le _) (Nat.zero_le _) K
theorem GM_calls {g : gT} {d x y : Nat} {k : mM} {pc : Nat} {L st : List Value} {n : Nat} {s : mS} {r : mH} {P : Option Value → Nat → mH → Prop} {c9 : mM} {d' index na : Nat} {As st0 : List Value} {P' : Option Value → Nat → mH → Prop} (hM : M g d' 0 0 c9 As n (hm s r) P') (hd : decode k.2.1 pc = .ok (.invokestatic index, 3)) (hc : g_cm k c9 index na) (hi9 : Cond.static c9.1 ∈ TB) (hs : st0 = As.reverse ++ st) (hn : As.length = na) (hw : (st.map fun v => v.category).sum ≤ 8) (hd9 : d' + 1 ≤ d)
    (K : ∀ v n' h', P' v n' h' → G g d x y k (pc + 3) L (v.toList ++ st) n' h' P) : G g d x y k pc L st0 n (hm s r) P := G_callS hM hd hc hi9 hs hn hw hd9 (Nat.zero_le _) (Nat.zero_le _) K
/-- what a reading method leaves: an answer, nothing changed -/
def m_Q (v : Value) (n : Nat) (h : mH) : Option Value → Nat → mH → Prop := fun v' n' h' => v' = some v ∧ n' = n ∧ h' = h
