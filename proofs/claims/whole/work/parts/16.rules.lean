theorem tw_307 : (Cond.native ({ cls := "java/lang/Object", name := "getClass", desc := "()Ljava/lang/Class;" } : MethodName)) ∈ TB := List.mem_filter.mpr ⟨tm_2 _ (List.mem_of_getElem? (i := 15) rfl), rfl⟩
theorem tw_319 : (Cond.native ({ cls := "java/lang/System", name := "arraycopy", desc := "(Ljava/lang/Object;ILjava/lang/Object;II)V" } : MethodName)) ∈ TB := List.mem_filter.mpr ⟨tm_2 _ (List.mem_of_getElem? (i := 27) rfl), rfl⟩
theorem G_i2c {g : gT} {d x y : Nat} {k : mM} {pc : Nat} {L st : List Value} {n : Nat} {h : mH} {P : Option Value → Nat → mH → Prop} {a : Int32} (hd : decode k.2.1 pc = .ok (.i2c, 1)) (K : G g d x y k (pc + 1) L (.int (a.toUInt32 % 65536).toInt32 :: st) n h P) : G g d x y k pc L (.int a :: st) n h P := by
  intro p e R s m args below meth c H locs cells slots ls S B C F E
  exact lv_i2c S.1 S.2.1 hd rfl (K p e R s m args below meth c H locs cells slots ls S B C F E)
theorem G_aload_nR {g : gT} {d x y : Nat} {k : mM} {pc : Nat} {L st : List Value} {n : Nat} {h : mH} {P : Option Value → Nat → mH → Prop} {f : Fin 4} {i : Nat} {o : Option Nat} (hd : decode k.2.1 pc = .ok (.aload_n f, 1)) (hi : (f : Nat) = i) (hl : L[i]? = some (va_rf o)) (K : G g d x y k (pc + 1) L (va_rf o :: st) n h P) : G g d x y k pc L st n h P := by
  cases o with
  | none => exact G_aload_nN hd hi hl K
  | some a => exact G_aload_n hd hi hl K
theorem G_aloadR {g : gT} {d x y : Nat} {k : mM} {pc : Nat} {L st : List Value} {n : Nat} {h : mH} {P : Option Value → Nat → mH → Prop} {i : Nat} {o : Option Nat} (hd : decode k.2.1 pc = .ok (.aload i, 2)) (hl : L[i]? = some (va_rf o)) (K : G g d x y k (pc + 2) L (va_rf o :: st) n h P) : G g d x y k pc L st n h P := by
  cases o with
  | none => exact G_aloadN hd hl K
  | some a => exact G_aload hd hl K
theorem G_astore_nR {g : gT} {d x y : Nat} {k : mM} {pc : Nat} {L st : List Value} {n : Nat} {h : mH} {P : Option Value → Nat → mH → Prop} {f : Fin 4} {i : Nat} {o : Option Nat} (hd : decode k.2.1 pc = .ok (.astore_n f, 1)) (hi : (f : Nat) = i) (hi2 : i < L.length) (hc : ((L[i - 1]?).all (fun w => w.category == 1)) = true) (K : G g d x y k (pc + 1) (L.set i (va_rf o)) st n h P) : G g d x y k pc L (va_rf o :: st) n h P := by
  cases o with
  | none => exact G_astore_nN hd hi hi2 hc K
  | some a => exact G_astore_n hd hi hi2 hc K
theorem G_astoreR {g : gT} {d x y : Nat} {k : mM} {pc : Nat} {L st : List Value} {n : Nat} {h : mH} {P : Option Value → Nat → mH → Prop} {i : Nat} {o : Option Nat} (hd : decode k.2.1 pc = .ok (.astore i, 2)) (hi2 : i < L.length) (hc : ((L[i - 1]?).all (fun w => w.category == 1)) = true) (K : G g d x y k (pc + 2) (L.set i (va_rf o)) st n h P) : G g d x y k pc L (va_rf o :: st) n h P := by
  cases o with
  | none => exact G_astoreN hd hi2 hc K
  | some a => exact G_astore hd hi2 hc K
theorem G_castR {g : gT} {d x y : Nat} {k : mM} {pc : Nat} {L st : List Value} {n : Nat} {h : mH} {P : Option Value → Nat → mH → Prop} {index ci : Nat} {o : Option Nat} {r : vw_C} (hd : decode k.2.1 pc = .ok (.checkcast index, 3)) (hc : g_cl[ci]? = some r) (hl : Cond.classLink k.1.cls index r.1 ∈ TB) (hi : ∀ i, o = some i → ∃ fs, h i = some (.inr (ci, fs))) (K : G g d x y k (pc + 3) L (va_rf o :: st) n h P) : G g d x y k pc L (va_rf o :: st) n h P := by
  cases o with
  | none => exact G_castN hd K
  | some a =>
    obtain ⟨fs, hfs⟩ := hi a rfl
    exact G_cast hd hc hl hfs K
theorem G_ifnullR {g : gT} {d x y : Nat} {k : mM} {pc : Nat} {L st : List Value} {n : Nat} {h : mH} {P : Option Value → Nat → mH → Prop} {o : Option Nat} {off : Int} {tgt : Nat} (hd : decode k.2.1 pc = .ok (.ifnull off, 3)) (ht : (pc : Int) + off = (tgt : Int)) (K : o = none → G g d x y k tgt L st n h P) (K2 : ∀ i, o = some i → G g d x y k (pc + 3) L st n h P) : G g d x y k pc L (va_rf o :: st) n h P := by
  cases o with
  | none => exact G_ifnullN hd ht (K rfl)
  | some a => exact G_ifnull hd (K2 a rfl)
theorem G_ifnonnullR {g : gT} {d x y : Nat} {k : mM} {pc : Nat} {L st : List Value} {n : Nat} {h : mH} {P : Option Value → Nat → mH → Prop} {o : Option Nat} {off : Int} {tgt : Nat} (hd : decode k.2.1 pc = .ok (.ifnonnull off, 3)) (ht : (pc : Int) + off = (tgt : Int)) (K : ∀ i, o = some i → G g d x y k tgt L st n h P) (K2 : o = none → G g d x y k (pc + 3) L st n h P) : G g d x y k pc L (va_rf o :: st) n h P := by
  cases o with
  | none => exact G_ifnonnullN hd (K2 rfl)
  | some a => exact G_ifnonnull hd ht (K a rfl)
theorem g_fit_r {C : String} {o : Option Nat} : g_fit (.object C) (va_rf o) := by
  cases o with
  | none => exact g_fit_on
  | some a => exact g_fit_o
theorem va_cpy_map {α β : Type} (m : α → β) (f g : Nat → α) (a b c : Nat) : va_cpy (fun k => m (f k)) (fun k => m (g k)) a b c = fun k => m (va_cpy f g a b c k) := by
  funext q
  unfold va_cpy
  split <;> rfl
/-- System.arraycopy between two arrays of objects -/
theorem G_copy {g : gT} {d x y : Nat} {k : mM} {pc : Nat} {L st : List Value} {n : Nat} {h : mH} {P : Option Value → Nat → mH → Prop} {index i j N1 N2 : Nat} {f1 f2 : Nat → Option Nat} {sp dp c9 : Int32} (hd : decode k.2.1 pc = .ok (.invokestatic index, 3)) (hl : Cond.methodLink k.1.cls index arraycopyName ∈ TB) (hi : h i = some (.inl (4, N1, .inr (.inr (.inr (.inr f1)))))) (hj : h j = some (.inl (4, N2, .inr (.inr (.inr (.inr f2)))))) (h1 : ¬ sp < 0) (h2 : ¬ dp < 0) (h3 : ¬ c9 < 0) (h4 : sp.toNatClampNeg + c9.toNatClampNeg ≤ N1) (h5 : dp.toNatClampNeg + c9.toNatClampNeg ≤ N2) (hel : ∀ z : Nat, z < c9.toNatClampNeg → ∀ y9 : Nat, f1 (sp.toNatClampNeg + z) = some y9 → ∃ ci fs r, h y9 = some (.inr (ci, fs)) ∧ g_cl[ci]? = some r ∧ Cond.castable r.1 "java/lang/Object" ∈ NW) (hs : (st.map fun v => v.category).sum ≤ 10) (hd1 : 1 ≤ d) (K : G g d x y k (pc + 3) L st n (va_up h j (some (.inl (4, N2, .inr (.inr (.inr (.inr (va_cpy f1 f2 sp.toNatClampNeg dp.toNatClampNeg c9.toNatClampNeg)))))))) P) : G g d x y k pc L (.int c9 :: .int dp :: .ref j :: .int sp :: .ref i :: st) n h P := by
  intro p e R s m args below meth c H locs cells slots ls S B C F E
  obtain ⟨hx, hb, hml, -, -, hnm, hown, hts, hK, hO⟩ := id S
  have nn : ∀ z : Int32, ¬ z < 0 → z.toInt = (z.toNatClampNeg : Int) := by
    intro z hz
    have hz0 : (0 : Int) ≤ z.toInt := by
      have := Int32.not_lt.mp hz
      simpa using Int32.le_iff_toInt_le.mp this
    show z.toInt = ((z.toInt.toNat : Nat) : Int)
    omega
  obtain ⟨i1, -, hci⟩ := C.2.2 i _ hi
  obtain ⟨j1, -, hcj⟩ := C.2.2 j _ hj
  have hc0 : H[g_ad g i]? = some (vp_cell (g_c g 4) (N1, .inr (.inr (.inr (.inr (fun q => (f1 q).map (g_ad g))))))) := hci
  have hc1 : H[g_ad g j]? = some (vp_cell (g_c g 4) (N2, .inr (.inr (.inr (.inr (fun q => (f2 q).map (g_ad g))))))) := hcj
  have ht4 : (g_tys g)[4]? = some (g_c g 4, .object "java/lang/Object") := rfl
  intro T hT X
  obtain ⟨-, k0, hk0, cm0, hkk0⟩ := (hK.2 4 _ ht4).1 N1 (fun q => va_rf ((f1 q).map (g_ad g)))
  obtain ⟨-, k1, hk1, cm1, hkk1⟩ := (hK.2 4 _ ht4).1 N2 (fun q => va_rf ((f2 q).map (g_ad g)))
  obtain ⟨vm', X', step⟩ := X.arraycopy hx hown (hts _ hl) (hts _ tw_319) (hts _ tw_318) (hts _ tw_66) (src := g_ad g i) (dst := g_ad g j) (cs := vp_cell (g_c g 4) (N1, .inr (.inr (.inr (.inr (fun q => (f1 q).map (g_ad g))))))) (cd := vp_cell (g_c g 4) (N2, .inr (.inr (.inr (.inr (fun q => (f2 q).map (g_ad g))))))) (srcPos := sp) (destPos := dp) (n := c9) (by rw [hT]; exact hc0) (by rw [hT]; exact hc1)
    (fun _ h => by cases h) (fun _ h => by cases h) (fun h => by cases h) (fun h => by cases h) hk0 hk1 hkk0 hkk1 rfl h1 h2 h3
    (by rw [nn sp h1, nn c9 h3]; show ¬ _ > ((arrV (g_c g 4) N1 (fun q => va_rf ((f1 q).map (g_ad g)))).slots.size : Int); rw [arrV_size]; omega)
    (by rw [nn dp h2, nn c9 h3]; show ¬ _ > ((arrV (g_c g 4) N2 (fun q => va_rf ((f2 q).map (g_ad g)))).slots.size : Int); rw [arrV_size]; omega)
    (fun vm₁ hal z hz => by
      have e9 : (vp_cell (g_c g 4) (N1, .inr (.inr (.inr (.inr (fun q => (f1 q).map (g_ad g))))))).slots.getD (sp.toNatClampNeg + z) .null = va_rf ((f1 (sp.toNatClampNeg + z)).map (g_ad g)) := by
        show (arrV (g_c g 4) N1 (fun q => va_rf ((f1 q).map (g_ad g)))).slots.getD _ _ = _
        rw [Array.getD_eq_getD_getElem?, arrV_read _ _ (by omega)]
        rfl
      rw [e9]
      cases hy : f1 (sp.toNatClampNeg + z) with
      | none => exact ⟨rfl, trivial⟩
      | some y9 =>
        obtain ⟨ci, fs, r, q1, q2, q3⟩ := hel z hz y9 hy
        obtain ⟨-, -, r', hr', cellV, g1, g2, g3, -⟩ := C.2.2 y9 _ q1
        have hcls := (hK.1 ci r q2).2
        obtain ⟨kA, comp, r1, r2, r3, -⟩ := (hK.2 4 _ ht4).2
        cases hk1.symm.trans r1
        cases hkk1.symm.trans r2
        obtain ⟨kC, hkC, -⟩ := hcls.2
        obtain ⟨kE, hkE, -⟩ := Vm.findClass_spec r3
        obtain ⟨kC', hkC', -⟩ := hal.2.2 _ _ hkC
        obtain ⟨kE', hkE', -⟩ := hal.2.2 _ _ hkE
        refine ⟨rfl, cellV, (show T.heap[g_ad g y9]? = some cellV by rw [hT]; exact g1), (fun q h => by rw [g3] at h; cases h), ⟨kC', by rw [g2]; exact hkC'⟩, ?_, ?_⟩
        · exact ⟨kE', hkE'⟩
        · show vm₁.assignable _ _ = true
          rw [hal.assignable, g2]
          exact vb_asgC (hO.1 _ q3) _ _ r3 hcls.1)
    (g := F0 m pc ls (.int c9 :: .int dp :: .ref (g_ad g j) :: .int sp :: .ref (g_ad g i) :: st.map (g_v g))) rfl (by rw [hml]; exact E.2.1) (rest := st.map (g_v g)) rfl (by rw [hb]; exact hd) (Nat.le_trans hd1 B.1) (by
      show 2 * 0 + _ + _ ≤ _
      rw [g_cats]
      have := B.2.1
      have hw : nativeFrameWords "java/lang/System" "arraycopy" 5 ≤ 10 := by decide
      omega)
  have e1 : copied (vp_cell (g_c g 4) (N1, .inr (.inr (.inr (.inr (fun q => (f1 q).map (g_ad g))))))) (vp_cell (g_c g 4) (N2, .inr (.inr (.inr (.inr (fun q => (f2 q).map (g_ad g))))))) sp dp c9 = vp_cell (g_c g 4) (N2, .inr (.inr (.inr (.inr (fun q => (va_cpy f1 f2 sp.toNatClampNeg dp.toNatClampNeg c9.toNatClampNeg q).map (g_ad g)))))) := by
    rw [vp_cell_q, vp_cell_q, vp_cell_q]
    exact (va_copied (fun z => va_rf z) (g_c g 4) (g_c g 4) (fun q => (f1 q).map (g_ad g)) (fun q => (f2 q).map (g_ad g)) h4).trans (by rw [va_cpy_map (fun z : Option Nat => z.map (g_ad g))])
  rw [e1] at X' step
  have hl9 : g_ad g j < H.size := (Array.getElem?_eq_some_iff.mp hc1).1
  generalize hcd : vp_cell (g_c g 4) (N2, .inr (.inr (.inr (.inr (fun q => (va_cpy f1 f2 sp.toNatClampNeg dp.toNatClampNeg c9.toNatClampNeg q).map (g_ad g)))))) = cd at X' step
  have hheap : ((T.setVm vm').setCell (g_ad g j) cd).heap = H.setIfInBounds (g_ad g j) cd := by rw [← hT]; rfl
  have oq : ∀ q : Nat, q ≠ g_ad g j → (H.setIfInBounds (g_ad g j) cd)[q]? = H[q]? := fun q hq => by simp [Array.getElem?_setIfInBounds, Ne.symm hq]
  have oz : (H.setIfInBounds (g_ad g j) cd).size = H.size := by simp
  obtain ⟨t, a1, b1⟩ := K p e R s m args below meth c (H.setIfInBounds (g_ad g j) cd) _ cells slots ls S B (C.put hj (show (H.setIfInBounds (g_ad g j) cd)[g_ad g j]? = some _ by rw [Array.getElem?_setIfInBounds_self_of_lt hl9, ← hcd]; rfl) oz oq) ⟨by rw [oz]; exact F.1, fun q g1 g2 => by
      rw [oq q (fun e => g2 (by rw [e]; exact g_ad_A g j1))]
      exact F.2.1 q g1 g2, fun q hq => by
      rcases List.mem_append.mp hq with h | h
      · exact F.2.2 q h
      · obtain ⟨z, -, hz⟩ := List.mem_map.mp h
        rw [← hz]
        exact g_ad_A g j1⟩ E _ hheap X'
  exact ⟨t, step t a1, b1⟩
theorem G_lt {g : gT} {d x y : Nat} {k : mM} {pc : Nat} {L st : List Value} {n : Nat} {h : mH} {P : Option Value → Nat → mH → Prop} {i : Nat} {c9 : mE} (hi : h i = some c9) (K : 8 ≤ i → i < n → G g d x y k pc L st n h P) : G g d x y k pc L st n h P := by
  intro p e R s m args below meth c H locs cells slots ls S B C F E
  exact K (C.2.2 i _ hi).1 (C.2.2 i _ hi).2.1 p e R s m args below meth c H locs cells slots ls S B C F E
theorem G_fresh {g : gT} {d x y : Nat} {k : mM} {pc : Nat} {L st : List Value} {n : Nat} {h : mH} {P : Option Value → Nat → mH → Prop} (K : 8 ≤ n → (∀ i, n ≤ i → h i = none) → G g d x y k pc L st n h P) : G g d x y k pc L st n h P := by
  intro p e R s m args below meth c H locs cells slots ls S B C F E
  refine K C.1 (fun i hi => ?_) p e R s m args below meth c H locs cells slots ls S B C F E
  cases hq : h i with
  | none => rfl
  | some c9 => exact absurd (C.2.2 i _ hq).2.1 (by omega)
theorem va_upp {α : Type} (f : Nat → α) (p : Nat) (a b : α) : va_up (va_up f p a) p b = va_up f p b := by
  funext z
  by_cases e : z = p <;> simp [va_up, e]
theorem va_up_id {α : Type} {f : Nat → α} {p : Nat} {a : α} (e : f p = a) : va_up f p a = f := by
  funext z
  by_cases e2 : z = p
  · subst e2; rw [va_up_self, e]
  · rw [va_up_ne _ _ e2]
theorem va_up3 {α : Type} (f : Nat → α) (p q : Nat) (a b c : α) : va_up (va_up (va_up f p a) q b) p c = va_up (va_up f q b) p c := by
  funext z
  by_cases e : z = p
  · subst e; rw [va_up_self, va_up_self]
  · rw [va_up_ne _ _ e, va_up_ne _ _ e]
    by_cases e2 : z = q
    · subst e2; rw [va_up_self, va_up_self]
    · rw [va_up_ne _ _ e2, va_up_ne _ _ e2, va_up_ne _ _ e]
/-- the class object of Object[] -/
theorem G_ldcM {g : gT} {d x y : Nat} {k : mM} {pc : Nat} {L st : List Value} {n : Nat} {h : mH} {P : Option Value → Nat → mH → Prop} {index : Nat} (hd : decode k.2.1 pc = .ok (.ldc index, 2)) (hl : Cond.classLink k.1.cls index "[Ljava/lang/Object;" ∈ TB) (K : G g d x y k (pc + 2) L (.ref 6 :: st) n h P) : G g d x y k pc L st n h P := by
  intro p e R s m args below meth c H locs cells slots ls S B C F E
  obtain ⟨hx, hb, hml, -, -, hnm, hown, hts, hK, hO⟩ := id S
  exact va_ldcM hx hb hown (hts _ hl) hO.2.2.2.2.2.2.1 hd (K p e R s m args below meth c H locs cells slots ls S B C F E)
theorem G_getC {g : gT} {d x y : Nat} {k : mM} {pc : Nat} {L st : List Value} {n : Nat} {h : mH} {P : Option Value → Nat → mH → Prop} {index i N : Nat} {f} (hd : decode k.2.1 pc = .ok (.invokevirtual index, 3)) (hl : Cond.methodLink k.1.cls index ⟨"java/lang/Object", "getClass", "()Ljava/lang/Class;"⟩ ∈ TB) (hi : h i = some (.inl (4, N, f))) (hs : (st.map fun v => v.category).sum ≤ 10) (hd1 : 1 ≤ d) (K : G g d x y k (pc + 3) L (.ref 6 :: st) n h P) : G g d x y k pc L (.ref i :: st) n h P := by
  intro p e R s m args below meth c H locs cells slots ls S B C F E
  obtain ⟨hx, hb, hml, -, -, hnm, hown, hts, hK, hO⟩ := id S
  obtain ⟨i1, -, hci⟩ := C.2.2 i _ hi
  have ht4 : (g_tys g)[4]? = some (g_c g 4, .object "java/lang/Object") := rfl
  exact va_getC hx hb (by rw [hml]; exact E.2.1.symm) hown (hts _ hl) hO.2.2.2.2.2.2.2.1.use (hts _ tw_1215) (hts _ tw_293) (hts _ tw_307) hO.2.2.2.2.2.2.1 ⟨_, hci, by rcases f with f | f | f | f | f <;> rfl, by rcases f with f | f | f | f | f <;> exact va_nmO (hK.2 4 _ ht4).2 (by decide)⟩ (Nat.le_trans hd1 B.1) (by rw [g_cats]; have := B.2.1; omega) hd (K p e R s m args below meth c H locs cells slots ls S B C F E)
/-- String constants: "every" is .ref 2, its bytes .ref 3 -/
theorem G_ldcS {g : gT} {d x y : Nat} {k : mM} {pc : Nat} {L st : List Value} {n : Nat} {h : mH} {P : Option Value → Nat → mH → Prop} (hd : decode k.2.1 pc = .ok (.ldc 87, 2)) (hk9 : k.1.cls = "ToolHouse$LawReader") (K : G g d x y k (pc + 2) L (.ref 2 :: st) n h P) : G g d x y k pc L st n h P := by
  intro p e R s m args below meth c H locs cells slots ls S B C F E
  obtain ⟨hx, hb, hml, -, -, hnm, hown, hts, hK, hO⟩ := id S
  rw [hk9] at hown
  exact va_ldcS hx hb hown hO.2.2.2.2.2.2.2.2.2.2.2.1 hd (K p e R s m args below meth c H locs cells slots ls S B C F E)
theorem G_strV {g : gT} {d x y : Nat} {k : mM} {pc : Nat} {L st : List Value} {n : Nat} {h : mH} {P : Option Value → Nat → mH → Prop} {index : Nat} (hd : decode k.2.1 pc = .ok (.getfield index, 3)) (hl : Cond.fieldLink k.1.cls index "java/lang/String" "value" "[B" ∈ TB) (K : G g d x y k (pc + 3) L (.ref 3 :: st) n h P) : G g d x y k pc L (.ref 2 :: st) n h P := by
  intro p e R s m args below meth c H locs cells slots ls S B C F E
  obtain ⟨hx, hb, hml, -, -, hnm, hown, hts, hK, hO⟩ := id S
  exact vk_getf hx hb (hO.2.2.2.2.2.2.2.2.2.2.2.2.1.1 0 (by decide)).2.2.1 F hown (hts _ hl) (fun _ h9 => h9) hd (K p e R s m args below meth c H locs cells slots ls S B C F E)
theorem G_strC {g : gT} {d x y : Nat} {k : mM} {pc : Nat} {L st : List Value} {n : Nat} {h : mH} {P : Option Value → Nat → mH → Prop} {index : Nat} (hd : decode k.2.1 pc = .ok (.getfield index, 3)) (hl : Cond.fieldLink k.1.cls index "java/lang/String" "coder" "B" ∈ TB) (K : G g d x y k (pc + 3) L (.int 0 :: st) n h P) : G g d x y k pc L (.ref 2 :: st) n h P := by
  intro p e R s m args below meth c H locs cells slots ls S B C F E
  obtain ⟨hx, hb, hml, -, -, hnm, hown, hts, hK, hO⟩ := id S
  exact vk_getf hx hb (hO.2.2.2.2.2.2.2.2.2.2.2.2.1.1 0 (by decide)).2.1 F hown (hts _ hl) (fun _ h9 => h9) hd (K p e R s m args below meth c H locs cells slots ls S B C F E)
theorem G_alenB {g : gT} {d x y : Nat} {k : mM} {pc : Nat} {L st : List Value} {n : Nat} {h : mH} {P : Option Value → Nat → mH → Prop} (hd : decode k.2.1 pc = .ok (.arraylength, 1)) (K : G g d x y k (pc + 1) L (.int 5 :: st) n h P) : G g d x y k pc L (.ref 3 :: st) n h P := by
  intro p e R s m args below meth c H locs cells slots ls S B C F E
  obtain ⟨hx, hb, hml, -, -, hnm, hown, hts, hK, hO⟩ := id S
  exact va_tlen hx hb (hO.2.2.2.2.2.2.2.2.2.2.2.2.1.1 0 (by decide)).2.2.2 F (v := 5) rfl hd (K p e R s m args below meth c H locs cells slots ls S B C F E)
theorem G_baldB {g : gT} {d x y : Nat} {k : mM} {pc : Nat} {L st : List Value} {n : Nat} {h : mH} {P : Option Value → Nat → mH → Prop} {a : Int32} (hd : decode k.2.1 pc = .ok (.baload, 1)) (ha : vp_in a 5) (K : G g d x y k (pc + 1) L (.int ([101, 118, 101, 114, 121].getD a.toNatClampNeg 0) :: st) n h P) : G g d x y k pc L (.int a :: .ref 3 :: st) n h P := by
  intro p e R s m args below meth c H locs cells slots ls S B C F E
  obtain ⟨hx, hb, hml, -, -, hnm, hown, hts, hK, hO⟩ := id S
  exact va_tb hx hb (hO.2.2.2.2.2.2.2.2.2.2.2.2.1.1 0 (by decide)).2.2.2 F ha rfl hd (K p e R s m args below meth c H locs cells slots ls S B C F E)
theorem G_getsC {g : gT} {d x y : Nat} {k : mM} {pc : Nat} {L st : List Value} {n : Nat} {h : mH} {P : Option Value → Nat → mH → Prop} {index : Nat} (hd : decode k.2.1 pc = .ok (.getstatic index, 3)) (hl : Cond.fieldLink k.1.cls index "java/lang/String" "COMPACT_STRINGS" "Z" ∈ TB) (K : G g d x y k (pc + 3) L (.int 1 :: st) n h P) : G g d x y k pc L st n h P := by
  intro p e R s m args below meth c H locs cells slots ls S B C F E
  obtain ⟨hx, hb, hml, -, -, hnm, hown, hts, hK, hO⟩ := id S
  exact va_gets hx hb hO.2.2.2.1 F hown (hts _ hl) (fun _ h9 => h9) hd (K p e R s m args below meth c H locs cells slots ls S B C F E)
theorem G_getsF {g : gT} {d x y : Nat} {k : mM} {pc : Nat} {L st : List Value} {n : Nat} {h : mH} {P : Option Value → Nat → mH → Prop} {index : Nat} (hd : decode k.2.1 pc = .ok (.getstatic index, 3)) (hl : Cond.fieldLink k.1.cls index "jdk/internal/util/Preconditions" "SIOOBE_FORMATTER" "Ljava/util/function/BiFunction;" ∈ TB) (K : ∀ o, G g d x y k (pc + 3) L (va_rf o :: st) n h P) : G g d x y k pc L st n h P := by
  intro p e R s m args below meth c H locs cells slots ls S B C F E
  obtain ⟨hx, hb, hml, -, -, hnm, hown, hts, hK, hO⟩ := id S
  rcases hO.2.2.2.2.2.2.2.2.2.2.2.2.2.2.2.2.2 with z | z
  · exact va_gets hx hb z F hown (hts _ hl) (fun _ h9 => h9) hd (K none p e R s m args below meth c H locs cells slots ls S B C F E)
  · exact va_gets hx hb z F hown (hts _ hl) (fun _ h9 => h9) hd (K (some 7) p e R s m args below meth c H locs cells slots ls S B C F E)
theorem G_callStr {g : gT} {d x y : Nat} {k : mM} {pc : Nat} {L st : List Value} {n : Nat} {h : mH} {P : Option Value → Nat → mH → Prop} {c9 : mM} {d' index na : Nat} {As st0 : List Value} {P' : Option Value → Nat → mH → Prop} (hM : M g d' 0 0 c9 (.ref 2 :: As) n h P') (hd : decode k.2.1 pc = .ok (.invokevirtual index, 3)) (hc : g_cm k c9 index na) (hi9 : Cond.instanceMethod c9.1 ∈ TB) (hs9 : Cond.selects c9.1.cls c9.1 c9.1 ∈ TB) (hb2 : c9.1.cls = "java/lang/String") (hs : st0 = As.reverse ++ .ref 2 :: st) (hn : As.length = na) (hw : (st.map fun v => v.category).sum ≤ 8) (hd9 : d' + 1 ≤ d)
    (K : ∀ v n' h', P' v n' h' → G g d x y k (pc + 3) L (v.toList ++ st) n' h' P) : G g d x y k pc L st0 n h P := by
  intro p e R s m args below meth c H locs cells slots ls S B C F E
  obtain ⟨c1, c2, c3, c4, c5⟩ := hc
  obtain ⟨hx, hb9, hml, -, -, hnm, hown, hts, hK, hO⟩ := id S
  obtain ⟨B1, B2, B3⟩ := B.use (Nat.zero_le x) (Nat.zero_le y)
  have hcell := vk_recv hO.2.2.2.2.2.2.2.2.2.2.2.2.1 (i := 0) (by decide) F
  rw [← hb2] at hcell
  have hrun := va_runV (C := c9.1.cls) (As := As.map (g_v g)) (rest := st.map (g_v g)) (b := g_ad g 2) (p := p) (l := g.1) (e := e) (R := R) (s := s) (m := m) (args := args) (below := below) (meth := meth) (c := c) (H := H) (locs := locs) (cells := cells) (slots := slots) (g := F0 m pc ls (st0.map (g_v g))) (nL := k.2.2.1) ⟨hx, hb9, hml, hown, hts⟩ hM ⟨callB_of na hts (g_good c1) rfl rfl rfl (hts _ c2) (hts _ c3) c4 (g_rm B hd9 c5), hts _ hi9, hts _ hs9⟩ ⟨g_blind, hcell, g_pre S C F⟩ rfl (by rw [List.length_map]; exact hn) E.2.1 (by show st0.map (g_v g) = _; rw [hs, List.map_append, List.map_reverse]; rfl) (by show 2 * 0 + _ ≤ 8; rw [g_cats]; omega) hd ⟨B2, B3⟩
  exact g_run hrun F (fun v n1 h1 H1 locs1 q1 q2 q3 => by rw [g_top]; exact K v n1 h1 q1 p e R s m args below meth c H1 locs1 _ _ ls S B1 q2 q3 E)
