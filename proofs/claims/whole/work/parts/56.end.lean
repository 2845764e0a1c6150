/-! from the claim's entry to the game -/
def R_law : String := "ToolHouseLaw"
def lw_P (b : Addr) (xs : List Int32) (args : Array Value) (s : State) : Prop := args = #[.ref b] ∧ s.IntsAt b xs ∧ xs.length ≤ 3584 ∧ (Jvm.Cond.and given_1 narrow_1).before args s = true
def lw_Q (_ : Array Value) (s : State) (o : Outcome) (t : State) : Prop := o = .returned (some (.int 1)) ∧ Framed s o t [] 601024 7293034
def lw_Z (below : List Frame) (a : Array Value) (s : State) : State → Prop := fun t => ∃ o, t.status = .running ∧ Ended t below o ∧ lw_Q a s o t
def lw_At (p : Program) (s : State) (m : MethodId) (meth : Method) (c : Code) (b L : Nat) (xs : Nat → Int32) : Prop :=
  p.tables.exec = Jvm.exec ∧ c.code = code ∧ meth.sig.returnType = ret ∧ c.maxLocals = 7 ∧ s.vm.findClass R_law = some m.cls ∧ (∀ w ∈ lw_tbl, w.before #[Value.ref b] s = true) ∧ va_X b L xs s s.heap ∧ b < s.heap.size ∧ meth.locks = false ∧ (Jvm.Cond.and given_1 narrow_1).before #[Value.ref b] s = true
theorem arr_p {args : Array Value} {s : State} {t : FieldType} (h : (Cond.arrayClass t).before args s = true) : ∃ cA : ClassId, ArrOfT s cA t ∧ s.vm.findClass ("[" ++ t.toString) = some cA := by
  obtain ⟨c, k, comp, h1, h2, h3⟩ := Cond.arrayClass_spec (args := args) (first := s) (o := none) (s := s) (idx := []) h
  exact ⟨c, fun n z => ⟨fun k h => (by cases h), k, h2, comp, h3⟩, h1⟩
theorem arr_o {args : Array Value} {s : State} {C : String} (h : (Cond.arrayOver (.object C)).before args s = true) : ∃ cA : ClassId, ArrOfT s cA (.object C) ∧ va_RA s cA (.object C) := by
  obtain ⟨comp, c, k, h1, h2, h3, h4, h5⟩ := Cond.arrayOver_spec (args := args) (first := s) (o := none) (s := s) (idx := []) h
  exact ⟨c, fun n z => ⟨fun k h => (by cases h), k, h3, comp, h4⟩, k, comp, h3, h4, h1, h5⟩
theorem isRef_ev {args : Array Value} {s : State} {t : Term} (h : (Cond.isRef t).before args s = true) : t.eval args s none [] s = some .null ∨ ∃ a, t.eval args s none [] s = some (.ref a) := by
  cases hv : t.eval args s none [] s with
  | none => simp [Cond.before, Cond.holds, Cond.value, hv] at h
  | some w =>
    cases w with
    | null => exact Or.inl rfl
    | ref a => exact Or.inr ⟨a, rfl⟩
    | _ => simp [Cond.before, Cond.holds, Cond.value, hv] at h
theorem nw_on {w : Cond} (h : g_nw w = true) : w.onTables = true := by
  cases w with
  | castable a b => rfl
  | methodLinkNest a b c d => rfl
  | declares a => rfl
  | _ => simp [g_nw] at h
/-- the classes and the arrays' classes -/
theorem s_K {args : Array Value} {s : State} (hTB : ∀ w ∈ TB, w.before args s = true) (hao : (Cond.arrayOver (.object "java/lang/Object")).before args s = true) (haa : (Cond.arrayOver (.object "ToolHouse$Ask")).before args s = true) : ∃ (D : va_G) (cc : Nat → ClassId), ∀ (l : Launch) (z : Nat) (oo : Nat → Nat) (n : Nat) (xs : Nat → Int32), va_K D g_cl (g_tys (l, D, cc, z, oo, n, xs)) s := by
  obtain ⟨c0, i0, k0⟩ := u_known (C := RX0) (T := TX0) (N := 11) (n := 11) hTB kc_0.2.1 (hTB _ tw_559)
  obtain ⟨c1, i1, k1⟩ := u_known (C := RX1) (T := TX1) (N := 4) (n := 4) hTB kc_1.2.1 (hTB _ tw_239)
  obtain ⟨c2, i2, k2⟩ := u_known (C := RX2) (T := TX2) (N := 3) (n := 3) hTB kc_2.2.1 (hTB _ tw_155)
  obtain ⟨c3, i3, k3⟩ := u_known (C := RX3) (T := TX3) (N := 5) (n := 5) hTB kc_3.2.1 (hTB _ tw_130)
  obtain ⟨c4, i4, k4⟩ := u_known (C := RX4) (T := TX4) (N := 4) (n := 4) hTB kc_4.2.1 (hTB _ tw_380)
  obtain ⟨c5, i5, k5⟩ := u_known (C := RX5) (T := TX5) (N := 4) (n := 4) hTB kc_5.2.1 (hTB _ tw_176)
  obtain ⟨c6, i6, k6⟩ := u_known (C := RX6) (T := TX6) (N := 2) (n := 2) hTB kc_6.2.1 (hTB _ tw_114)
  obtain ⟨c7, i7, k7⟩ := u_known (C := RX7) (T := TX7) (N := 5) (n := 5) hTB kc_7.2.1 (hTB _ tw_345)
  obtain ⟨c8, i8, k8⟩ := u_known (C := RX8) (T := TX8) (N := 10) (n := 10) hTB kc_8.2.1 (hTB _ tw_80)
  obtain ⟨c9, i9, k9⟩ := u_known (C := RX9) (T := TX9) (N := 43) (n := 43) hTB kc_9.2.1 (hTB _ tw_876)
  obtain ⟨c10, i10, k10⟩ := u_known (C := RJx4a65c) (T := TJx4a65c) (N := 3) (n := 3) hTB kc_10.2.1 (hTB _ tw_88)
  obtain ⟨a0, p0, q0⟩ := arr_p (hTB _ tw_128)
  obtain ⟨a1, p1, q1⟩ := arr_p (hTB _ tw_517)
  obtain ⟨a2, p2, q2⟩ := arr_p (hTB _ tw_1011)
  obtain ⟨a3, p3, q3⟩ := arr_p (hTB _ tw_1198)
  obtain ⟨a4, p4, q4⟩ := arr_o hao
  obtain ⟨a5, p5, q5⟩ := arr_o haa
  refine ⟨(fun k => match k with | 0 => c0 | 1 => c1 | 2 => c2 | 3 => c3 | 4 => c4 | 5 => c5 | 6 => c6 | 7 => c7 | 8 => c8 | 9 => c9 | _ => c10, fun k => match k with | 0 => i0 | 1 => i1 | 2 => i2 | 3 => i3 | 4 => i4 | 5 => i5 | 6 => i6 | 7 => i7 | 8 => i8 | 9 => i9 | _ => i10), fun k => match k with | 0 => a0 | 1 => a1 | 2 => a2 | 3 => a3 | 4 => a4 | _ => a5, fun l z oo n xs => ⟨fun c q hq => ?_, fun k q hq => ?_⟩⟩
  · match c, hq with
    | 0, hq => cases hq; exact k0
    | 1, hq => cases hq; exact k1
    | 2, hq => cases hq; exact k2
    | 3, hq => cases hq; exact k3
    | 4, hq => cases hq; exact k4
    | 5, hq => cases hq; exact k5
    | 6, hq => cases hq; exact k6
    | 7, hq => cases hq; exact k7
    | 8, hq => cases hq; exact k8
    | 9, hq => cases hq; exact k9
    | 10, hq => cases hq; exact k10
    | c + 11, hq => simp [g_cl] at hq
  · match k, hq with
    | 0, hq => cases hq; exact ⟨p0, q0⟩
    | 1, hq => cases hq; exact ⟨p1, q1⟩
    | 2, hq => cases hq; exact ⟨p2, q2⟩
    | 3, hq => cases hq; exact ⟨p3, q3⟩
    | 4, hq => cases hq; exact ⟨p4, q4⟩
    | 5, hq => cases hq; exact ⟨p5, q5⟩
    | k + 6, hq => simp [g_tys] at hq
set_option maxHeartbeats 4000000 in
set_option maxRecDepth 100000 in
theorem whole_start {p : Program} {e : Env} {s : State} {m : MethodId} {below : List Frame} {meth : Method} {c : Code} (l : Launch) (hst : l.stackTraces = false) (hnm : meth.name = "law") {b L : Nat} {xs : Nat → Int32} (hL : L ≤ 3584) (C0 : lw_At p s m meth c b L xs) : W p l e room_1 s m #[Value.ref b] below meth c s.heap [] 0 0 (lw_Z below #[Value.ref b] s) (entryFrame m ([Value.ref b] : List Value).toArray 7) := by
  obtain ⟨hx, hb, hr, hml, hown, hts, hX, hbl, hlocks, hgv⟩ := id C0
  have hs := flat_of_before _ hgv
  have hTB : ∀ w ∈ TB, w.before #[Value.ref b] s = true := fun w hw => hts w (List.mem_filter.mp hw).1
  have hA : ∀ a : Nat, a < s.heap.size → ¬ (fun q : Nat => s.heap.size ≤ q) a := fun a h => Nat.not_le.mpr h
  have wao : (Cond.arrayOver (.object "java/lang/Object")).before #[Value.ref b] s = true := hts _ (by decide +kernel)
  have waa : (Cond.arrayOver (.object "ToolHouse$Ask")).before #[Value.ref b] s = true := hts _ (by decide +kernel)
  obtain ⟨D, cc, hK⟩ := s_K hTB wao waa
  have d1 : (Cond.arrayOf (.static "java/util/ArrayList" "DEFAULTCAPACITY_EMPTY_ELEMENTDATA" "[Ljava/lang/Object;") (.object "java/lang/Object")).before #[Value.ref b] s = true := hs _ (by decide +kernel)
  have d2 : (Cond.eq (.length (.static "java/util/ArrayList" "DEFAULTCAPACITY_EMPTY_ELEMENTDATA" "[Ljava/lang/Object;")) (.int 0)).before #[Value.ref b] s = true := hs _ (by decide +kernel)
  obtain ⟨t1, ht1, hT1⟩ := va_Tof (N := 0) (f := fun _ => .null) (A := fun q : Nat => s.heap.size ≤ q) (by decide) d1 (va_eqt d2) (fun j hj => absurd hj (Nat.not_lt_zero j)) hA
  have l1 : (Cond.laysStatic "java/util/ArrayList" "DEFAULTCAPACITY_EMPTY_ELEMENTDATA" "[Ljava/lang/Object;").before #[Value.ref b] s = true := hts _ (by decide +kernel)
  have l2 : (Cond.initialized "java/util/ArrayList").before #[Value.ref b] s = true := hts _ (by decide +kernel)
  have hZ1 := va_Zof (A := fun q : Nat => s.heap.size ≤ q) l1 l2 ht1 hA
  have l3 : (Cond.laysStatic "java/lang/String" "COMPACT_STRINGS" "Z").before #[Value.ref b] s = true := hts _ (by decide +kernel)
  have l4 : (Cond.initialized "java/lang/String").before #[Value.ref b] s = true := hts _ (by decide +kernel)
  have d3 : (Cond.eq (.static "java/lang/String" "COMPACT_STRINGS" "Z") (.int 1)).before #[Value.ref b] s = true := hs _ (by decide +kernel)
  have hZ2 := va_Zof (A := fun q : Nat => s.heap.size ≤ q) l3 l4 (va_eqt d3) hA
  have d4 : (Cond.isRef (.mirror "[Ljava/lang/Object;")).before #[Value.ref b] s = true := hs _ (by decide +kernel)
  obtain ⟨mi, hmi⟩ := va_Mi.of d4
  have l5 : (Cond.declares ⟨"java/lang/Object", "getClass", "()Ljava/lang/Class;"⟩).before #[Value.ref b] s = true := hts _ (by decide +kernel)
  have e1 : (Cond.exactly (.string "ToolHouse$LawReader" 87) "java/lang/String").before #[Value.ref b] s = true := hs _ (by decide +kernel)
  have e2 : (Cond.eq (.field (.string "ToolHouse$LawReader" 87) "java/lang/String" "coder" "B") (.int 0)).before #[Value.ref b] s = true := hs _ (by decide +kernel)
  have e3 : (Cond.arrayOf (.field (.string "ToolHouse$LawReader" 87) "java/lang/String" "value" "[B") .byte).before #[Value.ref b] s = true := hs _ (by decide +kernel)
  have e4 : (Cond.eq (.length (.field (.string "ToolHouse$LawReader" 87) "java/lang/String" "value" "[B")) (.int 5)).before #[Value.ref b] s = true := hs _ (by decide +kernel)
  have f0 : (Cond.eq (.elem (.field (.string "ToolHouse$LawReader" 87) "java/lang/String" "value" "[B") (.int 0)) (.int 101)).before #[Value.ref b] s = true := hs _ (by decide +kernel)
  have f1 : (Cond.eq (.elem (.field (.string "ToolHouse$LawReader" 87) "java/lang/String" "value" "[B") (.int 1)) (.int 118)).before #[Value.ref b] s = true := hs _ (by decide +kernel)
  have f2 : (Cond.eq (.elem (.field (.string "ToolHouse$LawReader" 87) "java/lang/String" "value" "[B") (.int 2)) (.int 101)).before #[Value.ref b] s = true := hs _ (by decide +kernel)
  have f3 : (Cond.eq (.elem (.field (.string "ToolHouse$LawReader" 87) "java/lang/String" "value" "[B") (.int 3)) (.int 114)).before #[Value.ref b] s = true := hs _ (by decide +kernel)
  have f4 : (Cond.eq (.elem (.field (.string "ToolHouse$LawReader" 87) "java/lang/String" "value" "[B") (.int 4)) (.int 121)).before #[Value.ref b] s = true := hs _ (by decide +kernel)
  obtain ⟨adK, adV, hS, hev⟩ := vk_Sof (N := 1) (tm := fun _ => (.string "ToolHouse$LawReader" 87)) (len := [5]) (byt := [[101, 118, 101, 114, 121]]) (A := fun q : Nat => s.heap.size ≤ q) (fun i hi => by
      have : i = 0 := by omega
      subst this; decide) (fun _ _ => e1) (fun _ _ => e2) (fun _ _ => e3) (fun i hi => by
      have : i = 0 := by omega
      subst this; exact e4) (fun i hi j hj => by
      have : i = 0 := by omega
      subst this
      have hj : j < 5 := hj
      match j, hj with
      | 0, _ => exact f0
      | 1, _ => exact f1
      | 2, _ => exact f2
      | 3, _ => exact f3
      | 4, _ => exact f4) (fun i j hi hj hne => absurd (show i = j by omega) hne) hA
  have w1 : (Cond.stringRef "ToolHouse$LawReader" 87 "every").before #[Value.ref b] s = true := hts _ (by decide +kernel)
  have w2 : (Cond.stringRef "ToolHouse" 245 "no such ask").before #[Value.ref b] s = true := hts _ (by decide +kernel)
  have w3 : (Cond.stringRef "ToolHouse" 262 "no such what").before #[Value.ref b] s = true := hts _ (by decide +kernel)
  have e5 : (Cond.exactly (.string "ToolHouse" 245) "java/lang/String").before #[Value.ref b] s = true := hs _ (by decide +kernel)
  have e6 : (Cond.exactly (.string "ToolHouse" 262) "java/lang/String").before #[Value.ref b] s = true := hs _ (by decide +kernel)
  obtain ⟨s4, _, cl4, _, r1, _, r3, _⟩ := Cond.exactly_spec (args := #[Value.ref b]) (first := s) (o := none) (s := s) (idx := []) e5
  obtain ⟨s5, _, cl5, _, r5, _, r7, _⟩ := Cond.exactly_spec (args := #[Value.ref b]) (first := s) (o := none) (s := s) (idx := []) e6
  have l6 : (Cond.laysStatic "java/lang/Throwable" "UNASSIGNED_STACK" "[Ljava/lang/StackTraceElement;").before #[Value.ref b] s = true := hts _ (by decide +kernel)
  have l7 : (Cond.laysStatic "java/lang/Throwable" "SUPPRESSED_SENTINEL" "Ljava/util/List;").before #[Value.ref b] s = true := hts _ (by decide +kernel)
  have l8 : (Cond.initialized "java/lang/Throwable").before #[Value.ref b] s = true := hts _ (by decide +kernel)
  have d5 : (Cond.isRef (.static "java/lang/Throwable" "UNASSIGNED_STACK" "[Ljava/lang/StackTraceElement;")).before #[Value.ref b] s = true := hs _ (by decide +kernel)
  have d6 : (Cond.isRef (.static "java/lang/Throwable" "SUPPRESSED_SENTINEL" "Ljava/util/List;")).before #[Value.ref b] s = true := hs _ (by decide +kernel)
  have hq1 := vx_Zqof (A := fun q : Nat => s.heap.size ≤ q) l6 l8 d5 hA
  have hq2 := vx_Zqof (A := fun q : Nat => s.heap.size ≤ q) l7 l8 d6 hA
  have l9 : (Cond.laysStatic "jdk/internal/util/Preconditions" "SIOOBE_FORMATTER" "Ljava/util/function/BiFunction;").before #[Value.ref b] s = true := hts _ (by decide +kernel)
  have l10 : (Cond.initialized "jdk/internal/util/Preconditions").before #[Value.ref b] s = true := hts _ (by decide +kernel)
  have d7 : (Cond.isRef (.static "jdk/internal/util/Preconditions" "SIOOBE_FORMATTER" "Ljava/util/function/BiFunction;")).before #[Value.ref b] s = true := hs _ (by decide +kernel)
  obtain ⟨f7, hf7⟩ : ∃ f7 : Nat, va_Z "jdk/internal/util/Preconditions" "SIOOBE_FORMATTER" "Ljava/util/function/BiFunction;" .null (fun q : Nat => s.heap.size ≤ q) s s.heap ∨ va_Z "jdk/internal/util/Preconditions" "SIOOBE_FORMATTER" "Ljava/util/function/BiFunction;" (.ref f7) (fun q : Nat => s.heap.size ≤ q) s s.heap := by
    rcases isRef_ev d7 with q | ⟨a, q⟩
    · exact ⟨0, Or.inl (va_Zof l9 l10 q hA)⟩
    · exact ⟨a, Or.inr (va_Zof l9 l10 q hA)⟩
  obtain ⟨cO, o1, o2, o3, o4⟩ := (hS.1 0 (by decide)).1
  obtain ⟨cV, v1, v2, v3, v4, v5, v6, v7⟩ := (hS.1 0 (by decide)).2.2.2
  obtain ⟨cT, t1a, t1b, t1c, t1d, t1e, t1f, t1g⟩ := id hT1
  obtain ⟨g, eg⟩ : ∃ g : gT, g = (l, D, cc, s.heap.size, fun k => match k with | 0 => b | 1 => t1 | 2 => adK 0 | 3 => adV 0 | 4 => s4 | 5 => s5 | 6 => mi | _ => f7, L, xs) := ⟨_, rfl⟩
  have hO : g_O g s s.heap := by
    subst eg
    refine ⟨fun w hw => va_Nw.of (nw_on (List.mem_filter.mp hw).2) (hts w (List.mem_filter.mp hw).1), hZ1, hT1, hZ2, va_AO.of wao, va_AO.of waa, hmi, va_Dc.of l5, hX, fun i hi => ?_, Nat.le_refl _, vk_R.of w1 (hev 0 (by decide)), ⟨fun i hi => ?_, fun i j hi hj _ => by omega⟩, vk_R.of w2 r1, vk_R.of w3 r5, hq1, hq2, hf7⟩
    · match i, hi with
      | 0, _ => exact hbl
      | 1, _ => exact Nat.not_le.mp t1g
      | 2, _ => exact Nat.not_le.mp o4
      | 3, _ => exact Nat.not_le.mp v7
      | 4, _ => exact (Array.getElem?_eq_some_iff.mp r3).1
      | 5, _ => exact (Array.getElem?_eq_some_iff.mp r7).1
    · have : i = 0 := by omega
      subst this
      exact hS.1 0 hi
  have hl := lv_entry ([.ref b]) (n := 7) (Nat.le_of_ble_eq_true rfl)
  rw [lg_entry_eq]
  generalize (lg_sl ([.ref b]) ++ List.replicate (7 - (lg_sl ([.ref b])).length) Slot.unset).toArray = ls at hl ⊢
  have hl : lv_has ls 7 [(0, .ref b)] := hl
  have hE : g_E g kL_law [.ref 0, .retAddr 0, .retAddr 0, .retAddr 0, .retAddr 0, .retAddr 0, .retAddr 0] ls := by
    subst eg
    exact ⟨rfl, hl⟩
  have hSg : g_S g kL_law p s m #[Value.ref b] meth c := by
    refine ⟨hx, hb, hml, hr, hlocks, hnm, hown, hTB, ?_, hO⟩
    subst eg
    exact hK _ _ _ _ _
  have hCg : g_C g 8 (fun _ => none) s.heap := ⟨Nat.le_refl _, by subst eg; rfl, fun i c h => by cases h⟩
  have hst9 : g.1.stackTraces = false := by subst eg; exact hst
  have hL9 : g_n g ≤ 3584 := by subst eg; exact hL
  have K := law_start hst9 hL9 p e room_1 s m #[Value.ref b] below meth c s.heap [] 0 0 ls hSg ⟨by decide, by decide, by decide, by decide⟩ hCg va_S.rf hE
  have ez : g_z g = s.heap.size := by subst eg; rfl
  have el : g.1 = l := by subst eg; rfl
  rw [el] at K
  intro T hT X
  obtain ⟨t, a1, o, hrun, hend, ⟨⟨v, n9, h9, ho, hv, -⟩, -⟩, Lc, hFE, hfree⟩ := K T hT X
  have hv : v = some (.int 1) := hv
  subst hv
  have ho : o = .returned (some (.int 1)) := ho
  refine ⟨t, a1, o, hrun, hend, ho, hFE.1, hFE.2.1, ?_⟩
  refine State.sameButNew.drop_fresh (L := []) (J := Lc) hFE.2.2 (fun q hq => ?_)
  have := hfree q hq
  have : g_z g ≤ q.base := this
  omega
set_option maxHeartbeats 4000000 in
theorem lw_walk (l : Launch) (hst : l.stackTraces = false) (b : Addr) (xs : List Int32) : MetFree l x (headSpec (Jvm.Cond.code x code maxLocals ret :: tables_1) room_1) (lw_P b xs) (fun _ _ _ _ _ => True) lw_Q := by
  refine MetFree.of_bodyS (code := code) (maxLocals := maxLocals) (ret := ret) (by decide) ?_ ?_
  · intro args s m h hn
    obtain ⟨meth, c, h1, h2, h3, h4, h5, h6, -, -⟩ := Cond.code_spec hn (atoms_spec (ws := Jvm.Cond.code x code maxLocals ret :: tables_1) h _ List.mem_cons_self)
    exact ⟨meth, c, h1, h2, h3, h4, h5, h6⟩
  · intro p e s m args below meth c s₁ B hml0 hP _
    obtain ⟨rfl, hx, hbd, hgv⟩ := hP
    obtain ⟨scr, harrAt, hlist, hof, hsmall⟩ := hx
    obtain ⟨hcb, hkn, -, -⟩ := State.arrayAt?_spec harrAt
    have hown : s.vm.findClass R_law = some m.cls := findClass_of_methodNamed B.named
    have hnm : meth.name = "law" := (name_of_methodNamed B.named B.method).1
    have hts0 : ∀ c ∈ (Jvm.Cond.code x code maxLocals ret :: tables_1), c.before #[Value.ref b] s = true := atoms_spec (ws := Jvm.Cond.code x code maxLocals ret :: tables_1) B.pre
    have hts : ∀ w ∈ lw_tbl, w.before #[Value.ref b] s = true := k2_hts_sels lw_privs (fun w hw => hts0 w (List.mem_cons_of_mem _ hw)) lw_privs_ok
    have hml : c.maxLocals = 7 := B.maxLocals_eq (hts0 _ List.mem_cons_self)
    have X₀ : Stand p l e room_1 s m #[Value.ref b] below meth c s₁ [] 0 0 := Stand.of_body B
    have hh0 : s₁.heap = s.heap := by rw [B.state]; rfl
    have hsz : scr.slots.size = xs.length := by rw [← Array.length_toList, hlist, List.length_map]
    have hval : ∀ j : Nat, j < xs.length → scr.slots[j]? = some (.int (xs.getD j 0)) := fun j hj => by
      rw [← Array.getElem?_toList, hlist]
      simp [hj]
    have hbl : b < s.heap.size := (Array.getElem?_eq_some_iff.mp hcb).1
    have hX : va_X b xs.length (fun j => xs.getD j 0) s s.heap := ⟨scr, hcb, hof, hkn, hsz, hval⟩
    have K : W p l e room_1 s m #[Value.ref b] below meth c s₁.heap [] 0 0 (lw_Z below #[Value.ref b] s) (entryFrame m ([Value.ref b] : List Value).toArray 7) := by
      rw [hh0]
      exact whole_start l hst hnm hbd ⟨B.exec, B.bytes, B.returns, hml, hown, hts, hX, hbl, B.notSynchronized, hgv⟩
    obtain ⟨t, a1, o, b1, b2, b3⟩ := K s₁ rfl X₀
    exact ⟨t, o, a1, b1, b2, b3⟩
theorem lw_pre_spec {args : Array Value} {s : State} (h : (Jvm.Cond.and given_1 narrow_1).before args s = true) (hr : rest_1_c.before args s = true) : ∃ (b : Addr) (xs : List Int32), lw_P b xs args s := by
  have hs := flat_of_before _ h
  have hq := flat_of_before _ hr
  have hc : (Cond.count 1).before args s = true := hs _ (by decide +kernel)
  have harr : (Cond.arrayOf (.arg 0) .int).before args s = true := hs _ (by decide +kernel)
  have hle : (Cond.le (.length (.arg 0)) (.int 3584)).before args s = true := hs _ (by decide +kernel)
  have hlen : (Cond.isInt (.length (.arg 0))).before args s = true := hq _ (by decide +kernel)
  have hall : (Cond.all (.arg 0) (.isInt (.elem (.arg 0) (.index 0)))).before args s = true := hq _ (by decide +kernel)
  obtain ⟨b, xs, hb, hx⟩ := State.ints_of_pre rfl harr hlen hall
  have hsm : xs.length < 2 ^ 31 := hx.choose_spec.2.2.2
  have hev : (Term.length (.arg 0)).eval args s none [] s = some (.int xs.length.toInt32) := hx.length_eval hb
  have hv := Cond.le_ints hev (show (Term.int 3584).eval args s none [] s = some (.int 3584) from rfl)
  have hd : xs.length.toInt32 ≤ 3584 := by
    simpa [Cond.before, Cond.holds, hv] using hle
  have hN : xs.length ≤ 3584 := (Int32.ofNat_le_ofNat hsm (by decide)).mp (show Int32.ofNat xs.length ≤ Int32.ofNat 3584 from hd)
  exact ⟨b, xs, Cond.one_arg hc (show args[0]? = some (.ref b) from hb), hx, hN, h⟩
theorem lw_comes (l : Launch) (hst : l.stackTraces = false) : Comes l x (Jvm.Cond.code x code maxLocals ret :: tables_1) room_1 (fun tb e args s => Calls_1 tb e args s ∧ rest_1 tb e args s ∧ Pre_1 tb e args s)
    (fun _ _ args s o t => lw_Q args s o t) := by
  intro p e ha hc hk s m args below hf hfit hheap happ hpre
  obtain ⟨b, xs, hP⟩ := lw_pre_spec hpre.2.2 hpre.2.1
  obtain ⟨k, o, h1, h2, h3, hQ⟩ := lw_walk l hst b xs p e ha hc hk s m args below hf ((Spec.applies_iff_loose hf).mp happ).1 hP trivial
  exact ⟨k, o, h1, h2, h3, hQ⟩
theorem lw_frame {s t : State} {o : Outcome} {args : Array Value} (h : Framed s o t [] 601024 7293034) :
    Framed s o t (fieldLocs frame_1_writes args s ++ arrayLocs frame_1_arrays args s ++ staticLocs frame_1_statics s) 601024 7293034 := h
theorem lw_limb (L : Cond) (hL : ∀ (args : Array Value) (s t : State), L.after args s (.returned (some (.int 1))) t = true) :
    ArmFor flags0 classFile x code maxLocals ret World_1 tables_1 room_1 Calls_1 rest_1 Pre_1
      (fun tb e a s o t => postC L tb e a s o t ∧ Framed s o t (fieldLocs frame_1_writes a s ++ arrayLocs frame_1_arrays a s ++ staticLocs frame_1_statics s) 601024 7293034) := by
  intro l hfl _ _ p e ha hc hk s m args below hf hfit hheap happ hpre
  have hst : l.stackTraces = false := by
    unfold Launch.stackTraces
    rw [hfl]
    decide
  obtain ⟨k, o, h1, h2, h3, rfl, hF⟩ := lw_comes l hst p e ha hc hk s m args below hf hfit hheap happ hpre
  exact ⟨k, _, h1, h2, h3, hL args s _, lw_frame hF⟩
theorem i_vc : Claimed_1_1 ∧ Claimed_1_2 := ⟨lw_limb limb_1_1 (fun args s t => by simp [limb_1_1, Cond.after, Cond.holds, Cond.value]), lw_limb limb_1_2 (fun args s t => Cond.after_iff.mpr (by
  first | (rw [show limb_1_2 = Cond.eq .result (.int 1) from rfl, Cond.eq_ints (x := 1) (y := 1) rfl rfl]; simp; done) | (simp [limb_1_2, Cond.value, Term.eval]; done)))⟩
