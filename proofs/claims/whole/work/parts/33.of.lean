def gXC (g : gT) (n : Nat) (h : mH) (X : Prop) : String → State → State → Prop := fun E st t => E = "java/util/NoSuchElementException" ∧ X ∧ (∃ n', n ≤ n' ∧ g_C g n' h t.heap) ∧ va_F (g_A g) st t
/-- a walk that may end in a throw -/
def GX (g : gT) (d x y : Nat) (k : mM) (pc : Nat) (L st : List Value) (n : Nat) (h : mH) (P : Option Value → Nat → mH → Prop) (n0 : Nat) (h0 : mH) (X : Prop) : Prop :=
  ∀ (p : Program) (e : Env) (R : Room) (s : State) (m : MethodId) (args : Array Value) (below : List Frame) (meth : Method) (c : Code) (H : Heap) (locs : List Loc) (cells slots : Nat) (ls : Array Slot),
    g_S g k p s m args meth c → g_B R d x y cells slots → g_C g n h H → va_S (g_A g) s.heap H locs → g_E g k L ls → (∀ x ∈ c.exceptionTable.toList, False) →
    W p g.1 e R s m args below meth c H locs cells slots (vx_MQ below (g_Q g P) (gXC g n0 h0 X) args s R.cells R.slots (g_A g)) (F0 m pc ls (st.map (g_v g)))
theorem GX_of {g : gT} {d x y : Nat} {k : mM} {pc : Nat} {L st : List Value} {n n0 : Nat} {h h0 : mH} {P : Option Value → Nat → mH → Prop} {X : Prop} (K : G g d x y k pc L st n h P) : GX g d x y k pc L st n h P n0 h0 X := by
  intro p e R s m args below meth c H locs cells slots ls S B C F E T9
  exact vx_ret (K p e R s m args below meth c H locs cells slots ls S B C F E)
/-- a walk of a method with a table -/
def GT (g : gT) (d x y : Nat) (k : mM) (pc : Nat) (L st : List Value) (n : Nat) (h : mH) (P : Option Value → Nat → mH → Prop) (tb : List (Nat × Nat × Nat × Nat)) : Prop :=
  ∀ (p : Program) (e : Env) (R : Room) (s : State) (m : MethodId) (args : Array Value) (below : List Frame) (meth : Method) (c : Code) (H : Heap) (locs : List Loc) (cells slots : Nat) (ls : Array Slot),
    g_S g k p s m args meth c → g_B R d x y cells slots → g_C g n h H → va_S (g_A g) s.heap H locs → g_E g k L ls → c.exceptionTable.toList = tableOf tb →
    W p g.1 e R s m args below meth c H locs cells slots (MQ below (g_Q g P) args s R.cells R.slots (g_A g)) (F0 m pc ls (st.map (g_v g)))
theorem GT_of {g : gT} {d x y : Nat} {k : mM} {pc : Nat} {L st : List Value} {n : Nat} {h : mH} {P : Option Value → Nat → mH → Prop} {tb : List (Nat × Nat × Nat × Nat)} (K : G g d x y k pc L st n h P) : GT g d x y k pc L st n h P tb := by
  intro p e R s m args below meth c H locs cells slots ls S B C F E T9
  exact K p e R s m args below meth c H locs cells slots ls S B C F E
theorem GX_aload_n {g : gT} {n0 : Nat} {h0 : mH} {X : Prop} {d x y : Nat} {k : mM} {pc : Nat} {L st : List Value} {n : Nat} {h : mH} {P : Option Value → Nat → mH → Prop} {f : Fin 4} {i : Nat} {a : Nat} (hd : decode k.2.1 pc = .ok (.aload_n f, 1)) (hi : (f : Nat) = i) (hl : L[i]? = some (.ref a)) (K : GX g d x y k (pc + 1) L (.ref a :: st) n h P n0 h0 X) : GX g d x y k pc L st n h P n0 h0 X := by
  intro p e R s m args below meth c H locs cells slots ls S B C F E T9
  exact lv_aload_n S.1 S.2.1 hd hi (g_at E.2 hl rfl) (K p e R s m args below meth c H locs cells slots ls S B C F E T9)
theorem GX_iload_n {g : gT} {n0 : Nat} {h0 : mH} {X : Prop} {d x y : Nat} {k : mM} {pc : Nat} {L st : List Value} {n : Nat} {h : mH} {P : Option Value → Nat → mH → Prop} {f : Fin 4} {i : Nat} {a : Int32} (hd : decode k.2.1 pc = .ok (.iload_n f, 1)) (hi : (f : Nat) = i) (hl : L[i]? = some (.int a)) (K : GX g d x y k (pc + 1) L (.int a :: st) n h P n0 h0 X) : GX g d x y k pc L st n h P n0 h0 X := by
  intro p e R s m args below meth c H locs cells slots ls S B C F E T9
  exact lv_iload_n S.1 S.2.1 hd hi (g_at E.2 hl rfl) (K p e R s m args below meth c H locs cells slots ls S B C F E T9)
theorem GX_callV {g : gT} {n0 : Nat} {h0 : mH} {X : Prop} {d x y : Nat} {k : mM} {pc : Nat} {L st : List Value} {n : Nat} {h : mH} {P : Option Value → Nat → mH → Prop} {c9 : mM} {d' x' y' index na b ci : Nat} {fs As st0 : List Value} {P' : Option Value → Nat → mH → Prop} (hM : M g d' x' y' c9 (.ref b :: As) n h P') (hd : decode k.2.1 pc = .ok (.invokevirtual index, 3)) (hc : g_cm k c9 index na) (hi9 : Cond.instanceMethod c9.1 ∈ TB) (hs9 : Cond.selects c9.1.cls c9.1 c9.1 ∈ TB) (hb : h b = some (.inr (ci, fs))) (hb2 : (g_cl[ci]?).map (·.1) = some c9.1.cls) (hs : st0 = As.reverse ++ .ref b :: st) (hn : As.length = na) (hw : (st.map fun v => v.category).sum ≤ 8) (hd9 : d' + 1 ≤ d) (hx9 : x' ≤ x) (hy9 : y' ≤ y)
    (K : ∀ v n' h', P' v n' h' → GX g d (x - x') (y - y') k (pc + 3) L (v.toList ++ st) n' h' P n0 h0 X) : GX g d x y k pc L st0 n h P n0 h0 X := by
  intro p e R s m args below meth c H locs cells slots ls S B C F E T9
  obtain ⟨c1, c2, c3, c4, c5⟩ := hc
  obtain ⟨hx, hb9, hml, -, -, hnm, hown, hts, hK, hO⟩ := id S
  obtain ⟨B1, B2, B3⟩ := B.use hx9 hy9
  obtain ⟨r, hr1, hr2⟩ : ∃ r, g_cl[ci]? = some r ∧ r.1 = c9.1.cls := by
    cases hg : g_cl[ci]? with
    | none => rw [hg] at hb2; cases hb2
    | some r => rw [hg] at hb2; exact ⟨r, rfl, Option.some.inj hb2⟩
  have hcell := va_recv hK (g_P C hb) (q0 := 0) (ci := ci) hr1 rfl
  rw [hr2] at hcell
  have hrun := va_runV (C := c9.1.cls) (As := As.map (g_v g)) (rest := st.map (g_v g)) (b := g_ad g b) (p := p) (l := g.1) (e := e) (R := R) (s := s) (m := m) (args := args) (below := below) (meth := meth) (c := c) (H := H) (locs := locs) (cells := cells) (slots := slots) (g := F0 m pc ls (st0.map (g_v g))) (nL := k.2.2.1) ⟨hx, hb9, hml, hown, hts⟩ hM ⟨callB_of na hts (g_good c1) rfl rfl rfl (hts _ c2) (hts _ c3) c4 (g_rm B hd9 c5), hts _ hi9, hts _ hs9⟩ ⟨g_blind, hcell, g_pre S C F⟩ rfl (by rw [List.length_map]; exact hn) E.2.1 (by show st0.map (g_v g) = _; rw [hs, List.map_append, List.map_reverse]; rfl) (by show 2 * 0 + _ ≤ 8; rw [g_cats]; omega) hd ⟨B2, B3⟩
  exact g_run hrun F (fun v n1 h1 H1 locs1 q1 q2 q3 => by rw [g_top]; exact K v n1 h1 q1 p e R s m args below meth c H1 locs1 _ _ ls S B1 q2 q3 E T9)
theorem GX_astore_n {g : gT} {n0 : Nat} {h0 : mH} {X : Prop} {d x y : Nat} {k : mM} {pc : Nat} {L st : List Value} {n : Nat} {h : mH} {P : Option Value → Nat → mH → Prop} {f : Fin 4} {i : Nat} {a : Nat} (hd : decode k.2.1 pc = .ok (.astore_n f, 1)) (hi : (f : Nat) = i) (hi2 : i < L.length) (hc : ((L[i - 1]?).all (fun w => w.category == 1)) = true) (K : GX g d x y k (pc + 1) (L.set i (.ref a)) st n h P n0 h0 X) : GX g d x y k pc L (.ref a :: st) n h P n0 h0 X := by
  intro p e R s m args below meth c H locs cells slots ls S B C F E T9
  exact lv_astore_n S.1 S.2.1 hd hi E.2 (by rw [← E.1]; exact hi2) rfl (fun ls2 hl2 => K p e R s m args below meth c H locs cells slots ls2 S B C F ⟨by rw [List.length_set]; exact E.1, g_store hi2 hc hl2⟩ T9)
theorem GX_astore_nN {g : gT} {n0 : Nat} {h0 : mH} {X : Prop} {d x y : Nat} {k : mM} {pc : Nat} {L st : List Value} {n : Nat} {h : mH} {P : Option Value → Nat → mH → Prop} {f : Fin 4} {i : Nat} (hd : decode k.2.1 pc = .ok (.astore_n f, 1)) (hi : (f : Nat) = i) (hi2 : i < L.length) (hc : ((L[i - 1]?).all (fun w => w.category == 1)) = true) (K : GX g d x y k (pc + 1) (L.set i (.null)) st n h P n0 h0 X) : GX g d x y k pc L (.null :: st) n h P n0 h0 X := by
  intro p e R s m args below meth c H locs cells slots ls S B C F E T9
  exact lv_astore_nN S.1 S.2.1 hd hi E.2 (by rw [← E.1]; exact hi2) rfl (fun ls2 hl2 => K p e R s m args below meth c H locs cells slots ls2 S B C F ⟨by rw [List.length_set]; exact E.1, g_store hi2 hc hl2⟩ T9)
theorem GX_aload_nN {g : gT} {n0 : Nat} {h0 : mH} {X : Prop} {d x y : Nat} {k : mM} {pc : Nat} {L st : List Value} {n : Nat} {h : mH} {P : Option Value → Nat → mH → Prop} {f : Fin 4} {i : Nat} (hd : decode k.2.1 pc = .ok (.aload_n f, 1)) (hi : (f : Nat) = i) (hl : L[i]? = some .null) (K : GX g d x y k (pc + 1) L (.null :: st) n h P n0 h0 X) : GX g d x y k pc L st n h P n0 h0 X := by
  intro p e R s m args below meth c H locs cells slots ls S B C F E T9
  exact lv_aload_nN S.1 S.2.1 hd hi (g_at E.2 hl rfl) (K p e R s m args below meth c H locs cells slots ls S B C F E T9)
theorem GX_ifnonnull {g : gT} {n0 : Nat} {h0 : mH} {X : Prop} {d x y : Nat} {k : mM} {pc : Nat} {L st : List Value} {n : Nat} {h : mH} {P : Option Value → Nat → mH → Prop} {i : Nat} {off : Int} {tgt : Nat} (hd : decode k.2.1 pc = .ok (.ifnonnull off, 3)) (ht : (pc : Int) + off = (tgt : Int)) (K : GX g d x y k tgt L (st) n h P n0 h0 X) : GX g d x y k pc L (.ref i :: st) n h P n0 h0 X := by
  intro p e R s m args below meth c H locs cells slots ls S B C F E T9
  exact lv_ifnonnull S.1 S.2.1 hd ht (K p e R s m args below meth c H locs cells slots ls S B C F E T9)
theorem GX_ifnonnullN {g : gT} {n0 : Nat} {h0 : mH} {X : Prop} {d x y : Nat} {k : mM} {pc : Nat} {L st : List Value} {n : Nat} {h : mH} {P : Option Value → Nat → mH → Prop} {off : Int} (hd : decode k.2.1 pc = .ok (.ifnonnull off, 3)) (K : GX g d x y k (pc + 3) L (st) n h P n0 h0 X) : GX g d x y k pc L (.null :: st) n h P n0 h0 X := by
  intro p e R s m args below meth c H locs cells slots ls S B C F E T9
  exact lv_ifnonnullN S.1 S.2.1 hd  (K p e R s m args below meth c H locs cells slots ls S B C F E T9)
theorem GX_tsw {g : gT} {n0 : Nat} {h0 : mH} {X : Prop} {d x y : Nat} {k : mM} {pc : Nat} {L st : List Value} {n : Nat} {h : mH} {P : Option Value → Nat → mH → Prop} {dflt lo hi : Int} {offs : Array Int} {len tgt : Nat} {a : Int32} (hd : decode k.2.1 pc = .ok (.tableswitch dflt lo hi offs, len)) (ht : (pc : Int) + dflt = (tgt : Int)) (K0 : (a.toInt < lo ∨ hi < a.toInt) → GX g d x y k tgt L st n h P n0 h0 X) (K : ∀ j : Nat, a.toInt = lo + j → lo + j ≤ hi → ∃ (off : Int) (t2 : Nat), offs[j]? = some off ∧ (pc : Int) + off = (t2 : Int) ∧ GX g d x y k t2 L st n h P n0 h0 X) : GX g d x y k pc L (.int a :: st) n h P n0 h0 X := by
  intro p e R s m args below meth c H locs cells slots ls S B C F E T9
  by_cases h9 : a.toInt < lo ∨ hi < a.toInt
  · exact lv_tableOut S.1 S.2.1 hd h9 ht (K0 h9 p e R s m args below meth c H locs cells slots ls S B C F E T9)
  · have h1 : ¬ a.toInt < lo := fun q => h9 (Or.inl q)
    have h2 : ¬ hi < a.toInt := fun q => h9 (Or.inr q)
    have e1 : a.toInt = lo + ((a.toInt - lo).toNat : Nat) := by omega
    obtain ⟨off, t2, b1, b2, b3⟩ := K (a.toInt - lo).toNat e1 (by omega)
    exact lv_tableIn S.1 S.2.1 hd h1 h2 b1 b2 (b3 p e R s m args below meth c H locs cells slots ls S B C F E T9)
theorem GX_top {g : gT} {d x y : Nat} {k : mM} {pc : Nat} {L st : List Value} {n n0 : Nat} {h h0 : mH} {P : Option Value → Nat → mH → Prop} {X : Prop} {v w : Value} (e : v = w) (K : GX g d x y k pc L (w :: st) n h P n0 h0 X) : GX g d x y k pc L (v :: st) n h P n0 h0 X := by rw [e]; exact K
theorem GT_aload_n {g : gT} {tb : List (Nat × Nat × Nat × Nat)} {d x y : Nat} {k : mM} {pc : Nat} {L st : List Value} {n : Nat} {h : mH} {P : Option Value → Nat → mH → Prop} {f : Fin 4} {i : Nat} {a : Nat} (hd : decode k.2.1 pc = .ok (.aload_n f, 1)) (hi : (f : Nat) = i) (hl : L[i]? = some (.ref a)) (K : GT g d x y k (pc + 1) L (.ref a :: st) n h P tb) : GT g d x y k pc L st n h P tb := by
  intro p e R s m args below meth c H locs cells slots ls S B C F E T9
  exact lv_aload_n S.1 S.2.1 hd hi (g_at E.2 hl rfl) (K p e R s m args below meth c H locs cells slots ls S B C F E T9)
theorem GT_iload_n {g : gT} {tb : List (Nat × Nat × Nat × Nat)} {d x y : Nat} {k : mM} {pc : Nat} {L st : List Value} {n : Nat} {h : mH} {P : Option Value → Nat → mH → Prop} {f : Fin 4} {i : Nat} {a : Int32} (hd : decode k.2.1 pc = .ok (.iload_n f, 1)) (hi : (f : Nat) = i) (hl : L[i]? = some (.int a)) (K : GT g d x y k (pc + 1) L (.int a :: st) n h P tb) : GT g d x y k pc L st n h P tb := by
  intro p e R s m args below meth c H locs cells slots ls S B C F E T9
  exact lv_iload_n S.1 S.2.1 hd hi (g_at E.2 hl rfl) (K p e R s m args below meth c H locs cells slots ls S B C F E T9)
theorem GT_iconst {g : gT} {tb : List (Nat × Nat × Nat × Nat)} {d x y : Nat} {k : mM} {pc : Nat} {L st : List Value} {n : Nat} {h : mH} {P : Option Value → Nat → mH → Prop} {i : Int} {v : Int32} (hd : decode k.2.1 pc = .ok (.iconst i, 1)) (hv : Int32.ofInt i = v) (K : GT g d x y k (pc + 1) L (.int v :: st) n h P tb) : GT g d x y k pc L (st) n h P tb := by
  intro p e R s m args below meth c H locs cells slots ls S B C F E T9
  exact lv_iconst S.1 S.2.1 hd hv (K p e R s m args below meth c H locs cells slots ls S B C F E T9)
set_option maxHeartbeats 4000000 in
set_option maxRecDepth 100000 in
theorem vx_ctorX {p : Program} {l : Launch} {e : Env} {R : Room} {s : State} {m₀ : MethodId} {args : Array Value} {below : List Frame} {meth : Method} {c : Code} {W : State} {locs : List Loc} {cells slots : Nat} {ix : Nat} {rx : ByteArray} (X : Stand p l e R s m₀ args below meth c W locs cells slots) (hexec : p.tables.exec = Jvm.exec) (htr : e.platform.stackTraces = false) (x0 : decode rx 0 = .ok (.aload_n 0, 1)) (x1 : decode rx 1 = .ok (.aload_n 1, 1)) (x2 : decode rx 2 = .ok (.invokespecial ix, 3)) (x5 : decode rx 5 = .ok (.return_, 1)) {own cls : String} {names : List String} {ic : Nat}
    (hown : s.vm.findClass own = some m₀.cls) (hcls : Bundle.fit cls = true) (hnames : ∀ n ∈ names, Bundle.fit n = true)
    (h : ∀ a ∈ Bundle.ownAtomsX own ic cls ix rx names, a.before args s = true)
    (hlocs : ∀ x ∈ locs, ∀ cell, s.heap[x.base]? = some cell → cell.vm.isStatics = false)
    {a : Addr} {cX : ClassId} {kX : Class} (hfoundX : s.vm.findClass cls = some cX) (hkX : s.vm.classes[cX]? = some kX) (hcell : W.heap[a]? = some (freshCell cX kX)) (hnew : s.heap.size ≤ a)
    {msg : Value} (hmsg : msg.isRef = true)
    {g : JFrame} (hg : g.method = m₀) (hsize : g.locals.size = c.maxLocals) (hlocked : g.locked = none) (hentered : g.entered = []) {rest : List Value} (hstack : g.stack = msg :: .ref a :: .ref a :: rest)
    (hd6 : decode c.code g.pc = .ok (.invokespecial ic, 3)) (hd9 : decode c.code (g.pc + 3) = .ok (.athrow, 1)) (hout : ∀ x ∈ c.exceptionTable.toList, covers x (g.pc + 3) = false)
    (hRframes : names.length + 3 < R.frames) (hRlocals : 2 * g.monitorRoom + ((Value.ref a :: rest).map fun v => v.category).sum + (13 * (names.length + 1) + 42) ≤ R.locals) (hlocks : meth.locks = false := by first | assumption | exact BodyLoose.notSynchronized (by assumption) | exact Body.notSynchronized (by assumption)) :
    ∃ U : State, Steps p.tables e below (W.setTop g) U ∧ U.status = .running ∧ Ended U below (.threw a) ∧ s.WarmedH U.vm ∧ s.sameButNew ({ U with vm := s.vm } : State) locs cells slots ∧
      ∃ ce, U.heap[a]? = some ce ∧ ce.vm = .none ∧ s.vm.findClass cls = some ce.cls := by
  have howns : e.platform.frameOwnsMonitors = true := by rw [X.admits.platform]
  have hfin : e.platform.finalization = false := by rw [X.admits.platform]
  have hpl : e.platform.magicAccessors = ({} : Platform).magicAccessors := by rw [X.admits.platform]
  have a' : ∀ x, x ∈ Bundle.ownAtomsX own ic cls ix rx names → x.holds args s none s [] = true := fun x hx => h x hx
  obtain ⟨T, Z0, L, -, Y⟩ := ThrowableC.of_atoms (args := args) howns hfin hpl (fun x hx => h x (by simp [Bundle.ownAtomsX, hx]))
  obtain ⟨Z, M, LZ, LM, hnZ⟩ := Init0T.ofS_atoms (args := args) hpl L Y (fun x hx => h x (by simp [Bundle.ownAtomsX, hx]))
  obtain ⟨P1, Ps, hlen, L1, hL, hP1m, hlink1, hlink⟩ := Bundle.chainSX (args := args) hpl hnZ x0 x1 x2 x5 names cls hcls hnames (fun x hx => h x (by simp [Bundle.ownAtomsX, hx]))
  have hfound : s.vm.findClass cls = some P1.m.cls := findClass_of_methodNamed hP1m
  cases Option.some.inj (hfoundX.symm.trans hfound)
  obtain ⟨c1, kX', hc1, hk, hord, -, -, hn6⟩ := Cond.instantiable_spec (a' (.instantiable cls 6) (by simp [Bundle.ownAtomsX]))
  cases Option.some.inj (hc1.symm.trans hfound)
  cases Option.some.inj (hkX.symm.trans hk)
  have hsel0 : selectMethod e.platform s.vm P1.m.cls T.fill0 = .method T.fill0 := by
    obtain ⟨c2, r2, m2, q1, q2, q3, q4, -⟩ := Cond.selects_spec (a' (.selects cls Bundle.tFill0 Bundle.tFill0) (by simp [Bundle.ownAtomsX]))
    cases Option.some.inj (q1.symm.trans hfound)
    cases Option.some.inj (q2.symm.trans (State.methodFound?_of_named Y.fill0 (by decide)))
    cases Option.some.inj (q3.symm.trans Y.fill0)
    rw [Launch.admits_selectMethod X.admits]; exact q4
  have hselF : selectMethod e.platform s.vm P1.m.cls T.fill = .method T.fill := by
    obtain ⟨c2, r2, m2, q1, q2, q3, q4, -⟩ := Cond.selects_spec (a' (.selects cls Bundle.tFill Bundle.tFill) (by simp [Bundle.ownAtomsX]))
    cases Option.some.inj (q1.symm.trans hfound)
    cases Option.some.inj (q2.symm.trans (State.methodFound?_of_named Y.fill (by decide)))
    cases Option.some.inj (q3.symm.trans Y.fill)
    rw [Launch.admits_selectMethod X.admits]; exact q4
  obtain ⟨cellS0, hcS0, hiss⟩ := Y.statics
  obtain ⟨u0, hu0⟩ := Cond.staticRefV Y.unassigned L.unassignedStatic L.statics hcS0 hiss (a' (.isRef (.static Bundle.tN "UNASSIGNED_STACK" Bundle.steD)) (by simp [Bundle.ownAtomsX]))
  obtain ⟨sen, hsen⟩ := Cond.staticRefV Y.sentinel L.sentinelStatic L.statics hcS0 hiss (a' (.isRef (.static Bundle.tN "SUPPRESSED_SENTINEL" Bundle.listD)) (by simp [Bundle.ownAtomsX]))
  obtain ⟨ci198, i198, fB, hk198, hg198, ha198, hsB, -, hnB, htB, hffB⟩ := Cond.ownField (t := .object "java/lang/Object") Y.found L.cls (by decide +kernel) (a' (.fieldLink Bundle.tN 198 Bundle.tN "backtrace" "Ljava/lang/Object;") (by simp [Bundle.ownAtomsX])) (a' (.lays Bundle.tN Bundle.tN "backtrace" "Ljava/lang/Object;") (by simp [Bundle.ownAtomsX])) e.platform hpl
  obtain ⟨cellS, hcS', heS, -, hkeep⟩ := X.same.2.2.2.2.2 T.aS cellS0 hcS0
  have hcellS : W.heap[T.aS]? = some cellS := hcS'
  have hout' : ∀ i, (⟨T.aS, i⟩ : Loc) ∉ locs := fun i hmem => by
    have := hlocs _ hmem cellS0 hcS0
    rw [hiss] at this; cases this
  have hknownS : cellS.vm ≠ .unknown := by
    rw [heS]; intro hu
    rw [show cellS0.vm = .unknown from hu] at hiss
    cases hiss
  have hneS : T.aS ≠ a := Nat.ne_of_lt (Nat.lt_of_lt_of_le (Array.getElem?_eq_some_iff.mp hcS0).1 hnew)
  obtain ⟨iM, hffM⟩ := Y.msg
  obtain ⟨tyC, dC, hdC, hdnC⟩ := Cond.laysAt hfound hk Y.cause (a' (.lays cls Bundle.tN "cause" "Ljava/lang/Throwable;") (by simp [Bundle.ownAtomsX]))
  obtain ⟨tyS, dS, hdS, hdnS⟩ := Cond.laysAt hfound hk Y.stack (a' (.lays cls Bundle.tN "stackTrace" Bundle.steD) (by simp [Bundle.ownAtomsX]))
  obtain ⟨tyP, dP, hdP, hdnP⟩ := Cond.laysAt hfound hk Y.supp (a' (.lays cls Bundle.tN "suppressedExceptions" Bundle.listD) (by simp [Bundle.ownAtomsX]))
  obtain ⟨tyM, dM, hdM, hdnM⟩ := Cond.laysAt hfound hk hffM (a' (.lays cls Bundle.tN "detailMessage" "Ljava/lang/String;") (by simp [Bundle.ownAtomsX]))
  obtain ⟨tyB, dB, hdB, hdnB⟩ := Cond.laysAt hfound hk hffB (a' (.lays cls Bundle.tN "backtrace" "Ljava/lang/Object;") (by simp [Bundle.ownAtomsX]))
  have bC := Cond.laysApart hdB hdC hdnB hdnC (by rw [hnB, Y.causeName]; decide)
  have bS := Cond.laysApart hdB hdS hdnB hdnS (by rw [hnB, Y.stackName]; decide)
  have bP := Cond.laysApart hdB hdP hdnB hdnP (by rw [hnB, Y.suppName]; decide)
  have hskip : SkipFacts T e.platform s (fun u => u) u0 ((preparedCellV T.toThrowableT (freshCell P1.m.cls kX) a u0 sen).withEntry W.cur) :=
    ⟨{ ci198 := ci198, i198 := i198, fBack := fB }, ⟨hk198, hg198, ha198, hsB⟩, by
      have := fresh_default (c := P1.m.cls) tyB
      rw [htB] at this
      simpa [preparedCellV, Cell.setSlot, Cell.withEntry, Array.getElem?_setIfInBounds, bC, bS, bP, bC.symm, bS.symm, bP.symm, defaultValue] using this, fun _ _ => rfl⟩
  obtain ⟨tm, methC, cdC, kC, vm₁, hnC, -, -, -, -, -, -, -, hW₁, st1⟩ := Steps.initColdS (tb := p.tables) (e := e) (below := below) (s := s) (U := W) X.here hexec X.warmed hpl hown (t := Bundle.initS cls) rfl rfl (Bundle.fit_spec hcls).2
    (a' (.methodLink own ic (Bundle.initS cls)) (by simp [Bundle.ownAtomsX])) (h (.instanceMethod (Bundle.initS cls)) (by cases names <;> simp [Bundle.ownAtomsX, Bundle.chainSAtomsX, Bundle.passSAtoms])) (bytes := rx) (maxL := 2) (h (.code (Bundle.initS cls) rx 2 none) (by cases names <;> simp [Bundle.ownAtomsX, Bundle.chainSAtomsX, Bundle.passSAtoms]))
    (f := g) hg (a := a) (msg := msg) (rest := .ref a :: rest) hstack hd6
  cases Option.some.inj (hnC.symm.trans hP1m)
  have X₁ := X.noted hW₁
  obtain ⟨vm₂, X₂, st2⟩ := X₁.ctorMessageOffV hexec (g := { g with stack := .ref a :: rest }) hg hsize T L Z LZ M LM (P1 :: Ps)
    (fun P hP => by rcases List.mem_cons.mp hP with rfl | hP; exact L1; exact hL P hP) ⟨hlink1, hlink⟩ (u0 := u0) (sen := sen) (self := a) hmsg (cell := freshCell P1.m.cls kX) (cellS := cellS)
    hcell (fun _ => by simp) (by simp) rfl rfl hsel0 hselF hcellS hneS hknownS (by rw [hkeep _ (hout' _)]; exact hu0) (by rw [hkeep _ (hout' _)]; exact hsen)
    (Takes.of_laid hk hord tyC (by rw [Y.causeType]; rfl)) (Takes.of_laid hk hord tyS (by rw [Y.stackType]; exact fits_refV_array _ u0)) (Takes.of_laid hk hord tyP (by rw [Y.suppType]; exact fits_refV_object _ sen))
    (Takes.of_laid hk hord tyM (by rw [Y.msgType]; exact fits_refV_object _ ⟨msg, hmsg⟩)) Y.objLocals hskip htr [] hd6
    (by simp only [List.length_cons, hlen]; omega) (by simp only [List.length_cons, hlen]; exact hRlocals)
  obtain ⟨hwalk, hrun, hended, hWU, hsame⟩ := X₂.athrowLeaves hexec (g := { g with stack := .ref a :: rest, pc := g.pc + 3 }) hg hlocked hentered hout (a := a) (rest := rest) rfl hd9
  obtain ⟨c3, c4, hc3, hc4, hasg⟩ := Cond.castable_spec (a' (.castable cls cls) (by simp [Bundle.ownAtomsX]))
  cases Option.some.inj (hc3.symm.trans hfound)
  cases Option.some.inj (hc4.symm.trans hfound)
  have hlt : a < ((W.setVm vm₁).setVm vm₂).heap.size := (Array.getElem?_eq_some_iff.mp hcell).1
  have hU := heapAt_setCell_self (s := (W.setVm vm₁).setVm vm₂) (plainBareV T.toThrowableT (freshCell P1.m.cls kX) a u0 sen msg) hlt
  refine ⟨_, st1 _ (fun acts => ?_), hrun, hended, hWU, hsame.weaken (fun y hy hlt' => ?_) (Nat.le_refl _) (Nat.le_refl _), _, hU, rfl, hfound⟩
  · rw [doInvoke_state]
    exact st2 _ hwalk
  · rcases List.mem_append.mp hy with h1 | h1
    · exact h1
    · exfalso
      have hb : y.base = a := by
        simp only [List.mem_cons, List.not_mem_nil, or_false] at h1
        rcases h1 with rfl | rfl | rfl | rfl | rfl <;> rfl
      rw [hb] at hlt'
      exact Nat.not_lt.mpr hnew hlt'
def vx_atX (own : String) (ic : Nat) (X : String) (ix : Nat) (rx : ByteArray) (names : List String) : List Cond := (Bundle.ownAtomsX own ic X ix rx names).filter vx_no
set_option maxHeartbeats 4000000 in
set_option maxRecDepth 100000 in
theorem vx_throwSX {p : Program} {l : Launch} {e : Env} {R : Room} {s : State} {m : MethodId} {args : Array Value} {below : List Frame} {meth : Method} {c : Code} {H : Heap} {locs : List Loc} {cells slots : Nat} {ls : Array Slot} {rest : List Value} {Qc : Array Value → State → Outcome → State → Prop} {XC : String → State → State → Prop} {free : Addr → Prop} {ix : Nat} {rx : ByteArray} {cc : ByteArray} {pc : Nat} (hexec : p.tables.exec = Jvm.exec) (hb : c.code = cc) (hl : l.stackTraces = false) (x0 : decode rx 0 = .ok (.aload_n 0, 1)) (x1 : decode rx 1 = .ok (.aload_n 1, 1)) (x2 : decode rx 2 = .ok (.invokespecial ix, 3)) (x5 : decode rx 5 = .ok (.return_, 1)) {own cls text : String} {names : List String} {ik is ic mc ms sa : Nat} {A : Nat → Prop}
    (hown : s.vm.findClass own = some m.cls) (hcls : Bundle.fit cls = true) (hnames : ∀ n ∈ names, Bundle.fit n = true)
    (hk : (Cond.classLink own ik cls).before args s = true) (hini : (Cond.initialized cls).before args s = true) (hstr : vk_R own is text sa s) (hat : ∀ w ∈ vx_atX own ic cls ix rx names, w.before args s = true)
    (hgood : ∀ w ∈ Cond.classLink own ik cls :: Cond.initialized cls :: vx_atX own ic cls ix rx names, vx_ot w = true)
    (hU : vx_Zq Bundle.tN "UNASSIGNED_STACK" Bundle.steD A s s.heap) (hN : vx_Zq Bundle.tN "SUPPRESSED_SENTINEL" Bundle.listD A s s.heap) (hS : va_S A s.heap H locs) (hsize : ls.size = c.maxLocals)
    (d0 : decode cc pc = .ok (.new ik, 3)) (d3 : decode cc (pc + 3) = .ok (.dup, 1)) (d4 : decode cc (pc + 4) = .ok (.ldc is, 2)) (d6 : decode cc (pc + 6) = .ok (.invokespecial ic, 3)) (d9 : decode cc (pc + 9) = .ok (.athrow, 1))
    (hout : ∀ x ∈ c.exceptionTable.toList, covers x (pc + 9) = false)
    (hRframes : names.length + 3 < R.frames) (hRlocals : (rest.map fun v => v.category).sum + (13 * (names.length + 1) + 43) ≤ R.locals) (hRcells : cells + 1 ≤ R.cells) (hRslots : slots + 6 ≤ R.slots) (hlocks : meth.locks = false)
    (hx : ∀ t : State, s.vm.Alike t.vm → H.size ≤ t.heap.size → (∀ q : Nat, q < H.size → t.heap[q]? = H[q]?) → XC cls s t)
    (hf : ∀ z ∈ locs, free z.base) (hc : cells + 1 ≤ mc) (hs : slots + 6 ≤ ms) :
    W p l e R s m args below meth c H locs cells slots (vx_MQ below Qc XC args s mc ms free) (F0 m pc ls rest) := by
  intro T hT X
  have htr : e.platform.stackTraces = false := (show e.platform.stackTraces = l.stackTraces by rw [X.admits.platform]).trans hl
  have Y := vx_rebase X (R' := { frames := R.frames, locals := R.locals, cells := 1, slots := 6 }) (Nat.le_refl _) (Nat.le_refl _) hRcells hRslots
  obtain ⟨s', hA⟩ : ∃ z, z = (T.setVm s.vm).setFrames (.invoking m args :: below) := ⟨_, rfl⟩
  rw [← hA] at Y
  have hvm : s'.vm = s.vm := by rw [hA]; rfl
  have hhp : s'.heap = H := by rw [hA]; exact hT
  have hW0 : s.WarmedH s'.vm := by rw [hvm]; exact State.WarmedH.refl s
  have hat' : ∀ w ∈ vx_atX own ic cls ix rx names, w.before args s' = true := fun w hw => vx_ot_at hW0 hvm.symm (hgood w (List.mem_cons_of_mem _ (List.mem_cons_of_mem _ hw))) (hat w hw)
  have hk' : (Cond.classLink own ik cls).before args s' = true := vx_ot_at hW0 hvm.symm (hgood _ List.mem_cons_self) hk
  have hini' : (Cond.initialized cls).before args s' = true := vx_ot_at hW0 hvm.symm (hgood _ (List.mem_cons_of_mem _ List.mem_cons_self)) hini
  have hU' : vx_Zq Bundle.tN "UNASSIGNED_STACK" Bundle.steD A s' s'.heap := by rw [hhp]; exact vx_Zq.moved hW0.alike (hU.kept hS.2.1)
  have hN' : vx_Zq Bundle.tN "SUPPRESSED_SENTINEL" Bundle.listD A s' s'.heap := by rw [hhp]; exact vx_Zq.moved hW0.alike (hN.kept hS.2.1)
  have h : ∀ w ∈ Bundle.ownAtomsX own ic cls ix rx names, w.before args s' = true := vx_own hat' (vx_isRefq hU'.1) (vx_isRefq hN'.1) hU'.2.word hN'.2.word
  have hown' : s'.vm.findClass own = some m.cls := by rw [hvm]; exact hown
  have hins : (Cond.instantiable cls 6).before args s' = true := h _ (by simp [Bundle.ownAtomsX])
  obtain ⟨vm₁, cX, kX, hfX, hkX, -, -, X₁, st1⟩ := Y.newCold hexec (own := own) (C := cls) (index := ik) (n := 6) hown' hk' hins hini'
    (g := F0 m pc ls rest) rfl (by rw [hb]; exact d0) (Nat.le_refl _) (Nat.le_refl _)
  generalize hT1 : (T.setVm vm₁).pushCell { cls := cX, slots := kX.instanceTypes.map defaultValue, vm := .none } = T1 at X₁ st1
  have hcat : (Value.ref T.heap.size).category = 1 := rfl
  have hcellA : T1.heap[T.heap.size]? = some (freshCell cX kX) := by rw [← hT1]; exact State.heap_pushCell_size _ _
  have d3' : decode c.code (pc + 3) = .ok (.dup, 1) := by rw [hb]; exact d3
  have d4' : decode c.code (pc + 4) = .ok (.ldc is, 2) := by rw [hb]; exact d4
  have hstr' : vk_R own is text sa s' := vk_R.warm hW0 hstr
  obtain ⟨U, hsteps, hrun, hend, hW, hsame, ce, hce, hOv, hOc⟩ := vx_ctorX X₁ hexec htr x0 x1 x2 x5 (own := own) (cls := cls) (names := names) (ic := ic) hown' hcls hnames h (fun x hx => nomatch hx) hfX hkX hcellA (by rw [hhp, hT]; exact Nat.le_refl _) (msg := .ref sa) rfl
    (g := { method := m, pc := pc + 6, locals := ls, stack := .ref sa :: .ref T.heap.size :: .ref T.heap.size :: rest, locked := none }) rfl hsize rfl rfl (rest := rest) rfl
    (by rw [hb]; exact d6) (by rw [hb]; exact d9) hout hRframes (by simp only [List.map_cons, List.sum_cons, hcat]; omega) hlocks
  obtain ⟨f1, f2⟩ := vx_frame hsame
  rw [hhp] at f1 f2
  have hWs : s.WarmedH U.vm := State.WarmedH.trans hW0 hW
  have hcl : s.vm.findClass cls = some ce.cls := by
    have h9 := hOc
    rw [hvm] at h9
    exact h9
  have hall : s.sameButNew ({ U with vm := s.vm } : State) locs mc ms := by
    subst hA
    obtain ⟨e1, e2⟩ := hsame
    rw [State.setFrames_setFrames] at e1
    have h2 : (T.setVm s.vm).sameButNew ({ U with vm := s.vm } : State) [] (0 + 1) (0 + 6) := ⟨e1, e2⟩
    have h3 := X.same.trans h2
    rw [List.append_nil] at h3
    exact h3.mono hc hs
  refine ⟨U, ?_, .threw T.heap.size, hrun, hend, Or.inr ⟨T.heap.size, rfl, cls, ce, locs, hx U hWs.alike f1 (fun q hq => f2 q hq (fun z hz => nomatch hz)), hce, hOv, hcl, hWs, hall, hf⟩⟩
  refine st1 _ ?_
  show Steps p.tables e below (T1.setTop { method := m, pc := pc + 3, locals := ls, stack := .ref T.heap.size :: rest, locked := none }) _
  jvm_step X₁.here [X₁.here.top, hexec, d3', Value.category]
  exact X₁.ldcString hexec (own := own) (text := text) (index := is) (a := sa) hown' hstr'.1 hstr'.2
    (g := { method := m, pc := pc + 4, locals := ls, stack := .ref T.heap.size :: .ref T.heap.size :: rest, locked := none }) rfl d4' _ hsteps
set_option maxHeartbeats 4000000 in
set_option maxRecDepth 100000 in
theorem vx_throwSWX {p : Program} {l : Launch} {e : Env} {R : Room} {s : State} {m : MethodId} {args : Array Value} {below : List Frame} {meth : Method} {c : Code} {H : Heap} {locs : List Loc} {cells slots : Nat} {ls : Array Slot} {rest : List Value} {Qc : Array Value → State → Outcome → State → Prop} {XC : String → State → State → Prop} {free : Addr → Prop} {ix : Nat} {rx : ByteArray} {cc : ByteArray} {pc : Nat} (hexec : p.tables.exec = Jvm.exec) (hb : c.code = cc) (hl : l.stackTraces = false) (x0 : decode rx 0 = .ok (.aload_n 0, 1)) (x1 : decode rx 1 = .ok (.aload_n 1, 1)) (x2 : decode rx 2 = .ok (.invokespecial ix, 3)) (x5 : decode rx 5 = .ok (.return_, 1)) {own cls text : String} {names : List String} {ik is ic mc ms sa : Nat} {A : Nat → Prop}
    (hown : s.vm.findClass own = some m.cls) (hcls : Bundle.fit cls = true) (hnames : ∀ n ∈ names, Bundle.fit n = true)
    (hk : (Cond.classLink own ik cls).before args s = true) (hini : (Cond.initialized cls).before args s = true) (hstr : vk_R own is text sa s) (hat : ∀ w ∈ vx_atX own ic cls ix rx names, w.before args s = true)
    (hgood : ∀ w ∈ Cond.classLink own ik cls :: Cond.initialized cls :: vx_atX own ic cls ix rx names, vx_ot w = true)
    (hU : vx_Zq Bundle.tN "UNASSIGNED_STACK" Bundle.steD A s s.heap) (hN : vx_Zq Bundle.tN "SUPPRESSED_SENTINEL" Bundle.listD A s s.heap) (hS : va_S A s.heap H locs) (hsize : ls.size = c.maxLocals)
    (d0 : decode cc pc = .ok (.new ik, 3)) (d3 : decode cc (pc + 3) = .ok (.dup, 1)) (d4 : decode cc (pc + 4) = .ok (.ldc_w is, 3)) (d7 : decode cc (pc + 7) = .ok (.invokespecial ic, 3)) (d10 : decode cc (pc + 10) = .ok (.athrow, 1))
    (hout : ∀ x ∈ c.exceptionTable.toList, covers x (pc + 10) = false)
    (hRframes : names.length + 3 < R.frames) (hRlocals : (rest.map fun v => v.category).sum + (13 * (names.length + 1) + 43) ≤ R.locals) (hRcells : cells + 1 ≤ R.cells) (hRslots : slots + 6 ≤ R.slots) (hlocks : meth.locks = false)
    (hx : ∀ t : State, s.vm.Alike t.vm → H.size ≤ t.heap.size → (∀ q : Nat, q < H.size → t.heap[q]? = H[q]?) → XC cls s t)
    (hf : ∀ z ∈ locs, free z.base) (hc : cells + 1 ≤ mc) (hs : slots + 6 ≤ ms) :
    W p l e R s m args below meth c H locs cells slots (vx_MQ below Qc XC args s mc ms free) (F0 m pc ls rest) := by
  intro T hT X
  have htr : e.platform.stackTraces = false := (show e.platform.stackTraces = l.stackTraces by rw [X.admits.platform]).trans hl
  have Y := vx_rebase X (R' := { frames := R.frames, locals := R.locals, cells := 1, slots := 6 }) (Nat.le_refl _) (Nat.le_refl _) hRcells hRslots
  obtain ⟨s', hA⟩ : ∃ z, z = (T.setVm s.vm).setFrames (.invoking m args :: below) := ⟨_, rfl⟩
  rw [← hA] at Y
  have hvm : s'.vm = s.vm := by rw [hA]; rfl
  have hhp : s'.heap = H := by rw [hA]; exact hT
  have hW0 : s.WarmedH s'.vm := by rw [hvm]; exact State.WarmedH.refl s
  have hat' : ∀ w ∈ vx_atX own ic cls ix rx names, w.before args s' = true := fun w hw => vx_ot_at hW0 hvm.symm (hgood w (List.mem_cons_of_mem _ (List.mem_cons_of_mem _ hw))) (hat w hw)
  have hk' : (Cond.classLink own ik cls).before args s' = true := vx_ot_at hW0 hvm.symm (hgood _ List.mem_cons_self) hk
  have hini' : (Cond.initialized cls).before args s' = true := vx_ot_at hW0 hvm.symm (hgood _ (List.mem_cons_of_mem _ List.mem_cons_self)) hini
  have hU' : vx_Zq Bundle.tN "UNASSIGNED_STACK" Bundle.steD A s' s'.heap := by rw [hhp]; exact vx_Zq.moved hW0.alike (hU.kept hS.2.1)
  have hN' : vx_Zq Bundle.tN "SUPPRESSED_SENTINEL" Bundle.listD A s' s'.heap := by rw [hhp]; exact vx_Zq.moved hW0.alike (hN.kept hS.2.1)
  have h : ∀ w ∈ Bundle.ownAtomsX own ic cls ix rx names, w.before args s' = true := vx_own hat' (vx_isRefq hU'.1) (vx_isRefq hN'.1) hU'.2.word hN'.2.word
  have hown' : s'.vm.findClass own = some m.cls := by rw [hvm]; exact hown
  have hins : (Cond.instantiable cls 6).before args s' = true := h _ (by simp [Bundle.ownAtomsX])
  obtain ⟨vm₁, cX, kX, hfX, hkX, -, -, X₁, st1⟩ := Y.newCold hexec (own := own) (C := cls) (index := ik) (n := 6) hown' hk' hins hini'
    (g := F0 m pc ls rest) rfl (by rw [hb]; exact d0) (Nat.le_refl _) (Nat.le_refl _)
  generalize hT1 : (T.setVm vm₁).pushCell { cls := cX, slots := kX.instanceTypes.map defaultValue, vm := .none } = T1 at X₁ st1
  have hcat : (Value.ref T.heap.size).category = 1 := rfl
  have hcellA : T1.heap[T.heap.size]? = some (freshCell cX kX) := by rw [← hT1]; exact State.heap_pushCell_size _ _
  have d3' : decode c.code (pc + 3) = .ok (.dup, 1) := by rw [hb]; exact d3
  have d4' : decode c.code (pc + 4) = .ok (.ldc_w is, 3) := by rw [hb]; exact d4
  have hstr' : vk_R own is text sa s' := vk_R.warm hW0 hstr
  obtain ⟨U, hsteps, hrun, hend, hW, hsame, ce, hce, hOv, hOc⟩ := vx_ctorX X₁ hexec htr x0 x1 x2 x5 (own := own) (cls := cls) (names := names) (ic := ic) hown' hcls hnames h (fun x hx => nomatch hx) hfX hkX hcellA (by rw [hhp, hT]; exact Nat.le_refl _) (msg := .ref sa) rfl
    (g := { method := m, pc := pc + 7, locals := ls, stack := .ref sa :: .ref T.heap.size :: .ref T.heap.size :: rest, locked := none }) rfl hsize rfl rfl (rest := rest) rfl
    (by rw [hb]; exact d7) (by rw [hb]; exact d10) hout hRframes (by simp only [List.map_cons, List.sum_cons, hcat]; omega) hlocks
  obtain ⟨f1, f2⟩ := vx_frame hsame
  rw [hhp] at f1 f2
  have hWs : s.WarmedH U.vm := State.WarmedH.trans hW0 hW
  have hcl : s.vm.findClass cls = some ce.cls := by
    have h9 := hOc
    rw [hvm] at h9
    exact h9
  have hall : s.sameButNew ({ U with vm := s.vm } : State) locs mc ms := by
    subst hA
    obtain ⟨e1, e2⟩ := hsame
    rw [State.setFrames_setFrames] at e1
    have h2 : (T.setVm s.vm).sameButNew ({ U with vm := s.vm } : State) [] (0 + 1) (0 + 6) := ⟨e1, e2⟩
    have h3 := X.same.trans h2
    rw [List.append_nil] at h3
    exact h3.mono hc hs
  refine ⟨U, ?_, .threw T.heap.size, hrun, hend, Or.inr ⟨T.heap.size, rfl, cls, ce, locs, hx U hWs.alike f1 (fun q hq => f2 q hq (fun z hz => nomatch hz)), hce, hOv, hcl, hWs, hall, hf⟩⟩
  refine st1 _ ?_
  show Steps p.tables e below (T1.setTop { method := m, pc := pc + 3, locals := ls, stack := .ref T.heap.size :: rest, locked := none }) _
  jvm_step X₁.here [X₁.here.top, hexec, d3', Value.category]
  exact X₁.ldcStringW hexec (own := own) (text := text) (index := is) (a := sa) hown' hstr'.1 hstr'.2
    (g := { method := m, pc := pc + 4, locals := ls, stack := .ref T.heap.size :: .ref T.heap.size :: rest, locked := none }) rfl d4' _ hsteps
theorem at_all : ∀ w ∈ vx_atX "ToolHouse" 247 "java/util/NoSuchElementException" 13 prog_29_method_4_code ["java/lang/RuntimeException", "java/lang/Exception"], w ∈ lw_tbl ∧ (goodWord w || g_nw w) = true := by decide +kernel
theorem nw_use {w : Cond} {A : Array Value} {s : State} (hw : w ∈ NW) (h : va_Nw w s) : w.before A s = true := va_Nw.use (by have h2 := (List.mem_filter.mp hw).2; cases w <;> first | rfl | simp [g_nw] at h2) h
theorem at_hat {s : State} {args : Array Value} (hts : ∀ w ∈ TB, w.before args s = true) (a1 : ∀ w ∈ NW, va_Nw w s) : ∀ w ∈ vx_atX "ToolHouse" 247 "java/util/NoSuchElementException" 13 prog_29_method_4_code ["java/lang/RuntimeException", "java/lang/Exception"], w.before args s = true := fun w hw => by
  obtain ⟨h1, h2⟩ := at_all w hw
  by_cases q : goodWord w = true
  · exact hts w (List.mem_filter.mpr ⟨h1, q⟩)
  · have q2 : g_nw w = true := by simpa [q] using h2
    have q3 : w ∈ NW := List.mem_filter.mpr ⟨h1, q2⟩
    exact nw_use q3 (a1 w q3)
theorem at_ot : ∀ w ∈ Cond.classLink "ToolHouse" 243 "java/util/NoSuchElementException" :: Cond.initialized "java/util/NoSuchElementException" :: vx_atX "ToolHouse" 247 "java/util/NoSuchElementException" 13 prog_29_method_4_code ["java/lang/RuntimeException", "java/lang/Exception"], vx_ot w = true := by decide +kernel
theorem cx0 : decode prog_29_method_4_code 0 = .ok (.aload_n 0, 1) := by decide +kernel
theorem cx1 : decode prog_29_method_4_code 1 = .ok (.aload_n 1, 1) := by decide +kernel
theorem cx2 : decode prog_29_method_4_code 2 = .ok (.invokespecial 13, 3) := by decide +kernel
theorem cx5 : decode prog_29_method_4_code 5 = .ok (.return_, 1) := by decide +kernel
set_option maxHeartbeats 4000000 in
set_option maxRecDepth 100000 in
theorem GX_thr {g : gT} {d x y : Nat} {k : mM} {pc : Nat} {L st : List Value} {n : Nat} {h : mH} {P : Option Value → Nat → mH → Prop} {X : Prop} (hst : g.1.stackTraces = false) (hk9 : k.1.cls = "ToolHouse") (d0 : decode k.2.1 pc = .ok (.new 243, 3)) (d3 : decode k.2.1 (pc + 3) = .ok (.dup, 1)) (d4 : decode k.2.1 (pc + 4) = .ok (.ldc 245, 2)) (d6 : decode k.2.1 (pc + 6) = .ok (.invokespecial 247, 3)) (d9 : decode k.2.1 (pc + 9) = .ok (.athrow, 1)) (hd6 : 6 ≤ d) (hx1 : 1 ≤ x) (hy6 : 6 ≤ y) (hw : (st.map fun v => v.category).sum ≤ 8) (hX : X) : GX g d x y k pc L st n h P n h X := by
  intro p e R s m args below meth c H locs cells slots ls S B C F E T9
  obtain ⟨hx, hb, hml, -, hlk, -, hown, hts, hK, hO⟩ := id S
  obtain ⟨B1, B2, B3, B4⟩ := id B
  obtain ⟨a1, a2, a3, a4, a5, a6, a7, a8, a9, a10, a11, b1, b2, b3, b4, b5, b6, b7⟩ := id hO
  rw [hk9] at hown
  refine vx_throwSX (names := ["java/lang/RuntimeException", "java/lang/Exception"]) (A := g_A g) hx hb hst cx0 cx1 cx2 cx5 hown (by decide +kernel) (by decide +kernel) (hts _ tw_809) (hts _ tw_78) b3 (at_hat hts a1) at_ot b5 b6 F (E.2.1.trans hml.symm) d0 d3 d4 d6 d9 (fun x9 hx9 => absurd (T9 x9 hx9) id) (by show 2 + 3 < R.frames; omega) (by rw [g_cats]; show _ + (13 * (2 + 1) + 43) ≤ R.locals; omega) (by omega) (by omega) hlk (fun t _ hz hk => ⟨rfl, hX, ⟨n + (t.heap.size - H.size), by omega, ?_⟩, ?_⟩) F.2.2 (by omega) (by omega)
  · obtain ⟨C1, C2, C3⟩ := C
    exact ⟨by omega, by omega, fun i c9 hi => ⟨(C3 i c9 hi).1, by have := (C3 i c9 hi).2.1; omega, (C3 i c9 hi).2.2.kept (hk _ (C3 i c9 hi).2.2.lt)⟩⟩
  · exact ⟨Nat.le_trans F.1 hz, fun q h1 h2 => (hk q (Nat.lt_of_lt_of_le h1 F.1)).trans (F.2.1 q h1 h2)⟩
set_option maxHeartbeats 4000000 in
set_option maxRecDepth 100000 in
theorem GX_thrW {g : gT} {d x y : Nat} {k : mM} {pc : Nat} {L st : List Value} {n : Nat} {h : mH} {P : Option Value → Nat → mH → Prop} {X : Prop} (hst : g.1.stackTraces = false) (hk9 : k.1.cls = "ToolHouse") (d0 : decode k.2.1 pc = .ok (.new 243, 3)) (d3 : decode k.2.1 (pc + 3) = .ok (.dup, 1)) (d4 : decode k.2.1 (pc + 4) = .ok (.ldc_w 262, 3)) (d6 : decode k.2.1 (pc + 7) = .ok (.invokespecial 247, 3)) (d9 : decode k.2.1 (pc + 10) = .ok (.athrow, 1)) (hd6 : 6 ≤ d) (hx1 : 1 ≤ x) (hy6 : 6 ≤ y) (hw : (st.map fun v => v.category).sum ≤ 8) (hX : X) : GX g d x y k pc L st n h P n h X := by
  intro p e R s m args below meth c H locs cells slots ls S B C F E T9
  obtain ⟨hx, hb, hml, -, hlk, -, hown, hts, hK, hO⟩ := id S
  obtain ⟨B1, B2, B3, B4⟩ := id B
  obtain ⟨a1, a2, a3, a4, a5, a6, a7, a8, a9, a10, a11, b1, b2, b3, b4, b5, b6, b7⟩ := id hO
  rw [hk9] at hown
  refine vx_throwSWX (names := ["java/lang/RuntimeException", "java/lang/Exception"]) (A := g_A g) hx hb hst cx0 cx1 cx2 cx5 hown (by decide +kernel) (by decide +kernel) (hts _ tw_809) (hts _ tw_78) b4 (at_hat hts a1) at_ot b5 b6 F (E.2.1.trans hml.symm) d0 d3 d4 d6 d9 (fun x9 hx9 => absurd (T9 x9 hx9) id) (by show 2 + 3 < R.frames; omega) (by rw [g_cats]; show _ + (13 * (2 + 1) + 43) ≤ R.locals; omega) (by omega) (by omega) hlk (fun t _ hz hk => ⟨rfl, hX, ⟨n + (t.heap.size - H.size), by omega, ?_⟩, ?_⟩) F.2.2 (by omega) (by omega)
  · obtain ⟨C1, C2, C3⟩ := C
    exact ⟨by omega, by omega, fun i c9 hi => ⟨(C3 i c9 hi).1, by have := (C3 i c9 hi).2.1; omega, (C3 i c9 hi).2.2.kept (hk _ (C3 i c9 hi).2.2.lt)⟩⟩
  · exact ⟨Nat.le_trans F.1 hz, fun q h1 h2 => (hk q (Nat.lt_of_lt_of_le h1 F.1)).trans (F.2.1 q h1 h2)⟩
def MX (g : gT) (d x y : Nat) (k : mM) (av : List Value) (n : Nat) (h : mH) (P : Option Value → Nat → mH → Prop) (X : Prop) : Prop := vx_Met g.1 k.1 (g_ws k) (g_R d x y) (va_Pc (av.map (g_v g)) (g_I g n h)) (g_Q g P) (gXC g n h X) x y (g_A g)
theorem MX_of {g : gT} {d x y : Nat} {k : mM} {av : List Value} {n : Nat} {h : mH} {P : Option Value → Nat → mH → Prop} {X : Prop} (hy : plainName k.1.cls = true) (hl : (av.flatMap (fun v => if v.category = 2 then [v, Value.retAddr 0] else [v])).length ≤ k.2.2.1) (K : GX g d x y k 0 (g_en k.2.2.1 av) [] n h P n h X) : MX g d x y k av n h P X := by
  refine vx_ofW (cc := k.2.1) (maxL := k.2.2.1) (ret := k.2.2.2) hy rfl ?_
  intro p e s m args below meth c s₁ B hml T9 hv
  obtain ⟨rfl, hC, hK, hO⟩ := hv
  have hts0 := atoms_spec (ws := g_ws k) B.pre
  have hts : ∀ w ∈ TB, w.before _ s = true := fun w hw => hts0 w (List.mem_cons_of_mem _ hw)
  have hown : s.vm.findClass k.1.cls = some m.cls := findClass_of_methodNamed B.named
  have hnm : meth.name = k.1.name := (name_of_methodNamed B.named B.method).1
  have hle := g_en_sl g av
  have hle2 : (lg_sl (av.map (g_v g))).length ≤ k.2.2.1 := by rw [hle]; exact hl
  have hl9 := lv_entry (av.map (g_v g)) (n := k.2.2.1) hle2
  rw [lg_entry_eq]
  refine K p e _ s m _ below meth c s.heap [] 0 0 _ ⟨B.exec, B.bytes, hml, B.returns, B.notSynchronized, hnm, hown, hts, hK, hO⟩ ⟨Nat.le_refl _, Nat.le_refl _, by show 0 + x ≤ x; omega, by show 0 + y ≤ y; omega⟩ hC va_S.rf ⟨?_, hl9.1, hl9.2.1, fun q hq => hl9.2.2 q ?_⟩ T9
  · simp only [g_en, List.length_append, List.length_replicate]; omega
  · obtain ⟨v, h1, h2, h3⟩ := g_Lv_mem.mp hq
    obtain ⟨j, u⟩ := q
    dsimp only at h1 h3
    subst h3
    unfold g_en at h1
    by_cases hj : j < (av.flatMap (fun v => if v.category = 2 then [v, Value.retAddr 0] else [v])).length
    · rw [List.getElem?_append_left hj] at h1
      have := g_en_args g av 0 j v h1 h2
      rwa [Nat.zero_add] at this
    · rw [List.getElem?_append_right (by omega)] at h1
      have h9 := (List.mem_replicate.mp (List.mem_of_getElem? h1)).2
      subst h9
      simp [g_ok] at h2
noncomputable def c_of (c : mS) (a : Nat) : Nat → Int32
  | 0 => c 24 a
  | 1 => cif (c 25 a = -1) (-1) (nI (ix (c 25 a)))
  | 2 => c 26 a
  | 3 => nI (ix (c 27 a))
  | 4 => nI (ix (c 28 a))
  | 5 => c 30 a
  | 6 => c 31 a
  | 7 => c 32 a
  | _ => cif (c 25 a = -1) (-1) (cif (ix (c 6 (ix (c 25 a))) = ix (c 28 a)) 0 1)
def c_ofOk (c : mS) (a w : Int32) : Prop := wi a 0 (c 23 0 - 1) ∧ wi w 0 8
def c_ofQ (c : mS) (a w : Int32) (v : Value) (n : Nat) (h : mH) : Option Value → Nat → mH → Prop := fun v' n' h' => c_ofOk c a w ∧ v' = some v ∧ n' = n ∧ h' = h
set_option maxHeartbeats 4000000 in
set_option maxRecDepth 100000 in
theorem cx_of {g : gT} {nq_ n9 : Nat} {sm : mS} {Y : cY} {c : mS} (hst : g.1.stackTraces = false) (a w : Int32) (hY : Yok Y c n9) (hC9 : c_inv c) : MX g 6 1 6 kX8_of [.ref 8, .int a, .int w] nq_ (hh sm Y c) (c_ofQ c a w (.int (c_of c (ix a) (ix w))) nq_ (hh sm Y c)) (¬ c_ofOk c a w) := by
  refine MX_of (by decide +kernel) (Nat.le_of_ble_eq_true rfl) ?_
  obtain ⟨hI, hG, hgv, hov, hrw, hps⟩ := id hC9
  obtain ⟨hK, hT, hB, hP9, hA, hkf, haf, hbf⟩ := id hI
  have hA2 := hA.2
  have hT2 := hT.2
  have hK2 := hK.2
  have hB2 := hB.2
  have hG2 := hG.2
  have hP2 := hP9.2
  refine GX_aload_n dX8_of_0 rfl rfl ?_
  refine GX_iload_n dX8_of_1 rfl rfl ?_
  refine GX_callV (cx_askAt a hY hC9) dX8_of_2 (mc_X8_179 rfl) tw_713 tw_21 (hx_8 _ _ _) rfl rfl rfl (Nat.le_of_ble_eq_true rfl) (Nat.le_of_ble_eq_true rfl) (Nat.le_of_ble_eq_true rfl) (Nat.le_of_ble_eq_true rfl) ?_
  rintro _ n9_ _ ⟨rfl, e9_, rfl⟩
  obtain rfl := e9_.symm
  by_cases hw2 : wi a 0 (c 23 0 - 1)
  · obtain ⟨j, hj, rfl⟩ := m_ixe hA (by decide) hw2
    have ej : ix (nI j) = j := nI_clamp (by omega)
    refine GX_top (w := .ref (y_a Y 0 j)) (by unfold oW; rw [cif_t hw2, ej]; rfl) ?_
    refine GX_astore_n dX8_of_5 rfl (Nat.le_of_ble_eq_true rfl) rfl ?_
    refine GX_aload_n dX8_of_6 rfl rfl ?_
    refine GX_ifnonnull (tgt := 20) dX8_of_7 (by decide) ?_
    refine GX_iload_n dX8_of_20 rfl rfl ?_
    refine GX_tsw (tgt := 163) dX8_of_21 (by decide) (fun c21 => ?_) (fun j9 e9 l9 => ?_)
    · exact GX_thrW hst rfl dX8_of_163 dX8_of_166 dX8_of_167 dX8_of_170 dX8_of_173 (Nat.le_of_ble_eq_true rfl) (Nat.le_of_ble_eq_true rfl) (Nat.le_of_ble_eq_true rfl) (Nat.le_of_ble_eq_true rfl) (fun q => tsw_w (hi := 8) c21 q.2)
    · rcases (show j9 = 0 ∨ j9 = 1 ∨ j9 = 2 ∨ j9 = 3 ∨ j9 = 4 ∨ j9 = 5 ∨ j9 = 6 ∨ j9 = 7 ∨ j9 = 8 by omega) with rfl | rfl | rfl | rfl | rfl | rfl | rfl | rfl | rfl
      · refine ⟨51, 72, rfl, by decide, GX_of ?_⟩
        have ez : w = nI 0 := tsw_e e9 (by decide)
        subst ez
        refine G_aload_n dX8_of_72 rfl rfl ?_
        refine G_get dX8_of_73 fg_X8_162 (hx_A hY hj) rfl ?_
        refine G_iret dX8_of_76 rfl ?_
        refine ⟨⟨hw2, by decide⟩, ?_, rfl, rfl⟩; show _ = some (Value.int (c_of c (ix (nI j)) _)); rw [ej]; first | rfl | exact congrArg (fun z => some (Value.int z)) (cif_t e81).symm | exact congrArg (fun z => some (Value.int z)) (cif_f e81).symm | exact congrArg (fun z => some (Value.int z)) (cif_t e136).symm | exact congrArg (fun z => some (Value.int z)) ((cif_f e136).trans (cif_t ((oe_K hY (hkf _ ((haf _ hj).2.2.resolve_left e136).2).2 (haf _ hj).1.2).mp c154))).symm | exact congrArg (fun z => some (Value.int z)) ((cif_f e136).trans (cif_f (fun q => c154 ((oe_K hY (hkf _ ((haf _ hj).2.2.resolve_left e136).2).2 (haf _ hj).1.2).mpr q)))).symm
      · refine ⟨56, 77, rfl, by decide, GX_of ?_⟩
        have ez : w = nI 1 := tsw_e e9 (by decide)
        subst ez
        refine G_aload_n dX8_of_77 rfl rfl ?_
        refine G_get dX8_of_78 fg_X8_183 (hx_A hY hj) rfl ?_
        refine G_ifnonnullR (o := (oR (y_a Y 7) (c 25 j))) (tgt := 88) dX8_of_81 (by decide) (fun i81 c81 => ?_) (fun c81 => ?_)
        · skip
          obtain ⟨e81, rfl⟩ := oR_so c81
          refine G_aload_n dX8_of_88 rfl rfl ?_
          refine G_get dX8_of_89 fg_X8_183 (hx_A hY hj) rfl ?_
          refine G_top (w := .ref (y_a Y 7 (ix (c 25 j)))) (congrArg va_rf (oR_at e81)) ?_
          refine G_get dX8_of_92 fg_X8_250 (hx_T hY ((haf _ hj).2.2.resolve_left e81).2) rfl ?_
          refine G_iret dX8_of_95 rfl ?_
          refine ⟨⟨hw2, by decide⟩, ?_, rfl, rfl⟩; show _ = some (Value.int (c_of c (ix (nI j)) _)); rw [ej]; first | rfl | exact congrArg (fun z => some (Value.int z)) (cif_t e81).symm | exact congrArg (fun z => some (Value.int z)) (cif_f e81).symm | exact congrArg (fun z => some (Value.int z)) (cif_t e136).symm | exact congrArg (fun z => some (Value.int z)) ((cif_f e136).trans (cif_t ((oe_K hY (hkf _ ((haf _ hj).2.2.resolve_left e136).2).2 (haf _ hj).1.2).mp c154))).symm | exact congrArg (fun z => some (Value.int z)) ((cif_f e136).trans (cif_f (fun q => c154 ((oe_K hY (hkf _ ((haf _ hj).2.2.resolve_left e136).2).2 (haf _ hj).1.2).mpr q)))).symm
        · skip
          have e81 := oR_no.mp c81
          refine G_iconst (v := -1) dX8_of_84 rfl ?_
          refine G_goto (tgt := 95) dX8_of_85 (by decide) ?_
          refine G_iret dX8_of_95 rfl ?_
          refine ⟨⟨hw2, by decide⟩, ?_, rfl, rfl⟩; show _ = some (Value.int (c_of c (ix (nI j)) _)); rw [ej]; first | rfl | exact congrArg (fun z => some (Value.int z)) (cif_t e81).symm | exact congrArg (fun z => some (Value.int z)) (cif_f e81).symm | exact congrArg (fun z => some (Value.int z)) (cif_t e136).symm | exact congrArg (fun z => some (Value.int z)) ((cif_f e136).trans (cif_t ((oe_K hY (hkf _ ((haf _ hj).2.2.resolve_left e136).2).2 (haf _ hj).1.2).mp c154))).symm | exact congrArg (fun z => some (Value.int z)) ((cif_f e136).trans (cif_f (fun q => c154 ((oe_K hY (hkf _ ((haf _ hj).2.2.resolve_left e136).2).2 (haf _ hj).1.2).mpr q)))).symm
      · refine ⟨75, 96, rfl, by decide, GX_of ?_⟩
        have ez : w = nI 2 := tsw_e e9 (by decide)
        subst ez
        refine G_aload_n dX8_of_96 rfl rfl ?_
        refine G_get dX8_of_97 fg_X8_253 (hx_A hY hj) rfl ?_
        refine G_iret dX8_of_100 rfl ?_
        refine ⟨⟨hw2, by decide⟩, ?_, rfl, rfl⟩; show _ = some (Value.int (c_of c (ix (nI j)) _)); rw [ej]; first | rfl | exact congrArg (fun z => some (Value.int z)) (cif_t e81).symm | exact congrArg (fun z => some (Value.int z)) (cif_f e81).symm | exact congrArg (fun z => some (Value.int z)) (cif_t e136).symm | exact congrArg (fun z => some (Value.int z)) ((cif_f e136).trans (cif_t ((oe_K hY (hkf _ ((haf _ hj).2.2.resolve_left e136).2).2 (haf _ hj).1.2).mp c154))).symm | exact congrArg (fun z => some (Value.int z)) ((cif_f e136).trans (cif_f (fun q => c154 ((oe_K hY (hkf _ ((haf _ hj).2.2.resolve_left e136).2).2 (haf _ hj).1.2).mpr q)))).symm
      · refine ⟨80, 101, rfl, by decide, GX_of ?_⟩
        have ez : w = nI 3 := tsw_e e9 (by decide)
        subst ez
        refine G_aload_n dX8_of_101 rfl rfl ?_
        refine G_get dX8_of_102 fg_X8_191 (hx_A hY hj) rfl ?_
        refine G_get dX8_of_105 fg_X8_256 (hx_B hY (haf _ hj).2.1.2) rfl ?_
        refine G_iret dX8_of_108 rfl ?_
        refine ⟨⟨hw2, by decide⟩, ?_, rfl, rfl⟩; show _ = some (Value.int (c_of c (ix (nI j)) _)); rw [ej]; first | rfl | exact congrArg (fun z => some (Value.int z)) (cif_t e81).symm | exact congrArg (fun z => some (Value.int z)) (cif_f e81).symm | exact congrArg (fun z => some (Value.int z)) (cif_t e136).symm | exact congrArg (fun z => some (Value.int z)) ((cif_f e136).trans (cif_t ((oe_K hY (hkf _ ((haf _ hj).2.2.resolve_left e136).2).2 (haf _ hj).1.2).mp c154))).symm | exact congrArg (fun z => some (Value.int z)) ((cif_f e136).trans (cif_f (fun q => c154 ((oe_K hY (hkf _ ((haf _ hj).2.2.resolve_left e136).2).2 (haf _ hj).1.2).mpr q)))).symm
      · refine ⟨88, 109, rfl, by decide, GX_of ?_⟩
        have ez : w = nI 4 := tsw_e e9 (by decide)
        subst ez
        refine G_aload_n dX8_of_109 rfl rfl ?_
        refine G_get dX8_of_110 fg_X8_257 (hx_A hY hj) rfl ?_
        refine G_get dX8_of_113 fg_X8_258 (hx_K hY (haf _ hj).1.2) rfl ?_
        refine G_iret dX8_of_116 rfl ?_
        refine ⟨⟨hw2, by decide⟩, ?_, rfl, rfl⟩; show _ = some (Value.int (c_of c (ix (nI j)) _)); rw [ej]; first | rfl | exact congrArg (fun z => some (Value.int z)) (cif_t e81).symm | exact congrArg (fun z => some (Value.int z)) (cif_f e81).symm | exact congrArg (fun z => some (Value.int z)) (cif_t e136).symm | exact congrArg (fun z => some (Value.int z)) ((cif_f e136).trans (cif_t ((oe_K hY (hkf _ ((haf _ hj).2.2.resolve_left e136).2).2 (haf _ hj).1.2).mp c154))).symm | exact congrArg (fun z => some (Value.int z)) ((cif_f e136).trans (cif_f (fun q => c154 ((oe_K hY (hkf _ ((haf _ hj).2.2.resolve_left e136).2).2 (haf _ hj).1.2).mpr q)))).symm
      · refine ⟨96, 117, rfl, by decide, GX_of ?_⟩
        have ez : w = nI 5 := tsw_e e9 (by decide)
        subst ez
        refine G_aload_n dX8_of_117 rfl rfl ?_
        refine G_get dX8_of_118 fg_X8_207 (hx_A hY hj) rfl ?_
        refine G_iret dX8_of_121 rfl ?_
        refine ⟨⟨hw2, by decide⟩, ?_, rfl, rfl⟩; show _ = some (Value.int (c_of c (ix (nI j)) _)); rw [ej]; first | rfl | exact congrArg (fun z => some (Value.int z)) (cif_t e81).symm | exact congrArg (fun z => some (Value.int z)) (cif_f e81).symm | exact congrArg (fun z => some (Value.int z)) (cif_t e136).symm | exact congrArg (fun z => some (Value.int z)) ((cif_f e136).trans (cif_t ((oe_K hY (hkf _ ((haf _ hj).2.2.resolve_left e136).2).2 (haf _ hj).1.2).mp c154))).symm | exact congrArg (fun z => some (Value.int z)) ((cif_f e136).trans (cif_f (fun q => c154 ((oe_K hY (hkf _ ((haf _ hj).2.2.resolve_left e136).2).2 (haf _ hj).1.2).mpr q)))).symm
      · refine ⟨101, 122, rfl, by decide, GX_of ?_⟩
        have ez : w = nI 6 := tsw_e e9 (by decide)
        subst ez
        refine G_aload_n dX8_of_122 rfl rfl ?_
        refine G_get dX8_of_123 fg_X8_198 (hx_A hY hj) rfl ?_
        refine G_iret dX8_of_126 rfl ?_
        refine ⟨⟨hw2, by decide⟩, ?_, rfl, rfl⟩; show _ = some (Value.int (c_of c (ix (nI j)) _)); rw [ej]; first | rfl | exact congrArg (fun z => some (Value.int z)) (cif_t e81).symm | exact congrArg (fun z => some (Value.int z)) (cif_f e81).symm | exact congrArg (fun z => some (Value.int z)) (cif_t e136).symm | exact congrArg (fun z => some (Value.int z)) ((cif_f e136).trans (cif_t ((oe_K hY (hkf _ ((haf _ hj).2.2.resolve_left e136).2).2 (haf _ hj).1.2).mp c154))).symm | exact congrArg (fun z => some (Value.int z)) ((cif_f e136).trans (cif_f (fun q => c154 ((oe_K hY (hkf _ ((haf _ hj).2.2.resolve_left e136).2).2 (haf _ hj).1.2).mpr q)))).symm
      · refine ⟨106, 127, rfl, by decide, GX_of ?_⟩
        have ez : w = nI 7 := tsw_e e9 (by decide)
        subst ez
        refine G_aload_n dX8_of_127 rfl rfl ?_
        refine G_get dX8_of_128 fg_X8_259 (hx_A hY hj) rfl ?_
        refine G_iret dX8_of_131 rfl ?_
        refine ⟨⟨hw2, by decide⟩, ?_, rfl, rfl⟩; show _ = some (Value.int (c_of c (ix (nI j)) _)); rw [ej]; first | rfl | exact congrArg (fun z => some (Value.int z)) (cif_t e81).symm | exact congrArg (fun z => some (Value.int z)) (cif_f e81).symm | exact congrArg (fun z => some (Value.int z)) (cif_t e136).symm | exact congrArg (fun z => some (Value.int z)) ((cif_f e136).trans (cif_t ((oe_K hY (hkf _ ((haf _ hj).2.2.resolve_left e136).2).2 (haf _ hj).1.2).mp c154))).symm | exact congrArg (fun z => some (Value.int z)) ((cif_f e136).trans (cif_f (fun q => c154 ((oe_K hY (hkf _ ((haf _ hj).2.2.resolve_left e136).2).2 (haf _ hj).1.2).mpr q)))).symm
      · refine ⟨111, 132, rfl, by decide, GX_of ?_⟩
        have ez : w = nI 8 := tsw_e e9 (by decide)
        subst ez
        refine G_aload_n dX8_of_132 rfl rfl ?_
        refine G_get dX8_of_133 fg_X8_183 (hx_A hY hj) rfl ?_
        refine G_ifnonnullR (o := (oR (y_a Y 7) (c 25 j))) (tgt := 143) dX8_of_136 (by decide) (fun i136 c136 => ?_) (fun c136 => ?_)
        · skip
          obtain ⟨e136, rfl⟩ := oR_so c136
          refine G_aload_n dX8_of_143 rfl rfl ?_
          refine G_get dX8_of_144 fg_X8_183 (hx_A hY hj) rfl ?_
          refine G_top (w := .ref (y_a Y 7 (ix (c 25 j)))) (congrArg va_rf (oR_at e136)) ?_
          refine G_get dX8_of_147 fg_X8_210 (hx_T hY ((haf _ hj).2.2.resolve_left e136).2) rfl ?_
          refine G_aload_n dX8_of_150 rfl rfl ?_
          refine G_get dX8_of_151 fg_X8_257 (hx_A hY hj) rfl ?_
          refine G_acmp_ne (a := (some (y_a Y 1 (ix (c 6 (ix (c 25 j))))))) (b := (some (y_a Y 1 (ix (c 28 j))))) (tgt := 161) dX8_of_154 (by decide) (ap_oo (na_K hY (hkf _ ((haf _ hj).2.2.resolve_left e136).2).2) (na_K hY (haf _ hj).1.2)) (fun c154 => ?_) (fun c154 => ?_)
          · skip
            refine G_iconst (v := 1) dX8_of_161 rfl ?_
            refine G_iret dX8_of_162 rfl ?_
            refine ⟨⟨hw2, by decide⟩, ?_, rfl, rfl⟩; show _ = some (Value.int (c_of c (ix (nI j)) _)); rw [ej]; first | rfl | exact congrArg (fun z => some (Value.int z)) (cif_t e81).symm | exact congrArg (fun z => some (Value.int z)) (cif_f e81).symm | exact congrArg (fun z => some (Value.int z)) (cif_t e136).symm | exact congrArg (fun z => some (Value.int z)) ((cif_f e136).trans (cif_t ((oe_K hY (hkf _ ((haf _ hj).2.2.resolve_left e136).2).2 (haf _ hj).1.2).mp c154))).symm | exact congrArg (fun z => some (Value.int z)) ((cif_f e136).trans (cif_f (fun q => c154 ((oe_K hY (hkf _ ((haf _ hj).2.2.resolve_left e136).2).2 (haf _ hj).1.2).mpr q)))).symm
          · skip
            refine G_iconst (v := 0) dX8_of_157 rfl ?_
            refine G_goto (tgt := 162) dX8_of_158 (by decide) ?_
            refine G_iret dX8_of_162 rfl ?_
            refine ⟨⟨hw2, by decide⟩, ?_, rfl, rfl⟩; show _ = some (Value.int (c_of c (ix (nI j)) _)); rw [ej]; first | rfl | exact congrArg (fun z => some (Value.int z)) (cif_t e81).symm | exact congrArg (fun z => some (Value.int z)) (cif_f e81).symm | exact congrArg (fun z => some (Value.int z)) (cif_t e136).symm | exact congrArg (fun z => some (Value.int z)) ((cif_f e136).trans (cif_t ((oe_K hY (hkf _ ((haf _ hj).2.2.resolve_left e136).2).2 (haf _ hj).1.2).mp c154))).symm | exact congrArg (fun z => some (Value.int z)) ((cif_f e136).trans (cif_f (fun q => c154 ((oe_K hY (hkf _ ((haf _ hj).2.2.resolve_left e136).2).2 (haf _ hj).1.2).mpr q)))).symm
        · skip
          have e136 := oR_no.mp c136
          refine G_iconst (v := -1) dX8_of_139 rfl ?_
          refine G_goto (tgt := 162) dX8_of_140 (by decide) ?_
          refine G_iret dX8_of_162 rfl ?_
          refine ⟨⟨hw2, by decide⟩, ?_, rfl, rfl⟩; show _ = some (Value.int (c_of c (ix (nI j)) _)); rw [ej]; first | rfl | exact congrArg (fun z => some (Value.int z)) (cif_t e81).symm | exact congrArg (fun z => some (Value.int z)) (cif_f e81).symm | exact congrArg (fun z => some (Value.int z)) (cif_t e136).symm | exact congrArg (fun z => some (Value.int z)) ((cif_f e136).trans (cif_t ((oe_K hY (hkf _ ((haf _ hj).2.2.resolve_left e136).2).2 (haf _ hj).1.2).mp c154))).symm | exact congrArg (fun z => some (Value.int z)) ((cif_f e136).trans (cif_f (fun q => c154 ((oe_K hY (hkf _ ((haf _ hj).2.2.resolve_left e136).2).2 (haf _ hj).1.2).mpr q)))).symm
  · refine GX_top (w := .null) (by unfold oW; rw [cif_f hw2]; rfl) ?_
    refine GX_astore_nN dX8_of_5 rfl (Nat.le_of_ble_eq_true rfl) rfl ?_
    refine GX_aload_nN dX8_of_6 rfl rfl ?_
    refine GX_ifnonnullN dX8_of_7 ?_
    exact GX_thr hst rfl dX8_of_10 dX8_of_13 dX8_of_14 dX8_of_16 dX8_of_19 (Nat.le_of_ble_eq_true rfl) (Nat.le_of_ble_eq_true rfl) (Nat.le_of_ble_eq_true rfl) (Nat.le_of_ble_eq_true rfl) (fun q => hw2 q.1)
/-- caught by the row x of this method's table; the rows ahead don't take it -/
theorem vx_catch {p : Program} {l : Launch} {e : Env} {R : Room} {s : State} {m : MethodId} {args : Array Value} {below : List Frame} {meth : Method} {c : Code} {H : Heap} {locs : List Loc} {cells slots : Nat} {Q : State → Prop} {pc : Nat} {ls : Array Slot} {rest : List Value} {own name : String} {E : String} {ce : Cell} {q : Addr} (hown : s.vm.findClass own = some m.cls) (pre : List ExceptionTableEntry) (x : ExceptionTableEntry) (suf : List ExceptionTableEntry) (hsplit : c.exceptionTable.toList = pre ++ x :: suf)
    (hpass : ∀ z ∈ pre, covers z pc = false ∨ (z.catchType ≠ 0 ∧ ∃ nm : String, (Cond.classLink own z.catchType nm).before args s = true ∧ va_Nc E nm s)) (hx : covers x pc = true) (h0 : x.catchType ≠ 0)
    (hlink : (Cond.classLink own x.catchType name).before args s = true) (hcast : (Cond.castable E name).before args s = true) (hcell : H[q]? = some ce) (hv : ce.vm = .none) (hcl : s.vm.findClass E = some ce.cls)
    (kk : W p l e R s m args below meth c H locs cells slots Q (F0 m x.handlerPc ls [.ref q])) : vx_W p l e R s m args below meth c H locs cells slots Q (F0 m pc ls rest) q := by
  intro T hT X
  have hpl : e.platform.magicAccessors = ({} : Platform).magicAccessors := by rw [X.admits.platform]
  obtain ⟨c3, c4, hc3, hc4, hasg⟩ := Cond.castable_spec hcast
  cases Option.some.inj (hc3.symm.trans hcl)
  obtain ⟨c5, hc5, hcl5⟩ := Cond.classLink_spec hown hlink e.platform hpl
  cases Option.some.inj (hc4.symm.trans hc5)
  obtain ⟨vm', X', st⟩ := Stand.thenCaughtThrough X q (g := F0 m pc ls rest) rfl (Steps.refl _) (by rw [hT]; exact hcell) (by rw [hv]; rfl) (by obtain ⟨k9, h9, -⟩ := Vm.findClass_spec hcl; exact ⟨k9, h9⟩) pre x suf hsplit
    (fun z hz => by
      rcases hpass z hz with h | ⟨hz0, nm, hl1, hn1⟩
      · exact Or.inl h
      · obtain ⟨c6, hc6, hcl6⟩ := Cond.classLink_spec hown hl1 e.platform hpl
        obtain ⟨a8, b8, h1, h2, h3⟩ := hn1
        cases Option.some.inj (h1.symm.trans hcl)
        cases Option.some.inj (h2.symm.trans hc6)
        exact Or.inr ⟨hz0, _, hcl6, h3⟩) hx (Or.inr ⟨h0, c4, hcl5, hasg⟩)
  obtain ⟨t, a1, b1⟩ := kk (T.setVm vm') hT X'
  exact ⟨t, st.trans a1, b1⟩
theorem g_runX {g : gT} {p : Program} {e : Env} {R : Room} {s : State} {m : MethodId} {args : Array Value} {below : List Frame} {meth : Method} {c : Code} {H : Heap} {locs : List Loc} {cells slots mc ms pc n0 : Nat} {h0 : mH} {ls : Array Slot} {rest st0 : List Value} {a : Array Value} {Q : State → Prop} {P : Option Value → Nat → mH → Prop} {X : Prop}
    (hr : vx_Run p g.1 e R s m args below meth c H locs cells slots mc ms (F0 m pc ls st0) rest (g_Q g P a) (gXC g n0 h0 X) (g_A g)) (hS : va_S (g_A g) s.heap H locs)
    (kx : X → ∀ (n' : Nat) (q : Addr) (ce : Cell) (H1 : Heap) (locs1 : List Loc), n0 ≤ n' → g_C g n' h0 H1 → va_S (g_A g) s.heap H1 locs1 → H1[q]? = some ce → ce.vm = .none → s.vm.findClass "java/util/NoSuchElementException" = some ce.cls → vx_W p g.1 e R s m args below meth c H1 locs1 (cells + mc) (slots + ms) Q (F0 m pc ls rest) q)
    (kk : ∀ (v : Option Value) (n : Nat) (h : mH) (H1 : Heap) (locs1 : List Loc), P v n h → g_C g n h H1 → va_S (g_A g) s.heap H1 locs1 → W p g.1 e R s m args below meth c H1 locs1 (cells + mc) (slots + ms) Q (F0 m (pc + 3) ls ((v.map (g_v g)).toList ++ rest))) : W p g.1 e R s m args below meth c H locs cells slots Q (F0 m pc ls st0) := by
  intro T hT X9
  rcases hr T hT X9 with ⟨v, st₀, t, T', L, h0, X', hL, e1, e2, ⟨⟨v9, n, h, hv, hP, hC⟩, hF⟩, st⟩ | ⟨q, st₀, t, T', L, E, ce, h0, X', hL, e1, e2, ⟨rfl, hX, ⟨n', hn', hC⟩, hF⟩, hce, hcv, hcl, st⟩
  · cases hv
    obtain ⟨k1, k2, k3⟩ := vx_keep h0 e1 hS (fun _ _ z => z) (fun _ z => z) hL hF
    obtain ⟨t2, a1, b1⟩ := kk v9 n h T'.heap (locs ++ L) hP (by rw [e1]; exact hC) k3 T' rfl X'
    exact ⟨t2, st t2 a1, b1⟩
  · obtain ⟨k1, k2, k3⟩ := vx_keep h0 e1 hS (fun _ _ z => z) (fun _ z => z) hL hF
    obtain ⟨t2, a1, b1⟩ := kx hX n' q ce T'.heap (locs ++ L) hn' (by rw [e1]; exact hC) k3 (by rw [e1]; exact hce) hcv hcl T' rfl X'
    exact ⟨t2, st.trans a1, b1⟩
set_option maxHeartbeats 4000000 in
set_option maxRecDepth 100000 in
theorem GT_callX {g : gT} {X : Prop} {d x y : Nat} {k : mM} {pc : Nat} {L st : List Value} {n : Nat} {h : mH} {P : Option Value → Nat → mH → Prop} {c9 : mM} {d' x' y' index na b ci : Nat} {fs As st0 : List Value} {P' : Option Value → Nat → mH → Prop} (hM : MX g d' x' y' c9 (.ref b :: As) n h P' X) (hd : decode k.2.1 pc = .ok (.invokevirtual index, 3)) (hc : g_cm k c9 index na) (hi9 : Cond.instanceMethod c9.1 ∈ TB) (hs9 : Cond.selects c9.1.cls c9.1 c9.1 ∈ TB) (hb : h b = some (.inr (ci, fs))) (hb2 : (g_cl[ci]?).map (·.1) = some c9.1.cls) (hs : st0 = As.reverse ++ .ref b :: st) (hn : As.length = na) (hw : (st.map fun v => v.category).sum ≤ 8) (hd9 : d' + 1 ≤ d) (hx9 : x' ≤ x) (hy9 : y' ≤ y)
    (hk9 : k.1.cls = "ToolHouseLaw") (hpc : pc < 10) (hl4 : 4 < L.length) (hl3 : ((L[4 - 1]?).all (fun w => w.category == 1)) = true) (hda : decode k.2.1 13 = .ok (.astore 4, 2)) (KX : X → ∀ n', n ≤ n' → G g d (x - x') (y - y') k 15 (L.set 4 (.retAddr 0)) [] n' h P)
    (K : ∀ v n' h', P' v n' h' → G g d (x - x') (y - y') k (pc + 3) L (v.toList ++ st) n' h' P) : GT g d x y k pc L st0 n h P [(0, 10, 13, 13)] := by
  intro p e R s m args below meth c H locs cells slots ls S B C F E T9
  obtain ⟨c1, c2, c3, c4, c5⟩ := hc
  obtain ⟨hx, hb9, hml, -, -, hnm, hown, hts, hK, hO⟩ := id S
  obtain ⟨B1, B2, B3⟩ := B.use hx9 hy9
  obtain ⟨r, hr1, hr2⟩ : ∃ r, g_cl[ci]? = some r ∧ r.1 = c9.1.cls := by
    cases hg : g_cl[ci]? with
    | none => rw [hg] at hb2; cases hb2
    | some r => rw [hg] at hb2; exact ⟨r, rfl, Option.some.inj hb2⟩
  have hcell := va_recv hK (g_P C hb) (q0 := 0) (ci := ci) hr1 rfl
  rw [hr2] at hcell
  have hrun := vx_runV (C := c9.1.cls) (As := As.map (g_v g)) (rest := st.map (g_v g)) (b := g_ad g b) (p := p) (l := g.1) (e := e) (R := R) (s := s) (m := m) (args := args) (below := below) (meth := meth) (c := c) (H := H) (locs := locs) (cells := cells) (slots := slots) (g := F0 m pc ls (st0.map (g_v g))) (nL := k.2.2.1) ⟨hx, hb9, hml, hown, hts⟩ hM ⟨callB_of na hts (g_good c1) rfl rfl rfl (hts _ c2) (hts _ c3) c4 (g_rm B hd9 c5), hts _ hi9, hts _ hs9⟩ ⟨g_blind, hcell, g_pre S C F⟩ rfl (by rw [List.length_map]; exact hn) E.2.1 (by show st0.map (g_v g) = _; rw [hs, List.map_append, List.map_reverse]; rfl) (by show 2 * 0 + _ ≤ 8; rw [g_cats]; omega) hd ⟨B2, B3⟩
  refine g_runX hrun F (fun hX n' q ce H1 locs1 q1 q2 q3 q4 q5 q6 => ?_) (fun v n1 h1 H1 locs1 q1 q2 q3 => by rw [g_top]; exact K v n1 h1 q1 p e R s m args below meth c H1 locs1 _ _ ls S B1 q2 q3 E)
  rw [hk9] at hown
  obtain ⟨a1, -⟩ := hO
  refine vx_catch (own := "ToolHouseLaw") (name := "java/util/NoSuchElementException") hown [] ⟨0, 10, 13, 13⟩ [] T9 (fun z hz => by cases hz) ?_ (by decide) (hts _ tw_804) (va_Nw.use rfl (a1 _ tw_811)) q4 q5 q6 ?_
  · simp [covers, hpc]
  · refine lv_astore hx hb9 hda E.2 (by rw [← E.1]; exact hl4) rfl (fun ls2 hl2 => KX hX n' q1 p e R s m args below meth c H1 locs1 _ _ ls2 S B1 q2 q3 ⟨by rw [List.length_set]; exact E.1, hl2.1, hl2.2.1, fun z hz => hl2.2.2 z ?_⟩)
    obtain ⟨w, w1, w2, w3⟩ := g_Lv_mem.mp hz
    by_cases e4 : z.1 = 4
    · rw [e4, List.getElem?_set_self hl4] at w1
      cases w1
      cases w2
    · rw [List.getElem?_set_ne (Ne.symm e4)] at w1
      refine List.mem_cons_of_mem _ (List.mem_filter.mpr ⟨g_Lv_mem.mpr ⟨w, w1, w2, w3⟩, ?_⟩)
      have f1 : (z.1 == 4) = false := by simpa using e4
      rw [f1]
      by_cases e3 : z.1 + 1 = 4
      · have e33 : z.1 = 3 := by omega
        rw [e33] at w1
        rw [show 4 - 1 = 3 from rfl, w1] at hl3
        have hc' : w.category = 1 := by simpa using hl3
        rw [w3, g_cat, hc']
        simp
      · have f2 : (z.1 + 1 == 4) = false := by simpa using e3
        rw [f2]
        rfl
def w_ws (k : mM) (tb : List (Nat × Nat × Nat × Nat)) : List Cond := Cond.codeWith k.1 k.2.1 k.2.2.1 k.2.2.2 tb :: TB
def MW (g : gT) (d x y : Nat) (k : mM) (tb : List (Nat × Nat × Nat × Nat)) (av : List Value) (n : Nat) (h : mH) (P : Option Value → Nat → mH → Prop) : Prop := Met g.1 k.1 (w_ws k tb) (g_R d x y) (va_Pc (av.map (g_v g)) (g_I g n h)) (g_Q g P) x y (g_A g)
theorem MW_of {g : gT} {d x y : Nat} {k : mM} {tb : List (Nat × Nat × Nat × Nat)} {av : List Value} {n : Nat} {h : mH} {P : Option Value → Nat → mH → Prop} (hy : plainName k.1.cls = true) (hl : (av.flatMap (fun v => if v.category = 2 then [v, Value.retAddr 0] else [v])).length ≤ k.2.2.1) (K : GT g d x y k 0 (g_en k.2.2.1 av) [] n h P tb) : MW g d x y k tb av n h P := by
  refine va_MetW (cc := k.2.1) (maxL := k.2.2.1) (ret := k.2.2.2) (hh := tb) hy rfl ?_
  intro p e s m args below meth c s₁ B hml hv
  obtain ⟨rfl, hC, hK, hO⟩ := hv
  have hts0 := atoms_spec (ws := w_ws k tb) B.pre
  have hts : ∀ w ∈ TB, w.before _ s = true := fun w hw => hts0 w (List.mem_cons_of_mem _ hw)
  have hown : s.vm.findClass k.1.cls = some m.cls := findClass_of_methodNamed B.named
  have hnm : meth.name = k.1.name := (name_of_methodNamed B.named B.method).1
  have hle := g_en_sl g av
  have hle2 : (lg_sl (av.map (g_v g))).length ≤ k.2.2.1 := by rw [hle]; exact hl
  have hl9 := lv_entry (av.map (g_v g)) (n := k.2.2.1) hle2
  rw [lg_entry_eq]
  refine K p e _ s m _ below meth c s.heap [] 0 0 _ ⟨B.exec, B.bytes, hml, B.returns, B.notSynchronized, hnm, hown, hts, hK, hO⟩ ⟨Nat.le_refl _, Nat.le_refl _, by show 0 + x ≤ x; omega, by show 0 + y ≤ y; omega⟩ hC va_S.rf ⟨?_, hl9.1, hl9.2.1, fun q hq => hl9.2.2 q ?_⟩ (vx_table (x := k.1) B (hts0 _ List.mem_cons_self))
  · simp only [g_en, List.length_append, List.length_replicate]; omega
  · obtain ⟨v, h1, h2, h3⟩ := g_Lv_mem.mp hq
    obtain ⟨j, u⟩ := q
    dsimp only at h1 h3
    subst h3
    unfold g_en at h1
    by_cases hj : j < (av.flatMap (fun v => if v.category = 2 then [v, Value.retAddr 0] else [v])).length
    · rw [List.getElem?_append_left hj] at h1
      have := g_en_args g av 0 j v h1 h2
      rwa [Nat.zero_add] at this
    · rw [List.getElem?_append_right (by omega)] at h1
      have h9 := (List.mem_replicate.mp (List.mem_of_getElem? h1)).2
      subst h9
      simp [g_ok] at h2
set_option maxHeartbeats 4000000 in
set_option maxRecDepth 100000 in
theorem G_callSW {g : gT} {tb : List (Nat × Nat × Nat × Nat)} {d x y : Nat} {k : mM} {pc : Nat} {L st : List Value} {n : Nat} {h : mH} {P : Option Value → Nat → mH → Prop} {c9 : mM} {d' x' y' index na : Nat} {As st0 : List Value} {P' : Option Value → Nat → mH → Prop} (hM : MW g d' x' y' c9 tb As n h P') (hd : decode k.2.1 pc = .ok (.invokestatic index, 3)) (hcw : Cond.codeWith c9.1 c9.2.1 c9.2.2.1 c9.2.2.2 tb ∈ TB) (c2 : Cond.initialized c9.1.cls ∈ TB) (c3 : Cond.methodLink k.1.cls index c9.1 ∈ TB) (c4 : c9.1.cls ≠ "java/lang/invoke/MethodHandle" ∧ c9.1.cls ≠ "java/lang/invoke/VarHandle" ∧ (parseMethodDescriptor c9.1.desc).map (fun d => d.parameters.length) = some na) (c5 : c9.2.2.1 ≤ 20) (hi9 : Cond.static c9.1 ∈ TB) (hs : st0 = As.reverse ++ st) (hn : As.length = na) (hw : (st.map fun v => v.category).sum ≤ 8) (hd9 : d' + 1 ≤ d) (hx9 : x' ≤ x) (hy9 : y' ≤ y)
    (K : ∀ v n' h', P' v n' h' → G g d (x - x') (y - y') k (pc + 3) L (v.toList ++ st) n' h' P) : G g d x y k pc L st0 n h P := by
  intro p e R s m args below meth c H locs cells slots ls S B C F E
  obtain ⟨hx, hb9, hml, -, -, hnm, hown, hts, hK, hO⟩ := id S
  obtain ⟨B1, B2, B3⟩ := B.use hx9 hy9
  have hG : GoodIn TB (w_ws c9 tb) := fun w hw => by
    rcases List.mem_cons.mp hw with h | h
    · rw [h]; exact g_TB _ hcw
    · exact g_TB _ h
  have hr9 := g_rm (x' := x') (y' := y') B hd9 c5
  have cw : vx_CSW R s args k.1.cls index c9.1 c9.2.1 c9.2.2.1 c9.2.2.2 tb (w_ws c9 tb) (g_R d' x' y') x' y' na := ⟨⟨rfl, rfl, hr9.1, hr9.2, pay_in hts hG, List.mem_cons_self⟩, hts _ hcw, hts _ c2, ⟨c4.1, c4.2.1⟩, fun sig h => by have h2 := c4.2.2; rw [h] at h2; exact (Option.some.inj h2).symm, hts _ c3, hts _ hi9⟩
  have hrun := vx_runSW (As := As.map (g_v g)) (rest := st.map (g_v g)) (p := p) (l := g.1) (e := e) (R := R) (s := s) (m := m) (args := args) (below := below) (meth := meth) (c := c) (H := H) (locs := locs) (cells := cells) (slots := slots) (g := F0 m pc ls (st0.map (g_v g))) (nL := k.2.2.1) ⟨hx, hb9, hml, hown, hts⟩ hM cw ⟨g_blind, g_pre S C F⟩ rfl (by rw [List.length_map]; exact hn) E.2.1 (by show st0.map (g_v g) = _; rw [hs, List.map_append, List.map_reverse]) (by show 2 * 0 + _ ≤ 8; rw [g_cats]; omega) hd ⟨B2, B3⟩
  exact g_run hrun F (fun v n1 h1 H1 locs1 q1 q2 q3 => by rw [g_top]; exact K v n1 h1 q1 p e R s m args below meth c H1 locs1 _ _ ls S B1 q2 q3 E)
theorem tw_803 : (Cond.codeWith yL_of cL_of 5 (some .int) [(0, 10, 13, 13)]) ∈ TB := List.mem_filter.mpr ⟨tm_4 _ (List.mem_of_getElem? (i := 31) rfl), rfl⟩
abbrev kL_of : mM := (yL_of, cL_of, 5, some .int)
def yS (Y : cY) (f : Nat → Int64) : cY := (y_l Y, y_a Y, y_c Y, va_up (y_j Y) 52 (some (.inl (3, 1, .inr (.inl f)))))
theorem y52 {Y : cY} {c : mS} {n9 : Nat} (hY : Yok Y c n9) : y_l Y 52 = none := by
  cases h : y_l Y 52 with
  | none => rfl
  | some w => obtain ⟨t, i⟩ := w; have := (hY.1 _ _ _ h).1; omega
theorem hx_52 {sm : mS} {Y : cY} {c : mS} {n9 : Nat} (hY : Yok Y c n9) : hh sm Y c 52 = y_j Y 52 := by
  rw [hh_hi _ _ _ (by decide)]
  unfold c_dy
  rw [y52 hY]
theorem yS_ok {Y : cY} {c : mS} {n9 : Nat} {f : Nat → Int64} (hY : Yok Y c n9) : Yok (yS Y f) c n9 := ⟨hY.1, hY.2.1, hY.2.2.1, hY.2.2.2.1, hY.2.2.2.2.1, hY.2.2.2.2.2.1, f, va_up_self (y_j Y) 52 (some (.inl (3, 1, .inr (.inl f))))⟩
theorem hw_52 {sm : mS} {Y : cY} {c : mS} {n9 : Nat} (hY : Yok Y c n9) (f : Nat → Int64) : va_up (hh sm Y c) 52 (some (.inl (3, 1, .inr (.inl f)))) = hh sm (yS Y f) c := by
  refine hh_one (Or.inr (by decide)) ((hx_52 (yS_ok hY)).trans (va_up_self (y_j Y) 52 (some (.inl (3, 1, .inr (.inl f)))))) (fun b hb _ => by unfold c_fx; split <;> rfl) (fun b hb hbn => cd_y rfl (fun _ => va_up_ne _ _ hbn) (fun _ _ z => hY.tags z) (fun _ _ => rfl) (fun _ _ => rfl) (fun _ _ => rfl) (fun _ _ => rfl) (fun _ _ => ⟨rfl, rfl⟩))
def lofQ (n : Nat) (sm : mS) (c : mS) (a w : Int32) : Option Value → Nat → mH → Prop := fun v' n' h' => n ≤ n' ∧ ∃ Y', h' = hh sm Y' c ∧ Yok Y' c n' ∧ ((c_ofOk c a w ∧ v' = some (.int 0) ∧ ∃ f, y_j Y' 52 = some (.inl (3, 1, .inr (.inl f))) ∧ f 0 = (c_of c (ix a) (ix w)).toInt64) ∨ (¬ c_ofOk c a w ∧ v' = some (.int 1)))
theorem up1 (f : Nat → Int64) (v : Int64) : (some (.inl (3, 1, .inr (.inl (vp_updL f (0 : Int32).toNatClampNeg v)))) : Option mE) = some (.inl (3, 1, .inr (.inl (vp_updL f 0 v)))) := rfl
set_option maxHeartbeats 4000000 in
set_option maxRecDepth 100000 in
theorem cx_lof {g : gT} {nq_ : Nat} {sm : mS} {Y : cY} {c : mS} (hst : g.1.stackTraces = false) (a w : Int32) (hY : Yok Y c nq_) (hC9 : c_inv c) : MW g 7 1 6 kL_of [(0, 10, 13, 13)] [.ref 8, .int a, .int w, .ref 52] nq_ (hh sm Y c) (lofQ nq_ sm c a w) := by
  refine MW_of (by decide +kernel) (Nat.le_of_ble_eq_true rfl) ?_
  obtain ⟨f, hf⟩ := hY.2.2.2.2.2.2
  have h52 : hh sm Y c 52 = some (.inl (3, 1, .inr (.inl f))) := (hx_52 hY).trans hf
  refine GT_aload_n dL_of_0 rfl rfl ?_
  refine GT_iconst (v := 0) dL_of_1 rfl ?_
  refine GT_aload_n dL_of_2 rfl rfl ?_
  refine GT_iload_n dL_of_3 rfl rfl ?_
  refine GT_iload_n dL_of_4 rfl rfl ?_
  refine GT_callX (cx_of hst a w hY hC9) dL_of_5 (mc_L_7 rfl) tw_806 tw_807 (hx_8 _ _ _) rfl rfl rfl (Nat.le_of_ble_eq_true rfl) (Nat.le_of_ble_eq_true rfl) (Nat.le_of_ble_eq_true rfl) (Nat.le_of_ble_eq_true rfl) rfl (by decide) (Nat.le_of_ble_eq_true rfl) rfl dL_of_13 (fun hX n' hn' => ?_) ?_
  · refine G_iconst (v := 1) dL_of_15 rfl ?_
    refine G_iret dL_of_16 rfl ?_
    exact ⟨hn', Y, rfl, hY.up hn', Or.inr ⟨hX, rfl⟩⟩
  · rintro _ n9_ _ ⟨hok, rfl, e9_, rfl⟩
    obtain rfl := e9_.symm
    refine G_i2l dL_of_8 ?_
    refine G_last dL_of_9 h52 (vp_in_nI (n := 0) (N := 1) (by decide) (by decide)) ?_
    rw [hw_52 hY]
    refine G_goto (tgt := 17) dL_of_10 (by decide) ?_
    refine G_iconst (v := 0) dL_of_17 rfl ?_
    refine G_iret dL_of_18 rfl ?_
    refine ⟨Nat.le_refl _, _, rfl, yS_ok hY, Or.inl ⟨hok, rfl, vp_updL f (0 : Int32).toNatClampNeg (c_of c (ix a) (ix w)).toInt64, va_up_self (y_j Y) 52 _, rfl⟩⟩
