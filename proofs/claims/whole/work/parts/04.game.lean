
/-! THE GAME: a lighter judgement over the machine, for all methods at once. g: what is fixed (launch, class numbers, array classes, the heap's size at the law's entry, old addresses, the script). -/
abbrev gT : Type := Launch × va_G × (Nat → ClassId) × Nat × (Nat → Nat) × Nat × (Nat → Int32)
abbrev g_D (g : gT) : va_G := g.2.1
abbrev g_c (g : gT) : Nat → ClassId := g.2.2.1
abbrev g_z (g : gT) : Nat := g.2.2.2.1
abbrev g_o (g : gT) : Nat → Nat := g.2.2.2.2.1
abbrev g_n (g : gT) : Nat := g.2.2.2.2.2.1
abbrev g_x (g : gT) : Nat → Int32 := g.2.2.2.2.2.2
def g_ad (g : gT) (i : Nat) : Nat := if i < 8 then g_o g i else g_z g + (i - 8)
def g_v (g : gT) (v : Value) : Value := match v with
  | .ref i => .ref (g_ad g i)
  | .int a => .int a
  | .long a => .long a
  | .float a => .float a
  | .double a => .double a
  | .null => .null
  | .retAddr a => .retAddr a
def g_a (g : gT) (a : vp_A) : vp_A := match a with
  | (n, .inr (.inr (.inr (.inr f)))) => (n, .inr (.inr (.inr (.inr (fun k => (f k).map (g_ad g))))))
  | (n, .inl f) => (n, .inl f)
  | (n, .inr (.inl f)) => (n, .inr (.inl f))
  | (n, .inr (.inr (.inl f))) => (n, .inr (.inr (.inl f)))
  | (n, .inr (.inr (.inr (.inl f)))) => (n, .inr (.inr (.inr (.inl f))))
abbrev mE : Type := (Nat × vp_A) ⊕ (Nat × List Value)
abbrev mH : Type := Nat → Option mE
abbrev mM : Type := MethodName × ByteArray × Nat × Option FieldType
def g_e (g : gT) (c : mE) : va_E := match c with
  | .inl (k, a) => .inl (g_c g k, g_a g a)
  | .inr (k, fs) => .inr (k, fs.map (g_v g))
def g_cl : List vw_C := [(RX0, TX0, 11), (RX1, TX1, 4), (RX2, TX2, 3), (RX3, TX3, 5), (RX4, TX4, 4), (RX5, TX5, 4), (RX6, TX6, 2), (RX7, TX7, 5), (RX8, TX8, 10), (RX9, TX9, 43), (RJx4a65c, TJx4a65c, 3)]
def g_tys (g : gT) : List (ClassId × FieldType) := [(g_c g 0, .int), (g_c g 1, .byte), (g_c g 2, .boolean), (g_c g 3, .long), (g_c g 4, .object "java/lang/Object"), (g_c g 5, .object "ToolHouse$Ask")]
abbrev g_A (g : gT) : Nat → Prop := fun q => g_z g ≤ q
/-- the heap holds the cells -/
def g_C (g : gT) (n : Nat) (h : mH) (H : Heap) : Prop := 8 ≤ n ∧ H.size = g_z g + (n - 8) ∧ ∀ (i : Nat) (c : mE), h i = some c → 8 ≤ i ∧ i < n ∧ va_at (g_D g) g_cl (g_ad g i, g_e g c) H
theorem g_ad_own (g : gT) {i : Nat} (h : 8 ≤ i) : g_ad g i = g_z g + (i - 8) := by simp [g_ad, Nat.not_lt.mpr h]
theorem g_ad_A (g : gT) {i : Nat} (h : 8 ≤ i) : g_A g (g_ad g i) := by show g_z g ≤ _; rw [g_ad_own g h]; omega
theorem g_ad_inj (g : gT) {i j : Nat} (h : 8 ≤ i) (h2 : 8 ≤ j) (e : g_ad g i = g_ad g j) : i = j := by rw [g_ad_own g h, g_ad_own g h2] at e; omega
theorem g_C.put {g : gT} {n i : Nat} {h : mH} {H H1 : Heap} {c0 c : mE} (hC : g_C g n h H) (hi : h i = some c0) (e : va_at (g_D g) g_cl (g_ad g i, g_e g c) H1) (z : H1.size = H.size) (oq : ∀ q : Nat, q ≠ g_ad g i → H1[q]? = H[q]?) : g_C g n (va_up h i (some c)) H1 := by
  obtain ⟨h1, h2, h3⟩ := hC
  refine ⟨h1, z.trans h2, fun j cj hj => ?_⟩
  by_cases hji : j = i
  · subst hji
    rw [va_up_self] at hj
    cases hj
    exact ⟨(h3 _ _ hi).1, (h3 _ _ hi).2.1, e⟩
  · rw [va_up_ne _ _ hji] at hj
    obtain ⟨a1, a2, a3⟩ := h3 j cj hj
    exact ⟨a1, a2, a3.kept (oq _ (fun q => hji (g_ad_inj g a1 (h3 _ _ hi).1 q)))⟩
theorem g_C.new {g : gT} {n : Nat} {h : mH} {H H1 : Heap} {c : mE} (hC : g_C g n h H) (e : va_at (g_D g) g_cl (H.size, g_e g c) H1) (z : H1.size = H.size + 1) (oq : ∀ q : Nat, q < H.size → H1[q]? = H[q]?) : g_C g (n + 1) (va_up h n (some c)) H1 ∧ g_ad g n = H.size := by
  obtain ⟨h1, h2, h3⟩ := hC
  have ea : g_ad g n = H.size := by rw [g_ad_own g h1, h2]
  refine ⟨⟨by omega, by rw [z, h2]; omega, fun j cj hj => ?_⟩, ea⟩
  by_cases hji : j = n
  · subst hji
    rw [va_up_self] at hj
    cases hj
    exact ⟨h1, by omega, by rw [ea]; exact e⟩
  · rw [va_up_ne _ _ hji] at hj
    obtain ⟨a1, a2, a3⟩ := h3 j cj hj
    exact ⟨a1, by omega, a3.kept (oq _ a3.lt)⟩
theorem g_S.put {g : gT} {H0 H H1 : Heap} {locs : List Loc} {i k : Nat} (h : va_S (g_A g) H0 H locs) (z : H1.size = H.size) (oq : ∀ q : Nat, q ≠ g_ad g i → H1[q]? = H[q]?) (h8 : 8 ≤ i) : va_S (g_A g) H0 H1 (locs ++ [⟨g_ad g i, k⟩]) := va_S.put h z oq (g_ad_A g h8)
theorem g_S.new {g : gT} {H0 H H1 : Heap} {locs : List Loc} (h : va_S (g_A g) H0 H locs) (z : H1.size = H.size + 1) (oq : ∀ q : Nat, q < H.size → H1[q]? = H[q]?) : va_S (g_A g) H0 H1 locs := ⟨Nat.le_trans h.1 (by omega), fun x h1 h2 => (oq x (Nat.lt_of_lt_of_le h1 h.1)).trans (h.2.1 x h1 h2), h.2.2⟩
/-- one cell as a world of its own, for the kit's reading rows -/
theorem g_P {g : gT} {n i : Nat} {h : mH} {H : Heap} {c : mE} (hC : g_C g n h H) (hi : h i = some c) : va_P (g_D g) g_cl [(g_ad g i, g_e g c)] H := by
  intro k q hq
  have hz : k < 1 := (List.getElem?_eq_some_iff.mp hq).1
  rw [show k = 0 by omega] at hq
  cases hq
  exact (hC.2.2 i c hi).2.2
/-! words that stay true but that the kit doesn't call good -/
theorem g_nw_go {w : Cond} (hw : g_nw w = true) {s U : State} (hW : s.WarmedH U.vm) (h : va_Nw w s) : va_Nw w U := by
  cases w with
  | castable a b => exact va_Nw.warmC hW h
  | methodLinkNest a b c d => exact va_Nw.warmM hW h
  | declares a => exact va_Nw.warmD hW h
  | _ => simp [g_nw] at hw
theorem g_nw_same {w : Cond} (hw : g_nw w = true) {s U : State} (e : s.vm = U.vm) (h : va_Nw w s) : va_Nw w U := by
  cases w with
  | castable a b => exact va_Nw.same rfl e h
  | methodLinkNest a b c d => exact va_Nw.same rfl e h
  | declares a => exact va_Nw.same rfl e h
  | _ => simp [g_nw] at hw
/-- what was there before the law began and stays: statics, the script, words -/
def g_O (g : gT) (s : State) (H : Heap) : Prop :=
  (∀ w ∈ NW, va_Nw w s) ∧ va_Z "java/util/ArrayList" "DEFAULTCAPACITY_EMPTY_ELEMENTDATA" "[Ljava/lang/Object;" (.ref (g_o g 1)) (g_A g) s H ∧ va_T (.object "java/lang/Object") (g_o g 1) 0 (fun _ => .null) (g_A g) s H ∧ va_Z "java/lang/String" "COMPACT_STRINGS" "Z" (.int 1) (g_A g) s H ∧ va_AO "java/lang/Object" s ∧ va_AO "ToolHouse$Ask" s ∧ va_Mi "[Ljava/lang/Object;" (g_o g 6) s ∧ va_Dc s ∧ va_X (g_o g 0) (g_n g) (g_x g) s H ∧ (∀ i, i < 6 → g_o g i < g_z g) ∧ (g_z g ≤ H.size) ∧ vk_R "ToolHouse$LawReader" 87 "every" (g_o g 2) s ∧ vk_S 1 [5] [[101, 118, 101, 114, 121]] (fun _ => g_o g 2) (fun _ => g_o g 3) (g_A g) s H ∧ vk_R "ToolHouse" 245 "no such ask" (g_o g 4) s ∧ vk_R "ToolHouse" 262 "no such what" (g_o g 5) s ∧ vx_Zq Bundle.tN "UNASSIGNED_STACK" Bundle.steD (g_A g) s H ∧ vx_Zq Bundle.tN "SUPPRESSED_SENTINEL" Bundle.listD (g_A g) s H ∧ (va_Z "jdk/internal/util/Preconditions" "SIOOBE_FORMATTER" "Ljava/util/function/BiFunction;" .null (g_A g) s H ∨ va_Z "jdk/internal/util/Preconditions" "SIOOBE_FORMATTER" "Ljava/util/function/BiFunction;" (.ref (g_o g 7)) (g_A g) s H)
theorem g_O.go {g : gT} {s U : State} {H : Heap} {locs : List Loc} (h : g_O g s s.heap) (hS : va_S (g_A g) s.heap H locs) (hU : U.heap = H) (hW : s.WarmedH U.vm) : g_O g U U.heap := by
  obtain ⟨a1, a2, a3, a4, a5, a6, a7, a8, a9, a10, a11, b1, b2, b3, b4, b5, b6, b7⟩ := h
  subst hU
  have hk : ∀ a : Nat, a < s.heap.size → ¬ g_A g a → U.heap[a]? = s.heap[a]? := hS.2.1
  have hal := hW.alike
  refine ⟨fun w hw => g_nw_go (List.mem_filter.mp hw).2 hW (a1 w hw), (a2.kept hk).moved hal, (a3.kept hk).moved hal, (a4.kept hk).moved hal, a5.moved hal, a6.moved hal, a7.moved hal, a8.moved hal, (a9.kept (hk _ ?_ ?_)).moved hal, a10, Nat.le_trans a11 hS.1, b1.warm hW, vk_S.moved hal (b2.kept hk), b3.warm hW, b4.warm hW, vx_Zq.moved hal (b5.kept hk), vx_Zq.moved hal (b6.kept hk), b7.imp (fun z => (z.kept hk).moved hal) (fun z => (z.kept hk).moved hal)⟩
  · have := a10 0 (by omega); omega
  · have := a10 0 (by omega); show ¬ g_z g ≤ _; omega
theorem g_O.same {g : gT} {s U : State} (h : g_O g s s.heap) (hU : U.heap = s.heap) (hW : s.vm = U.vm) : g_O g U U.heap := by
  obtain ⟨a1, a2, a3, a4, a5, a6, a7, a8, a9, a10, a11, b1, b2, b3, b4, b5, b6, b7⟩ := h
  rw [hU]
  have hal : s.vm.Alike U.vm := by rw [hW]; exact Vm.Alike.refl _
  exact ⟨fun w hw => g_nw_same (List.mem_filter.mp hw).2 hW (a1 w hw), a2.moved hal, a3.moved hal, a4.moved hal, a5.moved hal, a6.moved hal, a7.moved hal, a8.moved hal, a9.moved hal, a10, a11, vk_R.same hW.symm b1, vk_S.moved hal b2, vk_R.same hW.symm b3, vk_R.same hW.symm b4, vx_Zq.moved hal b5, vx_Zq.moved hal b6, b7.imp (fun z => z.moved hal) (fun z => z.moved hal)⟩
/-! locals: a dense list; .retAddr is a place that isn't set -/
def g_ok (v : Value) : Bool := match v with
  | .retAddr _ => false
  | _ => true
def g_Lv (g : gT) (L : List Value) : List (Nat × Value) := L.zipIdx.filterMap (fun q => if g_ok q.1 then some (q.2, g_v g q.1) else none)
theorem g_Lv_mem {g : gT} {L : List Value} {q : Nat × Value} : q ∈ g_Lv g L ↔ ∃ v, L[q.1]? = some v ∧ g_ok v = true ∧ q.2 = g_v g v := by
  unfold g_Lv
  rw [List.mem_filterMap]
  constructor
  · rintro ⟨⟨v, i⟩, h1, h2⟩
    dsimp only at h2
    split at h2
    · rename_i h3
      cases h2
      exact ⟨v, List.mem_zipIdx_iff_getElem?.mp h1, h3, rfl⟩
    · cases h2
  · rintro ⟨v, h1, h2, h3⟩
    refine ⟨(v, q.1), List.mem_zipIdx_iff_getElem?.mpr h1, ?_⟩
    dsimp only
    rw [if_pos h2, ← h3]
theorem g_at {g : gT} {ls : Array Slot} {nL : Nat} {L : List Value} (h : lv_has ls nL (g_Lv g L)) {i : Nat} {v : Value} (hi : L[i]? = some v) (hv : g_ok v = true) : ls[i]? = some (.val (g_v g v)) := h.2.2 (i, g_v g v) (g_Lv_mem.mpr ⟨v, hi, hv, rfl⟩)
theorem g_cat (g : gT) (v : Value) : (g_v g v).category = v.category := by cases v <;> rfl
theorem g_cats (g : gT) (st : List Value) : ((st.map (g_v g)).map fun v => v.category).sum = (st.map fun v => v.category).sum := by
  rw [List.map_map]
  congr 1
  exact List.map_congr_left (fun v _ => g_cat g v)
theorem g_store {g : gT} {ls : Array Slot} {nL i : Nat} {L : List Value} {v : Value} (hi : i < L.length) (hc : ((L[i - 1]?).all (fun w => w.category == 1)) = true) (h : lv_has ls nL ((i, g_v g v) :: (g_Lv g L).filter (fun q => !(q.1 == i) && !(q.1 + 1 == i && q.2.category == 2)))) : lv_has ls nL (g_Lv g (L.set i v)) := by
  refine ⟨h.1, h.2.1, fun q hq => h.2.2 q ?_⟩
  obtain ⟨w, h1, h2, h3⟩ := g_Lv_mem.mp hq
  obtain ⟨j, u⟩ := q
  dsimp only at h1 h3
  subst h3
  by_cases hj : j = i
  · subst hj
    rw [List.getElem?_set_self hi] at h1
    cases h1
    exact List.mem_cons_self
  · rw [List.getElem?_set_ne (Ne.symm hj)] at h1
    refine List.mem_cons_of_mem _ (List.mem_filter.mpr ⟨g_Lv_mem.mpr ⟨w, h1, h2, rfl⟩, ?_⟩)
    have e1 : (j == i) = false := by simpa using hj
    rw [e1]
    by_cases hj1 : j + 1 = i
    · have e2 : i - 1 = j := by omega
      rw [e2, h1] at hc
      have hc' : w.category = 1 := by simpa using hc
      simp [g_cat, hc']
    · simp [hj1]
/-- what stands fast while a method runs -/
def g_S (g : gT) (k : mM) (p : Program) (s : State) (m : MethodId) (args : Array Value) (meth : Method) (c : Code) : Prop :=
  p.tables.exec = Jvm.exec ∧ c.code = k.2.1 ∧ c.maxLocals = k.2.2.1 ∧ meth.sig.returnType = k.2.2.2 ∧ meth.locks = false ∧ meth.name = k.1.name ∧ s.vm.findClass k.1.cls = some m.cls ∧ (∀ w ∈ TB, w.before args s = true) ∧ va_K (g_D g) g_cl (g_tys g) s ∧ g_O g s s.heap
def g_B (R : Room) (d x y cells slots : Nat) : Prop := d ≤ R.frames ∧ 40 * d ≤ R.locals ∧ cells + x ≤ R.cells ∧ slots + y ≤ R.slots
def g_E (g : gT) (k : mM) (L : List Value) (ls : Array Slot) : Prop := L.length = k.2.2.1 ∧ lv_has ls k.2.2.1 (g_Lv g L)
def g_Q (g : gT) (P : Option Value → Nat → mH → Prop) : Array Value → State → Outcome → State → Prop := fun _ st o t => (∃ (v : Option Value) (n : Nat) (h : mH), o = .returned (v.map (g_v g)) ∧ P v n h ∧ g_C g n h t.heap) ∧ va_F (g_A g) st t
/-- THE JUDGEMENT -/
def G (g : gT) (d x y : Nat) (k : mM) (pc : Nat) (L st : List Value) (n : Nat) (h : mH) (P : Option Value → Nat → mH → Prop) : Prop :=
  ∀ (p : Program) (e : Env) (R : Room) (s : State) (m : MethodId) (args : Array Value) (below : List Frame) (meth : Method) (c : Code) (H : Heap) (locs : List Loc) (cells slots : Nat) (ls : Array Slot),
    g_S g k p s m args meth c → g_B R d x y cells slots → g_C g n h H → va_S (g_A g) s.heap H locs → g_E g k L ls →
    W p g.1 e R s m args below meth c H locs cells slots (MQ below (g_Q g P) args s R.cells R.slots (g_A g)) (F0 m pc ls (st.map (g_v g)))
/-- a method's contract -/
def g_R (d x y : Nat) : Room := { frames := d, cells := x, slots := y, locals := 40 * d }
def g_I (g : gT) (n : Nat) (h : mH) (U : State) : Prop := g_C g n h U.heap ∧ va_K (g_D g) g_cl (g_tys g) U ∧ g_O g U U.heap
def g_ws (k : mM) : List Cond := Cond.code k.1 k.2.1 k.2.2.1 k.2.2.2 :: TB
def M (g : gT) (d x y : Nat) (k : mM) (av : List Value) (n : Nat) (h : mH) (P : Option Value → Nat → mH → Prop) : Prop :=
  Met g.1 k.1 (g_ws k) (g_R d x y) (va_Pc (av.map (g_v g)) (g_I g n h)) (g_Q g P) x y (g_A g)
theorem G_iconst {g : gT} {d x y : Nat} {k : mM} {pc : Nat} {L st : List Value} {n : Nat} {h : mH} {P : Option Value → Nat → mH → Prop} {i : Int} {v : Int32} (hd : decode k.2.1 pc = .ok (.iconst i, 1)) (hv : Int32.ofInt i = v) (K : G g d x y k (pc + 1) L (.int v :: st) n h P) : G g d x y k pc L (st) n h P := by
  intro p e R s m args below meth c H locs cells slots ls S B C F E
  exact lv_iconst S.1 S.2.1 hd hv (K p e R s m args below meth c H locs cells slots ls S B C F E)
theorem G_bipush {g : gT} {d x y : Nat} {k : mM} {pc : Nat} {L st : List Value} {n : Nat} {h : mH} {P : Option Value → Nat → mH → Prop} {i : Int} {v : Int32} (hd : decode k.2.1 pc = .ok (.bipush i, 2)) (hv : (Int8.ofInt i).toInt32 = v) (K : G g d x y k (pc + 2) L (.int v :: st) n h P) : G g d x y k pc L (st) n h P := by
  intro p e R s m args below meth c H locs cells slots ls S B C F E
  exact lv_bipush S.1 S.2.1 hd hv (K p e R s m args below meth c H locs cells slots ls S B C F E)
theorem G_sipush {g : gT} {d x y : Nat} {k : mM} {pc : Nat} {L st : List Value} {n : Nat} {h : mH} {P : Option Value → Nat → mH → Prop} {i : Int} {v : Int32} (hd : decode k.2.1 pc = .ok (.sipush i, 3)) (hv : (Int16.ofInt i).toInt32 = v) (K : G g d x y k (pc + 3) L (.int v :: st) n h P) : G g d x y k pc L (st) n h P := by
  intro p e R s m args below meth c H locs cells slots ls S B C F E
  exact lv_sipush S.1 S.2.1 hd hv (K p e R s m args below meth c H locs cells slots ls S B C F E)
theorem G_null {g : gT} {d x y : Nat} {k : mM} {pc : Nat} {L st : List Value} {n : Nat} {h : mH} {P : Option Value → Nat → mH → Prop}  (hd : decode k.2.1 pc = .ok (.aconst_null, 1)) (K : G g d x y k (pc + 1) L (.null :: st) n h P) : G g d x y k pc L (st) n h P := by
  intro p e R s m args below meth c H locs cells slots ls S B C F E
  exact lv_null S.1 S.2.1 hd  (K p e R s m args below meth c H locs cells slots ls S B C F E)
theorem G_iadd {g : gT} {d x y : Nat} {k : mM} {pc : Nat} {L st : List Value} {n : Nat} {h : mH} {P : Option Value → Nat → mH → Prop} {a b : Int32} (hd : decode k.2.1 pc = .ok (.iadd, 1)) (K : G g d x y k (pc + 1) L (.int (a + b) :: st) n h P) : G g d x y k pc L (.int b :: .int a :: st) n h P := by
  intro p e R s m args below meth c H locs cells slots ls S B C F E
  exact lv_iadd S.1 S.2.1 hd  (K p e R s m args below meth c H locs cells slots ls S B C F E)
theorem G_isub {g : gT} {d x y : Nat} {k : mM} {pc : Nat} {L st : List Value} {n : Nat} {h : mH} {P : Option Value → Nat → mH → Prop} {a b : Int32} (hd : decode k.2.1 pc = .ok (.isub, 1)) (K : G g d x y k (pc + 1) L (.int (a - b) :: st) n h P) : G g d x y k pc L (.int b :: .int a :: st) n h P := by
  intro p e R s m args below meth c H locs cells slots ls S B C F E
  exact lv_isub S.1 S.2.1 hd  (K p e R s m args below meth c H locs cells slots ls S B C F E)
theorem G_imul {g : gT} {d x y : Nat} {k : mM} {pc : Nat} {L st : List Value} {n : Nat} {h : mH} {P : Option Value → Nat → mH → Prop} {a b : Int32} (hd : decode k.2.1 pc = .ok (.imul, 1)) (K : G g d x y k (pc + 1) L (.int (a * b) :: st) n h P) : G g d x y k pc L (.int b :: .int a :: st) n h P := by
  intro p e R s m args below meth c H locs cells slots ls S B C F E
  exact lv_imul S.1 S.2.1 hd  (K p e R s m args below meth c H locs cells slots ls S B C F E)
theorem G_iand {g : gT} {d x y : Nat} {k : mM} {pc : Nat} {L st : List Value} {n : Nat} {h : mH} {P : Option Value → Nat → mH → Prop} {a b : Int32} (hd : decode k.2.1 pc = .ok (.iand, 1)) (K : G g d x y k (pc + 1) L (.int (a &&& b) :: st) n h P) : G g d x y k pc L (.int b :: .int a :: st) n h P := by
  intro p e R s m args below meth c H locs cells slots ls S B C F E
  exact lv_iand S.1 S.2.1 hd  (K p e R s m args below meth c H locs cells slots ls S B C F E)
theorem G_ior {g : gT} {d x y : Nat} {k : mM} {pc : Nat} {L st : List Value} {n : Nat} {h : mH} {P : Option Value → Nat → mH → Prop} {a b : Int32} (hd : decode k.2.1 pc = .ok (.ior, 1)) (K : G g d x y k (pc + 1) L (.int (a ||| b) :: st) n h P) : G g d x y k pc L (.int b :: .int a :: st) n h P := by
  intro p e R s m args below meth c H locs cells slots ls S B C F E
  exact lv_ior S.1 S.2.1 hd  (K p e R s m args below meth c H locs cells slots ls S B C F E)
theorem G_ixor {g : gT} {d x y : Nat} {k : mM} {pc : Nat} {L st : List Value} {n : Nat} {h : mH} {P : Option Value → Nat → mH → Prop} {a b : Int32} (hd : decode k.2.1 pc = .ok (.ixor, 1)) (K : G g d x y k (pc + 1) L (.int (a ^^^ b) :: st) n h P) : G g d x y k pc L (.int b :: .int a :: st) n h P := by
  intro p e R s m args below meth c H locs cells slots ls S B C F E
  exact lv_ixor S.1 S.2.1 hd  (K p e R s m args below meth c H locs cells slots ls S B C F E)
theorem G_idiv {g : gT} {d x y : Nat} {k : mM} {pc : Nat} {L st : List Value} {n : Nat} {h : mH} {P : Option Value → Nat → mH → Prop} {a b : Int32} (hd : decode k.2.1 pc = .ok (.idiv, 1)) (hb : ¬ b = 0) (K : G g d x y k (pc + 1) L (.int (a / b) :: st) n h P) : G g d x y k pc L (.int b :: .int a :: st) n h P := by
  intro p e R s m args below meth c H locs cells slots ls S B C F E
  exact lv_idiv S.1 S.2.1 hd hb (K p e R s m args below meth c H locs cells slots ls S B C F E)
theorem G_irem {g : gT} {d x y : Nat} {k : mM} {pc : Nat} {L st : List Value} {n : Nat} {h : mH} {P : Option Value → Nat → mH → Prop} {a b : Int32} (hd : decode k.2.1 pc = .ok (.irem, 1)) (hb : ¬ b = 0) (K : G g d x y k (pc + 1) L (.int (a - a / b * b) :: st) n h P) : G g d x y k pc L (.int b :: .int a :: st) n h P := by
  intro p e R s m args below meth c H locs cells slots ls S B C F E
  exact lv_irem S.1 S.2.1 hd hb (K p e R s m args below meth c H locs cells slots ls S B C F E)
theorem G_ineg {g : gT} {d x y : Nat} {k : mM} {pc : Nat} {L st : List Value} {n : Nat} {h : mH} {P : Option Value → Nat → mH → Prop} {a : Int32} (hd : decode k.2.1 pc = .ok (.ineg, 1)) (K : G g d x y k (pc + 1) L (.int (-a) :: st) n h P) : G g d x y k pc L (.int a :: st) n h P := by
  intro p e R s m args below meth c H locs cells slots ls S B C F E
  exact lv_ineg S.1 S.2.1 hd  (K p e R s m args below meth c H locs cells slots ls S B C F E)
theorem G_ladd {g : gT} {d x y : Nat} {k : mM} {pc : Nat} {L st : List Value} {n : Nat} {h : mH} {P : Option Value → Nat → mH → Prop} {a b : Int64} (hd : decode k.2.1 pc = .ok (.ladd, 1)) (K : G g d x y k (pc + 1) L (.long (a + b) :: st) n h P) : G g d x y k pc L (.long b :: .long a :: st) n h P := by
  intro p e R s m args below meth c H locs cells slots ls S B C F E
  exact lv_ladd S.1 S.2.1 hd  (K p e R s m args below meth c H locs cells slots ls S B C F E)
theorem G_lsub {g : gT} {d x y : Nat} {k : mM} {pc : Nat} {L st : List Value} {n : Nat} {h : mH} {P : Option Value → Nat → mH → Prop} {a b : Int64} (hd : decode k.2.1 pc = .ok (.lsub, 1)) (K : G g d x y k (pc + 1) L (.long (a - b) :: st) n h P) : G g d x y k pc L (.long b :: .long a :: st) n h P := by
  intro p e R s m args below meth c H locs cells slots ls S B C F E
  exact lv_lsub S.1 S.2.1 hd  (K p e R s m args below meth c H locs cells slots ls S B C F E)
theorem G_ishl {g : gT} {d x y : Nat} {k : mM} {pc : Nat} {L st : List Value} {n : Nat} {h : mH} {P : Option Value → Nat → mH → Prop} {a b : Int32} (hd : decode k.2.1 pc = .ok (.ishl, 1)) (K : G g d x y k (pc + 1) L (.int (a <<< (b &&& 31)) :: st) n h P) : G g d x y k pc L (.int b :: .int a :: st) n h P := by
  intro p e R s m args below meth c H locs cells slots ls S B C F E
  exact lv_ishl S.1 S.2.1 hd  (K p e R s m args below meth c H locs cells slots ls S B C F E)
theorem G_ishr {g : gT} {d x y : Nat} {k : mM} {pc : Nat} {L st : List Value} {n : Nat} {h : mH} {P : Option Value → Nat → mH → Prop} {a b : Int32} (hd : decode k.2.1 pc = .ok (.ishr, 1)) (K : G g d x y k (pc + 1) L (.int (a >>> (b &&& 31)) :: st) n h P) : G g d x y k pc L (.int b :: .int a :: st) n h P := by
  intro p e R s m args below meth c H locs cells slots ls S B C F E
  exact lv_ishr S.1 S.2.1 hd  (K p e R s m args below meth c H locs cells slots ls S B C F E)
theorem G_iushr {g : gT} {d x y : Nat} {k : mM} {pc : Nat} {L st : List Value} {n : Nat} {h : mH} {P : Option Value → Nat → mH → Prop} {a b : Int32} (hd : decode k.2.1 pc = .ok (.iushr, 1)) (K : G g d x y k (pc + 1) L (.int (a.toUInt32 >>> (b.toUInt32 &&& Int32.toUInt32 31)).toInt32 :: st) n h P) : G g d x y k pc L (.int b :: .int a :: st) n h P := by
  intro p e R s m args below meth c H locs cells slots ls S B C F E
  exact lv_iushr S.1 S.2.1 hd rfl (K p e R s m args below meth c H locs cells slots ls S B C F E)
theorem G_i2l {g : gT} {d x y : Nat} {k : mM} {pc : Nat} {L st : List Value} {n : Nat} {h : mH} {P : Option Value → Nat → mH → Prop} {a : Int32} (hd : decode k.2.1 pc = .ok (.i2l, 1)) (K : G g d x y k (pc + 1) L (.long a.toInt64 :: st) n h P) : G g d x y k pc L (.int a :: st) n h P := by
  intro p e R s m args below meth c H locs cells slots ls S B C F E
  exact lv_i2l S.1 S.2.1 hd rfl (K p e R s m args below meth c H locs cells slots ls S B C F E)
theorem G_i2b {g : gT} {d x y : Nat} {k : mM} {pc : Nat} {L st : List Value} {n : Nat} {h : mH} {P : Option Value → Nat → mH → Prop} {a : Int32} (hd : decode k.2.1 pc = .ok (.i2b, 1)) (K : G g d x y k (pc + 1) L (.int a.toInt8.toInt32 :: st) n h P) : G g d x y k pc L (.int a :: st) n h P := by
  intro p e R s m args below meth c H locs cells slots ls S B C F E
  exact lv_i2b S.1 S.2.1 hd rfl (K p e R s m args below meth c H locs cells slots ls S B C F E)
theorem G_lcmp {g : gT} {d x y : Nat} {k : mM} {pc : Nat} {L st : List Value} {n : Nat} {h : mH} {P : Option Value → Nat → mH → Prop} {a b : Int64} (hd : decode k.2.1 pc = .ok (.lcmp, 1)) (K : G g d x y k (pc + 1) L (.int (lg_cmp a b) :: st) n h P) : G g d x y k pc L (.long b :: .long a :: st) n h P := by
  intro p e R s m args below meth c H locs cells slots ls S B C F E
  exact W.lcmp S.1 S.2.1 hd  (K p e R s m args below meth c H locs cells slots ls S B C F E)
theorem G_dup {g : gT} {d x y : Nat} {k : mM} {pc : Nat} {L st : List Value} {n : Nat} {h : mH} {P : Option Value → Nat → mH → Prop} {v : Value} (hd : decode k.2.1 pc = .ok (.dup, 1)) (hv : v.category = 1) (K : G g d x y k (pc + 1) L (v :: v :: st) n h P) : G g d x y k pc L (v :: st) n h P := by
  intro p e R s m args below meth c H locs cells slots ls S B C F E
  exact lv_dup S.1 S.2.1 hd ((g_cat g v).trans hv) (K p e R s m args below meth c H locs cells slots ls S B C F E)
theorem G_pop {g : gT} {d x y : Nat} {k : mM} {pc : Nat} {L st : List Value} {n : Nat} {h : mH} {P : Option Value → Nat → mH → Prop} {v : Value} (hd : decode k.2.1 pc = .ok (.pop, 1)) (hv : v.category = 1) (K : G g d x y k (pc + 1) L (st) n h P) : G g d x y k pc L (v :: st) n h P := by
  intro p e R s m args below meth c H locs cells slots ls S B C F E
  exact lv_pop S.1 S.2.1 hd ((g_cat g v).trans hv) (K p e R s m args below meth c H locs cells slots ls S B C F E)
theorem G_dup_x1 {g : gT} {d x y : Nat} {k : mM} {pc : Nat} {L st : List Value} {n : Nat} {h : mH} {P : Option Value → Nat → mH → Prop} {v w : Value} (hd : decode k.2.1 pc = .ok (.dup_x1, 1)) (hv : v.category = 1) (hw : w.category = 1) (K : G g d x y k (pc + 1) L (v :: w :: v :: st) n h P) : G g d x y k pc L (v :: w :: st) n h P := by
  intro p e R s m args below meth c H locs cells slots ls S B C F E
  exact lv_dup_x1 S.1 S.2.1 hd ((g_cat g v).trans hv) ((g_cat g w).trans hw) (K p e R s m args below meth c H locs cells slots ls S B C F E)
theorem G_dup2 {g : gT} {d x y : Nat} {k : mM} {pc : Nat} {L st : List Value} {n : Nat} {h : mH} {P : Option Value → Nat → mH → Prop} {v w : Value} (hd : decode k.2.1 pc = .ok (.dup2, 1)) (hv : v.category = 1) (hw : w.category = 1) (K : G g d x y k (pc + 1) L (v :: w :: v :: w :: st) n h P) : G g d x y k pc L (v :: w :: st) n h P := by
  intro p e R s m args below meth c H locs cells slots ls S B C F E
  exact lv_dup2_11 S.1 S.2.1 hd ((g_cat g v).trans hv) ((g_cat g w).trans hw) (K p e R s m args below meth c H locs cells slots ls S B C F E)
theorem G_goto {g : gT} {d x y : Nat} {k : mM} {pc : Nat} {L st : List Value} {n : Nat} {h : mH} {P : Option Value → Nat → mH → Prop} {off : Int} {tgt : Nat} (hd : decode k.2.1 pc = .ok (.goto off, 3)) (ht : (pc : Int) + off = (tgt : Int)) (K : G g d x y k tgt L (st) n h P) : G g d x y k pc L (st) n h P := by
  intro p e R s m args below meth c H locs cells slots ls S B C F E
  exact lv_goto S.1 S.2.1 hd ht (K p e R s m args below meth c H locs cells slots ls S B C F E)
theorem G_if_eq {g : gT} {d x y : Nat} {k : mM} {pc : Nat} {L st : List Value} {n : Nat} {h : mH} {P : Option Value → Nat → mH → Prop} {a : Int32} {off : Int} {tgt : Nat} (hd : decode k.2.1 pc = .ok (.ifCond .eq off, 3)) (ht : (pc : Int) + off = (tgt : Int)) (K : (a = 0) → G g d x y k tgt L (st) n h P) (K2 : ¬ (a = 0) → G g d x y k (pc + 3) L (st) n h P) : G g d x y k pc L (.int a :: st) n h P := by
  intro p e R s m args below meth c H locs cells slots ls S B C F E
  exact lv_if_eq S.1 S.2.1 hd ht (fun q => K q p e R s m args below meth c H locs cells slots ls S B C F E) (fun q => K2 q p e R s m args below meth c H locs cells slots ls S B C F E)
theorem G_icmp_eq {g : gT} {d x y : Nat} {k : mM} {pc : Nat} {L st : List Value} {n : Nat} {h : mH} {P : Option Value → Nat → mH → Prop} {a b : Int32} {off : Int} {tgt : Nat} (hd : decode k.2.1 pc = .ok (.if_icmp .eq off, 3)) (ht : (pc : Int) + off = (tgt : Int)) (K : (a = b) → G g d x y k tgt L (st) n h P) (K2 : ¬ (a = b) → G g d x y k (pc + 3) L (st) n h P) : G g d x y k pc L (.int b :: .int a :: st) n h P := by
  intro p e R s m args below meth c H locs cells slots ls S B C F E
  exact lv_icmp_eq S.1 S.2.1 hd ht (fun q => K q p e R s m args below meth c H locs cells slots ls S B C F E) (fun q => K2 q p e R s m args below meth c H locs cells slots ls S B C F E)
theorem G_if_ne {g : gT} {d x y : Nat} {k : mM} {pc : Nat} {L st : List Value} {n : Nat} {h : mH} {P : Option Value → Nat → mH → Prop} {a : Int32} {off : Int} {tgt : Nat} (hd : decode k.2.1 pc = .ok (.ifCond .ne off, 3)) (ht : (pc : Int) + off = (tgt : Int)) (K : (¬ a = 0) → G g d x y k tgt L (st) n h P) (K2 : a = 0 → G g d x y k (pc + 3) L (st) n h P) : G g d x y k pc L (.int a :: st) n h P := by
  intro p e R s m args below meth c H locs cells slots ls S B C F E
  exact lv_if_ne S.1 S.2.1 hd ht (fun q => K q p e R s m args below meth c H locs cells slots ls S B C F E) (fun q => K2 q p e R s m args below meth c H locs cells slots ls S B C F E)
theorem G_icmp_ne {g : gT} {d x y : Nat} {k : mM} {pc : Nat} {L st : List Value} {n : Nat} {h : mH} {P : Option Value → Nat → mH → Prop} {a b : Int32} {off : Int} {tgt : Nat} (hd : decode k.2.1 pc = .ok (.if_icmp .ne off, 3)) (ht : (pc : Int) + off = (tgt : Int)) (K : (¬ a = b) → G g d x y k tgt L (st) n h P) (K2 : a = b → G g d x y k (pc + 3) L (st) n h P) : G g d x y k pc L (.int b :: .int a :: st) n h P := by
  intro p e R s m args below meth c H locs cells slots ls S B C F E
  exact lv_icmp_ne S.1 S.2.1 hd ht (fun q => K q p e R s m args below meth c H locs cells slots ls S B C F E) (fun q => K2 q p e R s m args below meth c H locs cells slots ls S B C F E)
theorem G_if_lt {g : gT} {d x y : Nat} {k : mM} {pc : Nat} {L st : List Value} {n : Nat} {h : mH} {P : Option Value → Nat → mH → Prop} {a : Int32} {off : Int} {tgt : Nat} (hd : decode k.2.1 pc = .ok (.ifCond .lt off, 3)) (ht : (pc : Int) + off = (tgt : Int)) (K : (a < 0) → G g d x y k tgt L (st) n h P) (K2 : ¬ (a < 0) → G g d x y k (pc + 3) L (st) n h P) : G g d x y k pc L (.int a :: st) n h P := by
  intro p e R s m args below meth c H locs cells slots ls S B C F E
  exact lv_if_lt S.1 S.2.1 hd ht (fun q => K q p e R s m args below meth c H locs cells slots ls S B C F E) (fun q => K2 q p e R s m args below meth c H locs cells slots ls S B C F E)
theorem G_icmp_lt {g : gT} {d x y : Nat} {k : mM} {pc : Nat} {L st : List Value} {n : Nat} {h : mH} {P : Option Value → Nat → mH → Prop} {a b : Int32} {off : Int} {tgt : Nat} (hd : decode k.2.1 pc = .ok (.if_icmp .lt off, 3)) (ht : (pc : Int) + off = (tgt : Int)) (K : (a < b) → G g d x y k tgt L (st) n h P) (K2 : ¬ (a < b) → G g d x y k (pc + 3) L (st) n h P) : G g d x y k pc L (.int b :: .int a :: st) n h P := by
  intro p e R s m args below meth c H locs cells slots ls S B C F E
  exact lv_icmp_lt S.1 S.2.1 hd ht (fun q => K q p e R s m args below meth c H locs cells slots ls S B C F E) (fun q => K2 q p e R s m args below meth c H locs cells slots ls S B C F E)
theorem G_if_ge {g : gT} {d x y : Nat} {k : mM} {pc : Nat} {L st : List Value} {n : Nat} {h : mH} {P : Option Value → Nat → mH → Prop} {a : Int32} {off : Int} {tgt : Nat} (hd : decode k.2.1 pc = .ok (.ifCond .ge off, 3)) (ht : (pc : Int) + off = (tgt : Int)) (K : (0 ≤ a) → G g d x y k tgt L (st) n h P) (K2 : ¬ (0 ≤ a) → G g d x y k (pc + 3) L (st) n h P) : G g d x y k pc L (.int a :: st) n h P := by
  intro p e R s m args below meth c H locs cells slots ls S B C F E
  exact lv_if_ge S.1 S.2.1 hd ht (fun q => K q p e R s m args below meth c H locs cells slots ls S B C F E) (fun q => K2 q p e R s m args below meth c H locs cells slots ls S B C F E)
theorem G_icmp_ge {g : gT} {d x y : Nat} {k : mM} {pc : Nat} {L st : List Value} {n : Nat} {h : mH} {P : Option Value → Nat → mH → Prop} {a b : Int32} {off : Int} {tgt : Nat} (hd : decode k.2.1 pc = .ok (.if_icmp .ge off, 3)) (ht : (pc : Int) + off = (tgt : Int)) (K : (b ≤ a) → G g d x y k tgt L (st) n h P) (K2 : ¬ (b ≤ a) → G g d x y k (pc + 3) L (st) n h P) : G g d x y k pc L (.int b :: .int a :: st) n h P := by
  intro p e R s m args below meth c H locs cells slots ls S B C F E
  exact lv_icmp_ge S.1 S.2.1 hd ht (fun q => K q p e R s m args below meth c H locs cells slots ls S B C F E) (fun q => K2 q p e R s m args below meth c H locs cells slots ls S B C F E)
theorem G_if_gt {g : gT} {d x y : Nat} {k : mM} {pc : Nat} {L st : List Value} {n : Nat} {h : mH} {P : Option Value → Nat → mH → Prop} {a : Int32} {off : Int} {tgt : Nat} (hd : decode k.2.1 pc = .ok (.ifCond .gt off, 3)) (ht : (pc : Int) + off = (tgt : Int)) (K : (0 < a) → G g d x y k tgt L (st) n h P) (K2 : ¬ (0 < a) → G g d x y k (pc + 3) L (st) n h P) : G g d x y k pc L (.int a :: st) n h P := by
  intro p e R s m args below meth c H locs cells slots ls S B C F E
  exact lv_if_gt S.1 S.2.1 hd ht (fun q => K q p e R s m args below meth c H locs cells slots ls S B C F E) (fun q => K2 q p e R s m args below meth c H locs cells slots ls S B C F E)
theorem G_icmp_gt {g : gT} {d x y : Nat} {k : mM} {pc : Nat} {L st : List Value} {n : Nat} {h : mH} {P : Option Value → Nat → mH → Prop} {a b : Int32} {off : Int} {tgt : Nat} (hd : decode k.2.1 pc = .ok (.if_icmp .gt off, 3)) (ht : (pc : Int) + off = (tgt : Int)) (K : (b < a) → G g d x y k tgt L (st) n h P) (K2 : ¬ (b < a) → G g d x y k (pc + 3) L (st) n h P) : G g d x y k pc L (.int b :: .int a :: st) n h P := by
  intro p e R s m args below meth c H locs cells slots ls S B C F E
  exact lv_icmp_gt S.1 S.2.1 hd ht (fun q => K q p e R s m args below meth c H locs cells slots ls S B C F E) (fun q => K2 q p e R s m args below meth c H locs cells slots ls S B C F E)
theorem G_if_le {g : gT} {d x y : Nat} {k : mM} {pc : Nat} {L st : List Value} {n : Nat} {h : mH} {P : Option Value → Nat → mH → Prop} {a : Int32} {off : Int} {tgt : Nat} (hd : decode k.2.1 pc = .ok (.ifCond .le off, 3)) (ht : (pc : Int) + off = (tgt : Int)) (K : (a ≤ 0) → G g d x y k tgt L (st) n h P) (K2 : ¬ (a ≤ 0) → G g d x y k (pc + 3) L (st) n h P) : G g d x y k pc L (.int a :: st) n h P := by
  intro p e R s m args below meth c H locs cells slots ls S B C F E
  exact lv_if_le S.1 S.2.1 hd ht (fun q => K q p e R s m args below meth c H locs cells slots ls S B C F E) (fun q => K2 q p e R s m args below meth c H locs cells slots ls S B C F E)
theorem G_icmp_le {g : gT} {d x y : Nat} {k : mM} {pc : Nat} {L st : List Value} {n : Nat} {h : mH} {P : Option Value → Nat → mH → Prop} {a b : Int32} {off : Int} {tgt : Nat} (hd : decode k.2.1 pc = .ok (.if_icmp .le off, 3)) (ht : (pc : Int) + off = (tgt : Int)) (K : (a ≤ b) → G g d x y k tgt L (st) n h P) (K2 : ¬ (a ≤ b) → G g d x y k (pc + 3) L (st) n h P) : G g d x y k pc L (.int b :: .int a :: st) n h P := by
  intro p e R s m args below meth c H locs cells slots ls S B C F E
  exact lv_icmp_le S.1 S.2.1 hd ht (fun q => K q p e R s m args below meth c H locs cells slots ls S B C F E) (fun q => K2 q p e R s m args below meth c H locs cells slots ls S B C F E)
theorem G_iload_n {g : gT} {d x y : Nat} {k : mM} {pc : Nat} {L st : List Value} {n : Nat} {h : mH} {P : Option Value → Nat → mH → Prop} {f : Fin 4} {i : Nat} {a : Int32} (hd : decode k.2.1 pc = .ok (.iload_n f, 1)) (hi : (f : Nat) = i) (hl : L[i]? = some (.int a)) (K : G g d x y k (pc + 1) L (.int a :: st) n h P) : G g d x y k pc L st n h P := by
  intro p e R s m args below meth c H locs cells slots ls S B C F E
  exact lv_iload_n S.1 S.2.1 hd hi (g_at E.2 hl rfl) (K p e R s m args below meth c H locs cells slots ls S B C F E)
theorem G_iload {g : gT} {d x y : Nat} {k : mM} {pc : Nat} {L st : List Value} {n : Nat} {h : mH} {P : Option Value → Nat → mH → Prop} {i : Nat} {a : Int32} (hd : decode k.2.1 pc = .ok (.iload i, 2)) (hl : L[i]? = some (.int a)) (K : G g d x y k (pc + 2) L (.int a :: st) n h P) : G g d x y k pc L st n h P := by
  intro p e R s m args below meth c H locs cells slots ls S B C F E
  exact lv_iload S.1 S.2.1 hd (g_at E.2 hl rfl) (K p e R s m args below meth c H locs cells slots ls S B C F E)
theorem G_lload_n {g : gT} {d x y : Nat} {k : mM} {pc : Nat} {L st : List Value} {n : Nat} {h : mH} {P : Option Value → Nat → mH → Prop} {f : Fin 4} {i : Nat} {a : Int64} (hd : decode k.2.1 pc = .ok (.lload_n f, 1)) (hi : (f : Nat) = i) (hl : L[i]? = some (.long a)) (K : G g d x y k (pc + 1) L (.long a :: st) n h P) : G g d x y k pc L st n h P := by
  intro p e R s m args below meth c H locs cells slots ls S B C F E
  exact lv_lload_n S.1 S.2.1 hd hi (g_at E.2 hl rfl) (K p e R s m args below meth c H locs cells slots ls S B C F E)
theorem G_lload {g : gT} {d x y : Nat} {k : mM} {pc : Nat} {L st : List Value} {n : Nat} {h : mH} {P : Option Value → Nat → mH → Prop} {i : Nat} {a : Int64} (hd : decode k.2.1 pc = .ok (.lload i, 2)) (hl : L[i]? = some (.long a)) (K : G g d x y k (pc + 2) L (.long a :: st) n h P) : G g d x y k pc L st n h P := by
  intro p e R s m args below meth c H locs cells slots ls S B C F E
  exact lv_lload S.1 S.2.1 hd (g_at E.2 hl rfl) (K p e R s m args below meth c H locs cells slots ls S B C F E)
theorem G_aload_n {g : gT} {d x y : Nat} {k : mM} {pc : Nat} {L st : List Value} {n : Nat} {h : mH} {P : Option Value → Nat → mH → Prop} {f : Fin 4} {i : Nat} {a : Nat} (hd : decode k.2.1 pc = .ok (.aload_n f, 1)) (hi : (f : Nat) = i) (hl : L[i]? = some (.ref a)) (K : G g d x y k (pc + 1) L (.ref a :: st) n h P) : G g d x y k pc L st n h P := by
  intro p e R s m args below meth c H locs cells slots ls S B C F E
  exact lv_aload_n S.1 S.2.1 hd hi (g_at E.2 hl rfl) (K p e R s m args below meth c H locs cells slots ls S B C F E)
theorem G_aload {g : gT} {d x y : Nat} {k : mM} {pc : Nat} {L st : List Value} {n : Nat} {h : mH} {P : Option Value → Nat → mH → Prop} {i : Nat} {a : Nat} (hd : decode k.2.1 pc = .ok (.aload i, 2)) (hl : L[i]? = some (.ref a)) (K : G g d x y k (pc + 2) L (.ref a :: st) n h P) : G g d x y k pc L st n h P := by
  intro p e R s m args below meth c H locs cells slots ls S B C F E
  exact lv_aload S.1 S.2.1 hd (g_at E.2 hl rfl) (K p e R s m args below meth c H locs cells slots ls S B C F E)
theorem G_aload_nN {g : gT} {d x y : Nat} {k : mM} {pc : Nat} {L st : List Value} {n : Nat} {h : mH} {P : Option Value → Nat → mH → Prop} {f : Fin 4} {i : Nat} (hd : decode k.2.1 pc = .ok (.aload_n f, 1)) (hi : (f : Nat) = i) (hl : L[i]? = some .null) (K : G g d x y k (pc + 1) L (.null :: st) n h P) : G g d x y k pc L st n h P := by
  intro p e R s m args below meth c H locs cells slots ls S B C F E
  exact lv_aload_nN S.1 S.2.1 hd hi (g_at E.2 hl rfl) (K p e R s m args below meth c H locs cells slots ls S B C F E)
theorem G_aloadN {g : gT} {d x y : Nat} {k : mM} {pc : Nat} {L st : List Value} {n : Nat} {h : mH} {P : Option Value → Nat → mH → Prop} {i : Nat} (hd : decode k.2.1 pc = .ok (.aload i, 2)) (hl : L[i]? = some .null) (K : G g d x y k (pc + 2) L (.null :: st) n h P) : G g d x y k pc L st n h P := by
  intro p e R s m args below meth c H locs cells slots ls S B C F E
  exact lv_aloadN S.1 S.2.1 hd (g_at E.2 hl rfl) (K p e R s m args below meth c H locs cells slots ls S B C F E)
theorem G_istore_n {g : gT} {d x y : Nat} {k : mM} {pc : Nat} {L st : List Value} {n : Nat} {h : mH} {P : Option Value → Nat → mH → Prop} {f : Fin 4} {i : Nat} {a : Int32} (hd : decode k.2.1 pc = .ok (.istore_n f, 1)) (hi : (f : Nat) = i) (hi2 : i < L.length) (hc : ((L[i - 1]?).all (fun w => w.category == 1)) = true) (K : G g d x y k (pc + 1) (L.set i (.int a)) st n h P) : G g d x y k pc L (.int a :: st) n h P := by
  intro p e R s m args below meth c H locs cells slots ls S B C F E
  exact lv_istore_n S.1 S.2.1 hd hi E.2 (by rw [← E.1]; exact hi2) rfl (fun ls2 hl2 => K p e R s m args below meth c H locs cells slots ls2 S B C F ⟨by rw [List.length_set]; exact E.1, g_store hi2 hc hl2⟩)
theorem G_istore {g : gT} {d x y : Nat} {k : mM} {pc : Nat} {L st : List Value} {n : Nat} {h : mH} {P : Option Value → Nat → mH → Prop} {i : Nat} {a : Int32} (hd : decode k.2.1 pc = .ok (.istore i, 2)) (hi2 : i < L.length) (hc : ((L[i - 1]?).all (fun w => w.category == 1)) = true) (K : G g d x y k (pc + 2) (L.set i (.int a)) st n h P) : G g d x y k pc L (.int a :: st) n h P := by
  intro p e R s m args below meth c H locs cells slots ls S B C F E
  exact lv_istore S.1 S.2.1 hd E.2 (by rw [← E.1]; exact hi2) rfl (fun ls2 hl2 => K p e R s m args below meth c H locs cells slots ls2 S B C F ⟨by rw [List.length_set]; exact E.1, g_store hi2 hc hl2⟩)
theorem G_astore_n {g : gT} {d x y : Nat} {k : mM} {pc : Nat} {L st : List Value} {n : Nat} {h : mH} {P : Option Value → Nat → mH → Prop} {f : Fin 4} {i : Nat} {a : Nat} (hd : decode k.2.1 pc = .ok (.astore_n f, 1)) (hi : (f : Nat) = i) (hi2 : i < L.length) (hc : ((L[i - 1]?).all (fun w => w.category == 1)) = true) (K : G g d x y k (pc + 1) (L.set i (.ref a)) st n h P) : G g d x y k pc L (.ref a :: st) n h P := by
  intro p e R s m args below meth c H locs cells slots ls S B C F E
  exact lv_astore_n S.1 S.2.1 hd hi E.2 (by rw [← E.1]; exact hi2) rfl (fun ls2 hl2 => K p e R s m args below meth c H locs cells slots ls2 S B C F ⟨by rw [List.length_set]; exact E.1, g_store hi2 hc hl2⟩)
theorem G_astore {g : gT} {d x y : Nat} {k : mM} {pc : Nat} {L st : List Value} {n : Nat} {h : mH} {P : Option Value → Nat → mH → Prop} {i : Nat} {a : Nat} (hd : decode k.2.1 pc = .ok (.astore i, 2)) (hi2 : i < L.length) (hc : ((L[i - 1]?).all (fun w => w.category == 1)) = true) (K : G g d x y k (pc + 2) (L.set i (.ref a)) st n h P) : G g d x y k pc L (.ref a :: st) n h P := by
  intro p e R s m args below meth c H locs cells slots ls S B C F E
  exact lv_astore S.1 S.2.1 hd E.2 (by rw [← E.1]; exact hi2) rfl (fun ls2 hl2 => K p e R s m args below meth c H locs cells slots ls2 S B C F ⟨by rw [List.length_set]; exact E.1, g_store hi2 hc hl2⟩)
theorem G_astore_nN {g : gT} {d x y : Nat} {k : mM} {pc : Nat} {L st : List Value} {n : Nat} {h : mH} {P : Option Value → Nat → mH → Prop} {f : Fin 4} {i : Nat} (hd : decode k.2.1 pc = .ok (.astore_n f, 1)) (hi : (f : Nat) = i) (hi2 : i < L.length) (hc : ((L[i - 1]?).all (fun w => w.category == 1)) = true) (K : G g d x y k (pc + 1) (L.set i (.null)) st n h P) : G g d x y k pc L (.null :: st) n h P := by
  intro p e R s m args below meth c H locs cells slots ls S B C F E
  exact lv_astore_nN S.1 S.2.1 hd hi E.2 (by rw [← E.1]; exact hi2) rfl (fun ls2 hl2 => K p e R s m args below meth c H locs cells slots ls2 S B C F ⟨by rw [List.length_set]; exact E.1, g_store hi2 hc hl2⟩)
theorem G_astoreN {g : gT} {d x y : Nat} {k : mM} {pc : Nat} {L st : List Value} {n : Nat} {h : mH} {P : Option Value → Nat → mH → Prop} {i : Nat} (hd : decode k.2.1 pc = .ok (.astore i, 2)) (hi2 : i < L.length) (hc : ((L[i - 1]?).all (fun w => w.category == 1)) = true) (K : G g d x y k (pc + 2) (L.set i (.null)) st n h P) : G g d x y k pc L (.null :: st) n h P := by
  intro p e R s m args below meth c H locs cells slots ls S B C F E
  exact lv_astoreN S.1 S.2.1 hd E.2 (by rw [← E.1]; exact hi2) rfl (fun ls2 hl2 => K p e R s m args below meth c H locs cells slots ls2 S B C F ⟨by rw [List.length_set]; exact E.1, g_store hi2 hc hl2⟩)
theorem G_iinc {g : gT} {d x y : Nat} {k : mM} {pc : Nat} {L st : List Value} {n : Nat} {h : mH} {P : Option Value → Nat → mH → Prop} {i : Nat} {j : Int} {a b : Int32} (hd : decode k.2.1 pc = .ok (.iinc i j, 3)) (hl : L[i]? = some (.int a)) (hv : a + Int32.ofInt j = b) (hc : ((L[i - 1]?).all (fun w => w.category == 1)) = true) (K : G g d x y k (pc + 3) (L.set i (.int b)) st n h P) : G g d x y k pc L st n h P := by
  intro p e R s m args below meth c H locs cells slots ls S B C F E
  have hi2 : i < L.length := (List.getElem?_eq_some_iff.mp hl).1
  obtain ⟨q, hq⟩ := List.getElem?_of_mem (g_Lv_mem (g := g) (q := (i, g_v g (.int a)))|>.mpr ⟨_, hl, rfl, rfl⟩)
  exact lv_iinc S.1 S.2.1 hd E.2 (k := q) hq hv (by rw [← E.1]; exact hi2) rfl (fun ls2 hl2 => K p e R s m args below meth c H locs cells slots ls2 S B C F ⟨by rw [List.length_set]; exact E.1, g_store (v := .int b) hi2 hc hl2⟩)
/-- a class of the game, by its number -/
def g_k (ci : Nat) (C : String) (T : u_T) (N : Nat) (ty : Nat → FieldType) : Prop := g_cl[ci]? = some (C, T, N) ∧ (∀ w ∈ u_ws C T N, w ∈ TB) ∧ (∀ k, k < N → parseFieldDescriptor (T k).2.2.1 = some (ty k)) ∧ (∀ a, a < N → ∀ b, b < N → a ≠ b → (T a).2.1 ≠ (T b).2.1)
/-- field j of class ci by pool entry index of class own -/
def g_f (own : String) (index ci j : Nat) : Prop := ∃ (C : String) (T : u_T) (N : Nat) (ty : Nat → FieldType), g_k ci C T N ty ∧ j < N ∧ ∃ ref, Cond.fieldLink own index ref (T j).2.1 (T j).2.2.1 ∈ TB ∧ (ref = (T j).1 ∨ Cond.sameField ref (T j).1 (T j).2.1 (T j).2.2.1 ∈ TB)
theorem g_same {args : Array Value} {s : State} {ref o n1 d1 : String} (hts : ∀ w ∈ TB, w.before args s = true) (h : ref = o ∨ Cond.sameField ref o n1 d1 ∈ TB) : ∀ z, s.fieldFound? o n1 d1 = some z → s.fieldFound? ref n1 d1 = some z := by
  intro z hz
  rcases h with h | h
  · rw [h]; exact hz
  · exact u_same (hts _ h) z hz
theorem G_get {g : gT} {d x y : Nat} {k : mM} {pc : Nat} {L st : List Value} {n : Nat} {h : mH} {P : Option Value → Nat → mH → Prop} {index ci j i : Nat} {fs : List Value} {v : Value} (hd : decode k.2.1 pc = .ok (.getfield index, 3)) (hf : g_f k.1.cls index ci j) (hi : h i = some (.inr (ci, fs))) (hv : fs[j]? = some v) (K : G g d x y k (pc + 3) L (v :: st) n h P) : G g d x y k pc L (.ref i :: st) n h P := by
  intro p e R s m args below meth c H locs cells slots ls S B C F E
  obtain ⟨C0, T, N, ty, ⟨k1, k2, k3, k4⟩, hj, ref, f1, f2⟩ := hf
  obtain ⟨-, -, -, -, -, -, hown, hts, hK, -⟩ := id S
  exact va_get (D := g_D g) S.1 S.2.1 hts k2 hown hK (g_P C hi) 0 (fs := fs.map (g_v g)) rfl k1 j hj (hts _ f1) (g_same hts f2) (v := g_v g v) (by rw [List.getElem?_map, hv]; rfl) hd (K p e R s m args below meth c H locs cells slots ls S B C F E)
/-- field j of class ci by pool entry index of class own, to be written: its type t, final or not -/
def g_fp (own : String) (index ci j : Nat) (t : FieldType) (fin : Bool) : Prop := ∃ (C : String) (T : u_T) (N : Nat) (ty : Nat → FieldType), g_k ci C T N ty ∧ j < N ∧ (∃ ref, Cond.fieldLink own index ref (T j).2.1 (T j).2.2.1 ∈ TB ∧ (ref = (T j).1 ∨ Cond.sameField ref (T j).1 (T j).2.1 (T j).2.2.1 ∈ TB)) ∧ ty j = t ∧ (T j).2.2.2 = fin ∧ (fin = true → (T j).1 = own)
def g_fit (t : FieldType) (v : Value) : Prop := ∀ g : gT, narrow t (g_v g v) = g_v g v ∧ fits t (g_v g v) = true
theorem g_fit_i {a : Int32} : g_fit .int (.int a) := fun _ => ⟨rfl, rfl⟩
theorem g_fit_o {C : String} {i : Nat} : g_fit (.object C) (.ref i) := fun _ => ⟨rfl, rfl⟩
theorem g_fit_on {C : String} : g_fit (.object C) .null := fun _ => ⟨rfl, rfl⟩
theorem g_fit_a {t : FieldType} {i : Nat} : g_fit (.array t) (.ref i) := fun _ => ⟨rfl, rfl⟩
theorem G_put {g : gT} {d x y : Nat} {k : mM} {pc : Nat} {L st : List Value} {n : Nat} {h : mH} {P : Option Value → Nat → mH → Prop} {index ci j i : Nat} {t : FieldType} {fs : List Value} {v : Value} (hd : decode k.2.1 pc = .ok (.putfield index, 3)) (hf : g_fp k.1.cls index ci j t false) (hi : h i = some (.inr (ci, fs))) (hl : j < fs.length) (hv : g_fit t v) (K : G g d x y k (pc + 3) L st n (va_up h i (some (.inr (ci, fs.set j v)))) P) : G g d x y k pc L (v :: .ref i :: st) n h P := by
  intro p e R s m args below meth c H locs cells slots ls S B C F E
  obtain ⟨C0, T, N, ty, ⟨k1, k2, k3, k4⟩, hj, ⟨ref, f1, f2⟩, f3, f4, -⟩ := hf
  obtain ⟨hx, hb, -, -, -, -, hown, hts, hK, -⟩ := id S
  have hap := va_apart (own := k.1.cls) hts k2 ty k3 k4 hK k1
  obtain ⟨i1, i2, r, h1, cell, q1, q2, q3, q4⟩ := C.2.2 i _ hi
  have hr : r = (C0, T, N) := Option.some.inj (h1.symm.trans k1)
  subst hr
  obtain ⟨hS, hfc, kC, hkC, hkind⟩ := hK.1 ci _ k1
  obtain ⟨cf, kf, fi, f, hi9, hsl⟩ := hS j hj
  have hlay := hts _ (k2 _ (u_in_lay hj))
  unfold u_lay at hlay
  rw [if_neg (by rw [f4]; decide)] at hlay
  have hst := (u_facts hfc hkC (u_lays hts k2 hj) hi9).1
  have h6 := u_store hfc hkC hkind hlay hi9 ((k3 j hj).trans (by rw [f3])) (hv g).1 (hv g).2
  refine W.putK hx hb (f := f) ⟨hown, hts _ f1, ⟨_, _, _, g_same hts f2 _ hi9⟩, hst⟩ (by rw [q2]; exact h6) q1 q3 (by rw [hsl]; exact k2_hasslot (q4 j hj)) rfl rfl hd fun H1 e1 e2 e3 => ?_
  rw [hsl] at e1 ⊢
  refine K p e R s m args below meth c H1 _ cells slots ls S B (C.put hi ?_ e2 e3) (g_S.put F e2 e3 i1) E
  refine ⟨_, k1, ?_⟩
  show t_OB _ _ _ _ _ (vp_V ((fs.set j v).map (g_v g)))
  rw [List.map_set]
  exact t_OB.to (V := updV (vp_V (fs.map (g_v g))) j (g_v g v)) ⟨_, e1, q2, q3, t_set q4 hap hj _⟩ (fun a _ => vp_updV_set (by rw [List.length_map]; exact hl) _ a)
theorem G_putF {g : gT} {d x y : Nat} {k : mM} {pc : Nat} {L st : List Value} {n : Nat} {h : mH} {P : Option Value → Nat → mH → Prop} {index ci j i : Nat} {t : FieldType} {fs : List Value} {v : Value} (hd : decode k.2.1 pc = .ok (.putfield index, 3)) (hf : g_fp k.1.cls index ci j t true) (hin : k.1.name = "<init>") (hi : h i = some (.inr (ci, fs))) (hl : j < fs.length) (hv : g_fit t v) (K : G g d x y k (pc + 3) L st n (va_up h i (some (.inr (ci, fs.set j v)))) P) : G g d x y k pc L (v :: .ref i :: st) n h P := by
  intro p e R s m args below meth c H locs cells slots ls S B C F E
  obtain ⟨C0, T, N, ty, ⟨k1, k2, k3, k4⟩, hj, ⟨ref, f1, f2⟩, f3, f4, f5⟩ := hf
  have hdecl := f5 rfl
  obtain ⟨hx, hb, -, -, -, hnm, hown, hts, hK, -⟩ := id S
  have hap := va_apart (own := k.1.cls) hts k2 ty k3 k4 hK k1
  obtain ⟨i1, i2, r, h1, cell, q1, q2, q3, q4⟩ := C.2.2 i _ hi
  have hr : r = (C0, T, N) := Option.some.inj (h1.symm.trans k1)
  subst hr
  obtain ⟨hS, hfc, kC, hkC, hkind⟩ := hK.1 ci _ k1
  obtain ⟨cf, kf, fi, f, hi9, hsl⟩ := hS j hj
  have hlay := hts _ (k2 _ (u_in_lay hj))
  unfold u_lay at hlay
  rw [if_pos f4] at hlay
  have hst := (u_facts hfc hkC (u_lays hts k2 hj) hi9).1
  have hcf : m.cls = cf := by
    obtain ⟨_, _, c', _, _, _, -, -, hf', -, -, -, hown2, -⟩ := Cond.laysFinal_spec hlay
    have e1 : c' = cf := by have := hi9.symm.trans hf'; simp at this; exact this.1.symm
    rw [hdecl] at hown2
    rw [← e1]; exact Option.some.inj (hown.symm.trans hown2)
  have h6 := u_fits hfc hkC hkind (Or.inr hlay) hi9 ((k3 j hj).trans (by rw [f3])) (hv g).1 (hv g).2
  refine W.putFinK hx hb hown (hts _ f1) (g_same hts f2 _ hi9) hst hcf (hnm.trans hin) (by rw [q2]; exact h6) q1 q3 (by rw [hsl]; exact k2_hasslot (q4 j hj)) rfl rfl hd fun H1 e1 e2 e3 => ?_
  rw [hsl] at e1 ⊢
  refine K p e R s m args below meth c H1 _ cells slots ls S B (C.put hi ?_ e2 e3) (g_S.put F e2 e3 i1) E
  refine ⟨_, k1, ?_⟩
  show t_OB _ _ _ _ _ (vp_V ((fs.set j v).map (g_v g)))
  rw [List.map_set]
  exact t_OB.to (V := updV (vp_V (fs.map (g_v g))) j (g_v g v)) ⟨_, e1, q2, q3, t_set q4 hap hj _⟩ (fun a _ => vp_updV_set (by rw [List.length_map]; exact hl) _ a)
theorem g_B.use {R : Room} {d x y cells slots a b : Nat} (h : g_B R d x y cells slots) (ha : a ≤ x) (hb : b ≤ y) : g_B R d (x - a) (y - b) (cells + a) (slots + b) ∧ cells + a ≤ R.cells ∧ slots + b ≤ R.slots := by
  obtain ⟨h1, h2, h3, h4⟩ := h
  exact ⟨⟨h1, h2, by omega, by omega⟩, by omega, by omega⟩
/-- a class that a method makes, by pool entry index of class own -/
def g_nk (own : String) (index ci N : Nat) (fs : List Value) : Prop := ∃ (C : String) (T : u_T) (ty : Nat → FieldType), g_k ci C T N ty ∧ Cond.classLink own index C ∈ TB ∧ Cond.instantiable C N ∈ TB ∧ Cond.initialized C ∈ TB ∧ (∀ j, j < N → defaultValue (ty j) = vp_V fs j) ∧ ∀ g : gT, fs.map (g_v g) = fs
theorem G_new {g : gT} {d x y : Nat} {k : mM} {pc : Nat} {L st : List Value} {n : Nat} {h : mH} {P : Option Value → Nat → mH → Prop} {index ci N : Nat} {fs : List Value} (hd : decode k.2.1 pc = .ok (.new index, 3)) (hf : g_nk k.1.cls index ci N fs) (h1 : 1 ≤ x) (h2 : N ≤ y) (K : G g d (x - 1) (y - N) k (pc + 3) L (.ref n :: st) (n + 1) (va_up h n (some (.inr (ci, fs)))) P) : G g d x y k pc L st n h P := by
  intro p e R s m args below meth c H locs cells slots ls S B C F E
  obtain ⟨C0, T, ty, ⟨k1, k2, k3, k4⟩, c1, c2, c3, c4, c5⟩ := hf
  obtain ⟨hx, hb, -, -, -, hnm, hown, hts, hK, -⟩ := id S
  have hKn := hK.1 ci _ k1
  obtain ⟨B1, B2, B3⟩ := B.use h1 h2
  refine W.newcK hx hb hown (hts _ c1) (hts _ c2) (hts _ c3) rfl hd B2 B3 hKn.2.1 rfl fun H1 kC hkC e1 z1 o1 => ?_
  obtain ⟨C1, ea⟩ := C.new (c := .inr (ci, fs)) ⟨_, k1, by rw [c5 g]; exact (u_born ty hts k2 hKn hkC e1 k3).to c4⟩ z1 o1
  have := K p e R s m args below meth c H1 locs _ _ ls S B1 C1 (g_S.new F z1 o1) E
  rw [List.map_cons, show g_v g (.ref n) = .ref H.size from by rw [← ea]; rfl] at this
  exact this
theorem G_iald {g : gT} {d x y : Nat} {k : mM} {pc : Nat} {L st : List Value} {n : Nat} {h : mH} {P : Option Value → Nat → mH → Prop} {i N : Nat} {f : Nat → Int32} {a : Int32} (hd : decode k.2.1 pc = .ok (.iaload, 1)) (hi : h i = some (.inl (0, N, .inl f))) (ha : vp_in a N) (K : G g d x y k (pc + 1) L (.int (f a.toNatClampNeg) :: st) n h P) : G g d x y k pc L (.int a :: .ref i :: st) n h P := by
  intro p e R s m args below meth c H locs cells slots ls S B C F E
  exact va_iald (D := g_D g) (cl := g_cl) S.1 S.2.1 S.2.2.2.2.2.2.2.2.1 (g_P C hi) 0 0 (n := N) (f := f) rfl rfl ha hd (K p e R s m args below meth c H locs cells slots ls S B C F E)
theorem G_bald {g : gT} {d x y : Nat} {k : mM} {pc : Nat} {L st : List Value} {n : Nat} {h : mH} {P : Option Value → Nat → mH → Prop} {i N : Nat} {f : Nat → Int32} {a : Int32} (hd : decode k.2.1 pc = .ok (.baload, 1)) (hi : h i = some (.inl (1, N, .inl f))) (ha : vp_in a N) (K : G g d x y k (pc + 1) L (.int (f a.toNatClampNeg) :: st) n h P) : G g d x y k pc L (.int a :: .ref i :: st) n h P := by
  intro p e R s m args below meth c H locs cells slots ls S B C F E
  exact va_bald (D := g_D g) (cl := g_cl) S.1 S.2.1 S.2.2.2.2.2.2.2.2.1 (g_P C hi) 0 1 (n := N) (f := f) rfl rfl ha hd (K p e R s m args below meth c H locs cells slots ls S B C F E)
theorem G_zald {g : gT} {d x y : Nat} {k : mM} {pc : Nat} {L st : List Value} {n : Nat} {h : mH} {P : Option Value → Nat → mH → Prop} {i N : Nat} {f : Nat → Int32} {a : Int32} (hd : decode k.2.1 pc = .ok (.baload, 1)) (hi : h i = some (.inl (2, N, .inl f))) (ha : vp_in a N) (K : G g d x y k (pc + 1) L (.int (f a.toNatClampNeg) :: st) n h P) : G g d x y k pc L (.int a :: .ref i :: st) n h P := by
  intro p e R s m args below meth c H locs cells slots ls S B C F E
  exact va_zald (D := g_D g) (cl := g_cl) S.1 S.2.1 S.2.2.2.2.2.2.2.2.1 (g_P C hi) 0 2 (n := N) (f := f) rfl rfl ha hd (K p e R s m args below meth c H locs cells slots ls S B C F E)
theorem G_lald {g : gT} {d x y : Nat} {k : mM} {pc : Nat} {L st : List Value} {n : Nat} {h : mH} {P : Option Value → Nat → mH → Prop} {i N : Nat} {f : Nat → Int64} {a : Int32} (hd : decode k.2.1 pc = .ok (.laload, 1)) (hi : h i = some (.inl (3, N, .inr (.inl f)))) (ha : vp_in a N) (K : G g d x y k (pc + 1) L (.long (f a.toNatClampNeg) :: st) n h P) : G g d x y k pc L (.int a :: .ref i :: st) n h P := by
  intro p e R s m args below meth c H locs cells slots ls S B C F E
  exact va_lald (D := g_D g) (cl := g_cl) S.1 S.2.1 S.2.2.2.2.2.2.2.2.1 (g_P C hi) 0 3 (n := N) (f := f) rfl rfl ha hd (K p e R s m args below meth c H locs cells slots ls S B C F E)
theorem G_aald {g : gT} {d x y : Nat} {k : mM} {pc : Nat} {L st : List Value} {n : Nat} {h : mH} {P : Option Value → Nat → mH → Prop} {i N kd : Nat} {C0 : String} {f : Nat → Option Nat} {a : Int32} (hd : decode k.2.1 pc = .ok (.aaload, 1)) (hk : ∀ g : gT, (g_tys g)[kd]? = some (g_c g kd, .object C0)) (hi : h i = some (.inl (kd, N, .inr (.inr (.inr (.inr f)))))) (ha : vp_in a N) (K : G g d x y k (pc + 1) L (va_rf (f a.toNatClampNeg) :: st) n h P) : G g d x y k pc L (.int a :: .ref i :: st) n h P := by
  intro p e R s m args below meth c H locs cells slots ls S B C F E
  have K1 := K p e R s m args below meth c H locs cells slots ls S B C F E
  have e : g_v g (va_rf (f a.toNatClampNeg)) = va_rf ((f a.toNatClampNeg).map (g_ad g)) := by cases f a.toNatClampNeg <;> rfl
  rw [List.map_cons, e] at K1
  exact va_aldq (D := g_D g) (cl := g_cl) S.1 S.2.1 S.2.2.2.2.2.2.2.2.1 (g_P C hi) 0 kd (n := N) (f := fun j => (f j).map (g_ad g)) rfl (hk g) ha hd K1
theorem G_iast {g : gT} {d x y : Nat} {k : mM} {pc : Nat} {L st : List Value} {n : Nat} {h : mH} {P : Option Value → Nat → mH → Prop} {i N : Nat} {f : Nat → Int32} {a : Int32} {b : Int32} (hd : decode k.2.1 pc = .ok (.iastore, 1)) (hi : h i = some (.inl (0, N, .inl f))) (ha : vp_in a N) (K : G g d x y k (pc + 1) L st n (va_up h i (some (.inl (0, N, .inl (upd f a.toNatClampNeg b))))) P) : G g d x y k pc L (.int b :: .int a :: .ref i :: st) n h P := by
  intro p e R s m args below meth c H locs cells slots ls S B C F E
  have i1 := (C.2.2 i _ hi).1
  refine W.iast S.1 S.2.1 (C.2.2 i _ hi).2.2 ((S.2.2.2.2.2.2.2.2.1.2 0 _ rfl).1 N (fun j => .int (f j))) (fun q => by cases q) (by show ¬ (a < 0 ∨ (arrV _ _ _).slots.size ≤ _); rw [arrV_size]; exact ha) rfl rfl hd fun H1 e1 e2 e3 => ?_
  refine K p e R s m args below meth c H1 _ cells slots ls S B (C.put hi ?_ e2 e3) (g_S.put F e2 e3 i1) E
  show H1[_]? = some (arrV (g_c g 0) N (fun j => .int ((upd f a.toNatClampNeg b) j)))
  rw [e1]
  show some ((arrV (g_c g 0) N (fun j => .int (f j))).setSlot _ _) = _
  rw [arrV_store]
  congr 2
  funext q
  by_cases hq : q = a.toNatClampNeg
  · subst hq; simp [updV, upd, vp_updL]
  · simp [updV, upd, vp_updL, hq]
theorem G_bast {g : gT} {d x y : Nat} {k : mM} {pc : Nat} {L st : List Value} {n : Nat} {h : mH} {P : Option Value → Nat → mH → Prop} {i N : Nat} {f : Nat → Int32} {a : Int32} {b : Int32} (hd : decode k.2.1 pc = .ok (.bastore, 1)) (hi : h i = some (.inl (1, N, .inl f))) (ha : vp_in a N) (K : G g d x y k (pc + 1) L st n (va_up h i (some (.inl (1, N, .inl (upd f a.toNatClampNeg (vp_nar .byte b)))))) P) : G g d x y k pc L (.int b :: .int a :: .ref i :: st) n h P := by
  intro p e R s m args below meth c H locs cells slots ls S B C F E
  have i1 := (C.2.2 i _ hi).1
  refine W.bast S.1 S.2.1 (C.2.2 i _ hi).2.2 ((S.2.2.2.2.2.2.2.2.1.2 1 _ rfl).1 N (fun j => .int (f j))) (fun q => by cases q) (by show ¬ (a < 0 ∨ (arrV _ _ _).slots.size ≤ _); rw [arrV_size]; exact ha) rfl rfl hd fun H1 e1 e2 e3 => ?_
  refine K p e R s m args below meth c H1 _ cells slots ls S B (C.put hi ?_ e2 e3) (g_S.put F e2 e3 i1) E
  show H1[_]? = some (arrV (g_c g 1) N (fun j => .int ((upd f a.toNatClampNeg (vp_nar .byte b)) j)))
  rw [e1]
  rw [show narrow .byte (.int b) = .int (vp_nar .byte b) from rfl]
  show some ((arrV (g_c g 1) N (fun j => .int (f j))).setSlot _ _) = _
  rw [arrV_store]
  congr 2
  funext q
  by_cases hq : q = a.toNatClampNeg
  · subst hq; simp [updV, upd, vp_updL]
  · simp [updV, upd, vp_updL, hq]
theorem G_zast {g : gT} {d x y : Nat} {k : mM} {pc : Nat} {L st : List Value} {n : Nat} {h : mH} {P : Option Value → Nat → mH → Prop} {i N : Nat} {f : Nat → Int32} {a : Int32} {b : Int32} (hd : decode k.2.1 pc = .ok (.bastore, 1)) (hi : h i = some (.inl (2, N, .inl f))) (ha : vp_in a N) (K : G g d x y k (pc + 1) L st n (va_up h i (some (.inl (2, N, .inl (upd f a.toNatClampNeg (vp_nar .boolean b)))))) P) : G g d x y k pc L (.int b :: .int a :: .ref i :: st) n h P := by
  intro p e R s m args below meth c H locs cells slots ls S B C F E
  have i1 := (C.2.2 i _ hi).1
  refine W.zast S.1 S.2.1 (C.2.2 i _ hi).2.2 ((S.2.2.2.2.2.2.2.2.1.2 2 _ rfl).1 N (fun j => .int (f j))) (fun q => by cases q) (by show ¬ (a < 0 ∨ (arrV _ _ _).slots.size ≤ _); rw [arrV_size]; exact ha) rfl rfl hd fun H1 e1 e2 e3 => ?_
  refine K p e R s m args below meth c H1 _ cells slots ls S B (C.put hi ?_ e2 e3) (g_S.put F e2 e3 i1) E
  show H1[_]? = some (arrV (g_c g 2) N (fun j => .int ((upd f a.toNatClampNeg (vp_nar .boolean b)) j)))
  rw [e1]
  rw [show narrow .boolean (.int b) = .int (vp_nar .boolean b) from rfl]
  show some ((arrV (g_c g 2) N (fun j => .int (f j))).setSlot _ _) = _
  rw [arrV_store]
  congr 2
  funext q
  by_cases hq : q = a.toNatClampNeg
  · subst hq; simp [updV, upd, vp_updL]
  · simp [updV, upd, vp_updL, hq]
theorem G_last {g : gT} {d x y : Nat} {k : mM} {pc : Nat} {L st : List Value} {n : Nat} {h : mH} {P : Option Value → Nat → mH → Prop} {i N : Nat} {f : Nat → Int64} {a : Int32} {b : Int64} (hd : decode k.2.1 pc = .ok (.lastore, 1)) (hi : h i = some (.inl (3, N, .inr (.inl f)))) (ha : vp_in a N) (K : G g d x y k (pc + 1) L st n (va_up h i (some (.inl (3, N, .inr (.inl (vp_updL f a.toNatClampNeg b)))))) P) : G g d x y k pc L (.long b :: .int a :: .ref i :: st) n h P := by
  intro p e R s m args below meth c H locs cells slots ls S B C F E
  have i1 := (C.2.2 i _ hi).1
  refine W.last S.1 S.2.1 (C.2.2 i _ hi).2.2 ((S.2.2.2.2.2.2.2.2.1.2 3 _ rfl).1 N (fun j => .long (f j))) (fun q => by cases q) (by show ¬ (a < 0 ∨ (arrV _ _ _).slots.size ≤ _); rw [arrV_size]; exact ha) rfl rfl hd fun H1 e1 e2 e3 => ?_
  refine K p e R s m args below meth c H1 _ cells slots ls S B (C.put hi ?_ e2 e3) (g_S.put F e2 e3 i1) E
  show H1[_]? = some (arrV (g_c g 3) N (fun j => .long ((vp_updL f a.toNatClampNeg b) j)))
  rw [e1]
  show some ((arrV (g_c g 3) N (fun j => .long (f j))).setSlot _ _) = _
  rw [arrV_store]
  congr 2
  funext q
  by_cases hq : q = a.toNatClampNeg
  · subst hq; simp [updV, upd, vp_updL]
  · simp [updV, upd, vp_updL, hq]
theorem G_alen {g : gT} {d x y : Nat} {k : mM} {pc : Nat} {L st : List Value} {n : Nat} {h : mH} {P : Option Value → Nat → mH → Prop} {i N kd : Nat} {f} {t : FieldType} (hd : decode k.2.1 pc = .ok (.arraylength, 1)) (hk : ∀ g : gT, (g_tys g)[kd]? = some (g_c g kd, t)) (hi : h i = some (.inl (kd, N, f))) (K : G g d x y k (pc + 1) L (.int (nI N) :: st) n h P) : G g d x y k pc L (.ref i :: st) n h P := by
  intro p e R s m args below meth c H locs cells slots ls S B C F E
  refine va_alen (D := g_D g) (cl := g_cl) S.1 S.2.1 S.2.2.2.2.2.2.2.2.1 (g_P C hi) 0 kd (x := g_a g (N, f)) rfl (hk g) ?_ hd (K p e R s m args below meth c H locs cells slots ls S B C F E)
  show Int32.ofNat (g_a g (N, f)).1 = nI N
  rcases f with f | f | f | f | f <;> rfl
theorem G_alenS {g : gT} {d x y : Nat} {k : mM} {pc : Nat} {L st : List Value} {n : Nat} {h : mH} {P : Option Value → Nat → mH → Prop} (hd : decode k.2.1 pc = .ok (.arraylength, 1)) (K : G g d x y k (pc + 1) L (.int (nI (g_n g)) :: st) n h P) : G g d x y k pc L (.ref 0 :: st) n h P := by
  intro p e R s m args below meth c H locs cells slots ls S B C F E
  obtain ⟨a1, a2, a3, a4, a5, a6, a7, a8, a9, a10, a11⟩ := S.2.2.2.2.2.2.2.2.2
  have h0 := a10 0 (by omega)
  exact va_slen (b := g_o g 0) S.1 S.2.1 a9 (by omega) (by show ¬ g_z g ≤ _; omega) F hd (K p e R s m args below meth c H locs cells slots ls S B C F E)
theorem G_aldS {g : gT} {d x y : Nat} {k : mM} {pc : Nat} {L st : List Value} {n : Nat} {h : mH} {P : Option Value → Nat → mH → Prop} {a : Int32} (hd : decode k.2.1 pc = .ok (.iaload, 1)) (ha : vp_in a (g_n g)) (K : G g d x y k (pc + 1) L (.int (g_x g a.toNatClampNeg) :: st) n h P) : G g d x y k pc L (.int a :: .ref 0 :: st) n h P := by
  intro p e R s m args below meth c H locs cells slots ls S B C F E
  obtain ⟨a1, a2, a3, a4, a5, a6, a7, a8, a9, a10, a11⟩ := S.2.2.2.2.2.2.2.2.2
  have h0 := a10 0 (by omega)
  exact va_sld (b := g_o g 0) S.1 S.2.1 a9 (by omega) (by show ¬ g_z g ≤ _; omega) F ha hd (K p e R s m args below meth c H locs cells slots ls S B C F E)
theorem G_alenE {g : gT} {d x y : Nat} {k : mM} {pc : Nat} {L st : List Value} {n : Nat} {h : mH} {P : Option Value → Nat → mH → Prop} (hd : decode k.2.1 pc = .ok (.arraylength, 1)) (K : G g d x y k (pc + 1) L (.int 0 :: st) n h P) : G g d x y k pc L (.ref 1 :: st) n h P := by
  intro p e R s m args below meth c H locs cells slots ls S B C F E
  obtain ⟨a1, a2, a3, a4, a5, a6, a7, a8, a9, a10, a11⟩ := S.2.2.2.2.2.2.2.2.2
  exact va_tlen S.1 S.2.1 a3 F (v := 0) rfl hd (K p e R s m args below meth c H locs cells slots ls S B C F E)
theorem G_getsE {g : gT} {d x y : Nat} {k : mM} {pc : Nat} {L st : List Value} {n : Nat} {h : mH} {P : Option Value → Nat → mH → Prop} {index : Nat} (hd : decode k.2.1 pc = .ok (.getstatic index, 3)) (hl : Cond.fieldLink k.1.cls index "java/util/ArrayList" "DEFAULTCAPACITY_EMPTY_ELEMENTDATA" "[Ljava/lang/Object;" ∈ TB) (K : G g d x y k (pc + 3) L (.ref 1 :: st) n h P) : G g d x y k pc L st n h P := by
  intro p e R s m args below meth c H locs cells slots ls S B C F E
  obtain ⟨a1, a2, a3, a4, a5, a6, a7, a8, a9, a10, a11⟩ := S.2.2.2.2.2.2.2.2.2
  obtain ⟨hx, hb, -, -, -, hnm, hown, hts, hK, -⟩ := id S
  exact va_gets hx hb a2 F hown (hts _ hl) (fun _ h9 => h9) hd (K p e R s m args below meth c H locs cells slots ls S B C F E)
theorem G_newa {g : gT} {d x y : Nat} {k : mM} {pc : Nat} {L st : List Value} {n : Nat} {h : mH} {P : Option Value → Nat → mH → Prop} {at9 : ArrayType} {t : FieldType} {kd N : Nat} {f} {a : Int32} (hd : decode k.2.1 pc = .ok (.newarray at9, 2)) (ht : newarray.typeOf at9 = t) (hw : Cond.arrayClass t ∈ TB) (hk : ∀ g : gT, (g_tys g)[kd]? = some (g_c g kd, t)) (hr : ∀ U c, va_RA U c t → U.vm.findClass ("[" ++ t.toString) = some c) (hf : ∀ c, vp_cell c (N, f) = arrV c N (fun _ => defaultValue t)) (hg : ∀ g : gT, g_a g (N, f) = (N, f)) (h0 : ¬ a < 0) (hN : a.toNatClampNeg = N) (hb8 : N * 8 ≤ 536870912) (hcb : componentBytes t ≤ 8) (h1 : 1 ≤ x) (h2 : N ≤ y) (K : G g d (x - 1) (y - N) k (pc + 2) L (.ref n :: st) (n + 1) (va_up h n (some (.inl (kd, N, f)))) P) : G g d x y k pc L (.int a :: st) n h P := by
  intro p e R s m args below meth c H locs cells slots ls S B C F E
  subst ht
  obtain ⟨hx, hb, -, -, -, hnm, hown, hts, hK, -⟩ := id S
  obtain ⟨B1, B2, B3⟩ := B.use h1 h2
  refine va_newaK hx hb (hts _ hw) rfl hd rfl h0 hN (Nat.le_trans (Nat.mul_le_mul_left _ hcb) hb8) B2 B3 rfl fun H1 cA e1 z1 o1 hAr hNm => ?_
  have ec : cA = g_c g kd := Option.some.inj (hNm.symm.trans (hr _ _ (hK.2 kd _ (hk g)).2))
  subst ec
  obtain ⟨C1, ea⟩ := C.new (c := .inl (kd, N, f)) (by show H1[H.size]? = some (vp_cell _ (g_a g (N, f))); rw [hg, hf]; exact e1) z1 o1
  have := K p e R s m args below meth c H1 locs _ _ ls S B1 C1 (g_S.new F z1 o1) E
  rw [List.map_cons, show g_v g (.ref n) = .ref H.size from by rw [← ea]; rfl] at this
  exact this
theorem G_anew {g : gT} {d x y : Nat} {k : mM} {pc : Nat} {L st : List Value} {n : Nat} {h : mH} {P : Option Value → Nat → mH → Prop} {index kd N : Nat} {C0 : String} {a : Int32} (hd : decode k.2.1 pc = .ok (.anewarray index, 3)) (hl : Cond.classLink k.1.cls index C0 ∈ TB) (hk : ∀ g : gT, (g_tys g)[kd]? = some (g_c g kd, .object C0)) (hC0 : C0 = "java/lang/Object" ∨ C0 = "ToolHouse$Ask") (h0 : ¬ a < 0) (hN : a.toNatClampNeg = N) (hb4 : N * 4 ≤ 536870912) (h1 : 1 ≤ x) (h2 : N ≤ y) (K : G g d (x - 1) (y - N) k (pc + 3) L (.ref n :: st) (n + 1) (va_up h n (some (.inl (kd, N, .inr (.inr (.inr (.inr (fun _ => none)))))))) P) : G g d x y k pc L (.int a :: st) n h P := by
  intro p e R s m args below meth c H locs cells slots ls S B C F E
  subst hN
  obtain ⟨hx, hb, -, -, -, hnm, hown, hts, hK, hO⟩ := id S
  obtain ⟨a1, a2, a3, a4, a5, a6, a7, a8, a9, a10, a11, b1, b2, b3, b4, b5, b6⟩ := hO
  obtain ⟨B1, B2, B3⟩ := B.use h1 h2
  have hover : va_AO C0 s := by rcases hC0 with rfl | rfl; exact a5; exact a6
  refine W.anew hx hb hown (hts _ hl) (va_AO.use hover) rfl hd rfl h0 hb4 B2 B3 fun cA kA comp f1 f2 f3 f4 => ?_
  generalize hH1 : H.push ({ cls := cA, slots := Array.replicate a.toNatClampNeg .null, vm := .none } : Cell) = H1
  have z1 : H1.size = H.size + 1 := by rw [← hH1, Array.size_push]
  have e1 : H1[H.size]? = some (arrV cA a.toNatClampNeg (fun _ => .null)) := by rw [← hH1, Array.getElem?_push_size, ← arrV_new]
  have o1 : ∀ q : Nat, q < H.size → H1[q]? = H[q]? := fun q hq => by rw [← hH1, Array.getElem?_push, if_neg (Nat.ne_of_lt hq)]
  obtain ⟨kA2, comp2, r1, r2, r3, r4⟩ := (hK.2 kd _ (hk g)).2
  have ec : cA = g_c g kd := Option.some.inj (f1.symm.trans r4)
  subst ec
  obtain ⟨C1, ea⟩ := C.new (c := .inl (kd, a.toNatClampNeg, .inr (.inr (.inr (.inr (fun _ => none)))))) (by show H1[H.size]? = some (arrV _ _ (fun j => va_rf (Option.map (g_ad g) none))); exact e1) z1 o1
  have := K p e R s m args below meth c H1 locs _ _ ls S B1 C1 (g_S.new F z1 o1) E
  rw [List.map_cons, show g_v g (.ref n) = .ref H.size from by rw [← ea]; rfl] at this
  exact this
/-- an object of class ci stored into an array of references of kind kd -/
theorem G_aast {g : gT} {d x y : Nat} {k : mM} {pc : Nat} {L st : List Value} {n : Nat} {h : mH} {P : Option Value → Nat → mH → Prop} {i i2 N kd ci : Nat} {C0 C1 : String} {fs : List Value} {r : vw_C} {f : Nat → Option Nat} {a : Int32} (hd : decode k.2.1 pc = .ok (.aastore, 1)) (hk : ∀ g : gT, (g_tys g)[kd]? = some (g_c g kd, .object C0)) (hc : g_cl[ci]? = some r) (hC1 : r.1 = C1) (hcs : C1 = C0 ∨ Cond.castable C1 C0 ∈ NW) (hi : h i = some (.inl (kd, N, .inr (.inr (.inr (.inr f)))))) (h2 : h i2 = some (.inr (ci, fs))) (ha : vp_in a N) (K : G g d x y k (pc + 1) L st n (va_up h i (some (.inl (kd, N, .inr (.inr (.inr (.inr (va_up f a.toNatClampNeg (some i2))))))))) P) : G g d x y k pc L (.ref i2 :: .int a :: .ref i :: st) n h P := by
  intro p e R s m args below meth c H locs cells slots ls S B C F E
  subst hC1
  obtain ⟨hx, hb, -, -, -, hnm, hown, hts, hK, hO⟩ := id S
  have hlt : a.toNatClampNeg < N := Nat.not_le.mp fun q => ha (Or.inr q)
  have h0 : ¬ a < 0 := fun q => ha (Or.inl q)
  obtain ⟨i1, -, hci⟩ := C.2.2 i _ hi
  obtain ⟨-, -, r', hr', cellV, g1, g2, g3, -⟩ := C.2.2 i2 _ h2
  have hcls := (hK.1 ci r hc).2
  obtain ⟨kA, comp, k1, k2, k3, -⟩ := (hK.2 kd _ (hk g)).2
  obtain ⟨kE, hkE, -⟩ := Vm.findClass_spec k3
  obtain ⟨kC, hkC, -⟩ := hcls.2
  have hasg : s.vm.assignable ((g_D g).1 ci) comp = true := by
    rcases hcs with hcs | hcs
    · rw [hcs] at hcls
      exact vb_asgS comp _ k3 hcls.1
    · exact vb_asgC (hO.1 _ hcs) comp _ k3 hcls.1
  refine W.aast hx hb hci (fun q h => by cases h) (fun h => by cases h) k1 k2 rfl hkE ⟨h0, by show _ < (arrV _ _ _).slots.size; rw [arrV_size]; exact hlt⟩ g1 (fun q h => by rw [g3] at h; cases h) (by rw [g2]; exact hkC) (by rw [g2]; exact hasg) rfl rfl hd fun H1 e1 e2 e3 => ?_
  refine K p e R s m args below meth c H1 _ cells slots ls S B (C.put hi ?_ e2 e3) (g_S.put F e2 e3 i1) E
  show H1[_]? = some (arrV (g_c g kd) N (fun j => va_rf ((va_up f a.toNatClampNeg (some i2) j).map (g_ad g))))
  rw [e1]
  show some ((arrV (g_c g kd) N (fun j => va_rf ((f j).map (g_ad g)))).setSlot _ _) = _
  rw [arrV_store]
  congr 2
  funext q
  by_cases hq : q = a.toNatClampNeg
  · subst hq; simp [updV, va_up, va_rf]
  · simp [updV, va_up, hq]
theorem G_ifnull {g : gT} {d x y : Nat} {k : mM} {pc : Nat} {L st : List Value} {n : Nat} {h : mH} {P : Option Value → Nat → mH → Prop} {i : Nat} {off : Int} (hd : decode k.2.1 pc = .ok (.ifnull off, 3)) (K : G g d x y k (pc + 3) L (st) n h P) : G g d x y k pc L (.ref i :: st) n h P := by
  intro p e R s m args below meth c H locs cells slots ls S B C F E
  exact lv_ifnull S.1 S.2.1 hd  (K p e R s m args below meth c H locs cells slots ls S B C F E)
theorem G_ifnullN {g : gT} {d x y : Nat} {k : mM} {pc : Nat} {L st : List Value} {n : Nat} {h : mH} {P : Option Value → Nat → mH → Prop} {off : Int} {tgt : Nat} (hd : decode k.2.1 pc = .ok (.ifnull off, 3)) (ht : (pc : Int) + off = (tgt : Int)) (K : G g d x y k tgt L (st) n h P) : G g d x y k pc L (.null :: st) n h P := by
  intro p e R s m args below meth c H locs cells slots ls S B C F E
  exact lv_ifnullN S.1 S.2.1 hd ht (K p e R s m args below meth c H locs cells slots ls S B C F E)
theorem G_ifnonnull {g : gT} {d x y : Nat} {k : mM} {pc : Nat} {L st : List Value} {n : Nat} {h : mH} {P : Option Value → Nat → mH → Prop} {i : Nat} {off : Int} {tgt : Nat} (hd : decode k.2.1 pc = .ok (.ifnonnull off, 3)) (ht : (pc : Int) + off = (tgt : Int)) (K : G g d x y k tgt L (st) n h P) : G g d x y k pc L (.ref i :: st) n h P := by
  intro p e R s m args below meth c H locs cells slots ls S B C F E
  exact lv_ifnonnull S.1 S.2.1 hd ht (K p e R s m args below meth c H locs cells slots ls S B C F E)
theorem G_ifnonnullN {g : gT} {d x y : Nat} {k : mM} {pc : Nat} {L st : List Value} {n : Nat} {h : mH} {P : Option Value → Nat → mH → Prop} {off : Int} (hd : decode k.2.1 pc = .ok (.ifnonnull off, 3)) (K : G g d x y k (pc + 3) L (st) n h P) : G g d x y k pc L (.null :: st) n h P := by
  intro p e R s m args below meth c H locs cells slots ls S B C F E
  exact lv_ifnonnullN S.1 S.2.1 hd  (K p e R s m args below meth c H locs cells slots ls S B C F E)
theorem g_S.old {g : gT} {k : mM} {p : Program} {s : State} {m : MethodId} {args : Array Value} {meth : Method} {c : Code} (S : g_S g k p s m args meth c) : ∀ i, i < 6 → g_o g i < g_z g := by
  obtain ⟨-, -, -, -, -, -, -, -, -, -, -, -, -, -, -, -, -, -, a10, -⟩ := S
  exact a10
theorem g_rf (g : gT) (o : Option Nat) : g_v g (va_rf o) = va_rf (o.map (g_ad g)) := by cases o <;> rfl
theorem g_rf_cat (o : Option Nat) : (va_rf o).category = 1 := by cases o <;> rfl
/-- two references that can be told apart by their numbers -/
def g_ap (a b : Option Nat) : Prop := ∀ i j, a = some i → b = some j → i = j ∨ (8 ≤ i ∧ (8 ≤ j ∨ j < 6)) ∨ (8 ≤ j ∧ (8 ≤ i ∨ i < 6))
theorem g_ap_iff {g : gT} (ho : ∀ i, i < 6 → g_o g i < g_z g) {a b : Option Nat} (h : g_ap a b) : a.map (g_ad g) = b.map (g_ad g) ↔ a = b := by
  cases a with
  | none => cases b <;> simp
  | some i => cases b with
    | none => simp
    | some j =>
      simp only [Option.map_some, Option.some.injEq]
      constructor
      · intro e
        rcases h i j rfl rfl with h1 | h1 | h1
        · exact h1
        · obtain ⟨h1, h3⟩ := h1
          by_cases h2 : 8 ≤ j
          · exact g_ad_inj g h1 h2 e
          · have := ho j (by omega)
            rw [g_ad_own g h1, show g_ad g j = g_o g j by simp [g_ad, Nat.lt_of_not_le h2]] at e
            omega
        · obtain ⟨h1, h3⟩ := h1
          by_cases h2 : 8 ≤ i
          · exact g_ad_inj g h2 h1 e
          · have := ho i (by omega)
            rw [g_ad_own g h1, show g_ad g i = g_o g i by simp [g_ad, Nat.lt_of_not_le h2]] at e
            omega
      · intro e; rw [e]
theorem G_acmp_eq {g : gT} {d x y : Nat} {k : mM} {pc : Nat} {L st : List Value} {n : Nat} {h : mH} {P : Option Value → Nat → mH → Prop} {a b : Option Nat} {off : Int} {tgt : Nat} (hd : decode k.2.1 pc = .ok (.if_acmp .eq off, 3)) (ht : (pc : Int) + off = (tgt : Int)) (hap : g_ap a b) (K : a = b → G g d x y k tgt L st n h P) (K2 : ¬ a = b → G g d x y k (pc + 3) L st n h P) : G g d x y k pc L (va_rf b :: va_rf a :: st) n h P := by
  intro p e R s m args below meth c H locs cells slots ls S B C F E
  have ha := g_ap_iff (g_S.old S) hap
  rw [List.map_cons, List.map_cons, g_rf, g_rf]
  exact lv_acmp_eq S.1 S.2.1 hd ht (fun q => K (ha.mp q) p e R s m args below meth c H locs cells slots ls S B C F E) (fun q => K2 (fun z => q (ha.mpr z)) p e R s m args below meth c H locs cells slots ls S B C F E)
theorem G_acmp_ne {g : gT} {d x y : Nat} {k : mM} {pc : Nat} {L st : List Value} {n : Nat} {h : mH} {P : Option Value → Nat → mH → Prop} {a b : Option Nat} {off : Int} {tgt : Nat} (hd : decode k.2.1 pc = .ok (.if_acmp .ne off, 3)) (ht : (pc : Int) + off = (tgt : Int)) (hap : g_ap a b) (K : ¬ a = b → G g d x y k tgt L st n h P) (K2 : a = b → G g d x y k (pc + 3) L st n h P) : G g d x y k pc L (va_rf b :: va_rf a :: st) n h P := by
  intro p e R s m args below meth c H locs cells slots ls S B C F E
  have ha := g_ap_iff (g_S.old S) hap
  rw [List.map_cons, List.map_cons, g_rf, g_rf]
  exact lv_acmp_ne S.1 S.2.1 hd ht (fun q => K (fun z => q (ha.mpr z)) p e R s m args below meth c H locs cells slots ls S B C F E) (fun q => K2 (ha.mp q) p e R s m args below meth c H locs cells slots ls S B C F E)
theorem G_cast {g : gT} {d x y : Nat} {k : mM} {pc : Nat} {L st : List Value} {n : Nat} {h : mH} {P : Option Value → Nat → mH → Prop} {index i ci : Nat} {fs : List Value} {r : vw_C} (hd : decode k.2.1 pc = .ok (.checkcast index, 3)) (hc : g_cl[ci]? = some r) (hl : Cond.classLink k.1.cls index r.1 ∈ TB) (hi : h i = some (.inr (ci, fs))) (K : G g d x y k (pc + 3) L (.ref i :: st) n h P) : G g d x y k pc L (.ref i :: st) n h P := by
  intro p e R s m args below meth c H locs cells slots ls S B C F E
  obtain ⟨hx, hb, -, -, -, hnm, hown, hts, hK, hO⟩ := id S
  exact va_castS hx hb hown (hts _ hl) (hK.1 ci r hc).2 (va_recv hK (g_P C hi) (q0 := 0) (ci := ci) hc rfl) hd (K p e R s m args below meth c H locs cells slots ls S B C F E)
theorem G_castN {g : gT} {d x y : Nat} {k : mM} {pc : Nat} {L st : List Value} {n : Nat} {h : mH} {P : Option Value → Nat → mH → Prop} {index : Nat} (hd : decode k.2.1 pc = .ok (.checkcast index, 3)) (K : G g d x y k (pc + 3) L (.null :: st) n h P) : G g d x y k pc L (.null :: st) n h P := by
  intro p e R s m args below meth c H locs cells slots ls S B C F E
  exact lv_castN S.1 S.2.1 hd (K p e R s m args below meth c H locs cells slots ls S B C F E)
/-! returns -/
theorem G_iret {g : gT} {d x y : Nat} {k : mM} {pc : Nat} {L : List Value} {n : Nat} {h : mH} {P : Option Value → Nat → mH → Prop} {a : Int32} (hd : decode k.2.1 pc = .ok (.ireturn, 1)) (hr : k.2.2.2 = some .int) (hP : P (some (.int a)) n h) : G g d x y k pc L [.int a] n h P := by
  intro p e R s m args below meth c H locs cells slots ls S B C F E
  refine W.widen (k := R.cells) (n := R.slots) (by have := B.2.2.1; omega) (by have := B.2.2.2; omega) ?_
  exact W.iret S.1 S.2.1 (S.2.2.2.1.trans hr) (fun t ht hW => ⟨⟨some (.int a), n, h, rfl, hP, by rw [ht]; exact C⟩, F.F ht⟩) F.2.2 hd (hlocks := S.2.2.2.2.1)
theorem G_zret {g : gT} {d x y : Nat} {k : mM} {pc : Nat} {L : List Value} {n : Nat} {h : mH} {P : Option Value → Nat → mH → Prop} {a : Int32} {t : FieldType} (hd : decode k.2.1 pc = .ok (.ireturn, 1)) (hr : k.2.2.2 = some t) (hn : narrow t (.int a) = .int a) (hP : P (some (.int a)) n h) : G g d x y k pc L [.int a] n h P := by
  intro p e R s m args below meth c H locs cells slots ls S B C F E
  refine W.widen (k := R.cells) (n := R.slots) (by have := B.2.2.1; omega) (by have := B.2.2.2; omega) ?_
  exact W.zret S.1 S.2.1 (S.2.2.2.1.trans hr) hn (fun t ht hW => ⟨⟨some (.int a), n, h, rfl, hP, by rw [ht]; exact C⟩, F.F ht⟩) F.2.2 hd (hlocks := S.2.2.2.2.1)
theorem G_vret {g : gT} {d x y : Nat} {k : mM} {pc : Nat} {L : List Value} {n : Nat} {h : mH} {P : Option Value → Nat → mH → Prop} (hd : decode k.2.1 pc = .ok (.return_, 1)) (hr : k.2.2.2 = none) (hP : P none n h) : G g d x y k pc L [] n h P := by
  intro p e R s m args below meth c H locs cells slots ls S B C F E
  refine W.widen (k := R.cells) (n := R.slots) (by have := B.2.2.1; omega) (by have := B.2.2.2; omega) ?_
  exact W.vret S.1 S.2.1 (S.2.2.2.1.trans hr) (fun t ht hW => ⟨⟨none, n, h, rfl, hP, by rw [ht]; exact C⟩, F.F ht⟩) F.2.2 hd (hlocks := S.2.2.2.2.1)
theorem G_aret {g : gT} {d x y : Nat} {k : mM} {pc : Nat} {L : List Value} {n : Nat} {h : mH} {P : Option Value → Nat → mH → Prop} {o : Option Nat} {t : FieldType} (hd : decode k.2.1 pc = .ok (.areturn, 1)) (hr : k.2.2.2 = some t) (ht9 : (∃ z, t = .object z) ∨ ∃ z, t = .array z) (hP : P (some (va_rf o)) n h) : G g d x y k pc L [va_rf o] n h P := by
  intro p e R s m args below meth c H locs cells slots ls S B C F E
  refine W.widen (k := R.cells) (n := R.slots) (by have := B.2.2.1; omega) (by have := B.2.2.2; omega) ?_
  rw [List.map_cons, g_rf]
  exact W.aret S.1 S.2.1 (S.2.2.2.1.trans hr) ht9 (by cases o; exact Or.inl rfl; exact Or.inr ⟨_, rfl⟩) (fun t ht hW => ⟨⟨some (va_rf o), n, h, by rw [Option.map_some, g_rf], hP, by rw [ht]; exact C⟩, F.F ht⟩) F.2.2 hd (hlocks := S.2.2.2.2.1)
/-! ldc of numbers, switches, Object's constructor -/
theorem G_ldc {g : gT} {d x y : Nat} {k : mM} {pc : Nat} {L st : List Value} {n : Nat} {h : mH} {P : Option Value → Nat → mH → Prop} {index : Nat} {v : Int32} (hd : decode k.2.1 pc = .ok (.ldc index, 2)) (hl : Cond.constant k.1.cls index v ∈ TB) (K : G g d x y k (pc + 2) L (.int v :: st) n h P) : G g d x y k pc L st n h P := by
  intro p e R s m args below meth c H locs cells slots ls S B C F E
  obtain ⟨hx, hb, -, -, -, hnm, hown, hts, hK, hO⟩ := id S
  exact lv_ldc hx hb hown (hts _ hl) hd (K p e R s m args below meth c H locs cells slots ls S B C F E)
theorem G_ldcw {g : gT} {d x y : Nat} {k : mM} {pc : Nat} {L st : List Value} {n : Nat} {h : mH} {P : Option Value → Nat → mH → Prop} {index : Nat} {v : Int32} (hd : decode k.2.1 pc = .ok (.ldc_w index, 3)) (hl : Cond.constant k.1.cls index v ∈ TB) (K : G g d x y k (pc + 3) L (.int v :: st) n h P) : G g d x y k pc L st n h P := by
  intro p e R s m args below meth c H locs cells slots ls S B C F E
  obtain ⟨hx, hb, -, -, -, hnm, hown, hts, hK, hO⟩ := id S
  exact lv_ldcw hx hb hown (hts _ hl) hd (K p e R s m args below meth c H locs cells slots ls S B C F E)
theorem G_tsw {g : gT} {d x y : Nat} {k : mM} {pc : Nat} {L st : List Value} {n : Nat} {h : mH} {P : Option Value → Nat → mH → Prop} {dflt lo hi : Int} {offs : Array Int} {len tgt : Nat} {a : Int32} (hd : decode k.2.1 pc = .ok (.tableswitch dflt lo hi offs, len)) (ht : (pc : Int) + dflt = (tgt : Int)) (K0 : (a.toInt < lo ∨ hi < a.toInt) → G g d x y k tgt L st n h P) (K : ∀ j : Nat, a.toInt = lo + j → lo + j ≤ hi → ∃ (off : Int) (t2 : Nat), offs[j]? = some off ∧ (pc : Int) + off = (t2 : Int) ∧ G g d x y k t2 L st n h P) : G g d x y k pc L (.int a :: st) n h P := by
  intro p e R s m args below meth c H locs cells slots ls S B C F E
  by_cases h9 : a.toInt < lo ∨ hi < a.toInt
  · exact lv_tableOut S.1 S.2.1 hd h9 ht (K0 h9 p e R s m args below meth c H locs cells slots ls S B C F E)
  · have h1 : ¬ a.toInt < lo := fun q => h9 (Or.inl q)
    have h2 : ¬ hi < a.toInt := fun q => h9 (Or.inr q)
    have e1 : a.toInt = lo + ((a.toInt - lo).toNat : Nat) := by omega
    obtain ⟨off, t2, b1, b2, b3⟩ := K (a.toInt - lo).toNat e1 (by omega)
    exact lv_tableIn S.1 S.2.1 hd h1 h2 b1 b2 (b3 p e R s m args below meth c H locs cells slots ls S B C F E)
theorem G_objInit {g : gT} {d x y : Nat} {k : mM} {pc : Nat} {L st : List Value} {n : Nat} {h : mH} {P : Option Value → Nat → mH → Prop} {index i : Nat} (hd : decode k.2.1 pc = .ok (.invokespecial index, 3)) (hl : Cond.methodLink k.1.cls index objectInit ∈ TB) (hl2 : Cond.instanceMethod objectInit ∈ TB) (hl3 : Cond.code objectInit ⟨#[0xb1]⟩ 1 none ∈ TB) (hd1 : 1 ≤ d) (hs : (st.map fun v => v.category).sum ≤ 20) (K : G g d x y k (pc + 3) L st n h P) : G g d x y k pc L (.ref i :: st) n h P := by
  intro p e R s m args below meth c H locs cells slots ls S B C F E
  obtain ⟨hx, hb, hml, -, -, hnm, hown, hts, hK, hO⟩ := id S
  refine W.objInit hx hb hown (hts _ hl) (hts _ hl2) (hts _ hl3) rfl (by rw [hml]; exact E.2.1) rfl hd (Nat.le_trans hd1 B.1) ?_ (K p e R s m args below meth c H locs cells slots ls S B C F E)
  show 2 * 0 + ((st.map (g_v g)).map fun v => v.category).sum + 12 ≤ R.locals
  rw [g_cats]
  have := B.2.1
  omega
/-! calls -/
theorem g_run {g : gT} {p : Program} {e : Env} {R : Room} {s : State} {m : MethodId} {args : Array Value} {below : List Frame} {meth : Method} {c : Code} {H : Heap} {locs : List Loc} {cells slots mc ms pc : Nat} {ls : Array Slot} {rest st0 : List Value} {a : Array Value} {Q : State → Prop} {P : Option Value → Nat → mH → Prop}
    (hr : va_Run p g.1 e R s m args below meth c H locs cells slots mc ms (F0 m pc ls st0) rest (g_Q g P a) (g_A g)) (hS : va_S (g_A g) s.heap H locs)
    (kk : ∀ (v : Option Value) (n : Nat) (h : mH) (H1 : Heap) (locs1 : List Loc), P v n h → g_C g n h H1 → va_S (g_A g) s.heap H1 locs1 → W p g.1 e R s m args below meth c H1 locs1 (cells + mc) (slots + ms) Q (F0 m (pc + 3) ls ((v.map (g_v g)).toList ++ rest))) : W p g.1 e R s m args below meth c H locs cells slots Q (F0 m pc ls st0) := by
  intro T hT X
  obtain ⟨v, st₀, t, T', L, h0, X', hL, e1, e2, ⟨⟨v9, n, h, hv, hP, hC⟩, hz, hk⟩, st⟩ := hr T hT X
  cases hv
  rw [h0] at hz hk
  obtain ⟨t2, a1, b1⟩ := kk v9 n h T'.heap (locs ++ L) hP (by rw [e1]; exact hC)
    ⟨Nat.le_trans hS.1 (by rw [e1]; exact hz), fun q h1 h2 => by rw [e1, hk q (Nat.lt_of_lt_of_le h1 hS.1) h2]; exact hS.2.1 q h1 h2, fun q hq => by
      rcases List.mem_append.mp hq with h | h
      · exact hS.2.2 q h
      · exact hL q h⟩ T' rfl X'
  exact ⟨t2, st t2 a1, b1⟩
theorem g_blind {g : gT} {n : Nat} {h : mH} {av : List Value} : FrameBlind (va_Pc av (g_I g n h)) := fun a U g9 mk q => by
  obtain ⟨q0, qC, qK, qO⟩ := q
  exact ⟨q0, qC, va_K.moved (u := U) (U := U.calling g9 mk a) (Vm.Alike.refl U.vm) qK, g_O.same qO rfl rfl⟩
theorem g_pre {g : gT} {k : mM} {p : Program} {s : State} {m : MethodId} {args : Array Value} {meth : Method} {c : Code} {n : Nat} {h : mH} {H : Heap} {locs : List Loc} {av : List Value} (S : g_S g k p s m args meth c) (C : g_C g n h H) (F : va_S (g_A g) s.heap H locs) : ∀ U : State, U.heap = H → s.WarmedH U.vm → va_Pc av (g_I g n h) av.toArray U := fun U hU hW => by
  obtain ⟨-, -, -, -, -, -, -, -, hK, hO⟩ := S
  exact ⟨rfl, by rw [hU]; exact C, va_K.moved hW.alike hK, hO.go F hU hW⟩
theorem g_TB : GoodIn TB TB := fun w hw => ⟨hw, good_of_word (List.mem_filter.mp hw).2⟩
theorem g_good {c : mM} (hc : Cond.code c.1 c.2.1 c.2.2.1 c.2.2.2 ∈ TB) : GoodIn TB (g_ws c) := fun w hw => by
  rcases List.mem_cons.mp hw with h | h
  · rw [h]; exact g_TB _ hc
  · exact g_TB _ h
/-- what a call's site and its callee say in the tables -/
def g_cm (k c : mM) (index na : Nat) : Prop := Cond.code c.1 c.2.1 c.2.2.1 c.2.2.2 ∈ TB ∧ Cond.initialized c.1.cls ∈ TB ∧ Cond.methodLink k.1.cls index c.1 ∈ TB ∧ (c.1.cls ≠ "java/lang/invoke/MethodHandle" ∧ c.1.cls ≠ "java/lang/invoke/VarHandle" ∧ (parseMethodDescriptor c.1.desc).map (fun d => d.parameters.length) = some na) ∧ c.2.2.1 ≤ 20
def g_cn (k c : mM) (index na : Nat) (host : String) : Prop := Cond.code c.1 c.2.1 c.2.2.1 c.2.2.2 ∈ TB ∧ Cond.initialized c.1.cls ∈ TB ∧ Cond.methodLinkNest k.1.cls index c.1 host ∈ NW ∧ (c.1.cls ≠ "java/lang/invoke/MethodHandle" ∧ c.1.cls ≠ "java/lang/invoke/VarHandle" ∧ (parseMethodDescriptor c.1.desc).map (fun d => d.parameters.length) = some na) ∧ c.2.2.1 ≤ 20
theorem g_rm {R : Room} {d d' x y x' y' cells slots N : Nat} (B : g_B R d x y cells slots) (hd : d' + 1 ≤ d) (hN : N ≤ 20) : (g_R d' x' y').frames + 1 ≤ R.frames ∧ 8 + (N + 11) + (g_R d' x' y').locals ≤ R.locals := by
  obtain ⟨h1, h2, -, -⟩ := B
  refine ⟨Nat.le_trans hd h1, ?_⟩
  show 8 + (N + 11) + 40 * d' ≤ R.locals
  omega
theorem g_top (g : gT) (v : Option Value) (st : List Value) : (v.map (g_v g)).toList ++ st.map (g_v g) = (v.toList ++ st).map (g_v g) := by cases v <;> rfl
theorem G_callV {g : gT} {d x y : Nat} {k : mM} {pc : Nat} {L st : List Value} {n : Nat} {h : mH} {P : Option Value → Nat → mH → Prop} {c9 : mM} {d' x' y' index na b ci : Nat} {fs As st0 : List Value} {P' : Option Value → Nat → mH → Prop} (hM : M g d' x' y' c9 (.ref b :: As) n h P') (hd : decode k.2.1 pc = .ok (.invokevirtual index, 3)) (hc : g_cm k c9 index na) (hi9 : Cond.instanceMethod c9.1 ∈ TB) (hs9 : Cond.selects c9.1.cls c9.1 c9.1 ∈ TB) (hb : h b = some (.inr (ci, fs))) (hb2 : (g_cl[ci]?).map (·.1) = some c9.1.cls) (hs : st0 = As.reverse ++ .ref b :: st) (hn : As.length = na) (hw : (st.map fun v => v.category).sum ≤ 8) (hd9 : d' + 1 ≤ d) (hx9 : x' ≤ x) (hy9 : y' ≤ y)
    (K : ∀ v n' h', P' v n' h' → G g d (x - x') (y - y') k (pc + 3) L (v.toList ++ st) n' h' P) : G g d x y k pc L st0 n h P := by
  intro p e R s m args below meth c H locs cells slots ls S B C F E
  obtain ⟨c1, c2, c3, c4, c5⟩ := hc
  obtain ⟨hx, hb9, hml, -, -, hnm, hown, hts, hK, hO⟩ := id S
  obtain ⟨B1, B2, B3⟩ := B.use hx9 hy9
  obtain ⟨r, hr1, hr2⟩ : ∃ r, g_cl[ci]? = some r ∧ r.1 = c9.1.cls := by
    cases hg : g_cl[ci]? with
    | none => rw [hg] at hb2; cases hb2
    | some r => rw [hg] at hb2; exact ⟨r, rfl, Option.some.inj hb2⟩
  have hcell := va_recv hK (g_P C hb) (q0 := 0) (ci := ci) hr1 rfl
  rw [hr2] at hcell
  have hrun := va_runV (C := c9.1.cls) (As := As.map (g_v g)) (rest := st.map (g_v g)) (b := g_ad g b) (p := p) (l := g.1) (e := e) (R := R) (s := s) (m := m) (args := args) (below := below) (meth := meth) (c := c) (H := H) (locs := locs) (cells := cells) (slots := slots) (g := F0 m pc ls (st0.map (g_v g))) (nL := k.2.2.1) ⟨hx, hb9, hml, hown, hts⟩ hM ⟨callB_of na hts (g_good c1) rfl rfl rfl (hts _ c2) (hts _ c3) c4 (g_rm B hd9 c5), hts _ hi9, hts _ hs9⟩ ⟨g_blind, hcell, g_pre S C F⟩ rfl (by rw [List.length_map]; exact hn) E.2.1 (by show st0.map (g_v g) = _; rw [hs, List.map_append, List.map_reverse]; rfl) (by show 2 * 0 + _ ≤ 8; rw [g_cats]; omega) hd ⟨B2, B3⟩
  exact g_run hrun F (fun v n1 h1 H1 locs1 q1 q2 q3 => by rw [g_top]; exact K v n1 h1 q1 p e R s m args below meth c H1 locs1 _ _ ls S B1 q2 q3 E)
theorem G_callS {g : gT} {d x y : Nat} {k : mM} {pc : Nat} {L st : List Value} {n : Nat} {h : mH} {P : Option Value → Nat → mH → Prop} {c9 : mM} {d' x' y' index na : Nat} {As st0 : List Value} {P' : Option Value → Nat → mH → Prop} (hM : M g d' x' y' c9 As n h P') (hd : decode k.2.1 pc = .ok (.invokestatic index, 3)) (hc : g_cm k c9 index na) (hi9 : Cond.static c9.1 ∈ TB) (hs : st0 = As.reverse ++ st) (hn : As.length = na) (hw : (st.map fun v => v.category).sum ≤ 8) (hd9 : d' + 1 ≤ d) (hx9 : x' ≤ x) (hy9 : y' ≤ y)
    (K : ∀ v n' h', P' v n' h' → G g d (x - x') (y - y') k (pc + 3) L (v.toList ++ st) n' h' P) : G g d x y k pc L st0 n h P := by
  intro p e R s m args below meth c H locs cells slots ls S B C F E
  obtain ⟨c1, c2, c3, c4, c5⟩ := hc
  obtain ⟨hx, hb9, hml, -, -, hnm, hown, hts, hK, hO⟩ := id S
  obtain ⟨B1, B2, B3⟩ := B.use hx9 hy9
  have hrun := va_runS (As := As.map (g_v g)) (rest := st.map (g_v g)) (p := p) (l := g.1) (e := e) (R := R) (s := s) (m := m) (args := args) (below := below) (meth := meth) (c := c) (H := H) (locs := locs) (cells := cells) (slots := slots) (g := F0 m pc ls (st0.map (g_v g))) (nL := k.2.2.1) ⟨hx, hb9, hml, hown, hts⟩ hM ⟨callB_of na hts (g_good c1) rfl rfl rfl (hts _ c2) (hts _ c3) c4 (g_rm B hd9 c5), hts _ hi9⟩ ⟨g_blind, g_pre S C F⟩ rfl (by rw [List.length_map]; exact hn) E.2.1 (by show st0.map (g_v g) = _; rw [hs, List.map_append, List.map_reverse]) (by show 2 * 0 + _ ≤ 8; rw [g_cats]; omega) hd ⟨B2, B3⟩
  exact g_run hrun F (fun v n1 h1 H1 locs1 q1 q2 q3 => by rw [g_top]; exact K v n1 h1 q1 p e R s m args below meth c H1 locs1 _ _ ls S B1 q2 q3 E)
theorem G_callI {g : gT} {d x y : Nat} {k : mM} {pc : Nat} {L st : List Value} {n : Nat} {h : mH} {P : Option Value → Nat → mH → Prop} {c9 : mM} {d' x' y' index na b : Nat} {As st0 : List Value} {P' : Option Value → Nat → mH → Prop} (hM : M g d' x' y' c9 (.ref b :: As) n h P') (hd : decode k.2.1 pc = .ok (.invokespecial index, 3)) (hc : g_cm k c9 index na) (hn9 : c9.1.name = "<init>") (hr9 : c9.2.2.2 = none) (hi9 : Cond.instanceMethod c9.1 ∈ TB) (hs : st0 = As.reverse ++ .ref b :: st) (hn : As.length = na) (hw : (st.map fun v => v.category).sum ≤ 8) (hd9 : d' + 1 ≤ d) (hx9 : x' ≤ x) (hy9 : y' ≤ y)
    (K : ∀ v n' h', P' v n' h' → G g d (x - x') (y - y') k (pc + 3) L (v.toList ++ st) n' h' P) : G g d x y k pc L st0 n h P := by
  intro p e R s m args below meth c H locs cells slots ls S B C F E
  obtain ⟨c1, c2, c3, c4, c5⟩ := hc
  obtain ⟨hx, hb9, hml, -, -, hnm, hown, hts, hK, hO⟩ := id S
  obtain ⟨B1, B2, B3⟩ := B.use hx9 hy9
  have hrun := va_runI (As := As.map (g_v g)) (rest := st.map (g_v g)) (b := g_ad g b) (p := p) (l := g.1) (e := e) (R := R) (s := s) (m := m) (args := args) (below := below) (meth := meth) (c := c) (H := H) (locs := locs) (cells := cells) (slots := slots) (g := F0 m pc ls (st0.map (g_v g))) (nL := k.2.2.1) (bytes := c9.2.1) (maxL := c9.2.2.1) ⟨hx, hb9, hml, hown, hts⟩ hM ⟨callB_of na hts (g_good c1) (by unfold g_ws; rw [hr9]) rfl rfl (hts _ c2) (hts _ c3) c4 (g_rm B hd9 c5), hn9, hts _ hi9⟩ ⟨g_blind, g_pre S C F⟩ rfl (by rw [List.length_map]; exact hn) E.2.1 (by show st0.map (g_v g) = _; rw [hs, List.map_append, List.map_reverse]; rfl) (by show 2 * 0 + _ ≤ 8; rw [g_cats]; omega) hd ⟨B2, B3⟩
  exact g_run hrun F (fun v n1 h1 H1 locs1 q1 q2 q3 => by rw [g_top]; exact K v n1 h1 q1 p e R s m args below meth c H1 locs1 _ _ ls S B1 q2 q3 E)
theorem G_callSN {g : gT} {d x y : Nat} {k : mM} {pc : Nat} {L st : List Value} {n : Nat} {h : mH} {P : Option Value → Nat → mH → Prop} {c9 : mM} {d' x' y' index na : Nat} {host : String} {As st0 : List Value} {P' : Option Value → Nat → mH → Prop} (hM : M g d' x' y' c9 As n h P') (hd : decode k.2.1 pc = .ok (.invokestatic index, 3)) (hc : g_cn k c9 index na host) (hi9 : Cond.static c9.1 ∈ TB) (hs : st0 = As.reverse ++ st) (hn : As.length = na) (hw : (st.map fun v => v.category).sum ≤ 8) (hd9 : d' + 1 ≤ d) (hx9 : x' ≤ x) (hy9 : y' ≤ y)
    (K : ∀ v n' h', P' v n' h' → G g d (x - x') (y - y') k (pc + 3) L (v.toList ++ st) n' h' P) : G g d x y k pc L st0 n h P := by
  intro p e R s m args below meth c H locs cells slots ls S B C F E
  obtain ⟨c1, c2, c3, c4, c5⟩ := hc
  obtain ⟨hx, hb9, hml, -, -, hnm, hown, hts, hK, hO⟩ := id S
  obtain ⟨B1, B2, B3⟩ := B.use hx9 hy9
  have hrun := va_runSN (As := As.map (g_v g)) (rest := st.map (g_v g)) (p := p) (l := g.1) (e := e) (R := R) (s := s) (m := m) (args := args) (below := below) (meth := meth) (c := c) (H := H) (locs := locs) (cells := cells) (slots := slots) (g := F0 m pc ls (st0.map (g_v g))) (nL := k.2.2.1) ⟨hx, hb9, hml, hown, hts⟩ hM ⟨va_cnB na hts (g_good c1) rfl rfl rfl (hO.1 _ c3) (hts _ c2) c4 (g_rm B hd9 c5), hts _ hi9, trivial⟩ ⟨g_blind, g_pre S C F⟩ rfl (by rw [List.length_map]; exact hn) E.2.1 (by show st0.map (g_v g) = _; rw [hs, List.map_append, List.map_reverse]) (by show 2 * 0 + _ ≤ 8; rw [g_cats]; omega) hd ⟨B2, B3⟩
  exact g_run hrun F (fun v n1 h1 H1 locs1 q1 q2 q3 => by rw [g_top]; exact K v n1 h1 q1 p e R s m args below meth c H1 locs1 _ _ ls S B1 q2 q3 E)
theorem G_callIN {g : gT} {d x y : Nat} {k : mM} {pc : Nat} {L st : List Value} {n : Nat} {h : mH} {P : Option Value → Nat → mH → Prop} {c9 : mM} {d' x' y' index na b : Nat} {host : String} {As st0 : List Value} {P' : Option Value → Nat → mH → Prop} (hM : M g d' x' y' c9 (.ref b :: As) n h P') (hd : decode k.2.1 pc = .ok (.invokespecial index, 3)) (hc : g_cn k c9 index na host) (hn9 : c9.1.name = "<init>") (hr9 : c9.2.2.2 = none) (hi9 : Cond.instanceMethod c9.1 ∈ TB) (hs : st0 = As.reverse ++ .ref b :: st) (hn : As.length = na) (hw : (st.map fun v => v.category).sum ≤ 8) (hd9 : d' + 1 ≤ d) (hx9 : x' ≤ x) (hy9 : y' ≤ y)
    (K : ∀ v n' h', P' v n' h' → G g d (x - x') (y - y') k (pc + 3) L (v.toList ++ st) n' h' P) : G g d x y k pc L st0 n h P := by
  intro p e R s m args below meth c H locs cells slots ls S B C F E
  obtain ⟨c1, c2, c3, c4, c5⟩ := hc
  obtain ⟨hx, hb9, hml, -, -, hnm, hown, hts, hK, hO⟩ := id S
  obtain ⟨B1, B2, B3⟩ := B.use hx9 hy9
  have hrun := va_runIN (As := As.map (g_v g)) (rest := st.map (g_v g)) (b := g_ad g b) (p := p) (l := g.1) (e := e) (R := R) (s := s) (m := m) (args := args) (below := below) (meth := meth) (c := c) (H := H) (locs := locs) (cells := cells) (slots := slots) (g := F0 m pc ls (st0.map (g_v g))) (nL := k.2.2.1) (bytes := c9.2.1) (maxL := c9.2.2.1) ⟨hx, hb9, hml, hown, hts⟩ hM ⟨va_cnB na hts (g_good c1) (by unfold g_ws; rw [hr9]) rfl rfl (hO.1 _ c3) (hts _ c2) c4 (g_rm B hd9 c5), hn9, hts _ hi9⟩ ⟨g_blind, g_pre S C F⟩ rfl (by rw [List.length_map]; exact hn) E.2.1 (by show st0.map (g_v g) = _; rw [hs, List.map_append, List.map_reverse]; rfl) (by show 2 * 0 + _ ≤ 8; rw [g_cats]; omega) hd ⟨B2, B3⟩
  exact g_run hrun F (fun v n1 h1 H1 locs1 q1 q2 q3 => by rw [g_top]; exact K v n1 h1 q1 p e R s m args below meth c H1 locs1 _ _ ls S B1 q2 q3 E)
/-! a contract out of a walk -/
def g_en (nL : Nat) (av : List Value) : List Value := (av.flatMap (fun v => if v.category = 2 then [v, .retAddr 0] else [v])) ++ List.replicate (nL - (av.flatMap (fun v => if v.category = 2 then [v, .retAddr 0] else [v])).length) (.retAddr 0)
theorem g_en_args (g : gT) : ∀ (av : List Value) (i j : Nat) (v : Value), (av.flatMap (fun v => if v.category = 2 then [v, .retAddr 0] else [v]))[j]? = some v → g_ok v = true → (i + j, g_v g v) ∈ lv_args i (av.map (g_v g))
  | [], i, j, v, h, _ => by simp at h
  | w :: av, i, j, v, h, hv => by
    rw [List.flatMap_cons] at h
    rw [List.map_cons]
    show _ ∈ (i, g_v g w) :: lv_args (if (g_v g w).category = 2 then i + 2 else i + 1) (av.map (g_v g))
    rw [g_cat]
    by_cases hc : w.category = 2
    · rw [if_pos hc] at h ⊢
      match j, h with
      | 0, h => simp at h; subst h; exact List.mem_cons_self
      | 1, h => simp at h; subst h; simp [g_ok] at hv
      | j + 2, h =>
        have h2 := g_en_args g av (i + 2) j v (by simpa using h) hv
        rw [show i + (j + 2) = i + 2 + j by omega]
        exact List.mem_cons_of_mem _ h2
    · rw [if_neg hc] at h ⊢
      match j, h with
      | 0, h => simp at h; subst h; exact List.mem_cons_self
      | j + 1, h =>
        have h2 := g_en_args g av (i + 1) j v (by simpa using h) hv
        rw [show i + (j + 1) = i + 1 + j by omega]
        exact List.mem_cons_of_mem _ h2
theorem g_en_sl (g : gT) : ∀ av : List Value, (lg_sl (av.map (g_v g))).length = (av.flatMap (fun v => if v.category = 2 then [v, Value.retAddr 0] else [v])).length
  | [] => rfl
  | w :: av => by
    have ih := g_en_sl g av
    unfold lg_sl at ih ⊢
    rw [List.map_cons, List.flatMap_cons, List.flatMap_cons, List.length_append, List.length_append, ih, g_cat]
    by_cases hc : w.category = 2 <;> simp [hc]
theorem M_of_G {g : gT} {d x y : Nat} {k : mM} {av : List Value} {n : Nat} {h : mH} {P : Option Value → Nat → mH → Prop} (hy : plainName k.1.cls = true) (hl : (av.flatMap (fun v => if v.category = 2 then [v, Value.retAddr 0] else [v])).length ≤ k.2.2.1) (K : G g d x y k 0 (g_en k.2.2.1 av) [] n h P) : M g d x y k av n h P := by
  refine Met.ofW (cc := k.2.1) (maxL := k.2.2.1) (ret := k.2.2.2) hy rfl ?_
  intro p e s m args below meth c s₁ B hml hv
  obtain ⟨rfl, hC, hK, hO⟩ := hv
  have hts0 := atoms_spec (ws := g_ws k) B.pre
  have hts : ∀ w ∈ TB, w.before _ s = true := fun w hw => hts0 w (List.mem_cons_of_mem _ hw)
  have hown : s.vm.findClass k.1.cls = some m.cls := findClass_of_methodNamed B.named
  have hnm : meth.name = k.1.name := (name_of_methodNamed B.named B.method).1
  have hle := g_en_sl g av
  have hle2 : (lg_sl (av.map (g_v g))).length ≤ k.2.2.1 := by rw [hle]; exact hl
  have hl9 := lv_entry (av.map (g_v g)) (n := k.2.2.1) hle2
  rw [lg_entry_eq]
  refine K p e _ s m _ below meth c s.heap [] 0 0 _ ⟨B.exec, B.bytes, hml, B.returns, B.notSynchronized, hnm, hown, hts, hK, hO⟩ ⟨Nat.le_refl _, Nat.le_refl _, by show 0 + x ≤ x; omega, by show 0 + y ≤ y; omega⟩ hC va_S.rf ⟨?_, hl9.1, hl9.2.1, fun q hq => hl9.2.2 q ?_⟩
  · simp only [g_en, List.length_append, List.length_replicate]; omega
  · obtain ⟨v, h1, h2, h3⟩ := g_Lv_mem.mp hq
    obtain ⟨j, u⟩ := q
    dsimp only at h1 h3
    subst h3
    unfold g_en at h1
    by_cases hj : j < (av.flatMap (fun v => if v.category = 2 then [v, Value.retAddr 0] else [v])).length
    · rw [List.getElem?_append_left hj] at h1
      have := g_en_args g av 0 j v h1 h2
      rwa [Nat.zero_add] at this
    · rw [List.getElem?_append_right (by omega)] at h1
      have h9 := (List.mem_replicate.mp (List.mem_of_getElem? h1)).2
      subst h9
      simp [g_ok] at h2
