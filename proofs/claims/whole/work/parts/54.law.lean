/-! the law itself -/
theorem Lk.inv {s c : mS} (k : Lk s c) (h : m_inv c) : m_inv s := by
  have e : ∀ j, j ∈ SF → s j = c j := fun j hj => (k.1 j hj).symm
  have e1 := e 1 (by decide)
  have e5 := e 5 (by decide)
  have e8 := e 8 (by decide)
  have e13 := e 13 (by decide)
  have e23 := e 23 (by decide)
  have e6 := e 6 (by decide)
  have e24 := e 24 (by decide)
  have e25 := e 25 (by decide)
  have e27 := e 27 (by decide)
  have e28 := e 28 (by decide)
  unfold m_inv mK mT mB mP mA at *
  rw [e1, e5, e8, e13, e23, e6, e24, e25, e27, e28]
  exact h
theorem y_end {Y : cY} {c : mS} {n : Nat} (hY : Yok Y c n) (v : Int32) : Yok Y (sp_end c v).1 n := by
  unfold sp_end
  by_cases h : wi v 0 (c 13 0)
  · rw [cif_t h]; exact hY.same rfl rfl rfl rfl rfl
  · rw [cif_f h]; exact hY
theorem y_look {Y : cY} {c : mS} {n : Nat} (hY : Yok Y c n) (t : Int32) : Yok Y (cp_look c t).1 n := by
  unfold cp_look
  by_cases h : wi t 0 (c 5 0 - 1) ∧ c 51 (ix t) = -1
  · rw [cif_t h]; exact hY.same rfl rfl rfl rfl rfl
  · rw [cif_f h]; exact hY
theorem y_off {Y : cY} {c : mS} {n : Nat} (hY : Yok Y c n) (a : Int32) : Yok Y (sp_off c a).1 n := by
  unfold sp_off
  by_cases h : wi a 0 (c 23 0 - 1) ∧ (c 24 (ix a) = 0 ∨ c 24 (ix a) = 1)
  · rw [cif_t h]; exact hY.same rfl rfl rfl rfl rfl
  · rw [cif_f h]; exact hY
theorem y_work {Y : cY} {c : mS} {n : Nat} (hY : Yok Y c n) (m v : Int32) : Yok Y (cp_work c m v).1 n := by
  unfold cp_work
  by_cases h : wi m 0 (c 8 0 - 1) ∧ wi v 1 100
  · rw [cif_t h]; exact hY.same rfl rfl rfl rfl rfl
  · rw [cif_f h]; exact hY
theorem y_out {Y : cY} {c : mS} {n : Nat} (hY : Yok Y c n) (a : Int32) : Yok Y (cp_out c a).1 n := by
  unfold cp_out
  by_cases h : wi a 0 (c 23 0 - 1) ∧ c 24 (ix a) = 1
  · rw [cif_t h]
    by_cases h2 : c_hind c (ix a) (ix (c 25 (ix a))) = 0
    · rw [cif_t h2]; exact hY.same rfl rfl rfl rfl rfl
    · rw [cif_f h2]; exact hY
  · rw [cif_f h]; exact hY
theorem y_back {Y : cY} {c : mS} {n : Nat} (hY : Yok Y c n) (a : Int32) : Yok Y (cp_back c a).1 n := by
  unfold cp_back
  by_cases h : wi a 0 (c 23 0 - 1) ∧ c 24 (ix a) = 3
  · rw [cif_t h]; exact hY.same rfl rfl rfl rfl rfl
  · rw [cif_f h]; exact hY
theorem y_feed {Y : cY} {c : mS} {n : Nat} (hY : Yok Y c n) (a b d e f : Int32) : Yok Y (cp_feed c a b d e f).1 n := by
  unfold cp_feed
  by_cases h : c 13 0 + 20 ≤ 200
  · rw [cif_t h]
    have k : ∀ j, j ≠ 12 ∧ j ≠ 13 → (pt (pt (pt (pt (pt c a (mP c) 4) b (mP c + 4) 4) d (mP c + 4 + 4) 4) e (mP c + 4 + 4 + 4) 4) f (mP c + 4 + 4 + 4 + 4) 4) j = c j := fun j hj => (pt_o hj.1 hj.2 4).trans ((pt_o hj.1 hj.2 4).trans ((pt_o hj.1 hj.2 4).trans ((pt_o hj.1 hj.2 4).trans (pt_o hj.1 hj.2 4))))
    exact hY.same (congrFun (k 1 (by decide)) 0) (congrFun (k 5 (by decide)) 0) (congrFun (k 8 (by decide)) 0) (congrFun (k 23 (by decide)) 0) (congrFun (k 81 (by decide)) 0)
  · rw [cif_f h]; exact hY
theorem y_lw {Y : cY} {c : mS} {n : Nat} (hY : Yok Y c n) : Yok Y (c_lw c) n := ((c_k6.read c (c 1 0)).Y hY).same rfl rfl rfl rfl rfl
theorem y_law {Y : cY} {c : mS} {n : Nat} (hY : Yok Y c n) : Yok Y (cp_law c).1 n := by
  unfold cp_law
  by_cases h : c 14 0 < 20
  · rw [cif_t h]
    by_cases h2 : c_lw c 61 0 = 0
    · rw [cif_t h2]
      have k : ∀ j, j ≠ 14 → j ≠ 15 → c_tell (c_lw c) j = c_lw c j := fun j h1 h2 => (m_set_ne _ _ _ h1).trans (tl_o _ h2 8)
      exact (y_lw hY).same (congrFun (k 1 (by decide) (by decide)) 0) (congrFun (k 5 (by decide) (by decide)) 0) (congrFun (k 8 (by decide) (by decide)) 0) (congrFun (k 23 (by decide) (by decide)) 0) (congrFun (k 81 (by decide) (by decide)) 0)
    · rw [cif_f h2]; exact y_lw hY
  · rw [cif_f h]; exact hY
theorem y_days {Y : cY} {c : mS} {n : Nat} (hC : c_inv c) (hY : Yok Y c n) (v : Int32) : Yok Y (cp_days c v).1 n := by
  unfold cp_days
  by_cases h : wi v 1 60 ∧ c 11 0 + v ≤ 5000
  · rw [cif_t h]; exact (c_dys_inv hC (ix v)).2.2 hY
  · rw [cif_f h]; exact hY
abbrev kL_law : mM := (yL_law, cL_law, 7, some .boolean)
def lP : Option Value → Nat → mH → Prop := fun v _ _ => v = some (.int 1)
/-- what the loop keeps -/
def lI (n : Nat) (sm : mS) (Y : cY) (c : mS) : Prop := Yok Y c n ∧ 53 ≤ n ∧ Inv c ∧ Lk sm c
abbrev lL (i : Nat) (v5 v6 : Value) : List Value := [.ref 0, .ref 8, .ref 24, .ref 52, .int (nI i), v5, v6]
def lK (g : gT) (i x y : Nat) : Prop := ∀ (n : Nat) (sm : mS) (Y : cY) (c : mS) (v5 v6 : Value), lI n sm Y c → G g 10 x y kL_law 895 (lL i v5 v6) [] n (hh sm Y c) lP

set_option maxHeartbeats 4000000 in
set_option maxRecDepth 100000 in
theorem lc_0 {g : gT} {i x y nq_ : Nat} {sm : mS} {Y : cY} {c : mS} {v5 v6 : Value} (hN : g_n g ≤ 3584) (hi : i + 7 ≤ g_n g) (hl : lI nq_ sm Y c) (K : lK g i x y) : G g 10 (x + 5) (y + 1550) kL_law 144 (lL i v5 v6) [] nq_ (hh sm Y c) lP := by
  obtain ⟨hY, hn, hI, hk⟩ := hl
  have hm0 := hk.z.inv hI.1.1
  have hs := sim_kind hI hk.z (g_x g (nI (i + 1)).toNatClampNeg) (g_x g (nI (i + 2)).toNatClampNeg) (g_x g (nI (i + 3)).toNatClampNeg)
  refine G_aload_n dL_law_144 rfl rfl ?_
  refine G_aload_n dL_law_145 rfl rfl ?_
  refine G_iload dL_law_146 rfl ?_
  refine G_iconst (v := 1) dL_law_148 rfl ?_
  refine G_iadd dL_law_149 ?_
  refine G_top (w := .int (nI (i + 1))) (congrArg Value.int (nI_add i 1)) ?_
  refine G_aldS dL_law_150 (vp_in_nI (by omega) (by omega)) ?_
  refine G_aload_n dL_law_151 rfl rfl ?_
  refine G_iload dL_law_152 rfl ?_
  refine G_iconst (v := 2) dL_law_154 rfl ?_
  refine G_iadd dL_law_155 ?_
  refine G_top (w := .int (nI (i + 2))) (congrArg Value.int (nI_add i 2)) ?_
  refine G_aldS dL_law_156 (vp_in_nI (by omega) (by omega)) ?_
  refine G_aload_n dL_law_157 rfl rfl ?_
  refine G_iload dL_law_158 rfl ?_
  refine G_iconst (v := 3) dL_law_160 rfl ?_
  refine G_iadd dL_law_161 ?_
  refine G_top (w := .int (nI (i + 3))) (congrArg Value.int (nI_add i 3)) ?_
  refine G_aldS dL_law_162 (vp_in_nI (by omega) (by omega)) ?_
  refine G_callV (cp9_kind (g_x g (nI (i + 1)).toNatClampNeg) (g_x g (nI (i + 2)).toNatClampNeg) (g_x g (nI (i + 3)).toNatClampNeg) hY hn hI.1) dL_law_163 (mc_L_19 rfl) tw_228 tw_229 (hx_8 _ _ _) rfl rfl rfl (Nat.le_of_ble_eq_true rfl) (Nat.le_of_ble_eq_true rfl) (by omega) (by omega) ?_
  rintro _ n2_ _ ⟨rfl, Y2, rfl, hY2, hn2⟩
  refine G_aload_n dL_law_166 rfl rfl ?_
  refine G_aload_n dL_law_167 rfl rfl ?_
  refine G_iload dL_law_168 rfl ?_
  refine G_iconst (v := 1) dL_law_170 rfl ?_
  refine G_iadd dL_law_171 ?_
  refine G_top (w := .int (nI (i + 1))) (congrArg Value.int (nI_add i 1)) ?_
  refine G_aldS dL_law_172 (vp_in_nI (by omega) (by omega)) ?_
  refine G_aload_n dL_law_173 rfl rfl ?_
  refine G_iload dL_law_174 rfl ?_
  refine G_iconst (v := 2) dL_law_176 rfl ?_
  refine G_iadd dL_law_177 ?_
  refine G_top (w := .int (nI (i + 2))) (congrArg Value.int (nI_add i 2)) ?_
  refine G_aldS dL_law_178 (vp_in_nI (by omega) (by omega)) ?_
  refine G_aload_n dL_law_179 rfl rfl ?_
  refine G_iload dL_law_180 rfl ?_
  refine G_iconst (v := 3) dL_law_182 rfl ?_
  refine G_iadd dL_law_183 ?_
  refine G_top (w := .int (nI (i + 3))) (congrArg Value.int (nI_add i 3)) ?_
  refine G_aldS dL_law_184 (vp_in_nI (by omega) (by omega)) ?_
  refine GM_call (c9_kind (s := sm) (r := hC Y2 ((cp_kind c (g_x g (nI (i + 1)).toNatClampNeg) (g_x g (nI (i + 2)).toNatClampNeg) (g_x g (nI (i + 3)).toNatClampNeg)) : mS × Int32).1) (g_x g (nI (i + 1)).toNatClampNeg) (g_x g (nI (i + 2)).toNatClampNeg) (g_x g (nI (i + 3)).toNatClampNeg) hm0) dL_law_185 (mc_L_23 rfl) tw_1017 tw_1018 rfl rfl rfl (Nat.le_of_ble_eq_true rfl) (Nat.le_of_ble_eq_true rfl) ?_
  rintro _ n9_ _ ⟨rfl, e9_, rfl⟩
  obtain rfl := e9_.symm
  refine G_icmp_eq (tgt := 895) dL_law_188 (by decide) (fun _ => ?_) (fun w9 => absurd hs.1 w9)
  exact G_bud (x' := x) (y' := y) (by omega) (by omega) (K _ ((sp_kind (m_set sm 0 0 0) (g_x g (nI (i + 1)).toNatClampNeg) (g_x g (nI (i + 2)).toNatClampNeg) (g_x g (nI (i + 3)).toNatClampNeg)) : mS × Int32).1 Y2 ((cp_kind c (g_x g (nI (i + 1)).toNatClampNeg) (g_x g (nI (i + 2)).toNatClampNeg) (g_x g (nI (i + 3)).toNatClampNeg)) : mS × Int32).1 v5 v6 ⟨hY2, (by omega), hs.2.1, hs.2.2⟩)
set_option maxHeartbeats 4000000 in
set_option maxRecDepth 100000 in
theorem lc_1 {g : gT} {i x y nq_ : Nat} {sm : mS} {Y : cY} {c : mS} {v5 v6 : Value} (hN : g_n g ≤ 3584) (hi : i + 7 ≤ g_n g) (hl : lI nq_ sm Y c) (K : lK g i x y) : G g 10 (x + 5) (y + 1550) kL_law 193 (lL i v5 v6) [] nq_ (hh sm Y c) lP := by
  obtain ⟨hY, hn, hI, hk⟩ := hl
  have hm0 := hk.z.inv hI.1.1
  have hs := sim_thing hI hk.z (g_x g (nI (i + 1)).toNatClampNeg)
  refine G_aload_n dL_law_193 rfl rfl ?_
  refine G_aload_n dL_law_194 rfl rfl ?_
  refine G_iload dL_law_195 rfl ?_
  refine G_iconst (v := 1) dL_law_197 rfl ?_
  refine G_iadd dL_law_198 ?_
  refine G_top (w := .int (nI (i + 1))) (congrArg Value.int (nI_add i 1)) ?_
  refine G_aldS dL_law_199 (vp_in_nI (by omega) (by omega)) ?_
  refine G_callV (cp9_thing (g_x g (nI (i + 1)).toNatClampNeg) hY hn hI.1) dL_law_200 (mc_L_24 rfl) tw_323 tw_324 (hx_8 _ _ _) rfl rfl rfl (Nat.le_of_ble_eq_true rfl) (Nat.le_of_ble_eq_true rfl) (by omega) (by omega) ?_
  rintro _ n2_ _ ⟨rfl, Y2, rfl, hY2, hn2⟩
  refine G_aload_n dL_law_203 rfl rfl ?_
  refine G_aload_n dL_law_204 rfl rfl ?_
  refine G_iload dL_law_205 rfl ?_
  refine G_iconst (v := 1) dL_law_207 rfl ?_
  refine G_iadd dL_law_208 ?_
  refine G_top (w := .int (nI (i + 1))) (congrArg Value.int (nI_add i 1)) ?_
  refine G_aldS dL_law_209 (vp_in_nI (by omega) (by omega)) ?_
  refine GM_call (c9_thing (s := sm) (r := hC Y2 ((cp_thing c (g_x g (nI (i + 1)).toNatClampNeg)) : mS × Int32).1) (g_x g (nI (i + 1)).toNatClampNeg) hm0) dL_law_210 (mc_L_28 rfl) tw_1024 tw_1025 rfl rfl rfl (Nat.le_of_ble_eq_true rfl) (Nat.le_of_ble_eq_true rfl) ?_
  rintro _ n9_ _ ⟨rfl, e9_, rfl⟩
  obtain rfl := e9_.symm
  refine G_icmp_eq (tgt := 895) dL_law_213 (by decide) (fun _ => ?_) (fun w9 => absurd hs.1 w9)
  exact G_bud (x' := x) (y' := y) (by omega) (by omega) (K _ ((sp_thing (m_set sm 0 0 0) (g_x g (nI (i + 1)).toNatClampNeg)) : mS × Int32).1 Y2 ((cp_thing c (g_x g (nI (i + 1)).toNatClampNeg)) : mS × Int32).1 v5 v6 ⟨hY2, (by omega), hs.2.1, hs.2.2⟩)
set_option maxHeartbeats 4000000 in
set_option maxRecDepth 100000 in
theorem lc_2 {g : gT} {i x y nq_ : Nat} {sm : mS} {Y : cY} {c : mS} {v5 v6 : Value} (hN : g_n g ≤ 3584) (hi : i + 7 ≤ g_n g) (hl : lI nq_ sm Y c) (K : lK g i x y) : G g 10 (x + 5) (y + 1550) kL_law 218 (lL i v5 v6) [] nq_ (hh sm Y c) lP := by
  obtain ⟨hY, hn, hI, hk⟩ := hl
  have hm0 := hk.z.inv hI.1.1
  have hs := sim_member hI hk.z
  refine G_aload_n dL_law_218 rfl rfl ?_
  refine G_callV (cp9_member hY hn hI.1) dL_law_219 (mc_L_29 rfl) tw_376 tw_377 (hx_8 _ _ _) rfl rfl rfl (Nat.le_of_ble_eq_true rfl) (Nat.le_of_ble_eq_true rfl) (by omega) (by omega) ?_
  rintro _ n2_ _ ⟨rfl, Y2, rfl, hY2, hn2⟩
  refine G_aload_n dL_law_222 rfl rfl ?_
  refine GM_call (c9_member (s := sm) (r := hC Y2 ((cp_member c) : mS × Int32).1) hm0) dL_law_223 (mc_L_33 rfl) tw_1032 tw_1033 rfl rfl rfl (Nat.le_of_ble_eq_true rfl) (Nat.le_of_ble_eq_true rfl) ?_
  rintro _ n9_ _ ⟨rfl, e9_, rfl⟩
  obtain rfl := e9_.symm
  refine G_icmp_eq (tgt := 895) dL_law_226 (by decide) (fun _ => ?_) (fun w9 => absurd hs.1 w9)
  exact G_bud (x' := x) (y' := y) (by omega) (by omega) (K _ ((sp_member (m_set sm 0 0 0)) : mS × Int32).1 Y2 ((cp_member c) : mS × Int32).1 v5 v6 ⟨hY2, (by omega), hs.2.1, hs.2.2⟩)
set_option maxHeartbeats 4000000 in
set_option maxRecDepth 100000 in
theorem lc_3 {g : gT} {i x y nq_ : Nat} {sm : mS} {Y : cY} {c : mS} {v5 v6 : Value} (hN : g_n g ≤ 3584) (hi : i + 7 ≤ g_n g) (hl : lI nq_ sm Y c) (K : lK g i x y) : G g 10 (x + 5) (y + 1550) kL_law 231 (lL i v5 v6) [] nq_ (hh sm Y c) lP := by
  obtain ⟨hY, hn, hI, hk⟩ := hl
  have hm0 := hk.z.inv hI.1.1
  have hs := sim_feed hI hk.z (g_x g (nI (i + 1)).toNatClampNeg) (g_x g (nI (i + 2)).toNatClampNeg) (g_x g (nI (i + 3)).toNatClampNeg) (g_x g (nI (i + 4)).toNatClampNeg) (g_x g (nI (i + 5)).toNatClampNeg)
  refine G_aload_n dL_law_231 rfl rfl ?_
  refine G_aload_n dL_law_232 rfl rfl ?_
  refine G_iload dL_law_233 rfl ?_
  refine G_iconst (v := 1) dL_law_235 rfl ?_
  refine G_iadd dL_law_236 ?_
  refine G_top (w := .int (nI (i + 1))) (congrArg Value.int (nI_add i 1)) ?_
  refine G_aldS dL_law_237 (vp_in_nI (by omega) (by omega)) ?_
  refine G_aload_n dL_law_238 rfl rfl ?_
  refine G_iload dL_law_239 rfl ?_
  refine G_iconst (v := 2) dL_law_241 rfl ?_
  refine G_iadd dL_law_242 ?_
  refine G_top (w := .int (nI (i + 2))) (congrArg Value.int (nI_add i 2)) ?_
  refine G_aldS dL_law_243 (vp_in_nI (by omega) (by omega)) ?_
  refine G_aload_n dL_law_244 rfl rfl ?_
  refine G_iload dL_law_245 rfl ?_
  refine G_iconst (v := 3) dL_law_247 rfl ?_
  refine G_iadd dL_law_248 ?_
  refine G_top (w := .int (nI (i + 3))) (congrArg Value.int (nI_add i 3)) ?_
  refine G_aldS dL_law_249 (vp_in_nI (by omega) (by omega)) ?_
  refine G_aload_n dL_law_250 rfl rfl ?_
  refine G_iload dL_law_251 rfl ?_
  refine G_iconst (v := 4) dL_law_253 rfl ?_
  refine G_iadd dL_law_254 ?_
  refine G_top (w := .int (nI (i + 4))) (congrArg Value.int (nI_add i 4)) ?_
  refine G_aldS dL_law_255 (vp_in_nI (by omega) (by omega)) ?_
  refine G_aload_n dL_law_256 rfl rfl ?_
  refine G_iload dL_law_257 rfl ?_
  refine G_iconst (v := 5) dL_law_259 rfl ?_
  refine G_iadd dL_law_260 ?_
  refine G_top (w := .int (nI (i + 5))) (congrArg Value.int (nI_add i 5)) ?_
  refine G_aldS dL_law_261 (vp_in_nI (by omega) (by omega)) ?_
  refine G_callV (cp9_feed (g_x g (nI (i + 1)).toNatClampNeg) (g_x g (nI (i + 2)).toNatClampNeg) (g_x g (nI (i + 3)).toNatClampNeg) (g_x g (nI (i + 4)).toNatClampNeg) (g_x g (nI (i + 5)).toNatClampNeg) hY hI.1) dL_law_262 (mc_L_34 rfl) tw_403 tw_404 (hx_8 _ _ _) rfl rfl rfl (Nat.le_of_ble_eq_true rfl) (Nat.le_of_ble_eq_true rfl) (by omega) (by omega) ?_
  rintro _ n9_ _ ⟨rfl, e9_, rfl⟩
  obtain rfl := e9_.symm
  refine G_aload_n dL_law_265 rfl rfl ?_
  refine G_aload_n dL_law_266 rfl rfl ?_
  refine G_iload dL_law_267 rfl ?_
  refine G_iconst (v := 1) dL_law_269 rfl ?_
  refine G_iadd dL_law_270 ?_
  refine G_top (w := .int (nI (i + 1))) (congrArg Value.int (nI_add i 1)) ?_
  refine G_aldS dL_law_271 (vp_in_nI (by omega) (by omega)) ?_
  refine G_aload_n dL_law_272 rfl rfl ?_
  refine G_iload dL_law_273 rfl ?_
  refine G_iconst (v := 2) dL_law_275 rfl ?_
  refine G_iadd dL_law_276 ?_
  refine G_top (w := .int (nI (i + 2))) (congrArg Value.int (nI_add i 2)) ?_
  refine G_aldS dL_law_277 (vp_in_nI (by omega) (by omega)) ?_
  refine G_aload_n dL_law_278 rfl rfl ?_
  refine G_iload dL_law_279 rfl ?_
  refine G_iconst (v := 3) dL_law_281 rfl ?_
  refine G_iadd dL_law_282 ?_
  refine G_top (w := .int (nI (i + 3))) (congrArg Value.int (nI_add i 3)) ?_
  refine G_aldS dL_law_283 (vp_in_nI (by omega) (by omega)) ?_
  refine G_aload_n dL_law_284 rfl rfl ?_
  refine G_iload dL_law_285 rfl ?_
  refine G_iconst (v := 4) dL_law_287 rfl ?_
  refine G_iadd dL_law_288 ?_
  refine G_top (w := .int (nI (i + 4))) (congrArg Value.int (nI_add i 4)) ?_
  refine G_aldS dL_law_289 (vp_in_nI (by omega) (by omega)) ?_
  refine G_aload_n dL_law_290 rfl rfl ?_
  refine G_iload dL_law_291 rfl ?_
  refine G_iconst (v := 5) dL_law_293 rfl ?_
  refine G_iadd dL_law_294 ?_
  refine G_top (w := .int (nI (i + 5))) (congrArg Value.int (nI_add i 5)) ?_
  refine G_aldS dL_law_295 (vp_in_nI (by omega) (by omega)) ?_
  refine GM_call (c9_feed (s := sm) (r := hC Y ((cp_feed c (g_x g (nI (i + 1)).toNatClampNeg) (g_x g (nI (i + 2)).toNatClampNeg) (g_x g (nI (i + 3)).toNatClampNeg) (g_x g (nI (i + 4)).toNatClampNeg) (g_x g (nI (i + 5)).toNatClampNeg)) : mS × Int32).1) (g_x g (nI (i + 1)).toNatClampNeg) (g_x g (nI (i + 2)).toNatClampNeg) (g_x g (nI (i + 3)).toNatClampNeg) (g_x g (nI (i + 4)).toNatClampNeg) (g_x g (nI (i + 5)).toNatClampNeg) hm0) dL_law_296 (mc_L_38 rfl) tw_1036 tw_1037 rfl rfl rfl (Nat.le_of_ble_eq_true rfl) (Nat.le_of_ble_eq_true rfl) ?_
  rintro _ n9_ _ ⟨rfl, e9_, rfl⟩
  obtain rfl := e9_.symm
  refine G_icmp_eq (tgt := 895) dL_law_299 (by decide) (fun _ => ?_) (fun w9 => absurd hs.1 w9)
  exact G_bud (x' := x) (y' := y) (by omega) (by omega) (K _ ((sp_feed (m_set sm 0 0 0) (g_x g (nI (i + 1)).toNatClampNeg) (g_x g (nI (i + 2)).toNatClampNeg) (g_x g (nI (i + 3)).toNatClampNeg) (g_x g (nI (i + 4)).toNatClampNeg) (g_x g (nI (i + 5)).toNatClampNeg)) : mS × Int32).1 Y ((cp_feed c (g_x g (nI (i + 1)).toNatClampNeg) (g_x g (nI (i + 2)).toNatClampNeg) (g_x g (nI (i + 3)).toNatClampNeg) (g_x g (nI (i + 4)).toNatClampNeg) (g_x g (nI (i + 5)).toNatClampNeg)) : mS × Int32).1 v5 v6 ⟨(y_feed hY (g_x g (nI (i + 1)).toNatClampNeg) (g_x g (nI (i + 2)).toNatClampNeg) (g_x g (nI (i + 3)).toNatClampNeg) (g_x g (nI (i + 4)).toNatClampNeg) (g_x g (nI (i + 5)).toNatClampNeg)), hn, hs.2.1, hs.2.2⟩)
set_option maxHeartbeats 4000000 in
set_option maxRecDepth 100000 in
theorem lc_4 {g : gT} {i x y nq_ : Nat} {sm : mS} {Y : cY} {c : mS} {v5 v6 : Value} (hN : g_n g ≤ 3584) (hi : i + 7 ≤ g_n g) (hl : lI nq_ sm Y c) (K : lK g i x y) : G g 10 (x + 5) (y + 1550) kL_law 304 (lL i v5 v6) [] nq_ (hh sm Y c) lP := by
  obtain ⟨hY, hn, hI, hk⟩ := hl
  have hm0 := hk.z.inv hI.1.1
  have hs := sim_end hI hk.z (g_x g (nI (i + 1)).toNatClampNeg)
  refine G_aload_n dL_law_304 rfl rfl ?_
  refine G_aload_n dL_law_305 rfl rfl ?_
  refine G_iload dL_law_306 rfl ?_
  refine G_iconst (v := 1) dL_law_308 rfl ?_
  refine G_iadd dL_law_309 ?_
  refine G_top (w := .int (nI (i + 1))) (congrArg Value.int (nI_add i 1)) ?_
  refine G_aldS dL_law_310 (vp_in_nI (by omega) (by omega)) ?_
  refine G_callV (cp9_end (g_x g (nI (i + 1)).toNatClampNeg) hY hI.1) dL_law_311 (mc_L_39 rfl) tw_415 tw_416 (hx_8 _ _ _) rfl rfl rfl (Nat.le_of_ble_eq_true rfl) (Nat.le_of_ble_eq_true rfl) (by omega) (by omega) ?_
  rintro _ n9_ _ ⟨rfl, e9_, rfl⟩
  obtain rfl := e9_.symm
  refine G_aload_n dL_law_314 rfl rfl ?_
  refine G_aload_n dL_law_315 rfl rfl ?_
  refine G_iload dL_law_316 rfl ?_
  refine G_iconst (v := 1) dL_law_318 rfl ?_
  refine G_iadd dL_law_319 ?_
  refine G_top (w := .int (nI (i + 1))) (congrArg Value.int (nI_add i 1)) ?_
  refine G_aldS dL_law_320 (vp_in_nI (by omega) (by omega)) ?_
  refine GM_call (c9_end (s := sm) (r := hC Y ((sp_end c (g_x g (nI (i + 1)).toNatClampNeg)) : mS × Int32).1) (g_x g (nI (i + 1)).toNatClampNeg) hm0) dL_law_321 (mc_L_42 rfl) tw_1040 tw_1041 rfl rfl rfl (Nat.le_of_ble_eq_true rfl) (Nat.le_of_ble_eq_true rfl) ?_
  rintro _ n9_ _ ⟨rfl, e9_, rfl⟩
  obtain rfl := e9_.symm
  refine G_icmp_eq (tgt := 895) dL_law_324 (by decide) (fun _ => ?_) (fun w9 => absurd hs.1 w9)
  exact G_bud (x' := x) (y' := y) (by omega) (by omega) (K _ ((sp_end (m_set sm 0 0 0) (g_x g (nI (i + 1)).toNatClampNeg)) : mS × Int32).1 Y ((sp_end c (g_x g (nI (i + 1)).toNatClampNeg)) : mS × Int32).1 v5 v6 ⟨(y_end hY (g_x g (nI (i + 1)).toNatClampNeg)), hn, hs.2.1, hs.2.2⟩)
set_option maxHeartbeats 4000000 in
set_option maxRecDepth 100000 in
theorem lc_5 {g : gT} {i x y nq_ : Nat} {sm : mS} {Y : cY} {c : mS} {v5 v6 : Value} (hN : g_n g ≤ 3584) (hi : i + 7 ≤ g_n g) (hl : lI nq_ sm Y c) (K : lK g i x y) : G g 10 (x + 5) (y + 1550) kL_law 329 (lL i v5 v6) [] nq_ (hh sm Y c) lP := by
  obtain ⟨hY, hn, hI, hk⟩ := hl
  have hm0 := hk.z.inv hI.1.1
  have hs := sim_law hI hk.z
  refine G_aload_n dL_law_329 rfl rfl ?_
  refine G_callV (cp9_law hY hI.1) dL_law_330 (mc_L_43 rfl) tw_419 tw_420 (hx_8 _ _ _) rfl rfl rfl (Nat.le_of_ble_eq_true rfl) (Nat.le_of_ble_eq_true rfl) (by omega) (by omega) ?_
  rintro _ n9_ _ ⟨rfl, e9_, rfl⟩
  obtain rfl := e9_.symm
  refine G_aload_n dL_law_333 rfl rfl ?_
  refine GM_call (c9_law (s := sm) (r := hC Y ((cp_law c) : mS × Int32).1) hm0) dL_law_334 (mc_L_46 rfl) tw_1044 tw_1045 rfl rfl rfl (Nat.le_of_ble_eq_true rfl) (Nat.le_of_ble_eq_true rfl) ?_
  rintro _ n9_ _ ⟨rfl, e9_, rfl⟩
  obtain rfl := e9_.symm
  refine G_icmp_eq (tgt := 895) dL_law_337 (by decide) (fun _ => ?_) (fun w9 => absurd hs.1 w9)
  exact G_bud (x' := x) (y' := y) (by omega) (by omega) (K _ ((sp_law (m_set sm 0 0 0)) : mS × Int32).1 Y ((cp_law c) : mS × Int32).1 v5 v6 ⟨(y_law hY), hn, hs.2.1, hs.2.2⟩)
set_option maxHeartbeats 4000000 in
set_option maxRecDepth 100000 in
theorem lc_6 {g : gT} {i x y nq_ : Nat} {sm : mS} {Y : cY} {c : mS} {v5 v6 : Value} (hN : g_n g ≤ 3584) (hi : i + 7 ≤ g_n g) (hl : lI nq_ sm Y c) (K : lK g i x y) : G g 10 (x + 5) (y + 1550) kL_law 342 (lL i v5 v6) [] nq_ (hh sm Y c) lP := by
  obtain ⟨hY, hn, hI, hk⟩ := hl
  have hm0 := hk.z.inv hI.1.1
  have hs := sim_place hI hk.z
  refine G_aload_n dL_law_342 rfl rfl ?_
  refine G_callV (cp9_place hY hI.1) dL_law_343 (mc_L_47 rfl) tw_519 tw_520 (hx_8 _ _ _) rfl rfl rfl (Nat.le_of_ble_eq_true rfl) (Nat.le_of_ble_eq_true rfl) (by omega) (by omega) ?_
  rintro _ n9_ _ ⟨rfl, e9_, rfl⟩
  obtain rfl := e9_.symm
  refine G_aload_n dL_law_346 rfl rfl ?_
  refine GM_call (c9_place (s := sm) (r := hC Y ((c, c 18 0) : mS × Int32).1) hm0) dL_law_347 (mc_L_50 rfl) tw_1068 tw_1069 rfl rfl rfl (Nat.le_of_ble_eq_true rfl) (Nat.le_of_ble_eq_true rfl) ?_
  rintro _ n9_ _ ⟨rfl, e9_, rfl⟩
  obtain rfl := e9_.symm
  refine G_icmp_eq (tgt := 895) dL_law_350 (by decide) (fun _ => ?_) (fun w9 => absurd hs.1 w9)
  exact G_bud (x' := x) (y' := y) (by omega) (by omega) (K _ ((m_set sm 0 0 0, m_set sm 0 0 0 18 0) : mS × Int32).1 Y ((c, c 18 0) : mS × Int32).1 v5 v6 ⟨hY, hn, hs.2.1, hs.2.2⟩)
set_option maxHeartbeats 4000000 in
set_option maxRecDepth 100000 in
theorem lc_7 {g : gT} {i x y nq_ : Nat} {sm : mS} {Y : cY} {c : mS} {v5 v6 : Value} (hN : g_n g ≤ 3584) (hi : i + 7 ≤ g_n g) (hl : lI nq_ sm Y c) (K : lK g i x y) : G g 10 (x + 5) (y + 1550) kL_law 355 (lL i v5 v6) [] nq_ (hh sm Y c) lP := by
  obtain ⟨hY, hn, hI, hk⟩ := hl
  have hm0 := hk.z.inv hI.1.1
  have hs := sim_look hI hk.z (g_x g (nI (i + 1)).toNatClampNeg)
  refine G_aload_n dL_law_355 rfl rfl ?_
  refine G_aload_n dL_law_356 rfl rfl ?_
  refine G_iload dL_law_357 rfl ?_
  refine G_iconst (v := 1) dL_law_359 rfl ?_
  refine G_iadd dL_law_360 ?_
  refine G_top (w := .int (nI (i + 1))) (congrArg Value.int (nI_add i 1)) ?_
  refine G_aldS dL_law_361 (vp_in_nI (by omega) (by omega)) ?_
  refine G_callV (cp9_look (g_x g (nI (i + 1)).toNatClampNeg) hY hI.1) dL_law_362 (mc_L_51 rfl) tw_523 tw_524 (hx_8 _ _ _) rfl rfl rfl (Nat.le_of_ble_eq_true rfl) (Nat.le_of_ble_eq_true rfl) (by omega) (by omega) ?_
  rintro _ n9_ _ ⟨rfl, e9_, rfl⟩
  obtain rfl := e9_.symm
  refine G_aload_n dL_law_365 rfl rfl ?_
  refine G_aload_n dL_law_366 rfl rfl ?_
  refine G_iload dL_law_367 rfl ?_
  refine G_iconst (v := 1) dL_law_369 rfl ?_
  refine G_iadd dL_law_370 ?_
  refine G_top (w := .int (nI (i + 1))) (congrArg Value.int (nI_add i 1)) ?_
  refine G_aldS dL_law_371 (vp_in_nI (by omega) (by omega)) ?_
  refine GM_call (c9_look (s := sm) (r := hC Y ((cp_look c (g_x g (nI (i + 1)).toNatClampNeg)) : mS × Int32).1) (g_x g (nI (i + 1)).toNatClampNeg) hm0) dL_law_372 (mc_L_55 rfl) tw_1072 tw_1073 rfl rfl rfl (Nat.le_of_ble_eq_true rfl) (Nat.le_of_ble_eq_true rfl) ?_
  rintro _ n9_ _ ⟨rfl, e9_, rfl⟩
  obtain rfl := e9_.symm
  refine G_icmp_eq (tgt := 895) dL_law_375 (by decide) (fun _ => ?_) (fun w9 => absurd hs.1 w9)
  exact G_bud (x' := x) (y' := y) (by omega) (by omega) (K _ ((sp_look (m_set sm 0 0 0) (g_x g (nI (i + 1)).toNatClampNeg)) : mS × Int32).1 Y ((cp_look c (g_x g (nI (i + 1)).toNatClampNeg)) : mS × Int32).1 v5 v6 ⟨(y_look hY (g_x g (nI (i + 1)).toNatClampNeg)), hn, hs.2.1, hs.2.2⟩)
set_option maxHeartbeats 4000000 in
set_option maxRecDepth 100000 in
theorem lc_8 {g : gT} {i x y nq_ : Nat} {sm : mS} {Y : cY} {c : mS} {v5 v6 : Value} (hN : g_n g ≤ 3584) (hi : i + 7 ≤ g_n g) (hl : lI nq_ sm Y c) (K : lK g i x y) : G g 10 (x + 5) (y + 1550) kL_law 380 (lL i v5 v6) [] nq_ (hh sm Y c) lP := by
  obtain ⟨hY, hn, hI, hk⟩ := hl
  have hm0 := hk.z.inv hI.1.1
  have hs := sim_lawful hI hk.z (g_x g (nI (i + 1)).toNatClampNeg) (g_x g (nI (i + 2)).toNatClampNeg)
  refine G_aload_n dL_law_380 rfl rfl ?_
  refine G_aload_n dL_law_381 rfl rfl ?_
  refine G_iload dL_law_382 rfl ?_
  refine G_iconst (v := 1) dL_law_384 rfl ?_
  refine G_iadd dL_law_385 ?_
  refine G_top (w := .int (nI (i + 1))) (congrArg Value.int (nI_add i 1)) ?_
  refine G_aldS dL_law_386 (vp_in_nI (by omega) (by omega)) ?_
  refine G_aload_n dL_law_387 rfl rfl ?_
  refine G_iload dL_law_388 rfl ?_
  refine G_iconst (v := 2) dL_law_390 rfl ?_
  refine G_iadd dL_law_391 ?_
  refine G_top (w := .int (nI (i + 2))) (congrArg Value.int (nI_add i 2)) ?_
  refine G_aldS dL_law_392 (vp_in_nI (by omega) (by omega)) ?_
  refine G_callV (cp9_lawful (g_x g (nI (i + 1)).toNatClampNeg) (g_x g (nI (i + 2)).toNatClampNeg) hY hI.1) dL_law_393 (mc_L_56 rfl) tw_531 tw_532 (hx_8 _ _ _) rfl rfl rfl (Nat.le_of_ble_eq_true rfl) (Nat.le_of_ble_eq_true rfl) (by omega) (by omega) ?_
  rintro _ n9_ _ ⟨rfl, e9_, rfl⟩
  obtain rfl := e9_.symm
  refine G_aload_n dL_law_396 rfl rfl ?_
  refine G_aload_n dL_law_397 rfl rfl ?_
  refine G_iload dL_law_398 rfl ?_
  refine G_iconst (v := 1) dL_law_400 rfl ?_
  refine G_iadd dL_law_401 ?_
  refine G_top (w := .int (nI (i + 1))) (congrArg Value.int (nI_add i 1)) ?_
  refine G_aldS dL_law_402 (vp_in_nI (by omega) (by omega)) ?_
  refine G_aload_n dL_law_403 rfl rfl ?_
  refine G_iload dL_law_404 rfl ?_
  refine G_iconst (v := 2) dL_law_406 rfl ?_
  refine G_iadd dL_law_407 ?_
  refine G_top (w := .int (nI (i + 2))) (congrArg Value.int (nI_add i 2)) ?_
  refine G_aldS dL_law_408 (vp_in_nI (by omega) (by omega)) ?_
  refine GM_call (c9_lawful (s := sm) (r := hC Y ((cp_lawful c (g_x g (nI (i + 1)).toNatClampNeg) (g_x g (nI (i + 2)).toNatClampNeg)) : mS × Int32).1) (g_x g (nI (i + 1)).toNatClampNeg) (g_x g (nI (i + 2)).toNatClampNeg) hm0) dL_law_409 (mc_L_59 rfl) tw_1084 tw_1085 rfl rfl rfl (Nat.le_of_ble_eq_true rfl) (Nat.le_of_ble_eq_true rfl) ?_
  rintro _ n9_ _ ⟨rfl, e9_, rfl⟩
  obtain rfl := e9_.symm
  refine G_icmp_eq (tgt := 895) dL_law_412 (by decide) (fun _ => ?_) (fun w9 => absurd hs.1 w9)
  exact G_bud (x' := x) (y' := y) (by omega) (by omega) (K _ ((sp_lawful (m_set sm 0 0 0) (g_x g (nI (i + 1)).toNatClampNeg) (g_x g (nI (i + 2)).toNatClampNeg)) : mS × Int32).1 Y ((cp_lawful c (g_x g (nI (i + 1)).toNatClampNeg) (g_x g (nI (i + 2)).toNatClampNeg)) : mS × Int32).1 v5 v6 ⟨hY, hn, hs.2.1, hs.2.2⟩)
set_option maxHeartbeats 4000000 in
set_option maxRecDepth 100000 in
theorem lc_9 {g : gT} {i x y nq_ : Nat} {sm : mS} {Y : cY} {c : mS} {v5 v6 : Value} (hN : g_n g ≤ 3584) (hi : i + 7 ≤ g_n g) (hl : lI nq_ sm Y c) (K : lK g i x y) : G g 10 (x + 5) (y + 1550) kL_law 417 (lL i v5 v6) [] nq_ (hh sm Y c) lP := by
  obtain ⟨hY, hn, hI, hk⟩ := hl
  have hm0 := hk.z.inv hI.1.1
  have hs := sim_ask hI hk.z (g_x g (nI (i + 1)).toNatClampNeg) (g_x g (nI (i + 2)).toNatClampNeg) (g_x g (nI (i + 3)).toNatClampNeg) (g_x g (nI (i + 4)).toNatClampNeg) (g_x g (nI (i + 5)).toNatClampNeg) (g_x g (nI (i + 6)).toNatClampNeg)
  refine G_aload_n dL_law_417 rfl rfl ?_
  refine G_aload_n dL_law_418 rfl rfl ?_
  refine G_iload dL_law_419 rfl ?_
  refine G_iconst (v := 1) dL_law_421 rfl ?_
  refine G_iadd dL_law_422 ?_
  refine G_top (w := .int (nI (i + 1))) (congrArg Value.int (nI_add i 1)) ?_
  refine G_aldS dL_law_423 (vp_in_nI (by omega) (by omega)) ?_
  refine G_aload_n dL_law_424 rfl rfl ?_
  refine G_iload dL_law_425 rfl ?_
  refine G_iconst (v := 2) dL_law_427 rfl ?_
  refine G_iadd dL_law_428 ?_
  refine G_top (w := .int (nI (i + 2))) (congrArg Value.int (nI_add i 2)) ?_
  refine G_aldS dL_law_429 (vp_in_nI (by omega) (by omega)) ?_
  refine G_aload_n dL_law_430 rfl rfl ?_
  refine G_iload dL_law_431 rfl ?_
  refine G_iconst (v := 3) dL_law_433 rfl ?_
  refine G_iadd dL_law_434 ?_
  refine G_top (w := .int (nI (i + 3))) (congrArg Value.int (nI_add i 3)) ?_
  refine G_aldS dL_law_435 (vp_in_nI (by omega) (by omega)) ?_
  refine G_aload_n dL_law_436 rfl rfl ?_
  refine G_iload dL_law_437 rfl ?_
  refine G_iconst (v := 4) dL_law_439 rfl ?_
  refine G_iadd dL_law_440 ?_
  refine G_top (w := .int (nI (i + 4))) (congrArg Value.int (nI_add i 4)) ?_
  refine G_aldS dL_law_441 (vp_in_nI (by omega) (by omega)) ?_
  refine G_aload_n dL_law_442 rfl rfl ?_
  refine G_iload dL_law_443 rfl ?_
  refine G_iconst (v := 5) dL_law_445 rfl ?_
  refine G_iadd dL_law_446 ?_
  refine G_top (w := .int (nI (i + 5))) (congrArg Value.int (nI_add i 5)) ?_
  refine G_aldS dL_law_447 (vp_in_nI (by omega) (by omega)) ?_
  refine G_aload_n dL_law_448 rfl rfl ?_
  refine G_iload dL_law_449 rfl ?_
  refine G_bipush (v := 6) dL_law_451 rfl ?_
  refine G_iadd dL_law_453 ?_
  refine G_top (w := .int (nI (i + 6))) (congrArg Value.int (nI_add i 6)) ?_
  refine G_aldS dL_law_454 (vp_in_nI (by omega) (by omega)) ?_
  refine G_callV (cp9_ask (g_x g (nI (i + 1)).toNatClampNeg) (g_x g (nI (i + 2)).toNatClampNeg) (g_x g (nI (i + 3)).toNatClampNeg) (g_x g (nI (i + 4)).toNatClampNeg) (g_x g (nI (i + 5)).toNatClampNeg) (g_x g (nI (i + 6)).toNatClampNeg) hY hn hI.1) dL_law_455 (mc_L_60 rfl) tw_543 tw_544 (hx_8 _ _ _) rfl rfl rfl (Nat.le_of_ble_eq_true rfl) (Nat.le_of_ble_eq_true rfl) (by omega) (by omega) ?_
  rintro _ n2_ _ ⟨rfl, Y2, rfl, hY2, hn2⟩
  refine G_aload_n dL_law_458 rfl rfl ?_
  refine G_aload_n dL_law_459 rfl rfl ?_
  refine G_iload dL_law_460 rfl ?_
  refine G_iconst (v := 1) dL_law_462 rfl ?_
  refine G_iadd dL_law_463 ?_
  refine G_top (w := .int (nI (i + 1))) (congrArg Value.int (nI_add i 1)) ?_
  refine G_aldS dL_law_464 (vp_in_nI (by omega) (by omega)) ?_
  refine G_aload_n dL_law_465 rfl rfl ?_
  refine G_iload dL_law_466 rfl ?_
  refine G_iconst (v := 2) dL_law_468 rfl ?_
  refine G_iadd dL_law_469 ?_
  refine G_top (w := .int (nI (i + 2))) (congrArg Value.int (nI_add i 2)) ?_
  refine G_aldS dL_law_470 (vp_in_nI (by omega) (by omega)) ?_
  refine G_aload_n dL_law_471 rfl rfl ?_
  refine G_iload dL_law_472 rfl ?_
  refine G_iconst (v := 3) dL_law_474 rfl ?_
  refine G_iadd dL_law_475 ?_
  refine G_top (w := .int (nI (i + 3))) (congrArg Value.int (nI_add i 3)) ?_
  refine G_aldS dL_law_476 (vp_in_nI (by omega) (by omega)) ?_
  refine G_aload_n dL_law_477 rfl rfl ?_
  refine G_iload dL_law_478 rfl ?_
  refine G_iconst (v := 4) dL_law_480 rfl ?_
  refine G_iadd dL_law_481 ?_
  refine G_top (w := .int (nI (i + 4))) (congrArg Value.int (nI_add i 4)) ?_
  refine G_aldS dL_law_482 (vp_in_nI (by omega) (by omega)) ?_
  refine G_aload_n dL_law_483 rfl rfl ?_
  refine G_iload dL_law_484 rfl ?_
  refine G_iconst (v := 5) dL_law_486 rfl ?_
  refine G_iadd dL_law_487 ?_
  refine G_top (w := .int (nI (i + 5))) (congrArg Value.int (nI_add i 5)) ?_
  refine G_aldS dL_law_488 (vp_in_nI (by omega) (by omega)) ?_
  refine G_aload_n dL_law_489 rfl rfl ?_
  refine G_iload dL_law_490 rfl ?_
  refine G_bipush (v := 6) dL_law_492 rfl ?_
  refine G_iadd dL_law_494 ?_
  refine G_top (w := .int (nI (i + 6))) (congrArg Value.int (nI_add i 6)) ?_
  refine G_aldS dL_law_495 (vp_in_nI (by omega) (by omega)) ?_
  refine GM_call (c9_ask (s := sm) (r := hC Y2 ((cp_ask c (g_x g (nI (i + 1)).toNatClampNeg) (g_x g (nI (i + 2)).toNatClampNeg) (g_x g (nI (i + 3)).toNatClampNeg) (g_x g (nI (i + 4)).toNatClampNeg) (g_x g (nI (i + 5)).toNatClampNeg) (g_x g (nI (i + 6)).toNatClampNeg)) : mS × Int32).1) (g_x g (nI (i + 1)).toNatClampNeg) (g_x g (nI (i + 2)).toNatClampNeg) (g_x g (nI (i + 3)).toNatClampNeg) (g_x g (nI (i + 4)).toNatClampNeg) (g_x g (nI (i + 5)).toNatClampNeg) (g_x g (nI (i + 6)).toNatClampNeg) hm0) dL_law_496 (mc_L_64 rfl) tw_1096 tw_1097 rfl rfl rfl (Nat.le_of_ble_eq_true rfl) (Nat.le_of_ble_eq_true rfl) ?_
  rintro _ n9_ _ ⟨rfl, e9_, rfl⟩
  obtain rfl := e9_.symm
  refine G_icmp_eq (tgt := 895) dL_law_499 (by decide) (fun _ => ?_) (fun w9 => absurd hs.1 w9)
  exact G_bud (x' := x) (y' := y) (by omega) (by omega) (K _ ((sp_ask (m_set sm 0 0 0) (g_x g (nI (i + 1)).toNatClampNeg) (g_x g (nI (i + 2)).toNatClampNeg) (g_x g (nI (i + 3)).toNatClampNeg) (g_x g (nI (i + 4)).toNatClampNeg) (g_x g (nI (i + 5)).toNatClampNeg) (g_x g (nI (i + 6)).toNatClampNeg)) : mS × Int32).1 Y2 ((cp_ask c (g_x g (nI (i + 1)).toNatClampNeg) (g_x g (nI (i + 2)).toNatClampNeg) (g_x g (nI (i + 3)).toNatClampNeg) (g_x g (nI (i + 4)).toNatClampNeg) (g_x g (nI (i + 5)).toNatClampNeg) (g_x g (nI (i + 6)).toNatClampNeg)) : mS × Int32).1 v5 v6 ⟨hY2, (by omega), hs.2.1, hs.2.2⟩)
set_option maxHeartbeats 4000000 in
set_option maxRecDepth 100000 in
theorem lc_10 {g : gT} {i x y nq_ : Nat} {sm : mS} {Y : cY} {c : mS} {v5 v6 : Value} (hN : g_n g ≤ 3584) (hi : i + 7 ≤ g_n g) (hl : lI nq_ sm Y c) (K : lK g i x y) : G g 10 (x + 5) (y + 1550) kL_law 504 (lL i v5 v6) [] nq_ (hh sm Y c) lP := by
  obtain ⟨hY, hn, hI, hk⟩ := hl
  have hm0 := hk.z.inv hI.1.1
  have hs := sim_plan hI hk.z
  have hA2 := hI.1.1.2.2.2.2.1.2
  have hlg := hI.2.2.2.2.2.2.2.2.2.2.2.2.2.1.1
  have hpl : mL c + ct (fun b => c 24 b = 0) (mA c) ≤ 120 := by have := ct_dis (p := fun a => c 24 a = 2) (q := fun a => c 24 a = 0) (n := mA c) (fun a _ q w => by rw [q] at w; exact absurd w (by decide)); omega
  have hpn : s_pd (m_set sm 0 0 0) (mA (m_set sm 0 0 0)) ≤ 5 := by have e := hk.z.1.A; have e2 := hk.z.1 24 (by decide); unfold s_pd; rw [e, ← e2]; exact hI.2.2.2.2.2.2.2.1
  refine G_aload_n dL_law_504 rfl rfl ?_
  refine G_callV (cp9_plan hY hn hI.1 hI.2.2.2.2.2.2.2.1 hpl) dL_law_505 (mc_L_65 rfl) tw_616 tw_617 (hx_8 _ _ _) rfl rfl rfl (Nat.le_of_ble_eq_true rfl) (Nat.le_of_ble_eq_true rfl) (by omega) (by omega) ?_
  rintro _ n2_ _ ⟨rfl, Y2, rfl, hY2, hn2⟩
  refine G_aload_n dL_law_508 rfl rfl ?_
  refine GM_call (c9_plan (s := sm) (r := hC Y2 ((cp_plan c) : mS × Int32).1) hm0 hpn) dL_law_509 (mc_L_68 rfl) tw_1108 tw_1109 rfl rfl rfl (Nat.le_of_ble_eq_true rfl) (Nat.le_of_ble_eq_true rfl) ?_
  rintro _ n9_ _ ⟨rfl, e9_, rfl⟩
  obtain rfl := e9_.symm
  refine G_icmp_eq (tgt := 895) dL_law_512 (by decide) (fun _ => ?_) (fun w9 => absurd hs.1 w9)
  exact G_bud (x' := x) (y' := y) (by omega) (by omega) (K _ ((sp_plan (m_set sm 0 0 0)) : mS × Int32).1 Y2 ((cp_plan c) : mS × Int32).1 v5 v6 ⟨hY2, (by omega), hs.2.1, hs.2.2⟩)
set_option maxHeartbeats 4000000 in
set_option maxRecDepth 100000 in
theorem lc_11 {g : gT} {i x y nq_ : Nat} {sm : mS} {Y : cY} {c : mS} {v5 v6 : Value} (hN : g_n g ≤ 3584) (hi : i + 7 ≤ g_n g) (hl : lI nq_ sm Y c) (K : lK g i x y) : G g 10 (x + 5) (y + 1550) kL_law 517 (lL i v5 v6) [] nq_ (hh sm Y c) lP := by
  obtain ⟨hY, hn, hI, hk⟩ := hl
  have hm0 := hk.z.inv hI.1.1
  have hs := sim_off hI hk.z (g_x g (nI (i + 1)).toNatClampNeg)
  refine G_aload_n dL_law_517 rfl rfl ?_
  refine G_aload_n dL_law_518 rfl rfl ?_
  refine G_iload dL_law_519 rfl ?_
  refine G_iconst (v := 1) dL_law_521 rfl ?_
  refine G_iadd dL_law_522 ?_
  refine G_top (w := .int (nI (i + 1))) (congrArg Value.int (nI_add i 1)) ?_
  refine G_aldS dL_law_523 (vp_in_nI (by omega) (by omega)) ?_
  refine G_callV (cp9_off (g_x g (nI (i + 1)).toNatClampNeg) hY hI.1) dL_law_524 (mc_L_69 rfl) tw_708 tw_709 (hx_8 _ _ _) rfl rfl rfl (Nat.le_of_ble_eq_true rfl) (Nat.le_of_ble_eq_true rfl) (by omega) (by omega) ?_
  rintro _ n9_ _ ⟨rfl, e9_, rfl⟩
  obtain rfl := e9_.symm
  refine G_aload_n dL_law_527 rfl rfl ?_
  refine G_aload_n dL_law_528 rfl rfl ?_
  refine G_iload dL_law_529 rfl ?_
  refine G_iconst (v := 1) dL_law_531 rfl ?_
  refine G_iadd dL_law_532 ?_
  refine G_top (w := .int (nI (i + 1))) (congrArg Value.int (nI_add i 1)) ?_
  refine G_aldS dL_law_533 (vp_in_nI (by omega) (by omega)) ?_
  refine GM_call (c9_off (s := sm) (r := hC Y ((sp_off c (g_x g (nI (i + 1)).toNatClampNeg)) : mS × Int32).1) (g_x g (nI (i + 1)).toNatClampNeg) hm0) dL_law_534 (mc_L_72 rfl) tw_1139 tw_1140 rfl rfl rfl (Nat.le_of_ble_eq_true rfl) (Nat.le_of_ble_eq_true rfl) ?_
  rintro _ n9_ _ ⟨rfl, e9_, rfl⟩
  obtain rfl := e9_.symm
  refine G_icmp_eq (tgt := 895) dL_law_537 (by decide) (fun _ => ?_) (fun w9 => absurd hs.1 w9)
  exact G_bud (x' := x) (y' := y) (by omega) (by omega) (K _ ((sp_off (m_set sm 0 0 0) (g_x g (nI (i + 1)).toNatClampNeg)) : mS × Int32).1 Y ((sp_off c (g_x g (nI (i + 1)).toNatClampNeg)) : mS × Int32).1 v5 v6 ⟨(y_off hY (g_x g (nI (i + 1)).toNatClampNeg)), hn, hs.2.1, hs.2.2⟩)
set_option maxHeartbeats 4000000 in
set_option maxRecDepth 100000 in
theorem lc_12 {g : gT} {i x y nq_ : Nat} {sm : mS} {Y : cY} {c : mS} {v5 v6 : Value} (hN : g_n g ≤ 3584) (hi : i + 7 ≤ g_n g) (hl : lI nq_ sm Y c) (K : lK g i x y) : G g 10 (x + 5) (y + 1550) kL_law 542 (lL i v5 v6) [] nq_ (hh sm Y c) lP := by
  obtain ⟨hY, hn, hI, hk⟩ := hl
  have hm0 := hk.z.inv hI.1.1
  have hs := sim_out hI hk.z (g_x g (nI (i + 1)).toNatClampNeg)
  refine G_aload_n dL_law_542 rfl rfl ?_
  refine G_aload_n dL_law_543 rfl rfl ?_
  refine G_iload dL_law_544 rfl ?_
  refine G_iconst (v := 1) dL_law_546 rfl ?_
  refine G_iadd dL_law_547 ?_
  refine G_top (w := .int (nI (i + 1))) (congrArg Value.int (nI_add i 1)) ?_
  refine G_aldS dL_law_548 (vp_in_nI (by omega) (by omega)) ?_
  refine G_callV (cp9_out (g_x g (nI (i + 1)).toNatClampNeg) hY hI.1) dL_law_549 (mc_L_73 rfl) tw_716 tw_717 (hx_8 _ _ _) rfl rfl rfl (Nat.le_of_ble_eq_true rfl) (Nat.le_of_ble_eq_true rfl) (by omega) (by omega) ?_
  rintro _ n9_ _ ⟨rfl, e9_, rfl⟩
  obtain rfl := e9_.symm
  refine G_aload_n dL_law_552 rfl rfl ?_
  refine G_aload_n dL_law_553 rfl rfl ?_
  refine G_iload dL_law_554 rfl ?_
  refine G_iconst (v := 1) dL_law_556 rfl ?_
  refine G_iadd dL_law_557 ?_
  refine G_top (w := .int (nI (i + 1))) (congrArg Value.int (nI_add i 1)) ?_
  refine G_aldS dL_law_558 (vp_in_nI (by omega) (by omega)) ?_
  refine GM_call (c9_out (s := sm) (r := hC Y ((cp_out c (g_x g (nI (i + 1)).toNatClampNeg)) : mS × Int32).1) (g_x g (nI (i + 1)).toNatClampNeg) hm0) dL_law_559 (mc_L_76 rfl) tw_1143 tw_1144 rfl rfl rfl (Nat.le_of_ble_eq_true rfl) (Nat.le_of_ble_eq_true rfl) ?_
  rintro _ n9_ _ ⟨rfl, e9_, rfl⟩
  obtain rfl := e9_.symm
  refine G_icmp_eq (tgt := 895) dL_law_562 (by decide) (fun _ => ?_) (fun w9 => absurd hs.1 w9)
  exact G_bud (x' := x) (y' := y) (by omega) (by omega) (K _ ((sp_out (m_set sm 0 0 0) (g_x g (nI (i + 1)).toNatClampNeg)) : mS × Int32).1 Y ((cp_out c (g_x g (nI (i + 1)).toNatClampNeg)) : mS × Int32).1 v5 v6 ⟨(y_out hY (g_x g (nI (i + 1)).toNatClampNeg)), hn, hs.2.1, hs.2.2⟩)
set_option maxHeartbeats 4000000 in
set_option maxRecDepth 100000 in
theorem lc_13 {g : gT} {i x y nq_ : Nat} {sm : mS} {Y : cY} {c : mS} {v5 v6 : Value} (hN : g_n g ≤ 3584) (hi : i + 7 ≤ g_n g) (hl : lI nq_ sm Y c) (K : lK g i x y) : G g 10 (x + 5) (y + 1550) kL_law 567 (lL i v5 v6) [] nq_ (hh sm Y c) lP := by
  obtain ⟨hY, hn, hI, hk⟩ := hl
  have hm0 := hk.z.inv hI.1.1
  have hs := sim_back hI hk.z (g_x g (nI (i + 1)).toNatClampNeg)
  refine G_aload_n dL_law_567 rfl rfl ?_
  refine G_aload_n dL_law_568 rfl rfl ?_
  refine G_iload dL_law_569 rfl ?_
  refine G_iconst (v := 1) dL_law_571 rfl ?_
  refine G_iadd dL_law_572 ?_
  refine G_top (w := .int (nI (i + 1))) (congrArg Value.int (nI_add i 1)) ?_
  refine G_aldS dL_law_573 (vp_in_nI (by omega) (by omega)) ?_
  refine G_callV (cp9_back (g_x g (nI (i + 1)).toNatClampNeg) hY hI.1) dL_law_574 (mc_L_77 rfl) tw_728 tw_729 (hx_8 _ _ _) rfl rfl rfl (Nat.le_of_ble_eq_true rfl) (Nat.le_of_ble_eq_true rfl) (by omega) (by omega) ?_
  rintro _ n9_ _ ⟨rfl, e9_, rfl⟩
  obtain rfl := e9_.symm
  refine G_aload_n dL_law_577 rfl rfl ?_
  refine G_aload_n dL_law_578 rfl rfl ?_
  refine G_iload dL_law_579 rfl ?_
  refine G_iconst (v := 1) dL_law_581 rfl ?_
  refine G_iadd dL_law_582 ?_
  refine G_top (w := .int (nI (i + 1))) (congrArg Value.int (nI_add i 1)) ?_
  refine G_aldS dL_law_583 (vp_in_nI (by omega) (by omega)) ?_
  refine GM_call (c9_back (s := sm) (r := hC Y ((cp_back c (g_x g (nI (i + 1)).toNatClampNeg)) : mS × Int32).1) (g_x g (nI (i + 1)).toNatClampNeg) hm0) dL_law_584 (mc_L_80 rfl) tw_1147 tw_1148 rfl rfl rfl (Nat.le_of_ble_eq_true rfl) (Nat.le_of_ble_eq_true rfl) ?_
  rintro _ n9_ _ ⟨rfl, e9_, rfl⟩
  obtain rfl := e9_.symm
  refine G_icmp_eq (tgt := 895) dL_law_587 (by decide) (fun _ => ?_) (fun w9 => absurd hs.1 w9)
  exact G_bud (x' := x) (y' := y) (by omega) (by omega) (K _ ((sp_back (m_set sm 0 0 0) (g_x g (nI (i + 1)).toNatClampNeg)) : mS × Int32).1 Y ((cp_back c (g_x g (nI (i + 1)).toNatClampNeg)) : mS × Int32).1 v5 v6 ⟨(y_back hY (g_x g (nI (i + 1)).toNatClampNeg)), hn, hs.2.1, hs.2.2⟩)
set_option maxHeartbeats 4000000 in
set_option maxRecDepth 100000 in
theorem lc_14 {g : gT} {i x y nq_ : Nat} {sm : mS} {Y : cY} {c : mS} {v5 v6 : Value} (hN : g_n g ≤ 3584) (hi : i + 7 ≤ g_n g) (hl : lI nq_ sm Y c) (K : lK g i x y) : G g 10 (x + 5) (y + 1550) kL_law 592 (lL i v5 v6) [] nq_ (hh sm Y c) lP := by
  obtain ⟨hY, hn, hI, hk⟩ := hl
  have hm0 := hk.z.inv hI.1.1
  have hs := sim_work hI hk.z (g_x g (nI (i + 1)).toNatClampNeg) (g_x g (nI (i + 2)).toNatClampNeg)
  refine G_aload_n dL_law_592 rfl rfl ?_
  refine G_aload_n dL_law_593 rfl rfl ?_
  refine G_iload dL_law_594 rfl ?_
  refine G_iconst (v := 1) dL_law_596 rfl ?_
  refine G_iadd dL_law_597 ?_
  refine G_top (w := .int (nI (i + 1))) (congrArg Value.int (nI_add i 1)) ?_
  refine G_aldS dL_law_598 (vp_in_nI (by omega) (by omega)) ?_
  refine G_aload_n dL_law_599 rfl rfl ?_
  refine G_iload dL_law_600 rfl ?_
  refine G_iconst (v := 2) dL_law_602 rfl ?_
  refine G_iadd dL_law_603 ?_
  refine G_top (w := .int (nI (i + 2))) (congrArg Value.int (nI_add i 2)) ?_
  refine G_aldS dL_law_604 (vp_in_nI (by omega) (by omega)) ?_
  refine G_callV (cp9_work (g_x g (nI (i + 1)).toNatClampNeg) (g_x g (nI (i + 2)).toNatClampNeg) hY hI.1) dL_law_605 (mc_L_81 rfl) tw_737 tw_738 (hx_8 _ _ _) rfl rfl rfl (Nat.le_of_ble_eq_true rfl) (Nat.le_of_ble_eq_true rfl) (by omega) (by omega) ?_
  rintro _ n9_ _ ⟨rfl, e9_, rfl⟩
  obtain rfl := e9_.symm
  refine G_aload_n dL_law_608 rfl rfl ?_
  refine G_aload_n dL_law_609 rfl rfl ?_
  refine G_iload dL_law_610 rfl ?_
  refine G_iconst (v := 1) dL_law_612 rfl ?_
  refine G_iadd dL_law_613 ?_
  refine G_top (w := .int (nI (i + 1))) (congrArg Value.int (nI_add i 1)) ?_
  refine G_aldS dL_law_614 (vp_in_nI (by omega) (by omega)) ?_
  refine G_aload_n dL_law_615 rfl rfl ?_
  refine G_iload dL_law_616 rfl ?_
  refine G_iconst (v := 2) dL_law_618 rfl ?_
  refine G_iadd dL_law_619 ?_
  refine G_top (w := .int (nI (i + 2))) (congrArg Value.int (nI_add i 2)) ?_
  refine G_aldS dL_law_620 (vp_in_nI (by omega) (by omega)) ?_
  refine GM_call (c9_work (s := sm) (r := hC Y ((cp_work c (g_x g (nI (i + 1)).toNatClampNeg) (g_x g (nI (i + 2)).toNatClampNeg)) : mS × Int32).1) (g_x g (nI (i + 1)).toNatClampNeg) (g_x g (nI (i + 2)).toNatClampNeg) hm0) dL_law_621 (mc_L_84 rfl) tw_1151 tw_1152 rfl rfl rfl (Nat.le_of_ble_eq_true rfl) (Nat.le_of_ble_eq_true rfl) ?_
  rintro _ n9_ _ ⟨rfl, e9_, rfl⟩
  obtain rfl := e9_.symm
  refine G_icmp_eq (tgt := 895) dL_law_624 (by decide) (fun _ => ?_) (fun w9 => absurd hs.1 w9)
  exact G_bud (x' := x) (y' := y) (by omega) (by omega) (K _ ((sp_work (m_set sm 0 0 0) (g_x g (nI (i + 1)).toNatClampNeg) (g_x g (nI (i + 2)).toNatClampNeg)) : mS × Int32).1 Y ((cp_work c (g_x g (nI (i + 1)).toNatClampNeg) (g_x g (nI (i + 2)).toNatClampNeg)) : mS × Int32).1 v5 v6 ⟨(y_work hY (g_x g (nI (i + 1)).toNatClampNeg) (g_x g (nI (i + 2)).toNatClampNeg)), hn, hs.2.1, hs.2.2⟩)
set_option maxHeartbeats 4000000 in
set_option maxRecDepth 100000 in
theorem lc_15 {g : gT} {i x y nq_ : Nat} {sm : mS} {Y : cY} {c : mS} {v5 v6 : Value} (hN : g_n g ≤ 3584) (hi : i + 7 ≤ g_n g) (hl : lI nq_ sm Y c) (K : lK g i x y) : G g 10 (x + 5) (y + 1550) kL_law 629 (lL i v5 v6) [] nq_ (hh sm Y c) lP := by
  obtain ⟨hY, hn, hI, hk⟩ := hl
  have hm0 := hk.z.inv hI.1.1
  have hs := sim_days hI hk.z (g_x g (nI (i + 1)).toNatClampNeg)
  refine G_aload_n dL_law_629 rfl rfl ?_
  refine G_aload_n dL_law_630 rfl rfl ?_
  refine G_iload dL_law_631 rfl ?_
  refine G_iconst (v := 1) dL_law_633 rfl ?_
  refine G_iadd dL_law_634 ?_
  refine G_top (w := .int (nI (i + 1))) (congrArg Value.int (nI_add i 1)) ?_
  refine G_aldS dL_law_635 (vp_in_nI (by omega) (by omega)) ?_
  refine G_callV (cp9_days (g_x g (nI (i + 1)).toNatClampNeg) hY hI.1) dL_law_636 (mc_L_85 rfl) tw_741 tw_742 (hx_8 _ _ _) rfl rfl rfl (Nat.le_of_ble_eq_true rfl) (Nat.le_of_ble_eq_true rfl) (by omega) (by omega) ?_
  rintro _ n9_ _ ⟨rfl, e9_, rfl⟩
  obtain rfl := e9_.symm
  refine G_aload_n dL_law_639 rfl rfl ?_
  refine G_aload_n dL_law_640 rfl rfl ?_
  refine G_iload dL_law_641 rfl ?_
  refine G_iconst (v := 1) dL_law_643 rfl ?_
  refine G_iadd dL_law_644 ?_
  refine G_top (w := .int (nI (i + 1))) (congrArg Value.int (nI_add i 1)) ?_
  refine G_aldS dL_law_645 (vp_in_nI (by omega) (by omega)) ?_
  refine GM_call (c9_days (s := sm) (r := hC Y ((cp_days c (g_x g (nI (i + 1)).toNatClampNeg)) : mS × Int32).1) (g_x g (nI (i + 1)).toNatClampNeg) hm0) dL_law_646 (mc_L_88 rfl) tw_1155 tw_1156 rfl rfl rfl (Nat.le_of_ble_eq_true rfl) (Nat.le_of_ble_eq_true rfl) ?_
  rintro _ n9_ _ ⟨rfl, e9_, rfl⟩
  obtain rfl := e9_.symm
  refine G_icmp_eq (tgt := 895) dL_law_649 (by decide) (fun _ => ?_) (fun w9 => absurd hs.1 w9)
  exact G_bud (x' := x) (y' := y) (by omega) (by omega) (K _ ((sp_days (m_set sm 0 0 0) (g_x g (nI (i + 1)).toNatClampNeg)) : mS × Int32).1 Y ((cp_days c (g_x g (nI (i + 1)).toNatClampNeg)) : mS × Int32).1 v5 v6 ⟨(y_days hI.1 hY (g_x g (nI (i + 1)).toNatClampNeg)), hn, hs.2.1, hs.2.2⟩)
set_option maxHeartbeats 4000000 in
set_option maxRecDepth 100000 in
theorem lc_16 {g : gT} {i x y nq_ : Nat} {sm : mS} {Y : cY} {c : mS} {v5 v6 : Value} (hN : g_n g ≤ 3584) (hi : i + 7 ≤ g_n g) (hl : lI nq_ sm Y c) (K : lK g i x y) : G g 10 (x + 5) (y + 1550) kL_law 654 (lL i v5 v6) [] nq_ (hh sm Y c) lP := by
  obtain ⟨hY, hn, hI, hk⟩ := hl
  have hm0 := hk.z.inv hI.1.1
  have hs := sim_buy hI hk.z (g_x g (nI (i + 1)).toNatClampNeg)
  refine G_aload_n dL_law_654 rfl rfl ?_
  refine G_aload_n dL_law_655 rfl rfl ?_
  refine G_iload dL_law_656 rfl ?_
  refine G_iconst (v := 1) dL_law_658 rfl ?_
  refine G_iadd dL_law_659 ?_
  refine G_top (w := .int (nI (i + 1))) (congrArg Value.int (nI_add i 1)) ?_
  refine G_aldS dL_law_660 (vp_in_nI (by omega) (by omega)) ?_
  refine G_callV (cp9_buy (g_x g (nI (i + 1)).toNatClampNeg) hY hI.1) dL_law_661 (mc_L_89 rfl) tw_773 tw_774 (hx_8 _ _ _) rfl rfl rfl (Nat.le_of_ble_eq_true rfl) (Nat.le_of_ble_eq_true rfl) (by omega) (by omega) ?_
  rintro _ n9_ _ ⟨rfl, e9_, rfl⟩
  obtain rfl := e9_.symm
  refine G_aload_n dL_law_664 rfl rfl ?_
  refine G_aload_n dL_law_665 rfl rfl ?_
  refine G_iload dL_law_666 rfl ?_
  refine G_iconst (v := 1) dL_law_668 rfl ?_
  refine G_iadd dL_law_669 ?_
  refine G_top (w := .int (nI (i + 1))) (congrArg Value.int (nI_add i 1)) ?_
  refine G_aldS dL_law_670 (vp_in_nI (by omega) (by omega)) ?_
  refine GM_call (c9_buy (s := sm) (r := hC Y ((cp_buy c (g_x g (nI (i + 1)).toNatClampNeg)) : mS × Int32).1) (g_x g (nI (i + 1)).toNatClampNeg) hm0) dL_law_671 (mc_L_92 rfl) tw_1175 tw_1176 rfl rfl rfl (Nat.le_of_ble_eq_true rfl) (Nat.le_of_ble_eq_true rfl) ?_
  rintro _ n9_ _ ⟨rfl, e9_, rfl⟩
  obtain rfl := e9_.symm
  refine G_icmp_eq (tgt := 895) dL_law_674 (by decide) (fun _ => ?_) (fun w9 => absurd hs.1 w9)
  exact G_bud (x' := x) (y' := y) (by omega) (by omega) (K _ ((sp_buy (m_set sm 0 0 0) (g_x g (nI (i + 1)).toNatClampNeg)) : mS × Int32).1 Y ((cp_buy c (g_x g (nI (i + 1)).toNatClampNeg)) : mS × Int32).1 v5 v6 ⟨hY, hn, hs.2.1, hs.2.2⟩)
set_option maxHeartbeats 4000000 in
set_option maxRecDepth 100000 in
theorem lc_18 {g : gT} {i x y nq_ : Nat} {sm : mS} {Y : cY} {c : mS} {v5 v6 : Value} (hN : g_n g ≤ 3584) (hi : i + 7 ≤ g_n g) (hl : lI nq_ sm Y c) (K : lK g i x y) : G g 10 (x + 5) (y + 1550) kL_law 747 (lL i v5 v6) [] nq_ (hh sm Y c) lP := by
  obtain ⟨hY, hn, hI, hk⟩ := hl
  have hm0 := hk.z.inv hI.1.1
  have hs := sim_thingOf hI hk.z (g_x g (nI (i + 1)).toNatClampNeg) (g_x g (nI (i + 2)).toNatClampNeg)
  refine G_aload_n dL_law_747 rfl rfl ?_
  refine G_aload_n dL_law_748 rfl rfl ?_
  refine G_iload dL_law_749 rfl ?_
  refine G_iconst (v := 1) dL_law_751 rfl ?_
  refine G_iadd dL_law_752 ?_
  refine G_top (w := .int (nI (i + 1))) (congrArg Value.int (nI_add i 1)) ?_
  refine G_aldS dL_law_753 (vp_in_nI (by omega) (by omega)) ?_
  refine G_aload_n dL_law_754 rfl rfl ?_
  refine G_iload dL_law_755 rfl ?_
  refine G_iconst (v := 2) dL_law_757 rfl ?_
  refine G_iadd dL_law_758 ?_
  refine G_top (w := .int (nI (i + 2))) (congrArg Value.int (nI_add i 2)) ?_
  refine G_aldS dL_law_759 (vp_in_nI (by omega) (by omega)) ?_
  refine G_callV (cp9_thingOf (g_x g (nI (i + 1)).toNatClampNeg) (g_x g (nI (i + 2)).toNatClampNeg) hY hI.1) dL_law_760 (mc_L_102 rfl) tw_777 tw_778 (hx_8 _ _ _) rfl rfl rfl (Nat.le_of_ble_eq_true rfl) (Nat.le_of_ble_eq_true rfl) (by omega) (by omega) ?_
  rintro _ n9_ _ ⟨rfl, e9_, rfl⟩
  obtain rfl := e9_.symm
  refine G_aload_n dL_law_763 rfl rfl ?_
  refine G_aload_n dL_law_764 rfl rfl ?_
  refine G_iload dL_law_765 rfl ?_
  refine G_iconst (v := 1) dL_law_767 rfl ?_
  refine G_iadd dL_law_768 ?_
  refine G_top (w := .int (nI (i + 1))) (congrArg Value.int (nI_add i 1)) ?_
  refine G_aldS dL_law_769 (vp_in_nI (by omega) (by omega)) ?_
  refine G_aload_n dL_law_770 rfl rfl ?_
  refine G_iload dL_law_771 rfl ?_
  refine G_iconst (v := 2) dL_law_773 rfl ?_
  refine G_iadd dL_law_774 ?_
  refine G_top (w := .int (nI (i + 2))) (congrArg Value.int (nI_add i 2)) ?_
  refine G_aldS dL_law_775 (vp_in_nI (by omega) (by omega)) ?_
  refine GM_call (c9_thingOf (s := sm) (r := hC Y ((cp_thingOf c (g_x g (nI (i + 1)).toNatClampNeg) (g_x g (nI (i + 2)).toNatClampNeg)) : mS × Int32).1) (g_x g (nI (i + 1)).toNatClampNeg) (g_x g (nI (i + 2)).toNatClampNeg) hm0) dL_law_776 (mc_L_105 rfl) tw_1183 tw_1184 rfl rfl rfl (Nat.le_of_ble_eq_true rfl) (Nat.le_of_ble_eq_true rfl) ?_
  rintro _ n9_ _ ⟨rfl, e9_, rfl⟩
  obtain rfl := e9_.symm
  refine G_icmp_eq (tgt := 895) dL_law_779 (by decide) (fun _ => ?_) (fun w9 => absurd hs.1 w9)
  exact G_bud (x' := x) (y' := y) (by omega) (by omega) (K _ ((sp_thingOf (m_set sm 0 0 0) (g_x g (nI (i + 1)).toNatClampNeg) (g_x g (nI (i + 2)).toNatClampNeg)) : mS × Int32).1 Y ((cp_thingOf c (g_x g (nI (i + 1)).toNatClampNeg) (g_x g (nI (i + 2)).toNatClampNeg)) : mS × Int32).1 v5 v6 ⟨hY, hn, hs.2.1, hs.2.2⟩)
set_option maxHeartbeats 4000000 in
set_option maxRecDepth 100000 in
theorem lc_19 {g : gT} {i x y nq_ : Nat} {sm : mS} {Y : cY} {c : mS} {v5 v6 : Value} (hN : g_n g ≤ 3584) (hi : i + 7 ≤ g_n g) (hl : lI nq_ sm Y c) (K : lK g i x y) : G g 10 (x + 5) (y + 1550) kL_law 784 (lL i v5 v6) [] nq_ (hh sm Y c) lP := by
  obtain ⟨hY, hn, hI, hk⟩ := hl
  have hm0 := hk.z.inv hI.1.1
  have hs := sim_isFree hI hk.z (g_x g (nI (i + 1)).toNatClampNeg) (g_x g (nI (i + 2)).toNatClampNeg) (g_x g (nI (i + 3)).toNatClampNeg)
  refine G_aload_n dL_law_784 rfl rfl ?_
  refine G_aload_n dL_law_785 rfl rfl ?_
  refine G_iload dL_law_786 rfl ?_
  refine G_iconst (v := 1) dL_law_788 rfl ?_
  refine G_iadd dL_law_789 ?_
  refine G_top (w := .int (nI (i + 1))) (congrArg Value.int (nI_add i 1)) ?_
  refine G_aldS dL_law_790 (vp_in_nI (by omega) (by omega)) ?_
  refine G_aload_n dL_law_791 rfl rfl ?_
  refine G_iload dL_law_792 rfl ?_
  refine G_iconst (v := 2) dL_law_794 rfl ?_
  refine G_iadd dL_law_795 ?_
  refine G_top (w := .int (nI (i + 2))) (congrArg Value.int (nI_add i 2)) ?_
  refine G_aldS dL_law_796 (vp_in_nI (by omega) (by omega)) ?_
  refine G_aload_n dL_law_797 rfl rfl ?_
  refine G_iload dL_law_798 rfl ?_
  refine G_iconst (v := 3) dL_law_800 rfl ?_
  refine G_iadd dL_law_801 ?_
  refine G_top (w := .int (nI (i + 3))) (congrArg Value.int (nI_add i 3)) ?_
  refine G_aldS dL_law_802 (vp_in_nI (by omega) (by omega)) ?_
  refine G_callV (cp9_isFree (g_x g (nI (i + 1)).toNatClampNeg) (g_x g (nI (i + 2)).toNatClampNeg) (g_x g (nI (i + 3)).toNatClampNeg) hY hI.1) dL_law_803 (mc_L_106 rfl) tw_789 tw_790 (hx_8 _ _ _) rfl rfl rfl (Nat.le_of_ble_eq_true rfl) (Nat.le_of_ble_eq_true rfl) (by omega) (by omega) ?_
  rintro _ n9_ _ ⟨rfl, e9_, rfl⟩
  obtain rfl := e9_.symm
  refine G_aload_n dL_law_806 rfl rfl ?_
  refine G_aload_n dL_law_807 rfl rfl ?_
  refine G_iload dL_law_808 rfl ?_
  refine G_iconst (v := 1) dL_law_810 rfl ?_
  refine G_iadd dL_law_811 ?_
  refine G_top (w := .int (nI (i + 1))) (congrArg Value.int (nI_add i 1)) ?_
  refine G_aldS dL_law_812 (vp_in_nI (by omega) (by omega)) ?_
  refine G_aload_n dL_law_813 rfl rfl ?_
  refine G_iload dL_law_814 rfl ?_
  refine G_iconst (v := 2) dL_law_816 rfl ?_
  refine G_iadd dL_law_817 ?_
  refine G_top (w := .int (nI (i + 2))) (congrArg Value.int (nI_add i 2)) ?_
  refine G_aldS dL_law_818 (vp_in_nI (by omega) (by omega)) ?_
  refine G_aload_n dL_law_819 rfl rfl ?_
  refine G_iload dL_law_820 rfl ?_
  refine G_iconst (v := 3) dL_law_822 rfl ?_
  refine G_iadd dL_law_823 ?_
  refine G_top (w := .int (nI (i + 3))) (congrArg Value.int (nI_add i 3)) ?_
  refine G_aldS dL_law_824 (vp_in_nI (by omega) (by omega)) ?_
  refine GM_call (c9_isFree (s := sm) (r := hC Y ((sp_isFree c (g_x g (nI (i + 1)).toNatClampNeg) (g_x g (nI (i + 2)).toNatClampNeg) (g_x g (nI (i + 3)).toNatClampNeg)) : mS × Int32).1) (g_x g (nI (i + 1)).toNatClampNeg) (g_x g (nI (i + 2)).toNatClampNeg) (g_x g (nI (i + 3)).toNatClampNeg) hm0) dL_law_825 (mc_L_109 rfl) tw_1187 tw_1188 rfl rfl rfl (Nat.le_of_ble_eq_true rfl) (Nat.le_of_ble_eq_true rfl) ?_
  rintro _ n9_ _ ⟨rfl, e9_, rfl⟩
  obtain rfl := e9_.symm
  refine G_icmp_eq (tgt := 895) dL_law_828 (by decide) (fun _ => ?_) (fun w9 => absurd hs.1 w9)
  exact G_bud (x' := x) (y' := y) (by omega) (by omega) (K _ ((sp_isFree (m_set sm 0 0 0) (g_x g (nI (i + 1)).toNatClampNeg) (g_x g (nI (i + 2)).toNatClampNeg) (g_x g (nI (i + 3)).toNatClampNeg)) : mS × Int32).1 Y ((sp_isFree c (g_x g (nI (i + 1)).toNatClampNeg) (g_x g (nI (i + 2)).toNatClampNeg) (g_x g (nI (i + 3)).toNatClampNeg)) : mS × Int32).1 v5 v6 ⟨hY, hn, hs.2.1, hs.2.2⟩)
set_option maxHeartbeats 4000000 in
set_option maxRecDepth 100000 in
theorem lc_20 {g : gT} {i x y nq_ : Nat} {sm : mS} {Y : cY} {c : mS} {v5 v6 : Value} (hN : g_n g ≤ 3584) (hi : i + 7 ≤ g_n g) (hl : lI nq_ sm Y c) (K : lK g i x y) : G g 10 (x + 5) (y + 1550) kL_law 833 (lL i v5 v6) [] nq_ (hh sm Y c) lP := by
  obtain ⟨hY, hn, hI, hk⟩ := hl
  have hm0 := hk.z.inv hI.1.1
  have hs := sim_memberOf hI hk.z (g_x g (nI (i + 1)).toNatClampNeg) (g_x g (nI (i + 2)).toNatClampNeg)
  refine G_aload_n dL_law_833 rfl rfl ?_
  refine G_aload_n dL_law_834 rfl rfl ?_
  refine G_iload dL_law_835 rfl ?_
  refine G_iconst (v := 1) dL_law_837 rfl ?_
  refine G_iadd dL_law_838 ?_
  refine G_top (w := .int (nI (i + 1))) (congrArg Value.int (nI_add i 1)) ?_
  refine G_aldS dL_law_839 (vp_in_nI (by omega) (by omega)) ?_
  refine G_aload_n dL_law_840 rfl rfl ?_
  refine G_iload dL_law_841 rfl ?_
  refine G_iconst (v := 2) dL_law_843 rfl ?_
  refine G_iadd dL_law_844 ?_
  refine G_top (w := .int (nI (i + 2))) (congrArg Value.int (nI_add i 2)) ?_
  refine G_aldS dL_law_845 (vp_in_nI (by omega) (by omega)) ?_
  refine G_callV (cp9_memberOf (g_x g (nI (i + 1)).toNatClampNeg) (g_x g (nI (i + 2)).toNatClampNeg) hY hI.1) dL_law_846 (mc_L_110 rfl) tw_793 tw_794 (hx_8 _ _ _) rfl rfl rfl (Nat.le_of_ble_eq_true rfl) (Nat.le_of_ble_eq_true rfl) (by omega) (by omega) ?_
  rintro _ n9_ _ ⟨rfl, e9_, rfl⟩
  obtain rfl := e9_.symm
  refine G_aload_n dL_law_849 rfl rfl ?_
  refine G_aload_n dL_law_850 rfl rfl ?_
  refine G_iload dL_law_851 rfl ?_
  refine G_iconst (v := 1) dL_law_853 rfl ?_
  refine G_iadd dL_law_854 ?_
  refine G_top (w := .int (nI (i + 1))) (congrArg Value.int (nI_add i 1)) ?_
  refine G_aldS dL_law_855 (vp_in_nI (by omega) (by omega)) ?_
  refine G_aload_n dL_law_856 rfl rfl ?_
  refine G_iload dL_law_857 rfl ?_
  refine G_iconst (v := 2) dL_law_859 rfl ?_
  refine G_iadd dL_law_860 ?_
  refine G_top (w := .int (nI (i + 2))) (congrArg Value.int (nI_add i 2)) ?_
  refine G_aldS dL_law_861 (vp_in_nI (by omega) (by omega)) ?_
  refine GM_call (c9_memberOf (s := sm) (r := hC Y ((cp_memberOf c (g_x g (nI (i + 1)).toNatClampNeg) (g_x g (nI (i + 2)).toNatClampNeg)) : mS × Int32).1) (g_x g (nI (i + 1)).toNatClampNeg) (g_x g (nI (i + 2)).toNatClampNeg) hm0) dL_law_862 (mc_L_113 rfl) tw_1191 tw_1192 rfl rfl rfl (Nat.le_of_ble_eq_true rfl) (Nat.le_of_ble_eq_true rfl) ?_
  rintro _ n9_ _ ⟨rfl, e9_, rfl⟩
  obtain rfl := e9_.symm
  refine G_icmp_eq (tgt := 895) dL_law_865 (by decide) (fun _ => ?_) (fun w9 => absurd hs.1 w9)
  exact G_bud (x' := x) (y' := y) (by omega) (by omega) (K _ ((sp_memberOf (m_set sm 0 0 0) (g_x g (nI (i + 1)).toNatClampNeg) (g_x g (nI (i + 2)).toNatClampNeg)) : mS × Int32).1 Y ((cp_memberOf c (g_x g (nI (i + 1)).toNatClampNeg) (g_x g (nI (i + 2)).toNatClampNeg)) : mS × Int32).1 v5 v6 ⟨hY, hn, hs.2.1, hs.2.2⟩)
set_option maxHeartbeats 4000000 in
set_option maxRecDepth 100000 in
theorem lc_21 {g : gT} {i x y nq_ : Nat} {sm : mS} {Y : cY} {c : mS} {v5 v6 : Value} (hN : g_n g ≤ 3584) (hi : i + 7 ≤ g_n g) (hl : lI nq_ sm Y c) (K : lK g i x y) : G g 10 (x + 5) (y + 1550) kL_law 870 (lL i v5 v6) [] nq_ (hh sm Y c) lP := by
  obtain ⟨hY, hn, hI, hk⟩ := hl
  have hm0 := hk.z.inv hI.1.1
  have hs := sim_count hI hk.z (g_x g (nI (i + 1)).toNatClampNeg)
  refine G_aload_n dL_law_870 rfl rfl ?_
  refine G_aload_n dL_law_871 rfl rfl ?_
  refine G_iload dL_law_872 rfl ?_
  refine G_iconst (v := 1) dL_law_874 rfl ?_
  refine G_iadd dL_law_875 ?_
  refine G_top (w := .int (nI (i + 1))) (congrArg Value.int (nI_add i 1)) ?_
  refine G_aldS dL_law_876 (vp_in_nI (by omega) (by omega)) ?_
  refine G_callV (cp9_count (g_x g (nI (i + 1)).toNatClampNeg) hY hI.1) dL_law_877 (mc_L_114 rfl) tw_797 tw_798 (hx_8 _ _ _) rfl rfl rfl (Nat.le_of_ble_eq_true rfl) (Nat.le_of_ble_eq_true rfl) (by omega) (by omega) ?_
  rintro _ n9_ _ ⟨rfl, e9_, rfl⟩
  obtain rfl := e9_.symm
  refine G_aload_n dL_law_880 rfl rfl ?_
  refine G_aload_n dL_law_881 rfl rfl ?_
  refine G_iload dL_law_882 rfl ?_
  refine G_iconst (v := 1) dL_law_884 rfl ?_
  refine G_iadd dL_law_885 ?_
  refine G_top (w := .int (nI (i + 1))) (congrArg Value.int (nI_add i 1)) ?_
  refine G_aldS dL_law_886 (vp_in_nI (by omega) (by omega)) ?_
  refine GM_call (c9_count (s := sm) (r := hC Y ((cp_count c (g_x g (nI (i + 1)).toNatClampNeg)) : mS × Int32).1) (g_x g (nI (i + 1)).toNatClampNeg) hm0) dL_law_887 (mc_L_117 rfl) tw_1195 tw_1196 rfl rfl rfl (Nat.le_of_ble_eq_true rfl) (Nat.le_of_ble_eq_true rfl) ?_
  rintro _ n9_ _ ⟨rfl, e9_, rfl⟩
  obtain rfl := e9_.symm
  refine G_icmp_eq (tgt := 895) dL_law_890 (by decide) (fun _ => ?_) (fun w9 => absurd hs.1 w9)
  exact G_bud (x' := x) (y' := y) (by omega) (by omega) (K _ ((sp_count (m_set sm 0 0 0) (g_x g (nI (i + 1)).toNatClampNeg)) : mS × Int32).1 Y ((cp_count c (g_x g (nI (i + 1)).toNatClampNeg)) : mS × Int32).1 v5 v6 ⟨hY, hn, hs.2.1, hs.2.2⟩)
theorem lg_cmp_0 (a b : Int64) (h : a = b) : lg_cmp a b = 0 := by subst h; unfold lg_cmp; simp
set_option maxHeartbeats 4000000 in
set_option maxRecDepth 100000 in
theorem lc_17 {g : gT} {i x y nq_ : Nat} {sm : mS} {Y : cY} {c : mS} {v5 v6 : Value} (hst : g.1.stackTraces = false) (hN : g_n g ≤ 3584) (hi : i + 7 ≤ g_n g) (hl : lI nq_ sm Y c) (K : lK g i x y) : G g 10 (x + 5) (y + 1550) kL_law 679 (lL i v5 v6) [] nq_ (hh sm Y c) lP := by
  obtain ⟨hY, hn, hI, hk⟩ := hl
  have hm0 := hk.inv hI.1.1
  have hok : c_ofOk c (g_x g (nI (i + 1)).toNatClampNeg) (g_x g (nI (i + 2)).toNatClampNeg) ↔ (wi (g_x g (nI (i + 1)).toNatClampNeg) 0 (sm 23 0 - 1) ∧ wi (g_x g (nI (i + 2)).toNatClampNeg) 0 8) := by unfold c_ofOk; rw [hk.1 23 (by decide)]
  refine G_aload_n dL_law_679 rfl rfl ?_
  refine G_aload_n dL_law_680 rfl rfl ?_
  refine G_iload dL_law_681 rfl ?_
  refine G_iconst (v := 1) dL_law_683 rfl ?_
  refine G_iadd dL_law_684 ?_
  refine G_top (w := .int (nI (i + 1))) (congrArg Value.int (nI_add i 1)) ?_
  refine G_aldS dL_law_685 (vp_in_nI (by omega) (by omega)) ?_
  refine G_aload_n dL_law_686 rfl rfl ?_
  refine G_iload dL_law_687 rfl ?_
  refine G_iconst (v := 2) dL_law_689 rfl ?_
  refine G_iadd dL_law_690 ?_
  refine G_top (w := .int (nI (i + 2))) (congrArg Value.int (nI_add i 2)) ?_
  refine G_aldS dL_law_691 (vp_in_nI (by omega) (by omega)) ?_
  refine G_aload_n dL_law_692 rfl rfl ?_
  refine G_callSW (na := 4) (cx_lof hst (g_x g (nI (i + 1)).toNatClampNeg) (g_x g (nI (i + 2)).toNatClampNeg) hY hI.1) dL_law_693 tw_803 tw_52 tw_801 (by decide +kernel) (by decide) tw_802 rfl rfl (Nat.le_of_ble_eq_true rfl) (Nat.le_of_ble_eq_true rfl) (by omega) (by omega) ?_
  rintro _ n2_ _ ⟨hn2, Y2, rfl, hY2, hcs⟩
  rcases hcs with ⟨h1, rfl, f9, ef, ev⟩ | ⟨h1, rfl⟩
  · have h2 := hok.mp h1
    have esp : sp_of sm (g_x g (nI (i + 1)).toNatClampNeg) (g_x g (nI (i + 2)).toNatClampNeg) = (m_set sm 0 0 0, s_of sm (ix (g_x g (nI (i + 1)).toNatClampNeg)) (ix (g_x g (nI (i + 2)).toNatClampNeg))) := cif_t h2
    have hLk : Lk (sp_of sm (g_x g (nI (i + 1)).toNatClampNeg) (g_x g (nI (i + 2)).toNatClampNeg)).1 c := by rw [esp]; exact hk.z
    have eT : (sp_of sm (g_x g (nI (i + 1)).toNatClampNeg) (g_x g (nI (i + 2)).toNatClampNeg)).1 0 0 = 0 := by rw [esp]; exact m_set_at sm 0 0 0
    have hai := m_ix hI.1.1.2.2.2.2.1 (by decide) h1.1
    have eV : f9 (0 : Int32).toNatClampNeg = (sp_of sm (g_x g (nI (i + 1)).toNatClampNeg) (g_x g (nI (i + 2)).toNatClampNeg)).2.toInt64 := by
      rw [esp]
      show f9 0 = (s_of sm (ix (g_x g (nI (i + 1)).toNatClampNeg)) (ix (g_x g (nI (i + 2)).toNatClampNeg))).toInt64
      rw [ev, of_eq hI hk hai.2]
    refine G_istore dL_law_696 (Nat.le_of_ble_eq_true rfl) rfl ?_
    refine G_aload_n dL_law_698 rfl rfl ?_
    refine G_aload_n dL_law_699 rfl rfl ?_
    refine G_iload dL_law_700 rfl ?_
    refine G_iconst (v := 1) dL_law_702 rfl ?_
    refine G_iadd dL_law_703 ?_
    refine G_top (w := .int (nI (i + 1))) (congrArg Value.int (nI_add i 1)) ?_
    refine G_aldS dL_law_704 (vp_in_nI (by omega) (by omega)) ?_
    refine G_aload_n dL_law_705 rfl rfl ?_
    refine G_iload dL_law_706 rfl ?_
    refine G_iconst (v := 2) dL_law_708 rfl ?_
    refine G_iadd dL_law_709 ?_
    refine G_top (w := .int (nI (i + 2))) (congrArg Value.int (nI_add i 2)) ?_
    refine G_aldS dL_law_710 (vp_in_nI (by omega) (by omega)) ?_
    refine GM_call (c9_of (s := sm) (r := hC Y2 c) (g_x g (nI (i + 1)).toNatClampNeg) (g_x g (nI (i + 2)).toNatClampNeg) hm0) dL_law_711 (mc_L_98 rfl) tw_1179 tw_1180 rfl rfl rfl (Nat.le_of_ble_eq_true rfl) (Nat.le_of_ble_eq_true rfl) ?_
    rintro _ n9_ _ ⟨rfl, e9_, rfl⟩
    obtain rfl := e9_.symm
    refine G_istore dL_law_714 (Nat.le_of_ble_eq_true rfl) rfl ?_
    refine G_aload_n dL_law_716 rfl rfl ?_
    refine GM_call (c9_thrown (s := (sp_of sm (g_x g (nI (i + 1)).toNatClampNeg) (g_x g (nI (i + 2)).toNatClampNeg)).1) (r := hC Y2 c)) dL_law_717 (mc_L_99 rfl) tw_1013 tw_1014 rfl rfl rfl (Nat.le_of_ble_eq_true rfl) (Nat.le_of_ble_eq_true rfl) ?_
    rintro _ n9_ _ ⟨rfl, e9_, rfl⟩
    obtain rfl := e9_.symm
    refine G_iload dL_law_720 rfl ?_
    refine G_icmp_eq (tgt := 727) dL_law_722 (by decide) (fun _ => ?_) (fun w9 => absurd eT w9)
    refine G_iload dL_law_727 rfl ?_
    refine G_if_ne (tgt := 744) dL_law_729 (by decide) (fun w9 => absurd rfl w9) (fun _ => ?_)
    refine G_aload_n dL_law_732 rfl rfl ?_
    refine G_iconst (v := 0) dL_law_733 rfl ?_
    refine G_lald (i := 52) (N := 1) (f := f9) dL_law_734 ((hx_52 (sm := (sp_of sm (g_x g (nI (i + 1)).toNatClampNeg) (g_x g (nI (i + 2)).toNatClampNeg)).1) hY2).trans ef) (vp_in_nI (n := 0) (N := 1) (by decide) (by decide)) ?_
    refine G_iload dL_law_735 rfl ?_
    refine G_i2l dL_law_737 ?_
    refine G_lcmp dL_law_738 ?_
    refine G_if_eq (tgt := 744) dL_law_739 (by decide) (fun _ => ?_) (fun w9 => absurd (lg_cmp_0 _ _ eV) w9)
    refine G_goto (tgt := 895) dL_law_744 (by decide) ?_
    exact G_bud (x' := x) (y' := y) (by omega) (by omega) (K _ (sp_of sm (g_x g (nI (i + 1)).toNatClampNeg) (g_x g (nI (i + 2)).toNatClampNeg)).1 Y2 c _ _ ⟨hY2, by omega, hI, hLk⟩)
  · have h2 : ¬ (wi (g_x g (nI (i + 1)).toNatClampNeg) 0 (sm 23 0 - 1) ∧ wi (g_x g (nI (i + 2)).toNatClampNeg) 0 8) := fun q => h1 (hok.mpr q)
    have esp : sp_of sm (g_x g (nI (i + 1)).toNatClampNeg) (g_x g (nI (i + 2)).toNatClampNeg) = (m_set sm 0 0 1, 0) := cif_f h2
    have hLk : Lk (sp_of sm (g_x g (nI (i + 1)).toNatClampNeg) (g_x g (nI (i + 2)).toNatClampNeg)).1 c := by rw [esp]; exact hk.y 1
    have eT : (sp_of sm (g_x g (nI (i + 1)).toNatClampNeg) (g_x g (nI (i + 2)).toNatClampNeg)).1 0 0 = 1 := by rw [esp]; exact m_set_at sm 0 0 1
    refine G_istore dL_law_696 (Nat.le_of_ble_eq_true rfl) rfl ?_
    refine G_aload_n dL_law_698 rfl rfl ?_
    refine G_aload_n dL_law_699 rfl rfl ?_
    refine G_iload dL_law_700 rfl ?_
    refine G_iconst (v := 1) dL_law_702 rfl ?_
    refine G_iadd dL_law_703 ?_
    refine G_top (w := .int (nI (i + 1))) (congrArg Value.int (nI_add i 1)) ?_
    refine G_aldS dL_law_704 (vp_in_nI (by omega) (by omega)) ?_
    refine G_aload_n dL_law_705 rfl rfl ?_
    refine G_iload dL_law_706 rfl ?_
    refine G_iconst (v := 2) dL_law_708 rfl ?_
    refine G_iadd dL_law_709 ?_
    refine G_top (w := .int (nI (i + 2))) (congrArg Value.int (nI_add i 2)) ?_
    refine G_aldS dL_law_710 (vp_in_nI (by omega) (by omega)) ?_
    refine GM_call (c9_of (s := sm) (r := hC Y2 c) (g_x g (nI (i + 1)).toNatClampNeg) (g_x g (nI (i + 2)).toNatClampNeg) hm0) dL_law_711 (mc_L_98 rfl) tw_1179 tw_1180 rfl rfl rfl (Nat.le_of_ble_eq_true rfl) (Nat.le_of_ble_eq_true rfl) ?_
    rintro _ n9_ _ ⟨rfl, e9_, rfl⟩
    obtain rfl := e9_.symm
    refine G_istore dL_law_714 (Nat.le_of_ble_eq_true rfl) rfl ?_
    refine G_aload_n dL_law_716 rfl rfl ?_
    refine GM_call (c9_thrown (s := (sp_of sm (g_x g (nI (i + 1)).toNatClampNeg) (g_x g (nI (i + 2)).toNatClampNeg)).1) (r := hC Y2 c)) dL_law_717 (mc_L_99 rfl) tw_1013 tw_1014 rfl rfl rfl (Nat.le_of_ble_eq_true rfl) (Nat.le_of_ble_eq_true rfl) ?_
    rintro _ n9_ _ ⟨rfl, e9_, rfl⟩
    obtain rfl := e9_.symm
    refine G_iload dL_law_720 rfl ?_
    refine G_icmp_eq (tgt := 727) dL_law_722 (by decide) (fun _ => ?_) (fun w9 => absurd eT w9)
    refine G_iload dL_law_727 rfl ?_
    refine G_if_ne (tgt := 744) dL_law_729 (by decide) (fun _ => ?_) (fun w9 => absurd w9 (by decide))
    refine G_goto (tgt := 895) dL_law_744 (by decide) ?_
    exact G_bud (x' := x) (y' := y) (by omega) (by omega) (K _ (sp_of sm (g_x g (nI (i + 1)).toNatClampNeg) (g_x g (nI (i + 2)).toNatClampNeg)).1 Y2 c _ _ ⟨hY2, by omega, hI, hLk⟩)
theorem nI_sub7 {N i : Nat} (hN : N ≤ 3584) (hi : i ≤ 4000) : nI N - 7 < nI i ↔ N < i + 7 := by
  rw [Int32.lt_iff_toInt_lt, show (7 : Int32) = nI 7 from rfl, nI_subT (by omega) (by omega), nI_toInt (by omega)]
  omega
set_option maxHeartbeats 4000000 in
set_option maxRecDepth 100000 in
theorem law_loop {g : gT} (hst : g.1.stackTraces = false) (hN : g_n g ≤ 3584) : ∀ (m i : Nat) (n : Nat) (sm : mS) (Y : cY) (c : mS) (v5 v6 : Value), g_n g < i + 7 * m + 7 → i ≤ 3584 → lI n sm Y c → G g 10 (5 * m) (1550 * m) kL_law 23 (lL i v5 v6) [] n (hh sm Y c) lP := by
  intro m
  induction m with
  | zero =>
    intro i n sm Y c v5 v6 hm hi hl
    refine G_iload dL_law_23 rfl ?_
    refine G_aload_n dL_law_25 rfl rfl ?_
    refine G_alenS dL_law_26 ?_
    refine G_bipush (v := 7) dL_law_27 rfl ?_
    refine G_isub dL_law_29 ?_
    refine G_icmp_gt (tgt := 901) dL_law_30 (by decide) (fun _ => ?_) (fun w9 => absurd ((nI_sub7 hN (by omega)).mpr (by omega)) w9)
    refine G_iconst (v := 1) dL_law_901 rfl ?_
    refine G_zret dL_law_902 rfl rfl ?_
    rfl
  | succ m ih =>
    intro i n sm Y c v5 v6 hm hi hl
    refine G_iload dL_law_23 rfl ?_
    refine G_aload_n dL_law_25 rfl rfl ?_
    refine G_alenS dL_law_26 ?_
    refine G_bipush (v := 7) dL_law_27 rfl ?_
    refine G_isub dL_law_29 ?_
    refine G_icmp_gt (tgt := 901) dL_law_30 (by decide) (fun _ => ?_) (fun w9 => ?_)
    · refine G_iconst (v := 1) dL_law_901 rfl ?_
      refine G_zret dL_law_902 rfl rfl ?_
      rfl
    · have hi7 : i + 7 ≤ g_n g := by
        rcases Nat.lt_or_ge (g_n g) (i + 7) with q | q
        · exact absurd ((nI_sub7 hN (by omega)).mpr q) w9
        · exact q
      have K : lK g i (5 * m) (1550 * m) := fun n2 sm2 Y2 c2 w5 w6 hl2 => by
        refine G_iinc (b := nI (i + 7)) dL_law_895 rfl (nI_add i 7) rfl ?_
        refine G_goto (tgt := 23) dL_law_898 (by decide) ?_
        exact ih (i + 7) n2 sm2 Y2 c2 w5 w6 (by omega) (by omega) hl2
      refine G_aload_n dL_law_33 rfl rfl ?_
      refine G_iload dL_law_34 rfl ?_
      refine G_aldS dL_law_36 (vp_in_nI (by omega) (by omega)) ?_
      refine G_bipush (v := 31) dL_law_37 rfl ?_
      refine G_iand dL_law_39 ?_
      refine G_tsw (tgt := 895) dL_law_40 (by decide) (fun _ => G_bud (x' := 5 * m) (y' := 1550 * m) (by omega) (by omega) (K n sm Y c v5 v6 hl)) (fun j h1 h2 => ?_)
      have e5 : 5 * (m + 1) = 5 * m + 5 := by omega
      have e6 : 1550 * (m + 1) = 1550 * m + 1550 := by omega
      rw [e5, e6]
      have hj : j < 22 := by omega
      match j, hj with
      | 0, _ => exact ⟨104, 144, rfl, by decide, lc_0 hN hi7 hl K⟩
      | 1, _ => exact ⟨153, 193, rfl, by decide, lc_1 hN hi7 hl K⟩
      | 2, _ => exact ⟨178, 218, rfl, by decide, lc_2 hN hi7 hl K⟩
      | 3, _ => exact ⟨191, 231, rfl, by decide, lc_3 hN hi7 hl K⟩
      | 4, _ => exact ⟨264, 304, rfl, by decide, lc_4 hN hi7 hl K⟩
      | 5, _ => exact ⟨289, 329, rfl, by decide, lc_5 hN hi7 hl K⟩
      | 6, _ => exact ⟨302, 342, rfl, by decide, lc_6 hN hi7 hl K⟩
      | 7, _ => exact ⟨315, 355, rfl, by decide, lc_7 hN hi7 hl K⟩
      | 8, _ => exact ⟨340, 380, rfl, by decide, lc_8 hN hi7 hl K⟩
      | 9, _ => exact ⟨377, 417, rfl, by decide, lc_9 hN hi7 hl K⟩
      | 10, _ => exact ⟨464, 504, rfl, by decide, lc_10 hN hi7 hl K⟩
      | 11, _ => exact ⟨477, 517, rfl, by decide, lc_11 hN hi7 hl K⟩
      | 12, _ => exact ⟨502, 542, rfl, by decide, lc_12 hN hi7 hl K⟩
      | 13, _ => exact ⟨527, 567, rfl, by decide, lc_13 hN hi7 hl K⟩
      | 14, _ => exact ⟨552, 592, rfl, by decide, lc_14 hN hi7 hl K⟩
      | 15, _ => exact ⟨589, 629, rfl, by decide, lc_15 hN hi7 hl K⟩
      | 16, _ => exact ⟨614, 654, rfl, by decide, lc_16 hN hi7 hl K⟩
      | 17, _ => exact ⟨639, 679, rfl, by decide, lc_17 hst hN hi7 hl K⟩
      | 18, _ => exact ⟨707, 747, rfl, by decide, lc_18 hN hi7 hl K⟩
      | 19, _ => exact ⟨744, 784, rfl, by decide, lc_19 hN hi7 hl K⟩
      | 20, _ => exact ⟨793, 833, rfl, by decide, lc_20 hN hi7 hl K⟩
      | 21, _ => exact ⟨830, 870, rfl, by decide, lc_21 hN hi7 hl K⟩
