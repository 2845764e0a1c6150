theorem yB_c (Y : cY) (q N l : Nat) (x : Option mE) : y_c (yB Y q N l x) l = N := va_up_self (y_c Y) l N
set_option maxHeartbeats 4000000 in
set_option maxRecDepth 100000 in
theorem mvl_0 {Y : cY} {c c9 : mS} {sm : mS} {q N n9 : Nat} {F : Nat → Option Nat} {z w : Int32} (h : Yl Y c9 n9) (hq : 53 ≤ q) (hF : F = f_arr (yB Y q N 0 (hh sm Y c (y_a Y 20 0))) (m_set (m_set c 1 0 z) 90 0 w) 0) : va_up (va_up (hh sm Y c) q (some (.inl (4, N, rfs F)))) 9 (some (.inr (10, [.int w, .ref q, .int z]))) = hh sm (yB Y q N 0 (hh sm Y c (y_a Y 20 0))) (m_set (m_set c 1 0 z) 90 0 w) := by
  refine hh_two (hx_9 _ _ _) ?_ (fun b hb h0 h1 => by unfold c_fx; split <;> first | rfl | exact absurd rfl h1) (fun b hb h0 h1 => ?_)
  · rw [hh_hi _ _ _ (by omega), c_dy_20 (i := 0) (va_up_self _ _ _), hF]
    rfl
  · by_cases e : b = y_a Y 20 0
    · have hl2 : y_l (yB Y q N 0 (hh sm Y c (y_a Y 20 0))) b = none := (va_up_ne _ _ h0).trans (by rw [e, va_up_self])
      have hx : c_dy (yB Y q N 0 (hh sm Y c (y_a Y 20 0))) (m_set (m_set c 1 0 z) 90 0 w) b = y_j (yB Y q N 0 (hh sm Y c (y_a Y 20 0))) b := by unfold c_dy; rw [hl2]
      rw [hx]
      show va_up (y_j Y) (y_a Y 20 0) (hh sm Y c (y_a Y 20 0)) b = _
      rw [e, va_up_self, hh_hi _ _ _ (by omega)]
    · refine cd_y ((va_up_ne _ _ h0).trans (va_up_ne _ _ e)) (fun _ => va_up_ne _ _ e) (fun t i hz => ?_) (fun _ _ => rfl) (fun _ _ => rfl) (fun _ _ => rfl) (fun _ _ => rfl) (fun i hz => ?_)
      · have hcn := (h.1 b t i hz).2.2.2
        rcases (y_ix_cn c9 t i).mpr hcn with z9 | z9 | z9 | z9 | z9
        · exact Or.inl z9.1
        · exact Or.inr (Or.inl z9.1)
        · exact Or.inr (Or.inr (Or.inl z9.1))
        · exact Or.inr (Or.inr (Or.inr (Or.inl z9.1)))
        · exact Or.inr (Or.inr (Or.inr (Or.inr z9.1)))
      · have hb2 := (h.1 b 20 i hz).2.2
        have hil : i ≠ 0 := fun q9 => e (by rw [hb2.1, q9])
        have hi5 : i < 5 := hb2.2
        refine ⟨va_up_ne _ _ hil, ?_⟩
        rcases f5 hi5 with rfl | rfl | rfl | rfl | rfl
        · exact absurd rfl hil
        · exact fr_c rfl (fun _ _ => rfl)
        · exact fr_c rfl (fun _ _ => rfl)
        · exact fr_c rfl (fun _ _ => rfl)
        · exact fr_c rfl (fun _ _ => rfl)
set_option maxHeartbeats 4000000 in
set_option maxRecDepth 100000 in
theorem mvl_1 {Y : cY} {c c9 : mS} {sm : mS} {q N n9 : Nat} {F : Nat → Option Nat} {z w : Int32} (h : Yl Y c9 n9) (hq : 53 ≤ q) (hF : F = f_arr (yB Y q N 1 (hh sm Y c (y_a Y 20 1))) (m_set (m_set c 5 0 z) 90 1 w) 1) : va_up (va_up (hh sm Y c) q (some (.inl (4, N, rfs F)))) 10 (some (.inr (10, [.int w, .ref q, .int z]))) = hh sm (yB Y q N 1 (hh sm Y c (y_a Y 20 1))) (m_set (m_set c 5 0 z) 90 1 w) := by
  refine hh_two (hx_10 _ _ _) ?_ (fun b hb h0 h1 => by unfold c_fx; split <;> first | rfl | exact absurd rfl h1) (fun b hb h0 h1 => ?_)
  · rw [hh_hi _ _ _ (by omega), c_dy_20 (i := 1) (va_up_self _ _ _), hF]
    rfl
  · by_cases e : b = y_a Y 20 1
    · have hl2 : y_l (yB Y q N 1 (hh sm Y c (y_a Y 20 1))) b = none := (va_up_ne _ _ h0).trans (by rw [e, va_up_self])
      have hx : c_dy (yB Y q N 1 (hh sm Y c (y_a Y 20 1))) (m_set (m_set c 5 0 z) 90 1 w) b = y_j (yB Y q N 1 (hh sm Y c (y_a Y 20 1))) b := by unfold c_dy; rw [hl2]
      rw [hx]
      show va_up (y_j Y) (y_a Y 20 1) (hh sm Y c (y_a Y 20 1)) b = _
      rw [e, va_up_self, hh_hi _ _ _ (by omega)]
    · refine cd_y ((va_up_ne _ _ h0).trans (va_up_ne _ _ e)) (fun _ => va_up_ne _ _ e) (fun t i hz => ?_) (fun _ _ => rfl) (fun _ _ => rfl) (fun _ _ => rfl) (fun _ _ => rfl) (fun i hz => ?_)
      · have hcn := (h.1 b t i hz).2.2.2
        rcases (y_ix_cn c9 t i).mpr hcn with z9 | z9 | z9 | z9 | z9
        · exact Or.inl z9.1
        · exact Or.inr (Or.inl z9.1)
        · exact Or.inr (Or.inr (Or.inl z9.1))
        · exact Or.inr (Or.inr (Or.inr (Or.inl z9.1)))
        · exact Or.inr (Or.inr (Or.inr (Or.inr z9.1)))
      · have hb2 := (h.1 b 20 i hz).2.2
        have hil : i ≠ 1 := fun q9 => e (by rw [hb2.1, q9])
        have hi5 : i < 5 := hb2.2
        refine ⟨va_up_ne _ _ hil, ?_⟩
        rcases f5 hi5 with rfl | rfl | rfl | rfl | rfl
        · exact fr_c rfl (fun _ _ => rfl)
        · exact absurd rfl hil
        · exact fr_c rfl (fun _ _ => rfl)
        · exact fr_c rfl (fun _ _ => rfl)
        · exact fr_c rfl (fun _ _ => rfl)
set_option maxHeartbeats 4000000 in
set_option maxRecDepth 100000 in
theorem mvl_2 {Y : cY} {c c9 : mS} {sm : mS} {q N n9 : Nat} {F : Nat → Option Nat} {z w : Int32} (h : Yl Y c9 n9) (hq : 53 ≤ q) (hF : F = f_arr (yB Y q N 2 (hh sm Y c (y_a Y 20 2))) (m_set (m_set c 8 0 z) 90 2 w) 2) : va_up (va_up (hh sm Y c) q (some (.inl (4, N, rfs F)))) 11 (some (.inr (10, [.int w, .ref q, .int z]))) = hh sm (yB Y q N 2 (hh sm Y c (y_a Y 20 2))) (m_set (m_set c 8 0 z) 90 2 w) := by
  refine hh_two (hx_11 _ _ _) ?_ (fun b hb h0 h1 => by unfold c_fx; split <;> first | rfl | exact absurd rfl h1) (fun b hb h0 h1 => ?_)
  · rw [hh_hi _ _ _ (by omega), c_dy_20 (i := 2) (va_up_self _ _ _), hF]
    rfl
  · by_cases e : b = y_a Y 20 2
    · have hl2 : y_l (yB Y q N 2 (hh sm Y c (y_a Y 20 2))) b = none := (va_up_ne _ _ h0).trans (by rw [e, va_up_self])
      have hx : c_dy (yB Y q N 2 (hh sm Y c (y_a Y 20 2))) (m_set (m_set c 8 0 z) 90 2 w) b = y_j (yB Y q N 2 (hh sm Y c (y_a Y 20 2))) b := by unfold c_dy; rw [hl2]
      rw [hx]
      show va_up (y_j Y) (y_a Y 20 2) (hh sm Y c (y_a Y 20 2)) b = _
      rw [e, va_up_self, hh_hi _ _ _ (by omega)]
    · refine cd_y ((va_up_ne _ _ h0).trans (va_up_ne _ _ e)) (fun _ => va_up_ne _ _ e) (fun t i hz => ?_) (fun _ _ => rfl) (fun _ _ => rfl) (fun _ _ => rfl) (fun _ _ => rfl) (fun i hz => ?_)
      · have hcn := (h.1 b t i hz).2.2.2
        rcases (y_ix_cn c9 t i).mpr hcn with z9 | z9 | z9 | z9 | z9
        · exact Or.inl z9.1
        · exact Or.inr (Or.inl z9.1)
        · exact Or.inr (Or.inr (Or.inl z9.1))
        · exact Or.inr (Or.inr (Or.inr (Or.inl z9.1)))
        · exact Or.inr (Or.inr (Or.inr (Or.inr z9.1)))
      · have hb2 := (h.1 b 20 i hz).2.2
        have hil : i ≠ 2 := fun q9 => e (by rw [hb2.1, q9])
        have hi5 : i < 5 := hb2.2
        refine ⟨va_up_ne _ _ hil, ?_⟩
        rcases f5 hi5 with rfl | rfl | rfl | rfl | rfl
        · exact fr_c rfl (fun _ _ => rfl)
        · exact fr_c rfl (fun _ _ => rfl)
        · exact absurd rfl hil
        · exact fr_c rfl (fun _ _ => rfl)
        · exact fr_c rfl (fun _ _ => rfl)
set_option maxHeartbeats 4000000 in
set_option maxRecDepth 100000 in
theorem mvl_3 {Y : cY} {c c9 : mS} {sm : mS} {q N n9 : Nat} {F : Nat → Option Nat} {z w : Int32} (h : Yl Y c9 n9) (hq : 53 ≤ q) (hF : F = f_arr (yB Y q N 3 (hh sm Y c (y_a Y 20 3))) (m_set (m_set c 23 0 z) 90 3 w) 3) : va_up (va_up (hh sm Y c) q (some (.inl (4, N, rfs F)))) 12 (some (.inr (10, [.int w, .ref q, .int z]))) = hh sm (yB Y q N 3 (hh sm Y c (y_a Y 20 3))) (m_set (m_set c 23 0 z) 90 3 w) := by
  refine hh_two (hx_12 _ _ _) ?_ (fun b hb h0 h1 => by unfold c_fx; split <;> first | rfl | exact absurd rfl h1) (fun b hb h0 h1 => ?_)
  · rw [hh_hi _ _ _ (by omega), c_dy_20 (i := 3) (va_up_self _ _ _), hF]
    rfl
  · by_cases e : b = y_a Y 20 3
    · have hl2 : y_l (yB Y q N 3 (hh sm Y c (y_a Y 20 3))) b = none := (va_up_ne _ _ h0).trans (by rw [e, va_up_self])
      have hx : c_dy (yB Y q N 3 (hh sm Y c (y_a Y 20 3))) (m_set (m_set c 23 0 z) 90 3 w) b = y_j (yB Y q N 3 (hh sm Y c (y_a Y 20 3))) b := by unfold c_dy; rw [hl2]
      rw [hx]
      show va_up (y_j Y) (y_a Y 20 3) (hh sm Y c (y_a Y 20 3)) b = _
      rw [e, va_up_self, hh_hi _ _ _ (by omega)]
    · refine cd_y ((va_up_ne _ _ h0).trans (va_up_ne _ _ e)) (fun _ => va_up_ne _ _ e) (fun t i hz => ?_) (fun _ _ => rfl) (fun _ _ => rfl) (fun _ _ => rfl) (fun _ _ => rfl) (fun i hz => ?_)
      · have hcn := (h.1 b t i hz).2.2.2
        rcases (y_ix_cn c9 t i).mpr hcn with z9 | z9 | z9 | z9 | z9
        · exact Or.inl z9.1
        · exact Or.inr (Or.inl z9.1)
        · exact Or.inr (Or.inr (Or.inl z9.1))
        · exact Or.inr (Or.inr (Or.inr (Or.inl z9.1)))
        · exact Or.inr (Or.inr (Or.inr (Or.inr z9.1)))
      · have hb2 := (h.1 b 20 i hz).2.2
        have hil : i ≠ 3 := fun q9 => e (by rw [hb2.1, q9])
        have hi5 : i < 5 := hb2.2
        refine ⟨va_up_ne _ _ hil, ?_⟩
        rcases f5 hi5 with rfl | rfl | rfl | rfl | rfl
        · exact fr_c rfl (fun _ _ => rfl)
        · exact fr_c rfl (fun _ _ => rfl)
        · exact fr_c rfl (fun _ _ => rfl)
        · exact absurd rfl hil
        · exact fr_c rfl (fun _ _ => rfl)
def c80 (c : mS) (E : Nat → Int32) : mS := fun j i => if j = 80 then E i else c j i
set_option maxHeartbeats 4000000 in
set_option maxRecDepth 100000 in
theorem mvl_4 {Y : cY} {c c9 : mS} {sm : mS} {q N n9 : Nat} {F : Nat → Option Nat} {z w : Int32} {E : Nat → Int32} (h : Yl Y c9 n9) (hq : 53 ≤ q) (hF : F = f_arr (yB Y q N 4 (hh sm Y c (y_a Y 20 4))) (m_set (m_set (c80 c E) 81 0 z) 90 4 w) 4) : va_up (va_up (hh sm Y c) q (some (.inl (4, N, rfs F)))) 13 (some (.inr (10, [.int w, .ref q, .int z]))) = hh sm (yB Y q N 4 (hh sm Y c (y_a Y 20 4))) (m_set (m_set (c80 c E) 81 0 z) 90 4 w) := by
  refine hh_two (hx_13 _ _ _) ?_ (fun b hb h0 h1 => by unfold c_fx; split <;> first | rfl | exact absurd rfl h1) (fun b hb h0 h1 => ?_)
  · rw [hh_hi _ _ _ (by omega), c_dy_20 (i := 4) (va_up_self _ _ _), hF]
    rfl
  · by_cases e : b = y_a Y 20 4
    · have hl2 : y_l (yB Y q N 4 (hh sm Y c (y_a Y 20 4))) b = none := (va_up_ne _ _ h0).trans (by rw [e, va_up_self])
      have hx : c_dy (yB Y q N 4 (hh sm Y c (y_a Y 20 4))) (m_set (m_set (c80 c E) 81 0 z) 90 4 w) b = y_j (yB Y q N 4 (hh sm Y c (y_a Y 20 4))) b := by unfold c_dy; rw [hl2]
      rw [hx]
      show va_up (y_j Y) (y_a Y 20 4) (hh sm Y c (y_a Y 20 4)) b = _
      rw [e, va_up_self, hh_hi _ _ _ (by omega)]
    · refine cd_y ((va_up_ne _ _ h0).trans (va_up_ne _ _ e)) (fun _ => va_up_ne _ _ e) (fun t i hz => ?_) (fun i _ => fa_c (show y_a Y 4 (ix (c 27 i)) = _ from rfl) (show y_a Y 1 (ix (c 28 i)) = _ from rfl) (show c 29 i = _ from rfl) (show c 30 i = _ from rfl) (show c 31 i = _ from rfl) (show c 32 i = _ from rfl) (show c 24 i = _ from rfl) (show oR (y_a Y 7) (c 25 i) = _ from rfl) (show c 26 i = _ from rfl) (show c 33 i = _ from rfl)) (fun i _ => fk_c (show c 2 i = _ from rfl) (show c 3 i = _ from rfl) (show c 4 i = _ from rfl)) (fun i _ => fm_c (show c 9 i = _ from rfl) (show c 10 i = _ from rfl) (show c 52 i = _ from rfl)) (fun i _ => ft_c (show y_a Y 1 (ix (c 6 i)) = _ from rfl) (show c 7 i = _ from rfl) (show c 50 i = _ from rfl) (show oR (y_a Y 0) (c 51 i) = _ from rfl)) (fun i hz => ?_)
      · have hcn := (h.1 b t i hz).2.2.2
        rcases (y_ix_cn c9 t i).mpr hcn with z9 | z9 | z9 | z9 | z9
        · exact Or.inl z9.1
        · exact Or.inr (Or.inl z9.1)
        · exact Or.inr (Or.inr (Or.inl z9.1))
        · exact Or.inr (Or.inr (Or.inr (Or.inl z9.1)))
        · exact Or.inr (Or.inr (Or.inr (Or.inr z9.1)))
      · have hb2 := (h.1 b 20 i hz).2.2
        have hil : i ≠ 4 := fun q9 => e (by rw [hb2.1, q9])
        have hi5 : i < 5 := hb2.2
        refine ⟨va_up_ne _ _ hil, ?_⟩
        rcases f5 hi5 with rfl | rfl | rfl | rfl | rfl
        · exact fr_c (show (m_set (m_set (c80 c E) 81 0 z) 90 4 w) 1 0 = c 1 0 from rfl) (fun j _ => show y_a (yB Y q N 4 (hh sm Y c (y_a Y 20 4))) 1 j = y_a Y 1 j from rfl)
        · exact fr_c (show (m_set (m_set (c80 c E) 81 0 z) 90 4 w) 5 0 = c 5 0 from rfl) (fun j _ => show y_a (yB Y q N 4 (hh sm Y c (y_a Y 20 4))) 7 j = y_a Y 7 j from rfl)
        · exact fr_c (show (m_set (m_set (c80 c E) 81 0 z) 90 4 w) 8 0 = c 8 0 from rfl) (fun j _ => show y_a (yB Y q N 4 (hh sm Y c (y_a Y 20 4))) 4 j = y_a Y 4 j from rfl)
        · exact fr_c (show (m_set (m_set (c80 c E) 81 0 z) 90 4 w) 23 0 = c 23 0 from rfl) (fun j _ => show y_a (yB Y q N 4 (hh sm Y c (y_a Y 20 4))) 0 j = y_a Y 0 j from rfl)
        · exact absurd rfl hil
theorem ins_push {K e : Nat} {E : Nat → Nat} (he : E K = e) : ins (fun i => if i < K then some (E i) else none) K K e = fun i => if i < K + 1 then some (E i) else none := by
  funext i
  unfold ins
  by_cases h1 : i < K
  · simp [h1, show i < K + 1 by omega]
  · by_cases h2 : i = K
    · subst h2; simp [he]
    · simp [h1, h2, show ¬ i ≤ K by omega, show ¬ i < K + 1 by omega]
def c_A (n : Nat) (sm : mS) (X : mS × Int32) : Option Value → Nat → mH → Prop := fun v' n' h' => v' = some (.int X.2) ∧ ∃ Y', h' = hh sm Y' X.1 ∧ Yok Y' X.1 n' ∧ n ≤ n'
theorem ca_close {n : Nat} {sm : mS} {Y : cY} {c' : mS} {v : Int32} {X : mS × Int32} {n' : Nat} (hY : Yok Y c' n') (hn : n ≤ n') (e : X = (c', v)) : c_A n sm X (some (.int v)) n' (hh sm Y c') := by subst e; exact ⟨rfl, Y, rfl, hY, hn⟩
set_option maxHeartbeats 4000000 in
set_option maxRecDepth 100000 in
theorem push_kind {Y : cY} {c : mS} {sm : mS} {nq_ : Nat} (a b d : Int32) {n' : Nat} {h' : mH} (hY : Yok Y c nq_) (hn : 53 ≤ nq_) (hk : c 1 0 = nI (mK c) ∧ mK c < 120) (hz : la_P (hh sm (yA Y nq_ 1 (mK c)) (m_set (m_set (m_set c 2 (mK c) a) 3 (mK c) b) 4 (mK c) d)) (nq_ + 1) 9 (y_a Y 20 0) (y_c Y 0) (mK c) (mK c) nq_ (f_arr (yA Y nq_ 1 (mK c)) (m_set (m_set (m_set c 2 (mK c) a) 3 (mK c) b) 4 (mK c) d) 0) (c 90 0 + 1) n' h') : ∃ Y2, h' = hh sm Y2 (m_set (m_set (m_set (m_set (m_set c 2 (mK c) a) 3 (mK c) b) 4 (mK c) d) 1 0 (nI (mK c + 1))) 90 0 (c 90 0 + 1)) ∧ Yok Y2 (m_set (m_set (m_set (m_set (m_set c 2 (mK c) a) 3 (mK c) b) 4 (mK c) d) 1 0 (nI (mK c + 1))) 90 0 (c 90 0 + 1)) n' ∧ nq_ ≤ n' := by
  obtain ⟨q', N', hcase, rfl⟩ := hz
  obtain ⟨hl0, hs0⟩ := (Yok_iff _ _ _).mp hY
  have hs1 := hs0 0 (by decide)
  have e2 : mK (m_set (m_set (m_set (m_set (m_set c 2 (mK c) a) 3 (mK c) b) 4 (mK c) d) 1 0 (nI (mK c + 1))) 90 0 (c 90 0 + 1)) = mK c + 1 := nI_clamp (by omega)
  have hA1 : Yl (yA Y nq_ 1 (mK c)) (m_set (m_set (m_set (m_set (m_set c 2 (mK c) a) 3 (mK c) b) 4 (mK c) d) 1 0 (nI (mK c + 1))) 90 0 (c 90 0 + 1)) (nq_ + 1) := by
    refine Yl_A hl0 hn (by decide) rfl (fun t ht => ?_) ?_
    · have ea : mA (m_set (m_set (m_set (m_set (m_set c 2 (mK c) a) 3 (mK c) b) 4 (mK c) d) 1 0 (nI (mK c + 1))) 90 0 (c 90 0 + 1)) = mA c := rfl
      have eb : mB (m_set (m_set (m_set (m_set (m_set c 2 (mK c) a) 3 (mK c) b) 4 (mK c) d) 1 0 (nI (mK c + 1))) 90 0 (c 90 0 + 1)) = mB c := rfl
      have ec : mT (m_set (m_set (m_set (m_set (m_set c 2 (mK c) a) 3 (mK c) b) 4 (mK c) d) 1 0 (nI (mK c + 1))) 90 0 (c 90 0 + 1)) = mT c := rfl
      simp only [cn, if_neg ht, ea, eb, ec]
    · show mK (m_set (m_set (m_set (m_set (m_set c 2 (mK c) a) 3 (mK c) b) 4 (mK c) d) 1 0 (nI (mK c + 1))) 90 0 (c 90 0 + 1)) = mK c + 1
      exact e2
  have hqq : (q' = y_a (yA Y nq_ 1 (mK c)) 20 0 ∧ y_l (yA Y nq_ 1 (mK c)) q' = some (20, 0) ∧ n' = nq_ + 1) ∨ (nq_ + 1 ≤ q' ∧ 53 ≤ q' ∧ q' < n') := by
    rcases hcase with ⟨w1, w2, w3, w4⟩ | ⟨w1, w2, w3, w4, w5⟩
    · refine Or.inl ⟨w2, ?_, w1⟩
      rcases hA1.2.2.1 0 (by decide) with u | u
      · have : y_c Y 0 = 0 := u.2
        omega
      · rw [w2]; exact u.1
    · exact Or.inr ⟨by omega, by omega, by omega⟩
  have hN1 : 1 ≤ N' ∧ mK c + 1 ≤ N' ∧ N' ≤ 200 := by
    rcases hcase with ⟨w1, w2, w3, w4⟩ | ⟨w1, w2, w3, w4, w5⟩ <;> omega
  have hB1 := Yl_B (x := hh sm (yA Y nq_ 1 (mK c)) (m_set (m_set (m_set c 2 (mK c) a) 3 (mK c) b) 4 (mK c) d) (y_a (yA Y nq_ 1 (mK c)) 20 0)) hA1 (show 0 < 5 by decide) hqq hN1.1
  have hq53 : 53 ≤ q' := by
    rcases hqq with u | u
    · exact (hA1.1 _ _ _ u.2.1).1
    · exact u.2.1
  refine ⟨_, mvl_0 hA1 hq53 ?_, (Yok_iff _ _ _).mpr ⟨hB1, fun l2 hl2 => ?_⟩, ?_⟩
  · refine (ins_push (E := fun i => c_el (yA Y nq_ 1 (mK c)) (m_set (m_set (m_set c 2 (mK c) a) 3 (mK c) b) 4 (mK c) d) 0 i) (y_up_s _ _ _ _)).trans ?_
    funext i
    unfold f_arr
    rw [show ix (c_sz (m_set (m_set (m_set (m_set (m_set c 2 (mK c) a) 3 (mK c) b) 4 (mK c) d) 1 0 (nI (mK c + 1))) 90 0 (c 90 0 + 1)) 0) = mK c + 1 from e2]
    rfl
  · rcases f5 hl2 with rfl | rfl | rfl | rfl | rfl
    · exact ⟨by rw [show ix (c_sz (m_set (m_set (m_set (m_set (m_set c 2 (mK c) a) 3 (mK c) b) 4 (mK c) d) 1 0 (nI (mK c + 1))) 90 0 (c 90 0 + 1)) 0) = mK c + 1 from e2, show y_c (yB (yA Y nq_ 1 (mK c)) q' N' 0 (hh sm (yA Y nq_ 1 (mK c)) (m_set (m_set (m_set c 2 (mK c) a) 3 (mK c) b) 4 (mK c) d) (y_a (yA Y nq_ 1 (mK c)) 20 0))) 0 = N' from yB_c _ _ _ _ _]; omega, by rw [show y_c (yB (yA Y nq_ 1 (mK c)) q' N' 0 (hh sm (yA Y nq_ 1 (mK c)) (m_set (m_set (m_set c 2 (mK c) a) 3 (mK c) b) 4 (mK c) d) (y_a (yA Y nq_ 1 (mK c)) 20 0))) 0 = N' from yB_c _ _ _ _ _]; omega⟩
    · exact hs0 1 (by decide)
    · exact hs0 2 (by decide)
    · exact hs0 3 (by decide)
    · exact hs0 4 (by decide)
  · rcases hcase with w | w <;> omega
set_option maxHeartbeats 4000000 in
set_option maxRecDepth 100000 in
theorem arg_kind {Y : cY} {c : mS} {sm : mS} {nq_ : Nat} (a b d : Int32) (hY : Yok Y c nq_) (hn : 53 ≤ nq_) (hk : c 1 0 = nI (mK c) ∧ mK c < 120) : hh sm (yA Y nq_ 1 (mK c)) (m_set (m_set (m_set c 2 (mK c) a) 3 (mK c) b) 4 (mK c) d) 9 = some (.inr (10, [.int (c 90 0), .ref (y_a Y 20 0), .int (nI (mK c))])) ∧ ((y_a Y 20 0 = 1 ∧ y_c Y 0 = 0) ∨ (hh sm (yA Y nq_ 1 (mK c)) (m_set (m_set (m_set c 2 (mK c) a) 3 (mK c) b) 4 (mK c) d) (y_a Y 20 0) = some (.inl (4, y_c Y 0, rfs (f_arr (yA Y nq_ 1 (mK c)) (m_set (m_set (m_set c 2 (mK c) a) 3 (mK c) b) 4 (mK c) d) 0))) ∧ 1 ≤ y_c Y 0)) ∧ y_c Y 0 ≤ 200 ∧ (mK c) ≤ y_c Y 0 ∧ (∀ i, (mK c) ≤ i → f_arr (yA Y nq_ 1 (mK c)) (m_set (m_set (m_set c 2 (mK c) a) 3 (mK c) b) 4 (mK c) d) 0 i = none) ∧ l_el (hh sm (yA Y nq_ 1 (mK c)) (m_set (m_set (m_set c 2 (mK c) a) 3 (mK c) b) 4 (mK c) d)) 9 (f_arr (yA Y nq_ 1 (mK c)) (m_set (m_set (m_set c 2 (mK c) a) 3 (mK c) b) 4 (mK c) d) 0) ∧ (∃ fs, hh sm (yA Y nq_ 1 (mK c)) (m_set (m_set (m_set c 2 (mK c) a) 3 (mK c) b) 4 (mK c) d) nq_ = some (.inr (1, fs))) := by
  obtain ⟨hl0, hs0⟩ := (Yok_iff _ _ _).mp hY
  have hs1 := hs0 0 (by decide)
  have e0 : ix (c_sz (m_set (m_set (m_set c 2 (mK c) a) 3 (mK c) b) 4 (mK c) d) 0) = (mK c) := rfl
  refine ⟨?_, ?_, hs1.2, hs1.1, fun i hi => ?_, fun i y hy => ?_, ?_⟩
  · have := hx_9 sm (yA Y nq_ 1 (mK c)) (m_set (m_set (m_set c 2 (mK c) a) 3 (mK c) b) 4 (mK c) d)
    rw [show (m_set (m_set (m_set c 2 (mK c) a) 3 (mK c) b) 4 (mK c) d) 1 0 = nI (mK c) from hk.1] at this
    exact this
  · rcases hl0.2.2.1 0 (by decide) with u | u
    · exact Or.inl u
    · have hb := (hl0.1 _ _ _ u.1)
      refine Or.inr ⟨?_, u.2⟩
      rw [hh_hi _ _ _ (by omega), c_dy_20 (i := 0) ((va_up_ne _ _ (by omega)).trans u.1)]
      rfl
  · unfold f_arr
    rw [e0, if_neg (by omega)]
  · unfold f_arr at hy
    rw [e0] at hy
    by_cases hi : i < (mK c)
    · rw [if_pos hi] at hy
      have hy2 : y = y_a (yA Y nq_ 1 (mK c)) 1 i := (Option.some.inj hy).symm
      have ea : y_a (yA Y nq_ 1 (mK c)) 1 i = y_a Y 1 i := y_up_n _ _ (fun q9 => by have := q9.2; omega)
      have hb := hY.2.2.1 i hi
      have hb2 := hl0.1 _ _ _ hb
      rw [hy2, ea]
      refine ⟨by omega, 1, (f_kind (m_set (m_set (m_set c 2 (mK c) a) 3 (mK c) b) 4 (mK c) d) i), _, ?_, rfl, tw_1208⟩
      rw [hh_hi _ _ _ (by omega), c_dy_1 (i := i) ((va_up_ne _ _ (by omega)).trans hb)]
    · rw [if_neg hi] at hy; cases hy
  · exact ⟨_, by rw [hh_hi _ _ _ (by omega), c_dy_1 (i := (mK c)) (va_up_self _ _ _)]⟩
set_option maxHeartbeats 4000000 in
set_option maxRecDepth 100000 in
theorem push_thing {Y : cY} {c : mS} {sm : mS} {nq_ : Nat} (k : Nat) {n' : Nat} {h' : mH} (hY : Yok Y c nq_) (hn : 53 ≤ nq_) (hk : c 5 0 = nI (mT c) ∧ mT c < 120) (hz : la_P (hh sm (yA Y nq_ 7 (mT c)) (m_set (m_set (m_set (m_set c 6 (mT c) (nI k)) 7 (mT c) (-1)) 50 (mT c) (-1)) 51 (mT c) (-1))) (nq_ + 1) 10 (y_a Y 20 1) (y_c Y 1) (mT c) (mT c) nq_ (f_arr (yA Y nq_ 7 (mT c)) (m_set (m_set (m_set (m_set c 6 (mT c) (nI k)) 7 (mT c) (-1)) 50 (mT c) (-1)) 51 (mT c) (-1)) 1) (c 90 1 + 1) n' h') : ∃ Y2, h' = hh sm Y2 (m_set (m_set (m_set (m_set (m_set (m_set c 6 (mT c) (nI k)) 7 (mT c) (-1)) 50 (mT c) (-1)) 51 (mT c) (-1)) 5 0 (nI (mT c + 1))) 90 1 (c 90 1 + 1)) ∧ Yok Y2 (m_set (m_set (m_set (m_set (m_set (m_set c 6 (mT c) (nI k)) 7 (mT c) (-1)) 50 (mT c) (-1)) 51 (mT c) (-1)) 5 0 (nI (mT c + 1))) 90 1 (c 90 1 + 1)) n' ∧ nq_ ≤ n' := by
  obtain ⟨q', N', hcase, rfl⟩ := hz
  obtain ⟨hl0, hs0⟩ := (Yok_iff _ _ _).mp hY
  have hs1 := hs0 1 (by decide)
  have e2 : mT (m_set (m_set (m_set (m_set (m_set (m_set c 6 (mT c) (nI k)) 7 (mT c) (-1)) 50 (mT c) (-1)) 51 (mT c) (-1)) 5 0 (nI (mT c + 1))) 90 1 (c 90 1 + 1)) = mT c + 1 := nI_clamp (by omega)
  have hA1 : Yl (yA Y nq_ 7 (mT c)) (m_set (m_set (m_set (m_set (m_set (m_set c 6 (mT c) (nI k)) 7 (mT c) (-1)) 50 (mT c) (-1)) 51 (mT c) (-1)) 5 0 (nI (mT c + 1))) 90 1 (c 90 1 + 1)) (nq_ + 1) := by
    refine Yl_A hl0 hn (by decide) rfl (fun t ht => ?_) ?_
    · have ea : mA (m_set (m_set (m_set (m_set (m_set (m_set c 6 (mT c) (nI k)) 7 (mT c) (-1)) 50 (mT c) (-1)) 51 (mT c) (-1)) 5 0 (nI (mT c + 1))) 90 1 (c 90 1 + 1)) = mA c := rfl
      have eb : mK (m_set (m_set (m_set (m_set (m_set (m_set c 6 (mT c) (nI k)) 7 (mT c) (-1)) 50 (mT c) (-1)) 51 (mT c) (-1)) 5 0 (nI (mT c + 1))) 90 1 (c 90 1 + 1)) = mK c := rfl
      have ec : mB (m_set (m_set (m_set (m_set (m_set (m_set c 6 (mT c) (nI k)) 7 (mT c) (-1)) 50 (mT c) (-1)) 51 (mT c) (-1)) 5 0 (nI (mT c + 1))) 90 1 (c 90 1 + 1)) = mB c := rfl
      simp only [cn, if_neg ht, ea, eb, ec]
    · show mT (m_set (m_set (m_set (m_set (m_set (m_set c 6 (mT c) (nI k)) 7 (mT c) (-1)) 50 (mT c) (-1)) 51 (mT c) (-1)) 5 0 (nI (mT c + 1))) 90 1 (c 90 1 + 1)) = mT c + 1
      exact e2
  have hqq : (q' = y_a (yA Y nq_ 7 (mT c)) 20 1 ∧ y_l (yA Y nq_ 7 (mT c)) q' = some (20, 1) ∧ n' = nq_ + 1) ∨ (nq_ + 1 ≤ q' ∧ 53 ≤ q' ∧ q' < n') := by
    rcases hcase with ⟨w1, w2, w3, w4⟩ | ⟨w1, w2, w3, w4, w5⟩
    · refine Or.inl ⟨w2, ?_, w1⟩
      rcases hA1.2.2.1 1 (by decide) with u | u
      · have : y_c Y 1 = 0 := u.2
        omega
      · rw [w2]; exact u.1
    · exact Or.inr ⟨by omega, by omega, by omega⟩
  have hN1 : 1 ≤ N' ∧ mT c + 1 ≤ N' ∧ N' ≤ 200 := by
    rcases hcase with ⟨w1, w2, w3, w4⟩ | ⟨w1, w2, w3, w4, w5⟩ <;> omega
  have hB1 := Yl_B (x := hh sm (yA Y nq_ 7 (mT c)) (m_set (m_set (m_set (m_set c 6 (mT c) (nI k)) 7 (mT c) (-1)) 50 (mT c) (-1)) 51 (mT c) (-1)) (y_a (yA Y nq_ 7 (mT c)) 20 1)) hA1 (show 1 < 5 by decide) hqq hN1.1
  have hq53 : 53 ≤ q' := by
    rcases hqq with u | u
    · exact (hA1.1 _ _ _ u.2.1).1
    · exact u.2.1
  refine ⟨_, mvl_1 hA1 hq53 ?_, (Yok_iff _ _ _).mpr ⟨hB1, fun l2 hl2 => ?_⟩, ?_⟩
  · refine (ins_push (E := fun i => c_el (yA Y nq_ 7 (mT c)) (m_set (m_set (m_set (m_set c 6 (mT c) (nI k)) 7 (mT c) (-1)) 50 (mT c) (-1)) 51 (mT c) (-1)) 1 i) (y_up_s _ _ _ _)).trans ?_
    funext i
    unfold f_arr
    rw [show ix (c_sz (m_set (m_set (m_set (m_set (m_set (m_set c 6 (mT c) (nI k)) 7 (mT c) (-1)) 50 (mT c) (-1)) 51 (mT c) (-1)) 5 0 (nI (mT c + 1))) 90 1 (c 90 1 + 1)) 1) = mT c + 1 from e2]
    rfl
  · rcases f5 hl2 with rfl | rfl | rfl | rfl | rfl
    · exact hs0 0 (by decide)
    · exact ⟨by rw [show ix (c_sz (m_set (m_set (m_set (m_set (m_set (m_set c 6 (mT c) (nI k)) 7 (mT c) (-1)) 50 (mT c) (-1)) 51 (mT c) (-1)) 5 0 (nI (mT c + 1))) 90 1 (c 90 1 + 1)) 1) = mT c + 1 from e2, show y_c (yB (yA Y nq_ 7 (mT c)) q' N' 1 (hh sm (yA Y nq_ 7 (mT c)) (m_set (m_set (m_set (m_set c 6 (mT c) (nI k)) 7 (mT c) (-1)) 50 (mT c) (-1)) 51 (mT c) (-1)) (y_a (yA Y nq_ 7 (mT c)) 20 1))) 1 = N' from yB_c _ _ _ _ _]; omega, by rw [show y_c (yB (yA Y nq_ 7 (mT c)) q' N' 1 (hh sm (yA Y nq_ 7 (mT c)) (m_set (m_set (m_set (m_set c 6 (mT c) (nI k)) 7 (mT c) (-1)) 50 (mT c) (-1)) 51 (mT c) (-1)) (y_a (yA Y nq_ 7 (mT c)) 20 1))) 1 = N' from yB_c _ _ _ _ _]; omega⟩
    · exact hs0 2 (by decide)
    · exact hs0 3 (by decide)
    · exact hs0 4 (by decide)
  · rcases hcase with w | w <;> omega
set_option maxHeartbeats 4000000 in
set_option maxRecDepth 100000 in
theorem arg_thing {Y : cY} {c : mS} {sm : mS} {nq_ : Nat} (k : Nat) (hY : Yok Y c nq_) (hn : 53 ≤ nq_) (hk : c 5 0 = nI (mT c) ∧ mT c < 120) : hh sm (yA Y nq_ 7 (mT c)) (m_set (m_set (m_set (m_set c 6 (mT c) (nI k)) 7 (mT c) (-1)) 50 (mT c) (-1)) 51 (mT c) (-1)) 10 = some (.inr (10, [.int (c 90 1), .ref (y_a Y 20 1), .int (nI (mT c))])) ∧ ((y_a Y 20 1 = 1 ∧ y_c Y 1 = 0) ∨ (hh sm (yA Y nq_ 7 (mT c)) (m_set (m_set (m_set (m_set c 6 (mT c) (nI k)) 7 (mT c) (-1)) 50 (mT c) (-1)) 51 (mT c) (-1)) (y_a Y 20 1) = some (.inl (4, y_c Y 1, rfs (f_arr (yA Y nq_ 7 (mT c)) (m_set (m_set (m_set (m_set c 6 (mT c) (nI k)) 7 (mT c) (-1)) 50 (mT c) (-1)) 51 (mT c) (-1)) 1))) ∧ 1 ≤ y_c Y 1)) ∧ y_c Y 1 ≤ 200 ∧ (mT c) ≤ y_c Y 1 ∧ (∀ i, (mT c) ≤ i → f_arr (yA Y nq_ 7 (mT c)) (m_set (m_set (m_set (m_set c 6 (mT c) (nI k)) 7 (mT c) (-1)) 50 (mT c) (-1)) 51 (mT c) (-1)) 1 i = none) ∧ l_el (hh sm (yA Y nq_ 7 (mT c)) (m_set (m_set (m_set (m_set c 6 (mT c) (nI k)) 7 (mT c) (-1)) 50 (mT c) (-1)) 51 (mT c) (-1))) 10 (f_arr (yA Y nq_ 7 (mT c)) (m_set (m_set (m_set (m_set c 6 (mT c) (nI k)) 7 (mT c) (-1)) 50 (mT c) (-1)) 51 (mT c) (-1)) 1) ∧ (∃ fs, hh sm (yA Y nq_ 7 (mT c)) (m_set (m_set (m_set (m_set c 6 (mT c) (nI k)) 7 (mT c) (-1)) 50 (mT c) (-1)) 51 (mT c) (-1)) nq_ = some (.inr (7, fs))) := by
  obtain ⟨hl0, hs0⟩ := (Yok_iff _ _ _).mp hY
  have hs1 := hs0 1 (by decide)
  have e0 : ix (c_sz (m_set (m_set (m_set (m_set c 6 (mT c) (nI k)) 7 (mT c) (-1)) 50 (mT c) (-1)) 51 (mT c) (-1)) 1) = (mT c) := rfl
  refine ⟨?_, ?_, hs1.2, hs1.1, fun i hi => ?_, fun i y hy => ?_, ?_⟩
  · have := hx_10 sm (yA Y nq_ 7 (mT c)) (m_set (m_set (m_set (m_set c 6 (mT c) (nI k)) 7 (mT c) (-1)) 50 (mT c) (-1)) 51 (mT c) (-1))
    rw [show (m_set (m_set (m_set (m_set c 6 (mT c) (nI k)) 7 (mT c) (-1)) 50 (mT c) (-1)) 51 (mT c) (-1)) 5 0 = nI (mT c) from hk.1] at this
    exact this
  · rcases hl0.2.2.1 1 (by decide) with u | u
    · exact Or.inl u
    · have hb := (hl0.1 _ _ _ u.1)
      refine Or.inr ⟨?_, u.2⟩
      rw [hh_hi _ _ _ (by omega), c_dy_20 (i := 1) ((va_up_ne _ _ (by omega)).trans u.1)]
      rfl
  · unfold f_arr
    rw [e0, if_neg (by omega)]
  · unfold f_arr at hy
    rw [e0] at hy
    by_cases hi : i < (mT c)
    · rw [if_pos hi] at hy
      have hy2 : y = y_a (yA Y nq_ 7 (mT c)) 7 i := (Option.some.inj hy).symm
      have ea : y_a (yA Y nq_ 7 (mT c)) 7 i = y_a Y 7 i := y_up_n _ _ (fun q9 => by have := q9.2; omega)
      have hb := hY.2.2.2.2.1 i hi
      have hb2 := hl0.1 _ _ _ hb
      rw [hy2, ea]
      refine ⟨by omega, 7, (f_thing (yA Y nq_ 7 (mT c)) (m_set (m_set (m_set (m_set c 6 (mT c) (nI k)) 7 (mT c) (-1)) 50 (mT c) (-1)) 51 (mT c) (-1)) i), _, ?_, rfl, tw_1209⟩
      rw [hh_hi _ _ _ (by omega), c_dy_7 (i := i) ((va_up_ne _ _ (by omega)).trans hb)]
    · rw [if_neg hi] at hy; cases hy
  · exact ⟨_, by rw [hh_hi _ _ _ (by omega), c_dy_7 (i := (mT c)) (va_up_self _ _ _)]⟩
set_option maxHeartbeats 4000000 in
set_option maxRecDepth 100000 in
theorem push_mem {Y : cY} {c : mS} {sm : mS} {nq_ : Nat}  {n' : Nat} {h' : mH} (hY : Yok Y c nq_) (hn : 53 ≤ nq_) (hk : c 8 0 = nI (mB c) ∧ mB c < 120) (hz : la_P (hh sm (yA Y nq_ 4 (mB c)) (m_set (m_set (m_set c 9 (mB c) 0) 10 (mB c) 0) 52 (mB c) 0)) (nq_ + 1) 11 (y_a Y 20 2) (y_c Y 2) (mB c) (mB c) nq_ (f_arr (yA Y nq_ 4 (mB c)) (m_set (m_set (m_set c 9 (mB c) 0) 10 (mB c) 0) 52 (mB c) 0) 2) (c 90 2 + 1) n' h') : ∃ Y2, h' = hh sm Y2 (m_set (m_set (m_set (m_set (m_set c 9 (mB c) 0) 10 (mB c) 0) 52 (mB c) 0) 8 0 (nI (mB c + 1))) 90 2 (c 90 2 + 1)) ∧ Yok Y2 (m_set (m_set (m_set (m_set (m_set c 9 (mB c) 0) 10 (mB c) 0) 52 (mB c) 0) 8 0 (nI (mB c + 1))) 90 2 (c 90 2 + 1)) n' ∧ nq_ ≤ n' := by
  obtain ⟨q', N', hcase, rfl⟩ := hz
  obtain ⟨hl0, hs0⟩ := (Yok_iff _ _ _).mp hY
  have hs1 := hs0 2 (by decide)
  have e2 : mB (m_set (m_set (m_set (m_set (m_set c 9 (mB c) 0) 10 (mB c) 0) 52 (mB c) 0) 8 0 (nI (mB c + 1))) 90 2 (c 90 2 + 1)) = mB c + 1 := nI_clamp (by omega)
  have hA1 : Yl (yA Y nq_ 4 (mB c)) (m_set (m_set (m_set (m_set (m_set c 9 (mB c) 0) 10 (mB c) 0) 52 (mB c) 0) 8 0 (nI (mB c + 1))) 90 2 (c 90 2 + 1)) (nq_ + 1) := by
    refine Yl_A hl0 hn (by decide) rfl (fun t ht => ?_) ?_
    · have ea : mA (m_set (m_set (m_set (m_set (m_set c 9 (mB c) 0) 10 (mB c) 0) 52 (mB c) 0) 8 0 (nI (mB c + 1))) 90 2 (c 90 2 + 1)) = mA c := rfl
      have eb : mK (m_set (m_set (m_set (m_set (m_set c 9 (mB c) 0) 10 (mB c) 0) 52 (mB c) 0) 8 0 (nI (mB c + 1))) 90 2 (c 90 2 + 1)) = mK c := rfl
      have ec : mT (m_set (m_set (m_set (m_set (m_set c 9 (mB c) 0) 10 (mB c) 0) 52 (mB c) 0) 8 0 (nI (mB c + 1))) 90 2 (c 90 2 + 1)) = mT c := rfl
      simp only [cn, if_neg ht, ea, eb, ec]
    · show mB (m_set (m_set (m_set (m_set (m_set c 9 (mB c) 0) 10 (mB c) 0) 52 (mB c) 0) 8 0 (nI (mB c + 1))) 90 2 (c 90 2 + 1)) = mB c + 1
      exact e2
  have hqq : (q' = y_a (yA Y nq_ 4 (mB c)) 20 2 ∧ y_l (yA Y nq_ 4 (mB c)) q' = some (20, 2) ∧ n' = nq_ + 1) ∨ (nq_ + 1 ≤ q' ∧ 53 ≤ q' ∧ q' < n') := by
    rcases hcase with ⟨w1, w2, w3, w4⟩ | ⟨w1, w2, w3, w4, w5⟩
    · refine Or.inl ⟨w2, ?_, w1⟩
      rcases hA1.2.2.1 2 (by decide) with u | u
      · have : y_c Y 2 = 0 := u.2
        omega
      · rw [w2]; exact u.1
    · exact Or.inr ⟨by omega, by omega, by omega⟩
  have hN1 : 1 ≤ N' ∧ mB c + 1 ≤ N' ∧ N' ≤ 200 := by
    rcases hcase with ⟨w1, w2, w3, w4⟩ | ⟨w1, w2, w3, w4, w5⟩ <;> omega
  have hB1 := Yl_B (x := hh sm (yA Y nq_ 4 (mB c)) (m_set (m_set (m_set c 9 (mB c) 0) 10 (mB c) 0) 52 (mB c) 0) (y_a (yA Y nq_ 4 (mB c)) 20 2)) hA1 (show 2 < 5 by decide) hqq hN1.1
  have hq53 : 53 ≤ q' := by
    rcases hqq with u | u
    · exact (hA1.1 _ _ _ u.2.1).1
    · exact u.2.1
  refine ⟨_, mvl_2 hA1 hq53 ?_, (Yok_iff _ _ _).mpr ⟨hB1, fun l2 hl2 => ?_⟩, ?_⟩
  · refine (ins_push (E := fun i => c_el (yA Y nq_ 4 (mB c)) (m_set (m_set (m_set c 9 (mB c) 0) 10 (mB c) 0) 52 (mB c) 0) 2 i) (y_up_s _ _ _ _)).trans ?_
    funext i
    unfold f_arr
    rw [show ix (c_sz (m_set (m_set (m_set (m_set (m_set c 9 (mB c) 0) 10 (mB c) 0) 52 (mB c) 0) 8 0 (nI (mB c + 1))) 90 2 (c 90 2 + 1)) 2) = mB c + 1 from e2]
    rfl
  · rcases f5 hl2 with rfl | rfl | rfl | rfl | rfl
    · exact hs0 0 (by decide)
    · exact hs0 1 (by decide)
    · exact ⟨by rw [show ix (c_sz (m_set (m_set (m_set (m_set (m_set c 9 (mB c) 0) 10 (mB c) 0) 52 (mB c) 0) 8 0 (nI (mB c + 1))) 90 2 (c 90 2 + 1)) 2) = mB c + 1 from e2, show y_c (yB (yA Y nq_ 4 (mB c)) q' N' 2 (hh sm (yA Y nq_ 4 (mB c)) (m_set (m_set (m_set c 9 (mB c) 0) 10 (mB c) 0) 52 (mB c) 0) (y_a (yA Y nq_ 4 (mB c)) 20 2))) 2 = N' from yB_c _ _ _ _ _]; omega, by rw [show y_c (yB (yA Y nq_ 4 (mB c)) q' N' 2 (hh sm (yA Y nq_ 4 (mB c)) (m_set (m_set (m_set c 9 (mB c) 0) 10 (mB c) 0) 52 (mB c) 0) (y_a (yA Y nq_ 4 (mB c)) 20 2))) 2 = N' from yB_c _ _ _ _ _]; omega⟩
    · exact hs0 3 (by decide)
    · exact hs0 4 (by decide)
  · rcases hcase with w | w <;> omega
set_option maxHeartbeats 4000000 in
set_option maxRecDepth 100000 in
theorem arg_mem {Y : cY} {c : mS} {sm : mS} {nq_ : Nat}  (hY : Yok Y c nq_) (hn : 53 ≤ nq_) (hk : c 8 0 = nI (mB c) ∧ mB c < 120) : hh sm (yA Y nq_ 4 (mB c)) (m_set (m_set (m_set c 9 (mB c) 0) 10 (mB c) 0) 52 (mB c) 0) 11 = some (.inr (10, [.int (c 90 2), .ref (y_a Y 20 2), .int (nI (mB c))])) ∧ ((y_a Y 20 2 = 1 ∧ y_c Y 2 = 0) ∨ (hh sm (yA Y nq_ 4 (mB c)) (m_set (m_set (m_set c 9 (mB c) 0) 10 (mB c) 0) 52 (mB c) 0) (y_a Y 20 2) = some (.inl (4, y_c Y 2, rfs (f_arr (yA Y nq_ 4 (mB c)) (m_set (m_set (m_set c 9 (mB c) 0) 10 (mB c) 0) 52 (mB c) 0) 2))) ∧ 1 ≤ y_c Y 2)) ∧ y_c Y 2 ≤ 200 ∧ (mB c) ≤ y_c Y 2 ∧ (∀ i, (mB c) ≤ i → f_arr (yA Y nq_ 4 (mB c)) (m_set (m_set (m_set c 9 (mB c) 0) 10 (mB c) 0) 52 (mB c) 0) 2 i = none) ∧ l_el (hh sm (yA Y nq_ 4 (mB c)) (m_set (m_set (m_set c 9 (mB c) 0) 10 (mB c) 0) 52 (mB c) 0)) 11 (f_arr (yA Y nq_ 4 (mB c)) (m_set (m_set (m_set c 9 (mB c) 0) 10 (mB c) 0) 52 (mB c) 0) 2) ∧ (∃ fs, hh sm (yA Y nq_ 4 (mB c)) (m_set (m_set (m_set c 9 (mB c) 0) 10 (mB c) 0) 52 (mB c) 0) nq_ = some (.inr (4, fs))) := by
  obtain ⟨hl0, hs0⟩ := (Yok_iff _ _ _).mp hY
  have hs1 := hs0 2 (by decide)
  have e0 : ix (c_sz (m_set (m_set (m_set c 9 (mB c) 0) 10 (mB c) 0) 52 (mB c) 0) 2) = (mB c) := rfl
  refine ⟨?_, ?_, hs1.2, hs1.1, fun i hi => ?_, fun i y hy => ?_, ?_⟩
  · have := hx_11 sm (yA Y nq_ 4 (mB c)) (m_set (m_set (m_set c 9 (mB c) 0) 10 (mB c) 0) 52 (mB c) 0)
    rw [show (m_set (m_set (m_set c 9 (mB c) 0) 10 (mB c) 0) 52 (mB c) 0) 8 0 = nI (mB c) from hk.1] at this
    exact this
  · rcases hl0.2.2.1 2 (by decide) with u | u
    · exact Or.inl u
    · have hb := (hl0.1 _ _ _ u.1)
      refine Or.inr ⟨?_, u.2⟩
      rw [hh_hi _ _ _ (by omega), c_dy_20 (i := 2) ((va_up_ne _ _ (by omega)).trans u.1)]
      rfl
  · unfold f_arr
    rw [e0, if_neg (by omega)]
  · unfold f_arr at hy
    rw [e0] at hy
    by_cases hi : i < (mB c)
    · rw [if_pos hi] at hy
      have hy2 : y = y_a (yA Y nq_ 4 (mB c)) 4 i := (Option.some.inj hy).symm
      have ea : y_a (yA Y nq_ 4 (mB c)) 4 i = y_a Y 4 i := y_up_n _ _ (fun q9 => by have := q9.2; omega)
      have hb := hY.2.2.2.1 i hi
      have hb2 := hl0.1 _ _ _ hb
      rw [hy2, ea]
      refine ⟨by omega, 4, (f_mem (m_set (m_set (m_set c 9 (mB c) 0) 10 (mB c) 0) 52 (mB c) 0) i), _, ?_, rfl, tw_1210⟩
      rw [hh_hi _ _ _ (by omega), c_dy_4 (i := i) ((va_up_ne _ _ (by omega)).trans hb)]
    · rw [if_neg hi] at hy; cases hy
  · exact ⟨_, by rw [hh_hi _ _ _ (by omega), c_dy_4 (i := (mB c)) (va_up_self _ _ _)]⟩
set_option maxHeartbeats 4000000 in
set_option maxRecDepth 100000 in
theorem push_ask {Y : cY} {c : mS} {sm : mS} {nq_ : Nat} (m k : Nat) (q f l w : Int32) {n' : Nat} {h' : mH} (hY : Yok Y c nq_) (hn : 53 ≤ nq_) (hk : c 23 0 = nI (mA c) ∧ mA c < 120) (hz : la_P (hh sm (yA Y nq_ 0 (mA c)) (m_set (m_set (m_set (m_set (m_set (m_set (m_set (m_set (m_set (m_set c 24 (mA c) 0) 25 (mA c) (-1)) 26 (mA c) 0) 27 (mA c) (nI m)) 28 (mA c) (nI k)) 29 (mA c) q) 30 (mA c) f) 31 (mA c) l) 32 (mA c) w) 33 (mA c) (-1))) (nq_ + 1) 12 (y_a Y 20 3) (y_c Y 3) (mA c) (mA c) nq_ (f_arr (yA Y nq_ 0 (mA c)) (m_set (m_set (m_set (m_set (m_set (m_set (m_set (m_set (m_set (m_set c 24 (mA c) 0) 25 (mA c) (-1)) 26 (mA c) 0) 27 (mA c) (nI m)) 28 (mA c) (nI k)) 29 (mA c) q) 30 (mA c) f) 31 (mA c) l) 32 (mA c) w) 33 (mA c) (-1)) 3) (c 90 3 + 1) n' h') : ∃ Y2, h' = hh sm Y2 (m_set (m_set (m_set (m_set (m_set (m_set (m_set (m_set (m_set (m_set (m_set (m_set c 24 (mA c) 0) 25 (mA c) (-1)) 26 (mA c) 0) 27 (mA c) (nI m)) 28 (mA c) (nI k)) 29 (mA c) q) 30 (mA c) f) 31 (mA c) l) 32 (mA c) w) 33 (mA c) (-1)) 23 0 (nI (mA c + 1))) 90 3 (c 90 3 + 1)) ∧ Yok Y2 (m_set (m_set (m_set (m_set (m_set (m_set (m_set (m_set (m_set (m_set (m_set (m_set c 24 (mA c) 0) 25 (mA c) (-1)) 26 (mA c) 0) 27 (mA c) (nI m)) 28 (mA c) (nI k)) 29 (mA c) q) 30 (mA c) f) 31 (mA c) l) 32 (mA c) w) 33 (mA c) (-1)) 23 0 (nI (mA c + 1))) 90 3 (c 90 3 + 1)) n' ∧ nq_ ≤ n' := by
  obtain ⟨q', N', hcase, rfl⟩ := hz
  obtain ⟨hl0, hs0⟩ := (Yok_iff _ _ _).mp hY
  have hs1 := hs0 3 (by decide)
  have e2 : mA (m_set (m_set (m_set (m_set (m_set (m_set (m_set (m_set (m_set (m_set (m_set (m_set c 24 (mA c) 0) 25 (mA c) (-1)) 26 (mA c) 0) 27 (mA c) (nI m)) 28 (mA c) (nI k)) 29 (mA c) q) 30 (mA c) f) 31 (mA c) l) 32 (mA c) w) 33 (mA c) (-1)) 23 0 (nI (mA c + 1))) 90 3 (c 90 3 + 1)) = mA c + 1 := nI_clamp (by omega)
  have hA1 : Yl (yA Y nq_ 0 (mA c)) (m_set (m_set (m_set (m_set (m_set (m_set (m_set (m_set (m_set (m_set (m_set (m_set c 24 (mA c) 0) 25 (mA c) (-1)) 26 (mA c) 0) 27 (mA c) (nI m)) 28 (mA c) (nI k)) 29 (mA c) q) 30 (mA c) f) 31 (mA c) l) 32 (mA c) w) 33 (mA c) (-1)) 23 0 (nI (mA c + 1))) 90 3 (c 90 3 + 1)) (nq_ + 1) := by
    refine Yl_A hl0 hn (by decide) rfl (fun t ht => ?_) ?_
    · have ea : mK (m_set (m_set (m_set (m_set (m_set (m_set (m_set (m_set (m_set (m_set (m_set (m_set c 24 (mA c) 0) 25 (mA c) (-1)) 26 (mA c) 0) 27 (mA c) (nI m)) 28 (mA c) (nI k)) 29 (mA c) q) 30 (mA c) f) 31 (mA c) l) 32 (mA c) w) 33 (mA c) (-1)) 23 0 (nI (mA c + 1))) 90 3 (c 90 3 + 1)) = mK c := rfl
      have eb : mB (m_set (m_set (m_set (m_set (m_set (m_set (m_set (m_set (m_set (m_set (m_set (m_set c 24 (mA c) 0) 25 (mA c) (-1)) 26 (mA c) 0) 27 (mA c) (nI m)) 28 (mA c) (nI k)) 29 (mA c) q) 30 (mA c) f) 31 (mA c) l) 32 (mA c) w) 33 (mA c) (-1)) 23 0 (nI (mA c + 1))) 90 3 (c 90 3 + 1)) = mB c := rfl
      have ec : mT (m_set (m_set (m_set (m_set (m_set (m_set (m_set (m_set (m_set (m_set (m_set (m_set c 24 (mA c) 0) 25 (mA c) (-1)) 26 (mA c) 0) 27 (mA c) (nI m)) 28 (mA c) (nI k)) 29 (mA c) q) 30 (mA c) f) 31 (mA c) l) 32 (mA c) w) 33 (mA c) (-1)) 23 0 (nI (mA c + 1))) 90 3 (c 90 3 + 1)) = mT c := rfl
      simp only [cn, if_neg ht, ea, eb, ec]
    · show mA (m_set (m_set (m_set (m_set (m_set (m_set (m_set (m_set (m_set (m_set (m_set (m_set c 24 (mA c) 0) 25 (mA c) (-1)) 26 (mA c) 0) 27 (mA c) (nI m)) 28 (mA c) (nI k)) 29 (mA c) q) 30 (mA c) f) 31 (mA c) l) 32 (mA c) w) 33 (mA c) (-1)) 23 0 (nI (mA c + 1))) 90 3 (c 90 3 + 1)) = mA c + 1
      exact e2
  have hqq : (q' = y_a (yA Y nq_ 0 (mA c)) 20 3 ∧ y_l (yA Y nq_ 0 (mA c)) q' = some (20, 3) ∧ n' = nq_ + 1) ∨ (nq_ + 1 ≤ q' ∧ 53 ≤ q' ∧ q' < n') := by
    rcases hcase with ⟨w1, w2, w3, w4⟩ | ⟨w1, w2, w3, w4, w5⟩
    · refine Or.inl ⟨w2, ?_, w1⟩
      rcases hA1.2.2.1 3 (by decide) with u | u
      · have : y_c Y 3 = 0 := u.2
        omega
      · rw [w2]; exact u.1
    · exact Or.inr ⟨by omega, by omega, by omega⟩
  have hN1 : 1 ≤ N' ∧ mA c + 1 ≤ N' ∧ N' ≤ 200 := by
    rcases hcase with ⟨w1, w2, w3, w4⟩ | ⟨w1, w2, w3, w4, w5⟩ <;> omega
  have hB1 := Yl_B (x := hh sm (yA Y nq_ 0 (mA c)) (m_set (m_set (m_set (m_set (m_set (m_set (m_set (m_set (m_set (m_set c 24 (mA c) 0) 25 (mA c) (-1)) 26 (mA c) 0) 27 (mA c) (nI m)) 28 (mA c) (nI k)) 29 (mA c) q) 30 (mA c) f) 31 (mA c) l) 32 (mA c) w) 33 (mA c) (-1)) (y_a (yA Y nq_ 0 (mA c)) 20 3)) hA1 (show 3 < 5 by decide) hqq hN1.1
  have hq53 : 53 ≤ q' := by
    rcases hqq with u | u
    · exact (hA1.1 _ _ _ u.2.1).1
    · exact u.2.1
  refine ⟨_, mvl_3 hA1 hq53 ?_, (Yok_iff _ _ _).mpr ⟨hB1, fun l2 hl2 => ?_⟩, ?_⟩
  · refine (ins_push (E := fun i => c_el (yA Y nq_ 0 (mA c)) (m_set (m_set (m_set (m_set (m_set (m_set (m_set (m_set (m_set (m_set c 24 (mA c) 0) 25 (mA c) (-1)) 26 (mA c) 0) 27 (mA c) (nI m)) 28 (mA c) (nI k)) 29 (mA c) q) 30 (mA c) f) 31 (mA c) l) 32 (mA c) w) 33 (mA c) (-1)) 3 i) (y_up_s _ _ _ _)).trans ?_
    funext i
    unfold f_arr
    rw [show ix (c_sz (m_set (m_set (m_set (m_set (m_set (m_set (m_set (m_set (m_set (m_set (m_set (m_set c 24 (mA c) 0) 25 (mA c) (-1)) 26 (mA c) 0) 27 (mA c) (nI m)) 28 (mA c) (nI k)) 29 (mA c) q) 30 (mA c) f) 31 (mA c) l) 32 (mA c) w) 33 (mA c) (-1)) 23 0 (nI (mA c + 1))) 90 3 (c 90 3 + 1)) 3) = mA c + 1 from e2]
    rfl
  · rcases f5 hl2 with rfl | rfl | rfl | rfl | rfl
    · exact hs0 0 (by decide)
    · exact hs0 1 (by decide)
    · exact hs0 2 (by decide)
    · exact ⟨by rw [show ix (c_sz (m_set (m_set (m_set (m_set (m_set (m_set (m_set (m_set (m_set (m_set (m_set (m_set c 24 (mA c) 0) 25 (mA c) (-1)) 26 (mA c) 0) 27 (mA c) (nI m)) 28 (mA c) (nI k)) 29 (mA c) q) 30 (mA c) f) 31 (mA c) l) 32 (mA c) w) 33 (mA c) (-1)) 23 0 (nI (mA c + 1))) 90 3 (c 90 3 + 1)) 3) = mA c + 1 from e2, show y_c (yB (yA Y nq_ 0 (mA c)) q' N' 3 (hh sm (yA Y nq_ 0 (mA c)) (m_set (m_set (m_set (m_set (m_set (m_set (m_set (m_set (m_set (m_set c 24 (mA c) 0) 25 (mA c) (-1)) 26 (mA c) 0) 27 (mA c) (nI m)) 28 (mA c) (nI k)) 29 (mA c) q) 30 (mA c) f) 31 (mA c) l) 32 (mA c) w) 33 (mA c) (-1)) (y_a (yA Y nq_ 0 (mA c)) 20 3))) 3 = N' from yB_c _ _ _ _ _]; omega, by rw [show y_c (yB (yA Y nq_ 0 (mA c)) q' N' 3 (hh sm (yA Y nq_ 0 (mA c)) (m_set (m_set (m_set (m_set (m_set (m_set (m_set (m_set (m_set (m_set c 24 (mA c) 0) 25 (mA c) (-1)) 26 (mA c) 0) 27 (mA c) (nI m)) 28 (mA c) (nI k)) 29 (mA c) q) 30 (mA c) f) 31 (mA c) l) 32 (mA c) w) 33 (mA c) (-1)) (y_a (yA Y nq_ 0 (mA c)) 20 3))) 3 = N' from yB_c _ _ _ _ _]; omega⟩
    · exact hs0 4 (by decide)
  · rcases hcase with w | w <;> omega
set_option maxHeartbeats 4000000 in
set_option maxRecDepth 100000 in
theorem arg_ask {Y : cY} {c : mS} {sm : mS} {nq_ : Nat} (m k : Nat) (q f l w : Int32) (hY : Yok Y c nq_) (hn : 53 ≤ nq_) (hk : c 23 0 = nI (mA c) ∧ mA c < 120) : hh sm (yA Y nq_ 0 (mA c)) (m_set (m_set (m_set (m_set (m_set (m_set (m_set (m_set (m_set (m_set c 24 (mA c) 0) 25 (mA c) (-1)) 26 (mA c) 0) 27 (mA c) (nI m)) 28 (mA c) (nI k)) 29 (mA c) q) 30 (mA c) f) 31 (mA c) l) 32 (mA c) w) 33 (mA c) (-1)) 12 = some (.inr (10, [.int (c 90 3), .ref (y_a Y 20 3), .int (nI (mA c))])) ∧ ((y_a Y 20 3 = 1 ∧ y_c Y 3 = 0) ∨ (hh sm (yA Y nq_ 0 (mA c)) (m_set (m_set (m_set (m_set (m_set (m_set (m_set (m_set (m_set (m_set c 24 (mA c) 0) 25 (mA c) (-1)) 26 (mA c) 0) 27 (mA c) (nI m)) 28 (mA c) (nI k)) 29 (mA c) q) 30 (mA c) f) 31 (mA c) l) 32 (mA c) w) 33 (mA c) (-1)) (y_a Y 20 3) = some (.inl (4, y_c Y 3, rfs (f_arr (yA Y nq_ 0 (mA c)) (m_set (m_set (m_set (m_set (m_set (m_set (m_set (m_set (m_set (m_set c 24 (mA c) 0) 25 (mA c) (-1)) 26 (mA c) 0) 27 (mA c) (nI m)) 28 (mA c) (nI k)) 29 (mA c) q) 30 (mA c) f) 31 (mA c) l) 32 (mA c) w) 33 (mA c) (-1)) 3))) ∧ 1 ≤ y_c Y 3)) ∧ y_c Y 3 ≤ 200 ∧ (mA c) ≤ y_c Y 3 ∧ (∀ i, (mA c) ≤ i → f_arr (yA Y nq_ 0 (mA c)) (m_set (m_set (m_set (m_set (m_set (m_set (m_set (m_set (m_set (m_set c 24 (mA c) 0) 25 (mA c) (-1)) 26 (mA c) 0) 27 (mA c) (nI m)) 28 (mA c) (nI k)) 29 (mA c) q) 30 (mA c) f) 31 (mA c) l) 32 (mA c) w) 33 (mA c) (-1)) 3 i = none) ∧ l_el (hh sm (yA Y nq_ 0 (mA c)) (m_set (m_set (m_set (m_set (m_set (m_set (m_set (m_set (m_set (m_set c 24 (mA c) 0) 25 (mA c) (-1)) 26 (mA c) 0) 27 (mA c) (nI m)) 28 (mA c) (nI k)) 29 (mA c) q) 30 (mA c) f) 31 (mA c) l) 32 (mA c) w) 33 (mA c) (-1))) 12 (f_arr (yA Y nq_ 0 (mA c)) (m_set (m_set (m_set (m_set (m_set (m_set (m_set (m_set (m_set (m_set c 24 (mA c) 0) 25 (mA c) (-1)) 26 (mA c) 0) 27 (mA c) (nI m)) 28 (mA c) (nI k)) 29 (mA c) q) 30 (mA c) f) 31 (mA c) l) 32 (mA c) w) 33 (mA c) (-1)) 3) ∧ (∃ fs, hh sm (yA Y nq_ 0 (mA c)) (m_set (m_set (m_set (m_set (m_set (m_set (m_set (m_set (m_set (m_set c 24 (mA c) 0) 25 (mA c) (-1)) 26 (mA c) 0) 27 (mA c) (nI m)) 28 (mA c) (nI k)) 29 (mA c) q) 30 (mA c) f) 31 (mA c) l) 32 (mA c) w) 33 (mA c) (-1)) nq_ = some (.inr (0, fs))) := by
  obtain ⟨hl0, hs0⟩ := (Yok_iff _ _ _).mp hY
  have hs1 := hs0 3 (by decide)
  have e0 : ix (c_sz (m_set (m_set (m_set (m_set (m_set (m_set (m_set (m_set (m_set (m_set c 24 (mA c) 0) 25 (mA c) (-1)) 26 (mA c) 0) 27 (mA c) (nI m)) 28 (mA c) (nI k)) 29 (mA c) q) 30 (mA c) f) 31 (mA c) l) 32 (mA c) w) 33 (mA c) (-1)) 3) = (mA c) := rfl
  refine ⟨?_, ?_, hs1.2, hs1.1, fun i hi => ?_, fun i y hy => ?_, ?_⟩
  · have := hx_12 sm (yA Y nq_ 0 (mA c)) (m_set (m_set (m_set (m_set (m_set (m_set (m_set (m_set (m_set (m_set c 24 (mA c) 0) 25 (mA c) (-1)) 26 (mA c) 0) 27 (mA c) (nI m)) 28 (mA c) (nI k)) 29 (mA c) q) 30 (mA c) f) 31 (mA c) l) 32 (mA c) w) 33 (mA c) (-1))
    rw [show (m_set (m_set (m_set (m_set (m_set (m_set (m_set (m_set (m_set (m_set c 24 (mA c) 0) 25 (mA c) (-1)) 26 (mA c) 0) 27 (mA c) (nI m)) 28 (mA c) (nI k)) 29 (mA c) q) 30 (mA c) f) 31 (mA c) l) 32 (mA c) w) 33 (mA c) (-1)) 23 0 = nI (mA c) from hk.1] at this
    exact this
  · rcases hl0.2.2.1 3 (by decide) with u | u
    · exact Or.inl u
    · have hb := (hl0.1 _ _ _ u.1)
      refine Or.inr ⟨?_, u.2⟩
      rw [hh_hi _ _ _ (by omega), c_dy_20 (i := 3) ((va_up_ne _ _ (by omega)).trans u.1)]
      rfl
  · unfold f_arr
    rw [e0, if_neg (by omega)]
  · unfold f_arr at hy
    rw [e0] at hy
    by_cases hi : i < (mA c)
    · rw [if_pos hi] at hy
      have hy2 : y = y_a (yA Y nq_ 0 (mA c)) 0 i := (Option.some.inj hy).symm
      have ea : y_a (yA Y nq_ 0 (mA c)) 0 i = y_a Y 0 i := y_up_n _ _ (fun q9 => by have := q9.2; omega)
      have hb := hY.2.1 i hi
      have hb2 := hl0.1 _ _ _ hb
      rw [hy2, ea]
      refine ⟨by omega, 0, (f_ask (yA Y nq_ 0 (mA c)) (m_set (m_set (m_set (m_set (m_set (m_set (m_set (m_set (m_set (m_set c 24 (mA c) 0) 25 (mA c) (-1)) 26 (mA c) 0) 27 (mA c) (nI m)) 28 (mA c) (nI k)) 29 (mA c) q) 30 (mA c) f) 31 (mA c) l) 32 (mA c) w) 33 (mA c) (-1)) i), _, ?_, rfl, tw_1200⟩
      rw [hh_hi _ _ _ (by omega), c_dy_0 (i := i) ((va_up_ne _ _ (by omega)).trans hb)]
    · rw [if_neg hi] at hy; cases hy
  · exact ⟨_, by rw [hh_hi _ _ _ (by omega), c_dy_0 (i := (mA c)) (va_up_self _ _ _)]⟩
