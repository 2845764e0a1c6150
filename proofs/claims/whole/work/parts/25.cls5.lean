theorem hh_two {sm : mS} {Y Y' : cY} {c c' : mS} {a0 a1 : Nat} {X0 X1 : Option mE} (e1 : hh sm Y' c' a1 = X1) (e0 : hh sm Y' c' a0 = X0) (hf : ∀ b, b < 24 → b ≠ a0 → b ≠ a1 → c_fx Y' c' b = c_fx Y c b) (hd : ∀ b, 52 ≤ b → b ≠ a0 → b ≠ a1 → c_dy Y' c' b = c_dy Y c b) : va_up (va_up (hh sm Y c) a0 X0) a1 X1 = hh sm Y' c' := by
  funext b
  by_cases q1 : b = a1
  · subst q1; rw [va_up_self, e1]
  · rw [va_up_ne _ _ q1]
    by_cases q0 : b = a0
    · subst q0; rw [va_up_self, e0]
    · rw [va_up_ne _ _ q0]
      by_cases h2 : b < 24
      · rw [hh_lo _ _ _ h2, hh_lo _ _ _ h2, hf b h2 q0 q1]
      · by_cases h3 : 52 ≤ b
        · rw [hh_hi _ _ _ h3, hh_hi _ _ _ h3, hd b h3 q0 q1]
        · unfold hh hm
          by_cases e24 : b = 24
          · rw [if_pos e24, if_pos e24]
          · rw [if_neg e24, if_neg e24]
            cases ht : m_t b with
            | some w => rfl
            | none =>
              exfalso
              unfold m_t at ht
              rw [if_neg (by omega)] at ht
              have := List.getElem?_eq_none_iff.mp ht
              have h27 : m_tab.length = 27 := rfl
              omega
def cn (c : mS) (t : Nat) : Nat := if t = 0 then mA c else if t = 1 then mK c else if t = 4 then mB c else if t = 7 then mT c else if t = 20 then 5 else 0
theorem y_ix_cn (c : mS) (t i : Nat) : y_ix c t i ↔ i < cn c t := by
  unfold y_ix cn
  by_cases h0 : t = 0
  · subst h0; simp
  · by_cases h1 : t = 1
    · subst h1; simp
    · by_cases h4 : t = 4
      · subst h4; simp
      · by_cases h7 : t = 7
        · subst h7; simp
        · by_cases h20 : t = 20
          · subst h20; simp
          · simp [h0, h1, h4, h7, h20]
/-- the layout alone; the lists' sizes alone -/
def Yl (Y : cY) (c : mS) (n9 : Nat) : Prop := (∀ a t i, y_l Y a = some (t, i) → 53 ≤ a ∧ a < n9 ∧ a = y_a Y t i ∧ i < cn c t) ∧ (∀ t i, t ≠ 20 → i < cn c t → y_l Y (y_a Y t i) = some (t, i)) ∧ (∀ l, l < 5 → (y_a Y 20 l = 1 ∧ y_c Y l = 0) ∨ (y_l Y (y_a Y 20 l) = some (20, l) ∧ 1 ≤ y_c Y l)) ∧ yJ Y
def Ys (Y : cY) (c : mS) : Prop := ∀ l, l < 5 → ix (c_sz c l) ≤ y_c Y l ∧ y_c Y l ≤ 200
theorem Yok_iff (Y : cY) (c : mS) (n9 : Nat) : Yok Y c n9 ↔ Yl Y c n9 ∧ Ys Y c := by
  constructor
  · rintro ⟨a1, a2, a3, a4, a5, a6, a7⟩
    refine ⟨⟨fun a t i z => ?_, fun t i ht hi => ?_, fun l hl => (a6 l hl).2.2, a7⟩, fun l hl => ⟨(a6 l hl).1, (a6 l hl).2.1⟩⟩
    · have := a1 a t i z
      rw [y_ix_cn] at this
      exact this
    · rcases (y_ix_cn c t i).mpr hi with ⟨rfl, z⟩ | ⟨rfl, z⟩ | ⟨rfl, z⟩ | ⟨rfl, z⟩ | ⟨rfl, z⟩
      · exact a2 i z
      · exact a3 i z
      · exact a4 i z
      · exact a5 i z
      · exact absurd rfl ht
  · rintro ⟨⟨a1, a2, a3, a7⟩, a4⟩
    refine ⟨fun a t i z => ?_, fun i z => a2 0 i (by decide) z, fun i z => a2 1 i (by decide) z, fun i z => a2 4 i (by decide) z, fun i z => a2 7 i (by decide) z, fun l hl => ⟨(a4 l hl).1, (a4 l hl).2, a3 l hl⟩, a7⟩
    have := a1 a t i z
    rw [y_ix_cn]
    exact this
theorem Yl_A {Y : cY} {c c2 : mS} {n tg K : Nat} (h : Yl Y c n) (hn : 53 ≤ n) (ht : tg ≠ 20) (hK : K = cn c tg) (h1 : ∀ t, t ≠ tg → cn c2 t = cn c t) (h2 : cn c2 tg = cn c tg + 1) : Yl (yA Y n tg K) c2 (n + 1) := by
  obtain ⟨a1, a2, a3, a7⟩ := h
  have hna : ∀ t i, i < cn c t → y_a (yA Y n tg K) t i = y_a Y t i := fun t i hi => y_up_n _ _ (fun q => by rw [q.1, q.2, hK] at hi; exact Nat.lt_irrefl _ hi)
  refine ⟨fun a t i z => ?_, fun t i ht2 hi => ?_, fun l hl => ?_, a7⟩
  · by_cases e : a = n
    · subst e
      have z2 : some (tg, K) = some (t, i) := (va_up_self (y_l Y) a (some (tg, K))).symm.trans z
      cases z2
      exact ⟨hn, by omega, (y_up_s _ _ _ _).symm, by omega⟩
    · have z2 : y_l Y a = some (t, i) := (va_up_ne _ _ e).symm.trans z
      obtain ⟨b1, b2, b3, b4⟩ := a1 a t i z2
      refine ⟨b1, by omega, b3.trans (hna t i b4).symm, ?_⟩
      by_cases e2 : t = tg
      · subst e2; omega
      · rw [h1 t e2]; exact b4
  · by_cases e2 : t = tg ∧ i = K
    · obtain ⟨rfl, rfl⟩ := e2
      show va_up (y_l Y) n (some (t, i)) (y_up (y_a Y) t i n t i) = _
      rw [y_up_s, va_up_self]
    · have hi2 : i < cn c t := by
        by_cases e3 : t = tg
        · subst e3
          have : ¬ i = K := fun q => e2 ⟨rfl, q⟩
          omega
        · rw [← h1 t e3]; exact hi
      have b := a2 t i ht2 hi2
      rw [hna t i hi2]
      have := (a1 _ _ _ b).2.1
      exact (va_up_ne _ _ (by omega)).trans b
  · have e : y_a (yA Y n tg K) 20 l = y_a Y 20 l := y_up_n _ _ (fun q => ht q.1.symm)
    rw [e]
    rcases a3 l hl with b | b
    · exact Or.inl b
    · have := (a1 _ _ _ b.1).2.1
      exact Or.inr ⟨(va_up_ne _ _ (by omega)).trans b.1, b.2⟩
theorem Yl_B {Y : cY} {c : mS} {n n' q N l : Nat} {x : Option mE} (h : Yl Y c n) (hl : l < 5) (hq : (q = y_a Y 20 l ∧ y_l Y q = some (20, l) ∧ n' = n) ∨ (n ≤ q ∧ 53 ≤ q ∧ q < n')) (hN : 1 ≤ N) : Yl (yB Y q N l x) c n' := by
  obtain ⟨a1, a2, a3, f7, a7⟩ := h
  have hnn : n ≤ n' := by rcases hq with z | z <;> omega
  have hqq : 53 ≤ q ∧ q < n' := by
    rcases hq with z | z
    · have := a1 _ _ _ z.2.1; omega
    · omega
  have hna : ∀ t i, ¬ (t = 20 ∧ i = l) → y_a (yB Y q N l x) t i = y_a Y t i := fun t i z => y_up_n _ _ z
  have hlq : y_l (yB Y q N l x) q = some (20, l) := va_up_self _ _ _
  have hlb : ∀ a t i, y_l Y a = some (t, i) → ¬ (t = 20 ∧ i = l) → y_l (yB Y q N l x) a = some (t, i) := by
    intro a t i z ne
    have e1 : a ≠ q := fun e => by
      subst e
      rcases hq with w | w
      · rw [w.2.1] at z; cases z; exact ne ⟨rfl, rfl⟩
      · have := (a1 _ _ _ z).2.1; omega
    have e2 : a ≠ y_a Y 20 l := fun e => by
      rcases a3 l hl with w | w
      · have := (a1 _ _ _ z).1; omega
      · rw [e, w.1] at z; cases z; exact ne ⟨rfl, rfl⟩
    exact (va_up_ne _ _ e1).trans ((va_up_ne _ _ e2).trans z)
  have h52 : 52 ≠ y_a Y 20 l := by
    rcases a3 l hl with w | w
    · rw [w.1]; decide
    · have := (a1 _ _ _ w.1).1; omega
  refine ⟨fun a t i z => ?_, fun t i ht hi => ?_, fun l2 hl2 => ?_, f7, (va_up_ne (y_j Y) x h52).trans a7⟩
  · by_cases e : a = q
    · subst e
      rw [hlq] at z
      cases z
      exact ⟨hqq.1, hqq.2, (y_up_s _ _ _ _).symm, by show l < cn c 20; exact hl⟩
    · have z1 : va_up (y_l Y) (y_a Y 20 l) none a = some (t, i) := (va_up_ne _ _ e).symm.trans z
      by_cases e2 : a = y_a Y 20 l
      · rw [e2, va_up_self] at z1; cases z1
      · have z2 : y_l Y a = some (t, i) := (va_up_ne _ _ e2).symm.trans z1
        obtain ⟨b1, b2, b3, b4⟩ := a1 a t i z2
        refine ⟨b1, by omega, ?_, b4⟩
        rw [hna t i (fun w => e2 (by rw [b3, w.1, w.2]))]
        exact b3
  · rw [hna t i (fun w => ht w.1)]
    exact hlb _ _ _ (a2 t i ht hi) (fun w => ht w.1)
  · by_cases e : l2 = l
    · subst e
      refine Or.inr ⟨?_, ?_⟩
      · show y_l (yB Y q N l2 x) (y_up (y_a Y) 20 l2 q 20 l2) = _
        rw [y_up_s]; exact hlq
      · show 1 ≤ va_up (y_c Y) l2 N l2
        rw [va_up_self]; exact hN
    · rw [hna 20 l2 (fun w => e w.2)]
      have ec : y_c (yB Y q N l x) l2 = y_c Y l2 := va_up_ne _ _ e
      rw [ec]
      rcases a3 l2 hl2 with b | b
      · exact Or.inl b
      · exact Or.inr ⟨hlb _ _ _ b.1 (fun w => e w.2), b.2⟩
theorem fa_c {Y Y' : cY} {c c' : mS} {i : Nat} (e1 : y_a Y' 4 (ix (c' 27 i)) = y_a Y 4 (ix (c 27 i))) (e2 : y_a Y' 1 (ix (c' 28 i)) = y_a Y 1 (ix (c 28 i))) (e3 : c' 29 i = c 29 i) (e4 : c' 30 i = c 30 i) (e5 : c' 31 i = c 31 i) (e6 : c' 32 i = c 32 i) (e7 : c' 24 i = c 24 i) (e8 : oR (y_a Y' 7) (c' 25 i) = oR (y_a Y 7) (c 25 i)) (e9 : c' 26 i = c 26 i) (e10 : c' 33 i = c 33 i) : f_ask Y' c' i = f_ask Y c i := by
  unfold f_ask
  rw [e1, e2, e3, e4, e5, e6, e7, e8, e9, e10]
theorem ft_c {Y Y' : cY} {c c' : mS} {i : Nat} (e1 : y_a Y' 1 (ix (c' 6 i)) = y_a Y 1 (ix (c 6 i))) (e2 : c' 7 i = c 7 i) (e3 : c' 50 i = c 50 i) (e4 : oR (y_a Y' 0) (c' 51 i) = oR (y_a Y 0) (c 51 i)) : f_thing Y' c' i = f_thing Y c i := by
  unfold f_thing
  rw [e1, e2, e3, e4]
theorem fk_c {c c' : mS} {i : Nat} (e1 : c' 2 i = c 2 i) (e2 : c' 3 i = c 3 i) (e3 : c' 4 i = c 4 i) : f_kind c' i = f_kind c i := by
  unfold f_kind
  rw [e1, e2, e3]
theorem fm_c {c c' : mS} {i : Nat} (e1 : c' 9 i = c 9 i) (e2 : c' 10 i = c 10 i) (e3 : c' 52 i = c 52 i) : f_mem c' i = f_mem c i := by
  unfold f_mem
  rw [e1, e2, e3]
theorem fr_c {Y Y' : cY} {c c' : mS} {l : Nat} (e1 : c_sz c' l = c_sz c l) (e2 : ∀ i, i < ix (c_sz c l) → c_el Y' c' l i = c_el Y c l i) : f_arr Y' c' l = f_arr Y c l := by
  funext i
  unfold f_arr
  rw [e1]
  by_cases h : i < ix (c_sz c l)
  · rw [if_pos h, if_pos h, e2 i h]
  · rw [if_neg h, if_neg h]
theorem oR_c {f g : Nat → Nat} {x : Int32} (h : ¬ x = -1 → f (ix x) = g (ix x)) : oR f x = oR g x := by
  unfold oR
  by_cases e : x = -1
  · rw [if_pos e, if_pos e]
  · rw [if_neg e, if_neg e, h e]
theorem ms_ne {c : mS} {j i a : Nat} {v : Int32} (h : ¬ i = a) : m_set c j a v j i = c j i := if_neg (fun q => h q.2)
theorem ms_eq {c : mS} {j a : Nat} {v : Int32} : m_set c j a v j a = v := if_pos ⟨rfl, rfl⟩
theorem f5 {l : Nat} (h : l < 5) : l = 0 ∨ l = 1 ∨ l = 2 ∨ l = 3 ∨ l = 4 := by omega
theorem nw_kind {Y : cY} {c : mS} {sm : mS} {n9 : Nat} (a b d : Int32) (hY : Yok Y c n9) (hn : 53 ≤ n9) (hC9 : c_inv c) : va_up (hh sm Y c) n9 (some (.inr (1, [.int (nI (mK c)), .int a, .int b, .int d]))) = hh sm (yA Y n9 1 (mK c)) (m_set (m_set (m_set c 2 (mK c) a) 3 (mK c) b) 4 (mK c) d) := by
  obtain ⟨hI, hG, hgv, hov, hrw, hps⟩ := id hC9
  obtain ⟨hK, hT, hB, hP9, hA, hkf, haf, hbf⟩ := id hI
  have hA2 := hA.2
  have hT2 := hT.2
  have hK2 := hK.2
  have hB2 := hB.2
  have hG2 := hG.2
  have hP2 := hP9.2
  have ef : f_kind (m_set (m_set (m_set c 2 (mK c) a) 3 (mK c) b) 4 (mK c) d) (mK c) = [.int (nI (mK c)), .int a, .int b, .int d] := by
    simp [f_kind, m_set]
  refine hh_one (Or.inr (by omega)) ?_ (fun b hb _ => by unfold c_fx; split <;> rfl) (fun b hb hbn => cd_y (va_up_ne _ _ hbn) (fun _ => rfl) (fun _ _ z => hY.tags z) (fun i hi => by have hi2 := hY.i_A hi; exact fa_c (rfl) (y_up_n _ _ (fun q9 => by have q7 : ix (c 28 i) = mK c := q9.2; have := (haf i hi2).1.2; omega)) rfl rfl rfl rfl rfl (rfl) rfl rfl) (fun i hi => by have hi2 := hY.i_K hi; have hz : ¬ i = mK c := (by omega); exact fk_c (by simp [m_set, hz]) (by simp [m_set, hz]) (by simp [m_set, hz])) (fun _ _ => rfl) (fun i hi => by have hi2 := hY.i_T hi; exact ft_c (y_up_n _ _ (fun q9 => by have q7 : ix (c 6 i) = mK c := q9.2; have := (hkf i hi2).2; omega)) rfl rfl (rfl)) (fun i hi => by
      refine ⟨rfl, ?_⟩
      rcases f5 (hY.i_L hi) with rfl | rfl | rfl | rfl | rfl
      · exact fr_c rfl (fun j hj => y_up_n _ _ (fun q9 => by have := q9.2; have hj2 : j < mK c := hj; omega))
      · exact fr_c rfl (fun _ _ => rfl)
      · exact fr_c rfl (fun _ _ => rfl)
      · exact fr_c rfl (fun _ _ => rfl)
      · exact fr_c rfl (fun _ _ => rfl)))
  rw [hh_hi _ _ _ (by omega), c_dy_1 (va_up_self _ _ _), ef]
theorem nw_thing {Y : cY} {c : mS} {sm : mS} {n9 : Nat} (k : Nat) (hY : Yok Y c n9) (hn : 53 ≤ n9) (hC9 : c_inv c) (hk9 : k < mK c) : va_up (hh sm Y c) n9 (some (.inr (7, [.int (nI (mT c)), .ref (y_a Y 1 k), .int (-1), .int (-1), .null]))) = hh sm (yA Y n9 7 (mT c)) (m_set (m_set (m_set (m_set c 6 (mT c) (nI k)) 7 (mT c) (-1)) 50 (mT c) (-1)) 51 (mT c) (-1)) := by
  obtain ⟨hI, hG, hgv, hov, hrw, hps⟩ := id hC9
  obtain ⟨hK, hT, hB, hP9, hA, hkf, haf, hbf⟩ := id hI
  have hA2 := hA.2
  have hT2 := hT.2
  have hK2 := hK.2
  have hB2 := hB.2
  have hG2 := hG.2
  have hP2 := hP9.2
  have ef : f_thing (yA Y n9 7 (mT c)) (m_set (m_set (m_set (m_set c 6 (mT c) (nI k)) 7 (mT c) (-1)) 50 (mT c) (-1)) 51 (mT c) (-1)) (mT c) = [.int (nI (mT c)), .ref (y_a Y 1 k), .int (-1), .int (-1), .null] := by
    show [Value.int (nI (mT c)), .ref (y_a (yA Y n9 7 (mT c)) 1 (ix ((m_set (m_set (m_set (m_set c 6 (mT c) (nI k)) 7 (mT c) (-1)) 50 (mT c) (-1)) 51 (mT c) (-1)) 6 (mT c)))), .int ((m_set (m_set (m_set (m_set c 6 (mT c) (nI k)) 7 (mT c) (-1)) 50 (mT c) (-1)) 51 (mT c) (-1)) 7 (mT c)), .int ((m_set (m_set (m_set (m_set c 6 (mT c) (nI k)) 7 (mT c) (-1)) 50 (mT c) (-1)) 51 (mT c) (-1)) 50 (mT c)), va_rf (oR (y_a (yA Y n9 7 (mT c)) 0) ((m_set (m_set (m_set (m_set c 6 (mT c) (nI k)) 7 (mT c) (-1)) 50 (mT c) (-1)) 51 (mT c) (-1)) 51 (mT c)))] = _; simp [m_set, nI_clamp (show k < 2 ^ 31 by omega)]; exact ⟨rfl, rfl⟩
  refine hh_one (Or.inr (by omega)) ?_ (fun b hb _ => by unfold c_fx; split <;> rfl) (fun b hb hbn => cd_y (va_up_ne _ _ hbn) (fun _ => rfl) (fun _ _ z => hY.tags z) (fun i hi => by have hi2 := hY.i_A hi; exact fa_c (rfl) (rfl) rfl rfl rfl rfl rfl (oR_c (fun q8 => y_up_n _ _ (fun q9 => by have q7 : ix (c 25 i) = mT c := q9.2; have := ((haf i hi2).2.2.resolve_left q8).2; omega))) rfl rfl) (fun _ _ => rfl) (fun _ _ => rfl) (fun i hi => by have hi2 := hY.i_T hi; have hz : ¬ i = mT c := (by omega); exact ft_c (by simp [m_set, hz]; rfl) (by simp [m_set, hz]) (by simp [m_set, hz]) (by simp [m_set, hz]; rfl)) (fun i hi => by
      refine ⟨rfl, ?_⟩
      rcases f5 (hY.i_L hi) with rfl | rfl | rfl | rfl | rfl
      · exact fr_c rfl (fun _ _ => rfl)
      · exact fr_c rfl (fun j hj => y_up_n _ _ (fun q9 => by have := q9.2; have hj2 : j < mT c := hj; omega))
      · exact fr_c rfl (fun _ _ => rfl)
      · exact fr_c rfl (fun _ _ => rfl)
      · exact fr_c rfl (fun _ _ => rfl)))
  rw [hh_hi _ _ _ (by omega), c_dy_7 (va_up_self _ _ _), ef]
theorem nw_mem {Y : cY} {c : mS} {sm : mS} {n9 : Nat}  (hY : Yok Y c n9) (hn : 53 ≤ n9) (hC9 : c_inv c) : va_up (hh sm Y c) n9 (some (.inr (4, [.int (nI (mB c)), .int 0, .int 0, .int 0]))) = hh sm (yA Y n9 4 (mB c)) (m_set (m_set (m_set c 9 (mB c) 0) 10 (mB c) 0) 52 (mB c) 0) := by
  obtain ⟨hI, hG, hgv, hov, hrw, hps⟩ := id hC9
  obtain ⟨hK, hT, hB, hP9, hA, hkf, haf, hbf⟩ := id hI
  have hA2 := hA.2
  have hT2 := hT.2
  have hK2 := hK.2
  have hB2 := hB.2
  have hG2 := hG.2
  have hP2 := hP9.2
  have ef : f_mem (m_set (m_set (m_set c 9 (mB c) 0) 10 (mB c) 0) 52 (mB c) 0) (mB c) = [.int (nI (mB c)), .int 0, .int 0, .int 0] := by
    simp [f_mem, m_set]
  refine hh_one (Or.inr (by omega)) ?_ (fun b hb _ => by unfold c_fx; split <;> rfl) (fun b hb hbn => cd_y (va_up_ne _ _ hbn) (fun _ => rfl) (fun _ _ z => hY.tags z) (fun i hi => by have hi2 := hY.i_A hi; exact fa_c (y_up_n _ _ (fun q9 => by have q7 : ix (c 27 i) = mB c := q9.2; have := (haf i hi2).2.1.2; omega)) (rfl) rfl rfl rfl rfl rfl (rfl) rfl rfl) (fun _ _ => rfl) (fun i hi => by have hi2 := hY.i_B hi; have hz : ¬ i = mB c := (by omega); exact fm_c (by simp [m_set, hz]) (by simp [m_set, hz]) (by simp [m_set, hz])) (fun i hi => by have hi2 := hY.i_T hi; exact ft_c (rfl) rfl rfl (rfl)) (fun i hi => by
      refine ⟨rfl, ?_⟩
      rcases f5 (hY.i_L hi) with rfl | rfl | rfl | rfl | rfl
      · exact fr_c rfl (fun _ _ => rfl)
      · exact fr_c rfl (fun _ _ => rfl)
      · exact fr_c rfl (fun j hj => y_up_n _ _ (fun q9 => by have := q9.2; have hj2 : j < mB c := hj; omega))
      · exact fr_c rfl (fun _ _ => rfl)
      · exact fr_c rfl (fun _ _ => rfl)))
  rw [hh_hi _ _ _ (by omega), c_dy_4 (va_up_self _ _ _), ef]
theorem nw_ask {Y : cY} {c : mS} {sm : mS} {n9 : Nat} (m k : Nat) (q f l w : Int32) (hY : Yok Y c n9) (hn : 53 ≤ n9) (hC9 : c_inv c) (hm9 : m < mB c) (hk9 : k < mK c) : va_up (hh sm Y c) n9 (some (.inr (0, [.int (nI (mA c)), .ref (y_a Y 4 m), .ref (y_a Y 1 k), .int q, .int f, .int l, .int w, .int 0, .null, .int 0, .int (-1)]))) = hh sm (yA Y n9 0 (mA c)) (m_set (m_set (m_set (m_set (m_set (m_set (m_set (m_set (m_set (m_set c 24 (mA c) 0) 25 (mA c) (-1)) 26 (mA c) 0) 27 (mA c) (nI m)) 28 (mA c) (nI k)) 29 (mA c) q) 30 (mA c) f) 31 (mA c) l) 32 (mA c) w) 33 (mA c) (-1)) := by
  obtain ⟨hI, hG, hgv, hov, hrw, hps⟩ := id hC9
  obtain ⟨hK, hT, hB, hP9, hA, hkf, haf, hbf⟩ := id hI
  have hA2 := hA.2
  have hT2 := hT.2
  have hK2 := hK.2
  have hB2 := hB.2
  have hG2 := hG.2
  have hP2 := hP9.2
  have ef : f_ask (yA Y n9 0 (mA c)) (m_set (m_set (m_set (m_set (m_set (m_set (m_set (m_set (m_set (m_set c 24 (mA c) 0) 25 (mA c) (-1)) 26 (mA c) 0) 27 (mA c) (nI m)) 28 (mA c) (nI k)) 29 (mA c) q) 30 (mA c) f) 31 (mA c) l) 32 (mA c) w) 33 (mA c) (-1)) (mA c) = [.int (nI (mA c)), .ref (y_a Y 4 m), .ref (y_a Y 1 k), .int q, .int f, .int l, .int w, .int 0, .null, .int 0, .int (-1)] := by
    unfold f_ask; simp [m_set, nI_clamp (show k < 2 ^ 31 by omega), nI_clamp (show m < 2 ^ 31 by omega)]; exact ⟨rfl, rfl, rfl⟩
  refine hh_one (Or.inr (by omega)) ?_ (fun b hb _ => by
      unfold c_fx
      split <;> first | rfl | (exact congrArg (fun z => (some (Sum.inl (5, 5, rfs z)) : Option mE)) (funext (fun i => oR_c (fun q8 => y_up_n _ _ (fun q9 => by have q7 : ix (c 70 i) = mA c := q9.2; have := ((hrw i).resolve_left q8).2; omega)))))) (fun b hb hbn => cd_y (va_up_ne _ _ hbn) (fun _ => rfl) (fun _ _ z => hY.tags z) (fun i hi => by have hi2 := hY.i_A hi; have hz : ¬ i = mA c := (by omega); exact fa_c (by simp [m_set, hz]; rfl) (by simp [m_set, hz]; rfl) (by simp [m_set, hz]) (by simp [m_set, hz]) (by simp [m_set, hz]) (by simp [m_set, hz]) (by simp [m_set, hz]) (by simp [m_set, hz]; rfl) (by simp [m_set, hz]) (by simp [m_set, hz])) (fun _ _ => rfl) (fun _ _ => rfl) (fun i hi => by have hi2 := hY.i_T hi; exact ft_c (rfl) rfl rfl (oR_c (fun q8 => y_up_n _ _ (fun q9 => by have q7 : ix (c 51 i) = mA c := q9.2; have := ((hov i hi2).resolve_left q8).2; omega)))) (fun i hi => by
      refine ⟨rfl, ?_⟩
      rcases f5 (hY.i_L hi) with rfl | rfl | rfl | rfl | rfl
      · exact fr_c rfl (fun _ _ => rfl)
      · exact fr_c rfl (fun _ _ => rfl)
      · exact fr_c rfl (fun _ _ => rfl)
      · exact fr_c rfl (fun j hj => y_up_n _ _ (fun q9 => by have := q9.2; have hj2 : j < mA c := hj; omega))
      · exact fr_c rfl (fun j hj => y_up_n _ _ (fun q9 => by have q7 : ix (c 80 j) = mA c := q9.2; have := (hgv j hj).2; omega))))
  rw [hh_hi _ _ _ (by omega), c_dy_0 (va_up_self _ _ _), ef]
