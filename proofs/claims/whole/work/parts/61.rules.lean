section RUL
variable {D : Dt} {z : St} {l : Nat}
theorem nm_bit (h : OKd D) {j : Nat} : (nmN D).testBit j = (decide (j < D 7 0) && decide (D 4 j = 1)) := by
  unfold nmN
  rw [orN_bit]
  apply Bool.eq_iff_iff.mpr
  rw [anyB_iff]
  simp only [Bool.and_eq_true, decide_eq_true_eq]
  constructor
  · rintro ⟨i, h1, h2⟩
    by_cases c : D 4 i = 1
    · simp only [c, if_true, Nat.testBit_two_pow, decide_eq_true_eq] at h2
      subst h2; exact ⟨h1, c⟩
    · simp [c] at h2
  · rintro ⟨h1, h2⟩
    exact ⟨j, h1, by simp [h2, Nat.testBit_two_pow]⟩
theorem nm_lt (h : OKd D) : nmN D < 2 ^ 9 := orN_lt (fun j hj => by
  have := h.1
  split
  · exact Nat.pow_lt_pow_right (by omega) (by omega)
  · exact Nat.two_pow_pos _)
theorem restB_eq (h : OKd D) (hz : RC D z) {j : Nat} (hj : j < D 7 0) : f_X4_restBehind z (nI j) = some (nI (restN D j)) := by
  obtain ⟨⟨e0, e1, e2, r0, r1, -⟩, eD, -⟩ := hz
  obtain ⟨d0, d1, -⟩ := eD j hj
  obtain ⟨h0, h1, h2, h3, h4, h5, hb, hp⟩ := id h
  have hb := hb j hj
  have hnm := nm_lt h
  have c0 : (0 : Int32).toNatClampNeg = 0 := by decide
  have c1 : (1 : Int32).toNatClampNeg = 1 := by decide
  unfold f_X4_restBehind f_X4_restBehind_21
  rw [e2, isIn_eq (by omega) (by omega), nm_bit h, decide_eq_true hj, Bool.true_and]
  simp only [Option.bind_some]
  rw [c0, c1, r0, r1, show ck 4 (0 : Int32) = ck 4 (nI 0) (α := Int32) from rfl, show ck 4 (1 : Int32) = ck 4 (nI 1) (α := Int32) from rfl, ck_nI (by omega) (by omega), ck_nI (by omega) (by omega), ck_nI (by omega) (by omega), nI_clamp (by omega), d1]
  have t0 : ∀ a : Nat, a < 100 → (if nI a < (0 : Int32) then (0 : Int32) else nI a) = nI a := fun a ha => if_neg (nI_pos (by omega))
  have t1 : ∀ a b : Nat, a < 100 → b < 100 → (if nI a < nI b then nI b else nI a) = nI (max a b) := by
    intro a b ha hb
    by_cases c : a < b
    · rw [if_pos (nI_lt c (by omega)), Nat.max_eq_right (by omega)]
    · rw [if_neg (nI_nlt (Nat.not_lt.mp c) (by omega)), Nat.max_eq_left (by omega)]
  have hlt : (nI (D 1 j) < (2 : Int32)) ↔ D 1 j < 2 := nI_ltI (b := 2) (by omega) (by omega)
  unfold restN
  by_cases q1 : D 4 j = 1
  · rw [decide_eq_true q1, if_neg (show ¬ bI true = 0 by decide), if_pos q1]
    by_cases q2 : D 1 j < 2
    · rw [if_pos (hlt.mpr q2), if_neg (show ¬ 1 < D 1 j by omega), t0 _ (by omega), Nat.max_zero, ck_nI (by omega) (by omega)]
    · rw [if_neg (fun e => q2 (hlt.mp e)), if_pos (show 1 < D 1 j by omega), t1 _ _ (by omega) (by omega), ck_nI (by omega) (by omega), ck_nI (by omega) (by omega)]
  · rw [decide_eq_false q1, if_pos (show bI false = 0 from rfl), if_neg q1]
    by_cases q2 : D 1 j < 2
    · rw [if_pos (hlt.mpr q2), if_neg (show ¬ 1 < D 1 j by omega)]; rfl
    · rw [if_neg (fun e => q2 (hlt.mp e)), if_pos (show 1 < D 1 j by omega)]
      exact congrArg some (t1 0 _ (by omega) (by omega))
theorem breaksRest_eq (h : OKd D) (hz : RC D z) (hl : l < 512) : f_X4_breaksRest z (nI l) (nI (dysN D l)) = some (bI (anyB (rsF D l) (D 7 0))) := by
  have hn := h.1
  have e0 := hz.1.1
  have hdl : dysN D l < 2 ^ 14 := dy_lt h (Nat.le_refl _)
  have key : f_X4_breaksRest z (nI l) (nI (dysN D l)) = if anyB (rsF D l) (D 7 0) then some 1 else some 0 := by
    unfold f_X4_breaksRest l_X4_breaksRest_3
    refine loopC (N := D 7 0) (it := fun f i => iter (fun _ _ _ => none) (f_X4_breaksRest_3 z) f (nI l) (nI (dysN D l)) (nI i)) ?_ ?_ FU (FU_gt (by omega))
    · intro f
      rw [iter_s, f_X4_breaksRest_3.eq_1, e0, if_pos (nI_le (Nat.le_refl _) (by omega))]
    · intro f i hi
      obtain ⟨d0, d1, -⟩ := hz.2.1 i hi
      have hb := h.2.2.2.2.2.2.1 i hi
      have hr := restN_le h i
      have hp1 : 2 ^ restN D i ≤ 2 ^ 3 := Nat.pow_le_pow_right (by omega) hr
      have hp0 : 0 < 2 ^ restN D i := Nat.two_pow_pos _
      have hsp := sp_lt (D 0 i + D 1 i) (by omega) (restN D i) (by omega) (by omega)
      have hp2 : 2 ^ (D 0 i + D 1 i + restN D i) ≤ 2 ^ 17 := Nat.pow_le_pow_right (by omega) (by omega)
      rw [iter_s, f_X4_breaksRest_3.eq_1, e0, if_neg (nI_ge hi (by omega)), isIn_eq (by omega) (by omega), restB_eq h hz hi]
      generalize iter (fun _ _ _ => none) (f_X4_breaksRest_3 z) f = k
      simp only [Option.bind_some, ck_nI (show i < 9 by omega) (show 9 < 2 ^ 31 by omega), nI_clamp (show i < 2 ^ 31 by omega), d0, d1, nI_add, nI_1]
      rw [L1, nI_shl (s := 1) (by omega) (by omega), Nat.one_mul, pk_sub (by omega), nI_shl (by omega) (by omega), nI_and]
      have hle : dysN D l &&& (2 ^ restN D i - 1) * 2 ^ (D 0 i + D 1 i) ≤ dysN D l := Nat.and_le_left
      have hx : (dysN D l &&& (2 ^ restN D i - 1) * 2 ^ (D 0 i + D 1 i) ≠ 0) ↔ anyB (rsG D l (D 0 i + D 1 i)) (min (restN D i) (14 - (D 0 i + D 1 i))) = true := by
        rw [and_ne0, anyB_iff]
        constructor
        · rintro ⟨t, t1, t2⟩
          have ht : t < 14 := by
            rcases Nat.lt_or_ge t 14 with q | q
            · exact q
            · rw [Nat.testBit_lt_two_pow (Nat.lt_of_lt_of_le hdl (Nat.pow_le_pow_right (by omega) q))] at t1; cases t1
          rw [sp_dec _ (by omega) _ (by omega) t (by omega)] at t2
          rw [dys_bit h (by omega), decide_eq_true_eq] at t1
          simp only [Bool.and_eq_true, decide_eq_true_eq] at t2
          refine ⟨t - (D 0 i + D 1 i), by omega, ?_⟩
          unfold rsG
          rw [decide_eq_true_eq, show D 0 i + D 1 i + (t - (D 0 i + D 1 i)) = t by omega]
          exact t1
        · rintro ⟨t, t1, t2⟩
          unfold rsG at t2
          rw [decide_eq_true_eq] at t2
          refine ⟨D 0 i + D 1 i + t, ?_, ?_⟩
          · rw [dys_bit h (by omega), decide_eq_true t2]
          · rw [sp_dec _ (by omega) _ (by omega) _ (by omega), decide_eq_true (show D 0 i + D 1 i ≤ D 0 i + D 1 i + t by omega), decide_eq_true (by omega)]; rfl
      unfold rsF
      by_cases q0 : l.testBit i = true
      · rw [q0, if_neg (show ¬ bI true = 0 by decide), Bool.true_and]
        by_cases q1 : dysN D l &&& (2 ^ restN D i - 1) * 2 ^ (D 0 i + D 1 i) = 0
        · rw [if_pos (show nI (dysN D l &&& (2 ^ restN D i - 1) * 2 ^ (D 0 i + D 1 i)) = 0 by rw [q1]; rfl)]
          cases hq : anyB (rsG D l (D 0 i + D 1 i)) (min (restN D i) (14 - (D 0 i + D 1 i))) with
          | false => rfl
          | true => exact absurd q1 (hx.mpr hq)
        · rw [if_neg (show ¬ nI (dysN D l &&& (2 ^ restN D i - 1) * 2 ^ (D 0 i + D 1 i)) = 0 from fun e => q1 ((nI_eq (b := 0) (by omega) (by omega)).mp e)), hx.mp q1]
          rfl
      · have q0 : l.testBit i = false := by simpa using q0
        rw [q0]; rfl
  rw [key]
  cases anyB (rsF D l) (D 7 0) <;> rfl
theorem breaksRow_eq (h : OKd D) (hz : RC D z) : f_X4_breaksRow z (nI (dysN D l)) = some (bI (anyB (rwF D l) 14)) := by
  have h4 := h.2.2.2.2.1
  have hdl : dysN D l < 2 ^ 14 := dy_lt h (Nat.le_refl _)
  have e2 := hz.1.2.2.2.2.2.1
  have c2 : (2 : Int32).toNatClampNeg = 2 := by decide
  have key : f_X4_breaksRow z (nI (dysN D l)) = if anyB (rwF D l) 14 then some 1 else some 0 := by
    unfold f_X4_breaksRow l_X4_breaksRow_4
    refine loopC (N := 14) (it := fun f i => iter (fun _ _ _ => none) (f_X4_breaksRow_4 z) f (nI (dysN D l)) (nI (runN D l i)) (nI i)) ?_ ?_ FU (FU_gt (by omega))
    · intro f
      rw [iter_s, f_X4_breaksRow_4.eq_1, L14, if_pos (nI_le (Nat.le_refl _) (by omega))]
    · intro f i hi
      have hr := runN_le D l i
      rw [iter_s, f_X4_breaksRow_4.eq_1, L14, if_neg (nI_ge hi (by omega)), isIn_eq (by omega) (by omega), dys_bit h (by omega)]
      generalize iter (fun _ _ _ => none) (f_X4_breaksRow_4 z) f = k
      simp only [Option.bind_some, f_X4_breaksRow_25]
      rw [c2, e2, show ck 4 (2 : Int32) = ck 4 (nI 2) (α := Int32) from rfl, ck_nI (by omega) (by omega), ck_nI (by omega) (by omega), nI_1, nI_1]
      by_cases q : 0 < onDayN D l i
      · have e : runN D l (i + 1) = runN D l i + 1 := by simp [runN, q]
        rw [decide_eq_true q, if_neg (show ¬ bI true = 0 by decide)]
        unfold rwF
        by_cases q2 : runN D l i + 1 ≤ D 7 4
        · rw [if_pos (nI_le q2 (by omega))]; simp [e, Nat.not_lt.mpr q2]
        · rw [if_neg (nI_ge (Nat.not_le.mp q2) (by omega))]; simp [e, Nat.not_le.mp q2]
      · have e : runN D l (i + 1) = 0 := by simp [runN, q]
        rw [decide_eq_false q, if_pos (show bI false = 0 from rfl)]
        unfold rwF
        rw [if_pos (show (0 : Int32) ≤ nI (D 7 4) from nI_pos' (by omega))]
        simp [e]
        rfl
  rw [key]
  cases anyB (rwF D l) 14 <;> rfl
def bgF (D : Dt) (a b j : Nat) : Nat := if decide (a ≤ D 0 j) && decide (D 0 j < b) then 2 ^ j else 0
theorem bg_lt (h : OKd D) {a b i : Nat} (hi : i ≤ D 7 0) : orN (bgF D a b) i < 2 ^ 9 := orN_lt (fun j hj => by
  have := h.1
  unfold bgF
  split
  · exact Nat.pow_lt_pow_right (by omega) (by omega)
  · exact Nat.two_pow_pos _)
theorem bg_bit {a b n j : Nat} : (orN (bgF D a b) n).testBit j = (decide (j < n) && decide (a ≤ D 0 j) && decide (D 0 j < b)) := by
  rw [orN_bit]
  apply Bool.eq_iff_iff.mpr
  rw [anyB_iff]
  simp only [Bool.and_eq_true, decide_eq_true_eq]
  constructor
  · rintro ⟨i, h1, h2⟩
    unfold bgF at h2
    by_cases c : a ≤ D 0 i ∧ D 0 i < b
    · simp only [c.1, c.2, decide_true, Bool.and_self, if_true, Nat.testBit_two_pow, decide_eq_true_eq] at h2
      subst h2; exact ⟨⟨h1, c.1⟩, c.2⟩
    · have : (decide (a ≤ D 0 i) && decide (D 0 i < b)) = false := by
        simp only [Bool.and_eq_false_iff, decide_eq_false_iff_not]
        omega
      simp [this] at h2
  · rintro ⟨⟨h1, h2⟩, h3⟩
    exact ⟨j, h1, by simp [bgF, h2, h3, Nat.testBit_two_pow]⟩
theorem beginning_eq (h : OKd D) (hz : RC D z) {a b : Nat} (ha : a < 100) (hb : b < 100) : f_X1_beginning z (nI a) (nI b) = some (nI (orN (bgF D a b) (D 7 0))) := by
  have hn := h.1
  have e0 := hz.1.1
  have st : ∀ (k : Int32 → Int32 → Int32 → Int32 → Option Int32) (i s : Nat), i < D 7 0 → f_X1_beginning_5 z k (nI a) (nI b) (nI s) (nI i) = k (nI a) (nI b) (nI (s ||| bgF D a b i)) (nI (i + 1)) := by
    intro k i s hi
    obtain ⟨d0, -⟩ := hz.2.1 i hi
    have hb := h.2.2.2.2.2.2.1 i hi
    have hp : 2 ^ i ≤ 2 ^ 9 := Nat.pow_le_pow_right (by omega) (by omega)
    rw [f_X1_beginning_5.eq_1, e0, if_neg (nI_ge hi (by omega))]
    simp only [ck_nI (show i < 9 by omega) (show 9 < 2 ^ 31 by omega), nI_clamp (show i < 2 ^ 31 by omega), d0, nI_1]
    rw [L1, nI_shl (s := 1) (by omega) (by omega), nI_or, Nat.one_mul]
    unfold bgF
    by_cases c1 : D 0 i < a
    · rw [if_pos (nI_lt c1 (by omega))]; simp [Nat.not_le.mpr c1]
    · rw [if_neg (nI_nlt (Nat.not_lt.mp c1) (by omega))]
      by_cases c2 : b ≤ D 0 i
      · rw [if_pos (nI_le c2 (by omega))]; simp [Nat.not_lt.mpr c2]
      · rw [if_neg (nI_ge (Nat.not_le.mp c2) (by omega))]; simp [Nat.not_lt.mp c1, Nat.not_le.mp c2]
  unfold f_X1_beginning l_X1_beginning_5
  refine loopP (N := D 7 0) (it := fun f i => iter (fun _ _ _ _ => none) (f_X1_beginning_5 z) f (nI a) (nI b) (nI (orN (bgF D a b) i)) (nI i)) ?_ (fun f i hi => by rw [iter_s]; exact st _ i _ hi) FU (FU_gt (by omega))
  intro f
  rw [iter_s, f_X1_beginning_5.eq_1, e0, if_pos (nI_le (Nat.le_refl _) (by omega))]
theorem hrs_bg {a : Nat} : hrsN D (l &&& orN (bgF D a (a + 7)) (D 7 0)) = wkN D l a := by
  refine sumN_congr (fun j hj => ?_)
  unfold wkF
  rw [Nat.testBit_and, bg_bit, decide_eq_true hj]
  cases l.testBit j <;> simp
theorem breaksWeek_eq (h : OKd D) (hz : RC D z) (hl : l < 512) : f_X4_breaksWeek z (nI l) = some (bI (anyB (wkG D l) 14)) := by
  have hn := h.1
  have e0 := hz.1.1
  have e3 := hz.1.2.2.2.2.2.2
  have h5 := h.2.2.2.2.2.1
  have c3 : (3 : Int32).toNatClampNeg = 3 := by decide
  have key : f_X4_breaksWeek z (nI l) = if anyB (fun i => l.testBit i && wkG D l (D 0 i)) (D 7 0) then some 1 else some 0 := by
    unfold f_X4_breaksWeek l_X4_breaksWeek_2
    refine loopC (N := D 7 0) (it := fun f i => iter (fun _ _ => none) (f_X4_breaksWeek_2 z) f (nI l) (nI i)) ?_ ?_ FU (FU_gt (by omega))
    · intro f
      rw [iter_s, f_X4_breaksWeek_2.eq_1, e0, if_pos (nI_le (Nat.le_refl _) (by omega))]
    · intro f i hi
      obtain ⟨d0, -⟩ := hz.2.1 i hi
      have hb := h.2.2.2.2.2.2.1 i hi
      have hw : wkN D l (D 0 i) ≤ 360 := wk_le h (Nat.le_refl _)
      rw [iter_s, f_X4_breaksWeek_2.eq_1, e0, if_neg (nI_ge hi (by omega)), isIn_eq (by omega) (by omega)]
      generalize iter (fun _ _ => none) (f_X4_breaksWeek_2 z) f = k
      simp only [Option.bind_some, ck_nI (show i < 9 by omega) (show 9 < 2 ^ 31 by omega), nI_clamp (show i < 2 ^ 31 by omega), d0, nI_1]
      rw [L7, nI_add, beginning_eq h hz (by omega) (by omega)]
      simp only [Option.bind_some]
      rw [nI_and, hoursC_eq h hz (and_lt hl), hrs_bg]
      simp only [Option.bind_some]
      rw [c3, e3, show ck 4 (3 : Int32) = ck 4 (nI 3) (α := Int32) from rfl, ck_nI (by omega) (by omega)]
      unfold wkG
      by_cases q0 : l.testBit i = true
      · rw [q0, if_neg (show ¬ bI true = 0 by decide), Bool.true_and]
        by_cases q1 : wkN D l (D 0 i) ≤ D 7 5
        · rw [if_pos (nI_le q1 (by omega)), decide_eq_false (Nat.not_lt.mpr q1)]; rfl
        · rw [if_neg (nI_ge (Nat.not_le.mp q1) (by omega)), decide_eq_true (Nat.not_le.mp q1)]; rfl
      · have q0 : l.testBit i = false := by simpa using q0
        rw [q0]; rfl
  have eq : anyB (fun i => l.testBit i && wkG D l (D 0 i)) (D 7 0) = anyB (wkG D l) 14 := by
    apply Bool.eq_iff_iff.mpr
    rw [anyB_iff, anyB_iff]
    constructor
    · rintro ⟨i, hi, h2⟩
      have hb := h.2.2.2.2.2.2.1 i hi
      exact ⟨D 0 i, by omega, (Bool.and_eq_true _ _ ▸ h2).2⟩
    · rintro ⟨t, ht, h2⟩
      unfold wkG at h2
      rw [decide_eq_true_eq] at h2
      have hpos : 0 < wkN D l t := by omega
      obtain ⟨i0, a0, b0⟩ := sumN_pos.mp hpos
      have inw : ∀ j, 0 < wkF D l t j → l.testBit j = true ∧ t ≤ D 0 j ∧ D 0 j < t + 7 := by
        intro j hj
        unfold wkF at hj
        by_cases c : (l.testBit j && decide (t ≤ D 0 j) && decide (D 0 j < t + 7)) = true
        · simp only [Bool.and_eq_true, decide_eq_true_eq] at c
          exact ⟨c.1.1, c.1.2, c.2⟩
        · rw [if_neg c] at hj; omega
      obtain ⟨m0, ⟨j, j1, j2, j3⟩, hmin⟩ := pk_least (fun d => ∃ j, j < D 7 0 ∧ 0 < wkF D l t j ∧ D 0 j = d) ⟨_, i0, a0, b0, rfl⟩
      have hj := inw j j2
      refine ⟨j, j1, ?_⟩
      rw [hj.1, Bool.true_and]
      unfold wkG
      rw [decide_eq_true_eq]
      refine Nat.lt_of_lt_of_le h2 (sumN_mono (fun i hi => ?_))
      rcases Nat.eq_zero_or_pos (wkF D l t i) with e | e
      · omega
      · have hi2 := inw i e
        have : ¬ D 0 i < D 0 j := fun q => hmin (D 0 i) (by omega) ⟨i, hi, e, rfl⟩
        unfold wkF
        rw [if_pos (by simp [hi2.1, hi2.2.1, hi2.2.2]), if_pos (by simp [hi2.1]; omega)]
        exact Nat.le_refl _
  rw [key, eq]
  cases anyB (wkG D l) 14 <;> rfl
def brN (D : Dt) (l : Nat) : Nat := if anyB (dyF D l) 14 then 2 else if anyB (rsF D l) (D 7 0) then 3 else if anyB (rwF D l) 14 then 4 else if anyB (wkG D l) 14 then 5 else 0
theorem firstBroken_eq (h : OKd D) (hz : RC D z) (hl : l < 512) : f_X4_firstBroken z (nI l) = some (nI (brN D l)) := by
  unfold f_X4_firstBroken
  rw [breaksDays_eq h hz hl, daysOf_eq h hz hl]
  simp only [Option.bind_some]
  rw [breaksRest_eq h hz hl, breaksRow_eq h hz, breaksWeek_eq h hz hl]
  simp only [Option.bind_some]
  unfold brN
  cases anyB (dyF D l) 14 <;> cases anyB (rsF D l) (D 7 0) <;> cases anyB (rwF D l) 14 <;> cases anyB (wkG D l) 14 <;> rfl
end RUL
