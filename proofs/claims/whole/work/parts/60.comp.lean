/-- bits of several, together -/
def orN (f : Nat → Nat) : Nat → Nat
  | 0 => 0
  | n + 1 => orN f n ||| f n
theorem orN_bit {f : Nat → Nat} {t : Nat} : ∀ n, (orN f n).testBit t = anyB (fun j => (f j).testBit t) n
  | 0 => by simp [orN, anyB]
  | n + 1 => by simp only [orN, anyB, Nat.testBit_or, orN_bit n]
theorem orN_lt {f : Nat → Nat} {k n : Nat} (h : ∀ i, i < n → f i < 2 ^ k) : orN f n < 2 ^ k := by
  induction n with
  | zero => exact Nat.two_pow_pos _
  | succ n ih => exact Nat.or_lt_two_pow (ih (fun i hi => h i (by omega))) (h n (by omega))
theorem and_ne0 {a b : Nat} : a &&& b ≠ 0 ↔ ∃ t, a.testBit t = true ∧ b.testBit t = true := by
  constructor
  · intro h
    obtain ⟨t, ht⟩ := Nat.exists_testBit_of_ne_zero h
    rw [Nat.testBit_and, Bool.and_eq_true] at ht
    exact ⟨t, ht⟩
  · rintro ⟨t, h1, h2⟩ h
    have : (a &&& b).testBit t = true := by rw [Nat.testBit_and, h1, h2]; rfl
    rw [h] at this
    simp at this
def spN (D : Dt) (j : Nat) : Nat := (2 ^ D 1 j - 1) * 2 ^ D 0 j
theorem sp_dec : ∀ a, a < 15 → ∀ b, b < 4 → ∀ t, t < 32 → ((2 ^ b - 1) * 2 ^ a).testBit t = (decide (a ≤ t) && decide (t < a + b)) := by decide +kernel
theorem sp_lt : ∀ a, a < 15 → ∀ b, b < 4 → a + b ≤ 17 → (2 ^ b - 1) * 2 ^ a < 2 ^ (a + b) := by decide +kernel
def nmN (D : Dt) : Nat := orN (fun j => if D 4 j = 1 then 2 ^ j else 0) (D 7 0)
/-- the component's numbers of a month -/
def RC (D : Dt) (z : St) : Prop := (z.1 3 = nI (D 7 0) ∧ z.1 4 = nI (D 7 1) ∧ z.1 2 = nI (nmN D) ∧ z.2 5 0 = nI (D 7 2) ∧ z.2 5 1 = nI (D 7 3) ∧ z.2 5 2 = nI (D 7 4) ∧ z.2 5 3 = nI (D 7 5)) ∧
  (∀ j, j < D 7 0 → z.2 0 j = nI (D 0 j) ∧ z.2 1 j = nI (D 1 j) ∧ z.2 2 j = nI (spN D j) ∧ z.2 3 j = nI (D 2 j) ∧ z.2 4 j = nI (D 3 j)) ∧
  (∀ p, p < D 7 1 → z.1 (11 + 6 * p) = nI (D 5 p) ∧ z.1 (12 + 6 * p) = nI (D 6 p))
section COMP
variable {D : Dt} {z : St} {l : Nat}
def dyF2 (D : Dt) (l j : Nat) : Nat := if l.testBit j then spN D j else 0
def dysN (D : Dt) (l : Nat) : Nat := orN (dyF2 D l) (D 7 0)
theorem sp_bit (h : OKd D) {j t : Nat} (hj : j < D 7 0) (ht : t < 32) : (spN D j).testBit t = (decide (D 0 j ≤ t) && decide (t < D 0 j + D 1 j)) := by
  have hb := h.2.2.2.2.2.2.1 j hj
  exact sp_dec _ (by omega) _ (by omega) t ht
theorem sp_lt14 (h : OKd D) {j : Nat} (hj : j < D 7 0) : spN D j < 2 ^ 14 := by
  have hb := h.2.2.2.2.2.2.1 j hj
  have h1 := sp_lt (D 0 j) (by omega) (D 1 j) (by omega) (by omega)
  have h2 : 2 ^ (D 0 j + D 1 j) ≤ 2 ^ 14 := Nat.pow_le_pow_right (by omega) (by omega)
  exact Nat.lt_of_lt_of_le h1 h2
theorem dy_lt (h : OKd D) {i : Nat} (hi : i ≤ D 7 0) : orN (dyF2 D l) i < 2 ^ 14 := orN_lt (fun j hj => by
  unfold dyF2
  split
  · exact sp_lt14 h (by omega)
  · exact Nat.two_pow_pos _)
theorem dy_bit (h : OKd D) {i t : Nat} (hi : i ≤ D 7 0) (ht : t < 32) : (orN (dyF2 D l) i).testBit t = anyB (onB D l t) i := by
  rw [orN_bit]
  refine anyB_congr (fun j hj => ?_)
  unfold dyF2 onB
  cases hl : l.testBit j
  · simp
  · simp only [if_true, Bool.true_and]
    exact sp_bit h (by omega) ht
theorem busy_iff {t : Nat} : anyB (onB D l t) (D 7 0) = decide (0 < onDayN D l t) := by
  have key : anyB (onB D l t) (D 7 0) = true ↔ 0 < onDayN D l t := by
    unfold onDayN
    rw [anyB_iff, sumN_pos]
    constructor
    · rintro ⟨i, h1, h2⟩; exact ⟨i, h1, by simp [h2]⟩
    · rintro ⟨i, h1, h2⟩
      refine ⟨i, h1, ?_⟩
      by_cases c : onB D l t i = true
      · exact c
      · simp [c] at h2
  by_cases c : 0 < onDayN D l t
  · rw [decide_eq_true c]; exact key.mpr c
  · rw [decide_eq_false c]
    cases hq : anyB (onB D l t) (D 7 0) with
    | false => rfl
    | true => exact absurd (key.mp hq) c
theorem dys_bit (h : OKd D) {t : Nat} (ht : t < 32) : (dysN D l).testBit t = decide (0 < onDayN D l t) := by
  unfold dysN
  rw [dy_bit h (Nat.le_refl _) ht, busy_iff]
theorem daysOf_eq (h : OKd D) (hz : RC D z) (hl : l < 512) : f_X1_daysOf z (nI l) = some (nI (dysN D l)) := by
  have hn := h.1
  have e0 := hz.1.1
  have st : ∀ (k : Int32 → Int32 → Int32 → Option Int32) (i s : Nat), i < D 7 0 → f_X1_daysOf_4 z k (nI l) (nI s) (nI i) = k (nI l) (nI (s ||| dyF2 D l i)) (nI (i + 1)) := by
    intro k i s hi
    obtain ⟨d0, d1, d2, -⟩ := hz.2.1 i hi
    rw [f_X1_daysOf_4.eq_1, e0, if_neg (nI_ge hi (by omega)), isIn_eq (by omega) (by omega)]
    simp only [Option.bind_some, bI_0, ck_nI (show i < 9 by omega) (show 9 < 2 ^ 31 by omega), nI_clamp (show i < 2 ^ 31 by omega), d2, nI_or, nI_1, dyF2]
    by_cases c0 : l.testBit i = true <;> simp [c0]
  unfold f_X1_daysOf l_X1_daysOf_4
  refine loopP (N := D 7 0) (it := fun f i => iter (fun _ _ _ => none) (f_X1_daysOf_4 z) f (nI l) (nI (orN (dyF2 D l) i)) (nI i)) ?_ (fun f i hi => by rw [iter_s]; exact st _ i _ hi) FU (FU_gt (by omega))
  intro f
  rw [iter_s, f_X1_daysOf_4.eq_1, e0, if_pos (nI_le (Nat.le_refl _) (by omega))]
  rfl
theorem hoursC_eq (h : OKd D) (hz : RC D z) (hl : l < 512) : f_X1_hoursOf z (nI l) = some (nI (hrsN D l)) := by
  have hn := h.1
  have e0 := hz.1.1
  have st : ∀ (k : Int32 → Int32 → Int32 → Option Int32) (i s : Nat), i < D 7 0 → f_X1_hoursOf_4 z k (nI l) (nI s) (nI i) = k (nI l) (nI (s + if l.testBit i then D 2 i else 0)) (nI (i + 1)) := by
    intro k i s hi
    obtain ⟨d0, d1, d2, d3, -⟩ := hz.2.1 i hi
    rw [f_X1_hoursOf_4.eq_1, e0, if_neg (nI_ge hi (by omega)), isIn_eq (by omega) (by omega)]
    simp only [Option.bind_some, bI_0, ck_nI (show i < 9 by omega) (show 9 < 2 ^ 31 by omega), nI_clamp (show i < 2 ^ 31 by omega), d3, nI_add, nI_1]
    by_cases c0 : l.testBit i = true <;> simp [c0]
  unfold f_X1_hoursOf l_X1_hoursOf_4
  refine loopP (N := D 7 0) (it := fun f i => iter (fun _ _ _ => none) (f_X1_hoursOf_4 z) f (nI l) (nI (sumN (fun j => if l.testBit j then D 2 j else 0) i)) (nI i)) ?_ (fun f i hi => by rw [iter_s]; exact st _ i _ hi) FU (FU_gt (by omega))
  intro f
  rw [iter_s, f_X1_hoursOf_4.eq_1, e0, if_pos (nI_le (Nat.le_refl _) (by omega))]
  rfl
def skF2 (D : Dt) (l j : Nat) : Nat := if l.testBit j then 2 ^ D 3 j else 0
theorem sk_lt (h : OKd D) {i : Nat} (hi : i ≤ D 7 0) : orN (skF2 D l) i < 2 ^ 4 := orN_lt (fun j hj => by
  unfold skF2
  have hb := h.2.2.2.2.2.2.1 j (by omega)
  split
  · exact Nat.pow_lt_pow_right (by omega) (by omega)
  · exact Nat.two_pow_pos _)
theorem skillsOf_eq (h : OKd D) (hz : RC D z) (hl : l < 512) : f_X1_skillsOf z (nI l) = some (nI (orN (skF2 D l) (D 7 0))) := by
  have hn := h.1
  have e0 := hz.1.1
  have st : ∀ (k : Int32 → Int32 → Int32 → Option Int32) (i s : Nat), i < D 7 0 → f_X1_skillsOf_4 z k (nI l) (nI s) (nI i) = k (nI l) (nI (s ||| skF2 D l i)) (nI (i + 1)) := by
    intro k i s hi
    obtain ⟨d0, d1, d2, d3, d4⟩ := hz.2.1 i hi
    have hb := h.2.2.2.2.2.2.1 i hi
    have hp : 2 ^ D 3 i ≤ 2 ^ 3 := Nat.pow_le_pow_right (by omega) (by omega)
    rw [f_X1_skillsOf_4.eq_1, e0, if_neg (nI_ge hi (by omega)), isIn_eq (by omega) (by omega)]
    simp only [Option.bind_some, bI_0, ck_nI (show i < 9 by omega) (show 9 < 2 ^ 31 by omega), nI_clamp (show i < 2 ^ 31 by omega), d4, nI_1]
    rw [L1, nI_shl (s := 1) (by omega) (by omega), nI_or, Nat.one_mul]
    unfold skF2
    by_cases c0 : l.testBit i = true <;> simp [c0]
  unfold f_X1_skillsOf l_X1_skillsOf_4
  refine loopP (N := D 7 0) (it := fun f i => iter (fun _ _ _ => none) (f_X1_skillsOf_4 z) f (nI l) (nI (orN (skF2 D l) i)) (nI i)) ?_ (fun f i hi => by rw [iter_s]; exact st _ i _ hi) FU (FU_gt (by omega))
  intro f
  rw [iter_s, f_X1_skillsOf_4.eq_1, e0, if_pos (nI_le (Nat.le_refl _) (by omega))]
theorem hasSkills_eq (h : OKd D) (hz : RC D z) (hl : l < 512) {p : Nat} (hp : p < D 7 1) : f_X3_hasSkills z p (nI l) = some (bI (!anyB (skF D p l) (D 7 0))) := by
  have hP := h.2.2.2.2.2.2.2 p hp
  have hlt := sk_lt (l := l) h (Nat.le_refl (D 7 0))
  unfold f_X3_hasSkills
  rw [skillsOf_eq h hz hl]
  simp only [Option.bind_some]
  rw [(hz.2.2 p hp).1]
  have key : (orN (skF2 D l) (D 7 0) &&& D 5 p = orN (skF2 D l) (D 7 0)) ↔ anyB (skF D p l) (D 7 0) = false := by
    rw [sub_iff, anyB_false]
    constructor
    · intro hh j hj
      unfold skF
      cases hlj : l.testBit j with
      | false => rfl
      | true =>
        have := hh (D 3 j) (by rw [orN_bit, anyB_iff]; exact ⟨j, hj, by simp [skF2, hlj, Nat.testBit_two_pow]⟩)
        rw [this]; rfl
    · intro hh i hi
      rw [orN_bit, anyB_iff] at hi
      obtain ⟨j, h1, h2⟩ := hi
      have := hh j h1
      unfold skF at this
      unfold skF2 at h2
      cases hlj : l.testBit j with
      | false => simp [hlj] at h2
      | true =>
        rw [hlj] at this h2
        simp only [if_true, Nat.testBit_two_pow, decide_eq_true_eq] at h2
        rw [← h2]
        simpa using this
  by_cases c : orN (skF2 D l) (D 7 0) &&& D 5 p = orN (skF2 D l) (D 7 0)
  · rw [if_pos ((andnot0 (by omega)).mpr c), key.mp c]; rfl
  · rw [if_neg (fun e => c ((andnot0 (by omega)).mp e))]
    cases hq : anyB (skF D p l) (D 7 0) with
    | false => exact absurd (key.mpr hq) c
    | true => rfl
theorem hasHours_eq (h : OKd D) (hz : RC D z) (hl : l < 512) {p : Nat} (hp : p < D 7 1) : f_X3_hasHours z p (nI l) = some (bI (decide (hrsN D l ≤ D 6 p))) := by
  have hP := h.2.2.2.2.2.2.2 p hp
  have hle : hrsN D l ≤ 360 := hrs_le h (Nat.le_refl _)
  unfold f_X3_hasHours
  rw [hoursC_eq h hz hl]
  simp only [Option.bind_some]
  rw [(hz.2.2 p hp).2]
  by_cases c : hrsN D l ≤ D 6 p
  · rw [if_neg (nI_nlt c (by omega)), decide_eq_true c]; rfl
  · rw [if_pos (nI_lt (Nat.not_le.mp c) (by omega)), decide_eq_false c]; rfl
theorem sumN_two {f : Nat → Nat} {n : Nat} (hf : ∀ i, f i ≤ 1) : 1 < sumN f n ↔ ∃ i j, j < i ∧ i < n ∧ 0 < f i ∧ 0 < f j := by
  induction n with
  | zero => simp [sumN]
  | succ n ih =>
    simp only [sumN]
    have h1 := hf n
    constructor
    · intro h
      by_cases c : 1 < sumN f n
      · obtain ⟨i, j, a, b, c, d⟩ := ih.mp c
        exact ⟨i, j, a, by omega, c, d⟩
      · obtain ⟨j, a, b⟩ := sumN_pos.mp (show 0 < sumN f n by omega)
        exact ⟨n, j, a, by omega, by omega, b⟩
    · rintro ⟨i, j, a, b, c, d⟩
      by_cases e : i = n
      · subst e
        have := sumN_pos.mpr ⟨j, a, d⟩
        omega
      · have := ih.mpr ⟨i, j, a, by omega, c, d⟩
        omega
theorem breaksDays_eq (h : OKd D) (hz : RC D z) (hl : l < 512) : f_X4_breaksDays z (nI l) = some (bI (anyB (dyF D l) 14)) := by
  have hn := h.1
  have e0 := hz.1.1
  have key : f_X4_breaksDays z (nI l) = if anyB (fun i => l.testBit i && decide (orN (dyF2 D l) i &&& spN D i ≠ 0)) (D 7 0) then some 1 else some 0 := by
    unfold f_X4_breaksDays l_X4_breaksDays_5
    refine loopC (N := D 7 0) (it := fun f i => iter (fun _ _ _ => none) (f_X4_breaksDays_5 z) f (nI l) (nI (orN (dyF2 D l) i)) (nI i)) ?_ ?_ FU (FU_gt (by omega))
    · intro f
      rw [iter_s, f_X4_breaksDays_5.eq_1, e0, if_pos (nI_le (Nat.le_refl _) (by omega))]
    · intro f i hi
      obtain ⟨d0, d1, d2, -⟩ := hz.2.1 i hi
      have b1 := dy_lt (l := l) h (Nat.le_of_lt hi)
      have b2 : orN (dyF2 D l) i &&& spN D i ≤ orN (dyF2 D l) i := Nat.and_le_left
      rw [iter_s, f_X4_breaksDays_5.eq_1, e0, if_neg (nI_ge hi (by omega)), isIn_eq (by omega) (by omega)]
      generalize iter (fun _ _ _ => none) (f_X4_breaksDays_5 z) f = k
      simp only [Option.bind_some, bI_0, ck_nI (show i < 9 by omega) (show 9 < 2 ^ 31 by omega), nI_clamp (show i < 2 ^ 31 by omega), d2, nI_or, nI_and, nI_1]
      by_cases c0 : l.testBit i = true
      · by_cases c1 : orN (dyF2 D l) i &&& spN D i = 0
        · rw [if_neg (by simp [c0]), if_pos (show nI (orN (dyF2 D l) i &&& spN D i) = 0 by rw [c1]; rfl)]
          simp [c0, c1, orN, dyF2]
        · rw [if_neg (by simp [c0]), if_neg (show ¬ nI (orN (dyF2 D l) i &&& spN D i) = 0 from fun e => c1 ((nI_eq (b := 0) (by omega) (by omega)).mp e))]
          simp [c0, c1]
      · simp [c0, orN, dyF2]
  have eq : anyB (fun i => l.testBit i && decide (orN (dyF2 D l) i &&& spN D i ≠ 0)) (D 7 0) = anyB (dyF D l) 14 := by
    apply Bool.eq_iff_iff.mpr
    rw [anyB_iff, anyB_iff]
    constructor
    · rintro ⟨i, hi, h2⟩
      simp only [Bool.and_eq_true, decide_eq_true_eq] at h2
      obtain ⟨t, t1, t2⟩ := and_ne0.mp h2.2
      have ht : t < 14 := by
        rcases Nat.lt_or_ge t 14 with q | q
        · exact q
        · rw [Nat.testBit_lt_two_pow (Nat.lt_of_lt_of_le (sp_lt14 h hi) (Nat.pow_le_pow_right (by omega) q))] at t2; cases t2
      rw [dy_bit h (by omega) (by omega), anyB_iff] at t1
      obtain ⟨j, j1, j2⟩ := t1
      refine ⟨t, ht, ?_⟩
      unfold dyF
      rw [decide_eq_true_eq]
      unfold onDayN
      refine (sumN_two (fun i => by split <;> omega)).mpr ⟨i, j, j1, hi, ?_, ?_⟩
      · rw [sp_bit h hi (by omega)] at t2
        have : onB D l t i = true := by unfold onB; rw [h2.1, Bool.and_assoc, t2]; rfl
        simp [this]
      · simp [j2]
    · rintro ⟨t, ht, h2⟩
      unfold dyF at h2
      rw [decide_eq_true_eq] at h2
      unfold onDayN at h2
      obtain ⟨i, j, a, b, c, d⟩ := (sumN_two (fun i => by split <;> omega)).mp h2
      have ci : onB D l t i = true := by
        by_cases q : onB D l t i = true
        · exact q
        · simp [q] at c
      have cj : onB D l t j = true := by
        by_cases q : onB D l t j = true
        · exact q
        · simp [q] at d
      refine ⟨i, b, ?_⟩
      have ci2 := ci
      unfold onB at ci
      simp only [Bool.and_eq_true, decide_eq_true_eq] at ci
      simp only [Bool.and_eq_true, decide_eq_true_eq]
      refine ⟨ci.1.1, and_ne0.mpr ⟨t, ?_, ?_⟩⟩
      · rw [dy_bit h (by omega) (by omega), anyB_iff]
        exact ⟨j, a, cj⟩
      · rw [sp_bit h b (by omega), decide_eq_true ci.1.2, decide_eq_true ci.2]; rfl
  rw [key, eq]
  cases anyB (dyF D l) 14 <;> rfl
end COMP
