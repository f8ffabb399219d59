/-- the numbers of a month: rows 0 first, 1 days, 2 hours, 3 skill, 4 night (of duties); 5 skills, 6 most (of people); 7: 0 duties, 1 people, 2 rest behind nights, 3 behind long ones, 4 row, 5 week -/
abbrev Dt : Type := Nat → Nat → Nat
def OKd (D : Dt) : Prop := D 7 0 ≤ 9 ∧ D 7 1 ≤ 4 ∧ D 7 2 ≤ 3 ∧ D 7 3 ≤ 3 ∧ (1 ≤ D 7 4 ∧ D 7 4 ≤ 14) ∧ D 7 5 ≤ 200 ∧
  (∀ j, j < D 7 0 → 1 ≤ D 1 j ∧ D 1 j ≤ 3 ∧ D 0 j + D 1 j ≤ 14 ∧ 1 ≤ D 2 j ∧ D 2 j ≤ 40 ∧ D 3 j ≤ 3 ∧ D 4 j ≤ 1) ∧ (∀ p, p < D 7 1 → D 5 p ≤ 15 ∧ D 6 p ≤ 200)
def RM (D : Dt) (z : St) : Prop := (z.1 0 = nI (D 7 0) ∧ z.1 1 = nI (D 7 1) ∧ z.1 2 = nI (D 7 2) ∧ z.1 3 = nI (D 7 3) ∧ z.1 4 = nI (D 7 4) ∧ z.1 5 = nI (D 7 5)) ∧
  (∀ j, j < D 7 0 → z.2 0 j = nI (D 0 j) ∧ z.2 1 j = nI (D 1 j) ∧ z.2 2 j = nI (D 2 j) ∧ z.2 3 j = nI (D 3 j) ∧ z.2 4 j = nI (D 4 j)) ∧
  (∀ p, p < D 7 1 → z.2 5 p = nI (D 5 p) ∧ z.2 6 p = nI (D 6 p))
def onB (D : Dt) (l t j : Nat) : Bool := l.testBit j && decide (D 0 j ≤ t) && decide (t < D 0 j + D 1 j)
def onDayN (D : Dt) (l t : Nat) : Nat := sumN (fun j => if onB D l t j then 1 else 0) (D 7 0)
def hrsN (D : Dt) (l : Nat) : Nat := sumN (fun j => if l.testBit j then D 2 j else 0) (D 7 0)
def restN (D : Dt) (j : Nat) : Nat := max (if D 4 j = 1 then D 7 2 else 0) (if 1 < D 1 j then D 7 3 else 0)
def wkF (D : Dt) (l t j : Nat) : Nat := if l.testBit j && decide (t ≤ D 0 j) && decide (D 0 j < t + 7) then D 2 j else 0
def wkN (D : Dt) (l t : Nat) : Nat := sumN (wkF D l t) (D 7 0)
def runN (D : Dt) (l : Nat) : Nat → Nat
  | 0 => 0
  | t + 1 => if 0 < onDayN D l t then runN D l t + 1 else 0
def skF (D : Dt) (p l j : Nat) : Bool := l.testBit j && !(D 5 p).testBit (D 3 j)
def dyF (D : Dt) (l t : Nat) : Bool := decide (1 < onDayN D l t)
def rsG (D : Dt) (l e i : Nat) : Bool := decide (0 < onDayN D l (e + i))
def rsF (D : Dt) (l j : Nat) : Bool := l.testBit j && anyB (rsG D l (D 0 j + D 1 j)) (min (restN D j) (14 - (D 0 j + D 1 j)))
def rwF (D : Dt) (l t : Nat) : Bool := decide (D 7 4 < runN D l (t + 1))
def wkG (D : Dt) (l t : Nat) : Bool := decide (D 7 5 < wkN D l t)
/-- why a line is not legal for one -/
def whyN (D : Dt) (p l : Nat) : Nat :=
  if anyB (skF D p l) (D 7 0) then 1 else if anyB (dyF D l) 14 then 2 else if anyB (rsF D l) (D 7 0) then 3 else if anyB (rwF D l) 14 then 4
  else if anyB (wkG D l) 14 then 5 else if D 6 p < hrsN D l then 6 else 0
theorem onDayN_le (D : Dt) (l t : Nat) : onDayN D l t ≤ D 7 0 := by
  have := sumN_le (f := fun j => if onB D l t j then 1 else 0) (n := D 7 0) (b := 1) (fun i _ => by split <;> omega)
  unfold onDayN; omega
theorem hrs_le {D : Dt} (h : OKd D) {l i : Nat} (hi : i ≤ D 7 0) : sumN (fun j => if l.testBit j then D 2 j else 0) i ≤ 360 := by
  have := sumN_le (f := fun j => if l.testBit j then D 2 j else 0) (n := i) (b := 40) (fun j hj => by
    have := h.2.2.2.2.2.2.1 j (by omega)
    split <;> omega)
  have := h.1
  omega
theorem onDay_eq {D : Dt} {z : St} (h : OKd D) (hz : RM D z) {l t : Nat} (hl : l < 512) (ht : t < 100) : f_X6_onDay z (nI l) (nI t) = some (nI (onDayN D l t)) := by
  obtain ⟨⟨e0, -⟩, eD, -⟩ := hz
  have hn := h.1
  have st : ∀ (k : Int32 → Int32 → Int32 → Int32 → Option Int32) (i s : Nat), i < D 7 0 → f_X6_onDay_5 z k (nI l) (nI t) (nI s) (nI i) = k (nI l) (nI t) (nI (s + if onB D l t i then 1 else 0)) (nI (i + 1)) := by
    intro k i s hi
    obtain ⟨d0, d1, -⟩ := eD i hi
    have hb := h.2.2.2.2.2.2.1 i hi
    unfold f_X6_onDay_5
    rw [e0, if_neg (nI_ge hi (by omega)), has_eq (by omega) (by omega)]
    simp only [Option.bind_some, bI_0, ck_nI (show i < 9 by omega) (show 9 < 2 ^ 31 by omega), nI_clamp (show i < 2 ^ 31 by omega), d0, d1, nI_add, L1,
      nI_ltI (show t < 2 ^ 31 by omega) (show D 0 i < 2 ^ 31 by omega), nI_leI (show D 0 i + D 1 i < 2 ^ 31 by omega) (show t < 2 ^ 31 by omega), onB]
    by_cases c0 : l.testBit i = true
    · by_cases c1 : t < D 0 i
      · simp [c0, c1, Nat.not_le.mpr c1]
      · by_cases c2 : D 0 i + D 1 i ≤ t
        · simp [c0, c1, c2, Nat.not_lt.mpr c2]
        · simp [c0, c1, c2, Nat.not_lt.mp c1, Nat.not_le.mp c2]
    · simp [c0]
  unfold f_X6_onDay l_X6_onDay_5
  refine loopP (N := D 7 0) (it := fun f i => iter (fun _ _ _ _ => none) (f_X6_onDay_5 z) f (nI l) (nI t) (nI (sumN (fun j => if onB D l t j then 1 else 0) i)) (nI i)) ?_ (fun f i hi => st _ i _ hi) FU (FU_gt (by omega))
  intro f
  show f_X6_onDay_5 z _ _ _ _ _ = _
  unfold f_X6_onDay_5
  rw [e0, if_pos (nI_le (Nat.le_refl _) (by omega))]
  rfl
theorem hours_eq {D : Dt} {z : St} (h : OKd D) (hz : RM D z) {l : Nat} (hl : l < 512) : f_X6_hoursOf z (nI l) = some (nI (hrsN D l)) := by
  obtain ⟨⟨e0, -⟩, eD, -⟩ := hz
  have hn := h.1
  have st : ∀ (k : Int32 → Int32 → Int32 → Option Int32) (i s : Nat), i < D 7 0 → f_X6_hoursOf_4 z k (nI l) (nI s) (nI i) = k (nI l) (nI (s + if l.testBit i then D 2 i else 0)) (nI (i + 1)) := by
    intro k i s hi
    obtain ⟨d0, d1, d2, -⟩ := eD i hi
    unfold f_X6_hoursOf_4
    rw [e0, if_neg (nI_ge hi (by omega)), has_eq (by omega) (by omega)]
    simp only [Option.bind_some, bI_0, ck_nI (show i < 9 by omega) (show 9 < 2 ^ 31 by omega), nI_clamp (show i < 2 ^ 31 by omega), d2, nI_add, L1]
    by_cases c0 : l.testBit i = true <;> simp [c0]
  unfold f_X6_hoursOf l_X6_hoursOf_4
  refine loopP (N := D 7 0) (it := fun f i => iter (fun _ _ _ => none) (f_X6_hoursOf_4 z) f (nI l) (nI (sumN (fun j => if l.testBit j then D 2 j else 0) i)) (nI i)) ?_ (fun f i hi => st _ i _ hi) FU (FU_gt (by omega))
  intro f
  show f_X6_hoursOf_4 z _ _ _ _ = _
  unfold f_X6_hoursOf_4
  rw [e0, if_pos (nI_le (Nat.le_refl _) (by omega))]
  rfl
theorem rest_eq {D : Dt} {z : St} (h : OKd D) (hz : RM D z) {j : Nat} (hj : j < D 7 0) : f_X6_restOf z (nI j) = some (nI (restN D j)) := by
  obtain ⟨⟨e0, e1, e2, e3, -⟩, eD, -⟩ := hz
  obtain ⟨d0, d1, d2, d3, d4⟩ := eD j hj
  obtain ⟨h0, h1, h2, h3, h4, h5, hb, hp⟩ := h
  have hb := hb j hj
  unfold f_X6_restOf f_X6_restOf_18 f_X6_restOf_37
  simp only [ck_nI (show j < 9 by omega) (by omega), nI_clamp (show j < 2 ^ 31 by omega), d1, d4, e2, e3, L0, L1, nI_eq (show D 4 j < 2 ^ 31 by omega) (show 1 < 2 ^ 31 by omega),
    nI_leI (show D 1 j < 2 ^ 31 by omega) (show 1 < 2 ^ 31 by omega)]
  unfold restN
  have t1 : ∀ a b : Nat, a < 2 ^ 31 → b < 2 ^ 31 → (if nI a ≤ nI b then some (nI b) else some (nI a)) = some (nI (max a b)) := by
    intro a b ha hb
    by_cases c : a ≤ b
    · rw [if_pos (nI_le c hb), Nat.max_eq_right c]
    · rw [if_neg (nI_ge (Nat.not_le.mp c) ha), Nat.max_eq_left (by omega)]
  by_cases c1 : D 4 j = 1 <;> by_cases c2 : D 1 j ≤ 1
  · rw [if_pos c1, if_pos c2, if_pos c1, if_neg (show ¬ 1 < D 1 j by omega)]; exact t1 _ _ (by omega) (by omega)
  · rw [if_pos c1, if_neg c2, if_pos c1, if_pos (show 1 < D 1 j by omega)]; exact t1 _ _ (by omega) (by omega)
  · rw [if_neg c1, if_pos c2, if_neg c1, if_neg (show ¬ 1 < D 1 j by omega)]; exact t1 _ _ (by omega) (by omega)
  · rw [if_neg c1, if_neg c2, if_neg c1, if_pos (show 1 < D 1 j by omega)]; exact t1 _ _ (by omega) (by omega)
