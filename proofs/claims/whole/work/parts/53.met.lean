/-- the first place where two rows differ: what the first one has there -/
def fd (f g : Nat → Bool) : Nat → Option Bool
  | 0 => none
  | n + 1 => match fd f g n with
    | some b => some b
    | none => if f n = g n then none else some (f n)
theorem fd_none {f g : Nat → Bool} {n : Nat} : fd f g n = none ↔ ∀ i, i < n → f i = g i := by
  induction n with
  | zero => simp [fd]
  | succ n ih =>
    constructor
    · intro h i hi
      unfold fd at h
      cases hq : fd f g n with
      | some b => rw [hq] at h; cases h
      | none =>
        rw [hq] at h
        by_cases e : i = n
        · subst e
          by_cases c : f i = g i
          · exact c
          · simp [c] at h
        · exact ih.mp hq i (by omega)
    · intro h
      unfold fd
      rw [ih.mpr (fun i hi => h i (by omega))]
      simp [h n (by omega)]
theorem fd_stay {f g : Nat → Bool} {n k : Nat} {b : Bool} (h : fd f g n = some b) (hk : n ≤ k) : fd f g k = some b := by
  induction k with
  | zero =>
    have : n = 0 := by omega
    subst this; exact h
  | succ k ih =>
    by_cases e : n = k + 1
    · subst e; exact h
    · unfold fd
      rw [ih (by omega)]
theorem fd_at {f g : Nat → Bool} {n i : Nat} (hi : i < n) (h : ∀ j, j < i → f j = g j) (hne : f i ≠ g i) : fd f g n = some (f i) := by
  apply fd_stay (n := i + 1) _ (by omega)
  unfold fd
  rw [fd_none.mpr h]
  simp [hne]
theorem fd_congr {f g f' g' : Nat → Bool} {n : Nat} (h : ∀ i, i < n → f i = f' i ∧ g i = g' i) : fd f g n = fd f' g' n := by
  induction n with
  | zero => rfl
  | succ n ih =>
    unfold fd
    rw [ih (fun i hi => h i (by omega)), (h n (by omega)).1, (h n (by omega)).2]
/-- a loop that ends at the first difference -/
theorem loopF {R : Type} {N : Nat} {it : Nat → Nat → Option R} {f g : Nat → Bool} {E : Bool → Option R} {NX : Option R} (h0 : ∀ q, it (q + 1) N = NX)
    (hs : ∀ q i, i < N → it (q + 1) i = if f i = g i then it q (i + 1) else E (f i)) : ∀ q, N < q → it q 0 = match fd f g N with | some b => E b | none => NX := by
  have key : ∀ r i q, i + r = N → r < q → (∀ j, j < i → f j = g j) → it q i = match fd f g N with | some b => E b | none => NX := by
    intro r
    induction r with
    | zero =>
      intro i q hi hf hb
      obtain ⟨q, rfl⟩ : ∃ w, q = w + 1 := ⟨q - 1, by omega⟩
      have hi : i = N := by omega
      subst hi
      rw [h0, fd_none.mpr hb]
    | succ r ih =>
      intro i q hi hf hb
      obtain ⟨q, rfl⟩ : ∃ w, q = w + 1 := ⟨q - 1, by omega⟩
      rw [hs q i (by omega)]
      by_cases c : f i = g i
      · rw [if_pos c]
        exact ih (i + 1) q (by omega) (by omega) (fun j hj => by
          by_cases e : j = i
          · subst e; exact c
          · exact hb j (by omega))
      · rw [if_neg c, fd_at (by omega) hb c]
  intro q hq
  exact key N 0 q (by omega) hq (fun j hj => by omega)
/-- wishes: rows 8 how many, 9 kinds, 10 values (5 places a person) -/
def OKw (D : Dt) : Prop := ∀ p, p < D 7 1 → D 8 p ≤ 5 ∧ ∀ w, w < D 8 p → D 9 (5 * p + w) ≤ 5 ∧ D 10 (5 * p + w) ≤ 200 ∧ (D 9 (5 * p + w) ≤ 1 → D 10 (5 * p + w) < D 7 0) ∧ (D 9 (5 * p + w) = 2 → D 10 (5 * p + w) ≤ 13)
def RW (D : Dt) (z : St) : Prop := ∀ p, p < D 7 1 → z.2 7 p = nI (D 8 p) ∧ ∀ w, w < D 8 p → z.2 8 (5 * p + w) = nI (D 9 (5 * p + w)) ∧ z.2 9 (5 * p + w) = nI (D 10 (5 * p + w))
def ntF (D : Dt) (l j : Nat) : Bool := l.testBit j && decide (D 4 j = 1)
def metB (D : Dt) (p w l : Nat) : Bool :=
  if D 9 (5 * p + w) = 0 then l.testBit (D 10 (5 * p + w)) else if D 9 (5 * p + w) = 1 then !l.testBit (D 10 (5 * p + w))
  else if D 9 (5 * p + w) = 2 then decide (onDayN D l (D 10 (5 * p + w)) = 0) else if D 9 (5 * p + w) = 3 then !anyB (ntF D l) (D 7 0)
  else if D 9 (5 * p + w) = 4 then decide (hrsN D l ≤ D 10 (5 * p + w)) else decide (D 10 (5 * p + w) ≤ hrsN D l)
def cmpN (D : Dt) (p a b : Nat) : Nat :=
  match fd (fun w => metB D p w a) (fun w => metB D p w b) (D 8 p) with
  | some true => 2
  | some false => 0
  | none => match fd a.testBit b.testBit (D 7 0) with
    | some true => 1
    | _ => 0
section MET
variable {D : Dt} {z : St} {p l : Nat}
theorem met_97 (h : OKd D) (hz : RM D z) (hl : l < 512) : l_X6_isMet_97 z (nI l) 0 = some (bI (!anyB (ntF D l) (D 7 0))) := by
  have hn := h.1
  have e0 := hz.1.1
  have key : l_X6_isMet_97 z (nI l) 0 = if anyB (ntF D l) (D 7 0) then some 0 else some 1 := by
    unfold l_X6_isMet_97
    refine loopC (N := D 7 0) (it := fun f i => iter (fun _ _ => none) (f_X6_isMet_97 z) f (nI l) (nI i)) ?_ ?_ FU (FU_gt (by omega))
    · intro f
      show f_X6_isMet_97 z _ _ _ = _
      rw [f_X6_isMet_97.eq_1, e0, if_pos (nI_le (Nat.le_refl _) (by omega))]
    · intro f i hi
      show f_X6_isMet_97 z _ _ _ = _
      obtain ⟨d0, d1, d2, d3, d4⟩ := hz.2.1 i hi
      have hb := h.2.2.2.2.2.2.1 i hi
      rw [f_X6_isMet_97.eq_1, e0, if_neg (nI_ge hi (by omega)), has_eq (by omega) (by omega)]
      generalize iter (fun _ _ => none) (f_X6_isMet_97 z) f = k
      simp only [Option.bind_some, bI_0, ck_nI (show i < 9 by omega) (show 9 < 2 ^ 31 by omega), nI_clamp (show i < 2 ^ 31 by omega), d4, nI_add, L1, nI_eq (show D 4 i < 2 ^ 31 by omega) (show 1 < 2 ^ 31 by omega), ntF]
      by_cases c0 : l.testBit i = true <;> by_cases c1 : D 4 i = 1 <;> simp [c0, c1]
  rw [key]
  cases anyB (ntF D l) (D 7 0) <;> rfl
theorem isMet_eq (h : OKd D) (hw : OKw D) (hz : RM D z) (hv : RW D z) (hp : p < D 7 1) {w : Nat} (hwp : w < D 8 p) (hl : l < 512) : f_X6_isMet z (nI p) (nI w) (nI l) = some (bI (metB D p w l)) := by
  obtain ⟨h8, hb⟩ := hw p hp
  obtain ⟨b1, b2, b3, b4⟩ := hb w hwp
  obtain ⟨-, hvw⟩ := hv p hp
  obtain ⟨v1, v2⟩ := hvw w hwp
  have hp4 := h.2.1
  have hn := h.1
  have hle : hrsN D l ≤ 360 := hrs_le h (Nat.le_refl _)
  unfold f_X6_isMet
  rw [L5, pk_mul, nI_add]
  rw [ck_nI (by omega) (by omega), ck_nI (by omega) (by omega), nI_clamp (by omega), v1, v2]
  unfold metB
  by_cases c0 : D 9 (5 * p + w) = 0
  · rw [if_pos (show nI (D 9 (5 * p + w)) = 0 by rw [c0]; rfl), if_pos c0, has_eq (by omega) (by omega)]
    simp only [Option.bind_some, bz_bI]
  · rw [if_neg (show ¬ nI (D 9 (5 * p + w)) = 0 from fun e => c0 ((nI_eq (b := 0) (by omega) (by omega)).mp e)), if_neg c0]
    by_cases c1 : D 9 (5 * p + w) = 1
    · rw [if_pos (show nI (D 9 (5 * p + w)) = 1 by rw [c1]; rfl), if_pos c1, has_eq (by omega) (by omega)]
      cases l.testBit (D 10 (5 * p + w)) <;> rfl
    · rw [if_neg (show ¬ nI (D 9 (5 * p + w)) = 1 from fun e => c1 ((nI_eq (b := 1) (by omega) (by omega)).mp e)), if_neg c1]
      by_cases c2 : D 9 (5 * p + w) = 2
      · have ho := onDayN_le D l (D 10 (5 * p + w))
        rw [if_pos (show nI (D 9 (5 * p + w)) = 2 by rw [c2]; rfl), if_pos c2, onDay_eq h hz hl (by have := b4 c2; omega)]
        simp only [Option.bind_some]
        by_cases c : onDayN D l (D 10 (5 * p + w)) = 0
        · rw [if_pos (show nI (onDayN D l (D 10 (5 * p + w))) = 0 by rw [c]; rfl), decide_eq_true c]; rfl
        · rw [if_neg (show ¬ nI (onDayN D l (D 10 (5 * p + w))) = 0 from fun e => c ((nI_eq (b := 0) (by omega) (by omega)).mp e)), decide_eq_false c]; rfl
      · rw [if_neg (show ¬ nI (D 9 (5 * p + w)) = 2 from fun e => c2 ((nI_eq (b := 2) (by omega) (by omega)).mp e)), if_neg c2]
        by_cases c3 : D 9 (5 * p + w) = 3
        · rw [if_pos (show nI (D 9 (5 * p + w)) = 3 by rw [c3]; rfl), if_pos c3]
          exact met_97 h hz hl
        · rw [if_neg (show ¬ nI (D 9 (5 * p + w)) = 3 from fun e => c3 ((nI_eq (b := 3) (by omega) (by omega)).mp e)), if_neg c3]
          by_cases c4 : D 9 (5 * p + w) = 4
          · rw [if_pos (show nI (D 9 (5 * p + w)) = 4 by rw [c4]; rfl), if_pos c4, hours_eq h hz hl]
            simp only [Option.bind_some]
            by_cases c : hrsN D l ≤ D 10 (5 * p + w)
            · rw [if_neg (nI_nlt c (by omega)), decide_eq_true c]; rfl
            · rw [if_pos (nI_lt (Nat.not_le.mp c) (by omega)), decide_eq_false c]; rfl
          · rw [if_neg (show ¬ nI (D 9 (5 * p + w)) = 4 from fun e => c4 ((nI_eq (b := 4) (by omega) (by omega)).mp e)), if_neg c4, hours_eq h hz hl]
            simp only [Option.bind_some]
            by_cases c : D 10 (5 * p + w) ≤ hrsN D l
            · rw [if_neg (nI_nlt c (by omega)), decide_eq_true c]; rfl
            · rw [if_pos (nI_lt (Nat.not_le.mp c) (by omega)), decide_eq_false c]; rfl
theorem bI_inj {a b : Bool} : (bI a = bI b) = (a = b) := by cases a <;> cases b <;> simp [bI]
theorem cmp_61 (h : OKd D) (hz : RM D z) {a b : Nat} (ha : a < 512) (hb : b < 512) :
    l_X6_compares_61 z (nI a) (nI b) 0 = match fd a.testBit b.testBit (D 7 0) with | some x => some (bI x) | none => some 0 := by
  have hn := h.1
  have e0 := hz.1.1
  unfold l_X6_compares_61
  refine loopF (N := D 7 0) (it := fun f i => iter (fun _ _ _ => none) (f_X6_compares_61 z) f (nI a) (nI b) (nI i)) (f := a.testBit) (g := b.testBit) (E := fun x => some (bI x)) ?_ ?_ FU (FU_gt (by omega))
  · intro f
    show f_X6_compares_61 z _ _ _ _ = _
    rw [f_X6_compares_61.eq_1, e0, if_pos (nI_le (Nat.le_refl _) (by omega))]
  · intro f i hi
    show f_X6_compares_61 z _ _ _ _ = _
    rw [f_X6_compares_61.eq_1, e0, if_neg (nI_ge hi (by omega)), has_eq (by omega) (by omega), has_eq (by omega) (by omega)]
    generalize iter (fun _ _ _ => none) (f_X6_compares_61 z) f = k
    simp only [Option.bind_some, bI_inj, bI_0, L1, nI_add]
    by_cases c : a.testBit i = b.testBit i
    · rw [if_pos c, if_pos c]
    · rw [if_neg c, if_neg c]
      cases a.testBit i <;> rfl
theorem compares_eq (h : OKd D) (hw : OKw D) (hz : RM D z) (hv : RW D z) (hp : p < D 7 1) {a b : Nat} (ha : a < 512) (hb : b < 512) : f_X6_compares z (nI p) (nI a) (nI b) = some (nI (cmpN D p a b)) := by
  have hp4 := h.2.1
  have h8 := (hw p hp).1
  have v8 := (hv p hp).1
  have key : f_X6_compares z (nI p) (nI a) (nI b) = match fd (fun w => metB D p w a) (fun w => metB D p w b) (D 8 p) with | some x => some (if x then 2 else 0) | none => l_X6_compares_61 z (nI a) (nI b) 0 := by
    unfold f_X6_compares l_X6_compares_3
    refine loopF (N := D 8 p) (it := fun f i => iter (fun _ _ _ _ => none) (f_X6_compares_3 z) f (nI p) (nI a) (nI b) (nI i)) (f := fun w => metB D p w a) (g := fun w => metB D p w b) (E := fun x => some (if x then 2 else 0)) ?_ ?_ FU (FU_gt (by omega))
    · intro f
      show f_X6_compares_3 z _ _ _ _ _ = _
      rw [f_X6_compares_3.eq_1, ck_nI (by omega) (by omega), nI_clamp (by omega), v8, if_pos (nI_le (Nat.le_refl _) (by omega))]
    · intro f i hi
      show f_X6_compares_3 z _ _ _ _ _ = _
      rw [f_X6_compares_3.eq_1, ck_nI (by omega) (by omega), nI_clamp (by omega), v8, if_neg (nI_ge hi (by omega)), isMet_eq h hw hz hv hp hi ha, isMet_eq h hw hz hv hp hi hb]
      generalize iter (fun _ _ _ _ => none) (f_X6_compares_3 z) f = k
      simp only [Option.bind_some, bI_inj, bI_0, L1, nI_add]
      by_cases c : metB D p i a = metB D p i b
      · rw [if_pos c, if_pos c]
      · rw [if_neg c, if_neg c]
        cases metB D p i a <;> rfl
  rw [key, cmp_61 h hz ha hb]
  unfold cmpN
  cases fd (fun w => metB D p w a) (fun w => metB D p w b) (D 8 p) with
  | some x => cases x <;> rfl
  | none =>
    cases fd a.testBit b.testBit (D 7 0) with
    | some x => cases x <;> rfl
    | none => rfl
end MET
