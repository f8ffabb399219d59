def RWC (D : Dt) (z : St) : Prop := ∀ p, p < D 7 1 → z.1 (10 + 6 * p) = nI (D 8 p) ∧ ∀ w, w < D 8 p → z.2 (8 + 2 * p) w = nI (D 9 (5 * p + w)) ∧ z.2 (9 + 2 * p) w = nI (D 10 (5 * p + w))
section SCO
variable {D : Dt} {z : St} {p l : Nat}
theorem isMetC_eq (h : OKd D) (hw : OKw D) (hz : RC D z) (hv : RWC D z) (hp : p < D 7 1) {w : Nat} (hwp : w < D 8 p) (hl : l < 512) : f_X3_isMet z p (nI w) (nI l) = some (bI (metB D p w l)) := by
  obtain ⟨h8, hb⟩ := hw p hp
  obtain ⟨b1, b2, b3, b4⟩ := hb w hwp
  obtain ⟨v1, v2⟩ := (hv p hp).2 w hwp
  have hp4 := h.2.1
  have hn := h.1
  have hle : hrsN D l ≤ 360 := hrs_le h (Nat.le_refl _)
  have hdl : dysN D l < 2 ^ 14 := dy_lt h (Nat.le_refl _)
  have hnm := nm_lt h
  have hnl : l &&& nmN D < 512 := and_lt hl
  unfold f_X3_isMet
  rw [ck_nI (by omega) (by omega), ck_nI (by omega) (by omega), nI_clamp (by omega), v1, v2]
  unfold metB
  by_cases c0 : D 9 (5 * p + w) = 0
  · rw [if_pos (show nI (D 9 (5 * p + w)) = 0 by rw [c0]; rfl), if_pos c0, isIn_eq (by omega) (by omega)]
    simp only [Option.bind_some, bz_bI]
  · rw [if_neg (show ¬ nI (D 9 (5 * p + w)) = 0 from fun e => c0 ((nI_eq (b := 0) (by omega) (by omega)).mp e)), if_neg c0]
    by_cases c1 : D 9 (5 * p + w) = 1
    · rw [if_pos (show nI (D 9 (5 * p + w)) = 1 by rw [c1]; rfl), if_pos c1, isIn_eq (by omega) (by omega)]
      cases l.testBit (D 10 (5 * p + w)) <;> rfl
    · rw [if_neg (show ¬ nI (D 9 (5 * p + w)) = 1 from fun e => c1 ((nI_eq (b := 1) (by omega) (by omega)).mp e)), if_neg c1]
      by_cases c2 : D 9 (5 * p + w) = 2
      · rw [if_pos (show nI (D 9 (5 * p + w)) = 2 by rw [c2]; rfl), if_pos c2, daysOf_eq h hz hl]
        simp only [Option.bind_some]
        rw [isIn_eq (by omega) (by have := b4 c2; omega), dys_bit h (by have := b4 c2; omega)]
        simp only [Option.bind_some]
        by_cases c : 0 < onDayN D l (D 10 (5 * p + w))
        · rw [decide_eq_true c, decide_eq_false (show ¬ onDayN D l (D 10 (5 * p + w)) = 0 by omega)]; rfl
        · rw [decide_eq_false c, decide_eq_true (show onDayN D l (D 10 (5 * p + w)) = 0 by omega)]; rfl
      · rw [if_neg (show ¬ nI (D 9 (5 * p + w)) = 2 from fun e => c2 ((nI_eq (b := 2) (by omega) (by omega)).mp e)), if_neg c2]
        by_cases c3 : D 9 (5 * p + w) = 3
        · rw [if_pos (show nI (D 9 (5 * p + w)) = 3 by rw [c3]; rfl), if_pos c3, hz.1.2.2.1, nI_and]
          have key : (l &&& nmN D ≠ 0) ↔ anyB (ntF D l) (D 7 0) = true := by
            rw [and_ne0, anyB_iff]
            constructor
            · rintro ⟨t, t1, t2⟩
              rw [nm_bit h, Bool.and_eq_true, decide_eq_true_eq] at t2
              exact ⟨t, t2.1, by unfold ntF; rw [t1, t2.2]; rfl⟩
            · rintro ⟨t, t1, t2⟩
              unfold ntF at t2
              rw [Bool.and_eq_true] at t2
              exact ⟨t, t2.1, by rw [nm_bit h, decide_eq_true t1, t2.2]; rfl⟩
          by_cases c : l &&& nmN D = 0
          · rw [if_pos (show nI (l &&& nmN D) = 0 by rw [c]; rfl)]
            cases hq : anyB (ntF D l) (D 7 0) with
            | false => rfl
            | true => exact absurd c (key.mpr hq)
          · rw [if_neg (show ¬ nI (l &&& nmN D) = 0 from fun e => c ((nI_eq (b := 0) (by omega) (by omega)).mp e)), key.mp c]; rfl
        · rw [if_neg (show ¬ nI (D 9 (5 * p + w)) = 3 from fun e => c3 ((nI_eq (b := 3) (by omega) (by omega)).mp e)), if_neg c3]
          by_cases c4 : D 9 (5 * p + w) = 4
          · rw [if_pos (show nI (D 9 (5 * p + w)) = 4 by rw [c4]; rfl), if_pos c4, hoursC_eq h hz hl]
            simp only [Option.bind_some]
            by_cases c : hrsN D l ≤ D 10 (5 * p + w)
            · rw [if_neg (nI_nlt c (by omega)), decide_eq_true c]; rfl
            · rw [if_pos (nI_lt (Nat.not_le.mp c) (by omega)), decide_eq_false c]; rfl
          · rw [if_neg (show ¬ nI (D 9 (5 * p + w)) = 4 from fun e => c4 ((nI_eq (b := 4) (by omega) (by omega)).mp e)), if_neg c4, hoursC_eq h hz hl]
            simp only [Option.bind_some]
            by_cases c : D 10 (5 * p + w) ≤ hrsN D l
            · rw [if_neg (nI_nlt c (by omega)), decide_eq_true c]; rfl
            · rw [if_pos (nI_lt (Nat.not_le.mp c) (by omega)), decide_eq_false c]; rfl
/-- wishes met, by bits, the first one's bit the highest -/
def scN (D : Dt) (p l : Nat) : Nat → Nat
  | 0 => 0
  | w + 1 => 2 * scN D p l w + (if metB D p w l then 1 else 0)
theorem sc_lt : ∀ w, scN D p l w < 2 ^ w
  | 0 => by simp [scN]
  | w + 1 => by
    have := sc_lt w
    unfold scN
    rw [Nat.pow_succ]
    split <;> omega
theorem sc_small {w : Nat} (hw : w ≤ 5) : scN D p l w < 32 := by
  have h1 := sc_lt (D := D) (p := p) (l := l) w
  have h2 : 2 ^ w ≤ 2 ^ 5 := Nat.pow_le_pow_right (by omega) hw
  omega
theorem or_even {a : Nat} {b : Bool} (ha : a < 64) : (2 * a) ||| (if b then 1 else 0) = 2 * a + (if b then 1 else 0) := by
  have h : (List.range 64).all (fun a => decide ((2 * a) ||| 1 = 2 * a + 1 ∧ (2 * a) ||| 0 = 2 * a + 0)) = true := by decide
  have h2 := of_decide_eq_true (List.all_eq_true.mp h a (List.mem_range.mpr ha))
  cases b
  · exact h2.2
  · exact h2.1
theorem score_eq (h : OKd D) (hw : OKw D) (hz : RC D z) (hv : RWC D z) (hp : p < D 7 1) (hl : l < 512) : f_X3_score z p (nI l) = some (nI (scN D p l (D 8 p))) := by
  have h8 := (hw p hp).1
  have v8 := (hv p hp).1
  unfold f_X3_score l_X3_score_5
  refine loopP (N := D 8 p) (it := fun f i => iter (fun _ _ _ _ => none) (f_X3_score_5 z) f p (nI l) (nI (scN D p l i)) (nI i)) ?_ ?_ FU (FU_gt (by omega))
  · intro f
    rw [iter_s, f_X3_score_5.eq_1, v8, if_pos (nI_le (Nat.le_refl _) (by omega))]
  · intro f i hi
    have hs := sc_small (D := D) (p := p) (l := l) (w := i) (by omega)
    rw [iter_s, f_X3_score_5.eq_1, v8, if_neg (nI_ge hi (by omega)), isMetC_eq h hw hz hv hp hi hl]
    generalize iter (fun _ _ _ _ => none) (f_X3_score_5 z) f = k
    simp only [Option.bind_some]
    have e1 : nI (scN D p l i) <<< ((1 : Int32) &&& 31) = nI (2 * scN D p l i) := by
      rw [show ((1 : Int32) &&& 31) = (nI 1 &&& 31) from rfl, nI_shl (by omega) (by omega), Nat.mul_comm]
    rw [e1, nI_1]
    have e2 : scN D p l (i + 1) = (2 * scN D p l i) ||| (if metB D p i l then 1 else 0) := by
      rw [or_even (by omega)]; rfl
    cases hq : metB D p i l with
    | false =>
      rw [if_pos (show bI false = 0 from rfl), L0, nI_or, e2, hq]; rfl
    | true =>
      rw [if_neg (show ¬ bI true = 0 by decide), L1, nI_or, e2, hq]; rfl
theorem sc_cmp {a b : Nat} : ∀ w, match fd (fun w => metB D p w a) (fun w => metB D p w b) w with
    | some true => scN D p b w < scN D p a w
    | some false => scN D p a w < scN D p b w
    | none => scN D p a w = scN D p b w := by
  intro w
  induction w with
  | zero => rfl
  | succ w ih =>
    unfold fd
    cases hq : fd (fun w => metB D p w a) (fun w => metB D p w b) w with
    | some x =>
      rw [hq] at ih
      cases x
      · simp only at ih ⊢
        unfold scN
        split <;> split <;> omega
      · simp only at ih ⊢
        unfold scN
        split <;> split <;> omega
    | none =>
      rw [hq] at ih
      simp only at ih ⊢
      cases h1 : metB D p w a <;> cases h2 : metB D p w b <;> simp [scN, h1, h2] <;> omega
theorem bitCount_eq {n : Nat} (hn : n < 16384) : f_J6_bitCount_0f7a4 z (nI n) = some (nI (pop14 n)) := by
  obtain ⟨b0, b1, b2, b3, b4, b5⟩ := bc_dec n hn
  have s1 : ∀ m, m < 2 ^ 32 → ((nI m).toUInt32 >>> ((1 : Int32).toUInt32 &&& Int32.toUInt32 31)).toInt32 = nI (m / 2) := fun m hm => pk_ushrN hm 1 1 (by decide)
  have s2 : ∀ m, m < 2 ^ 32 → ((nI m).toUInt32 >>> ((2 : Int32).toUInt32 &&& Int32.toUInt32 31)).toInt32 = nI (m / 4) := fun m hm => pk_ushrN hm 2 2 (by decide)
  have s4 : ∀ m, m < 2 ^ 32 → ((nI m).toUInt32 >>> ((4 : Int32).toUInt32 &&& Int32.toUInt32 31)).toInt32 = nI (m / 16) := fun m hm => pk_ushrN hm 4 4 (by decide)
  have s8 : ∀ m, m < 2 ^ 32 → ((nI m).toUInt32 >>> ((8 : Int32).toUInt32 &&& Int32.toUInt32 31)).toInt32 = nI (m / 256) := fun m hm => pk_ushrN hm 8 8 (by decide)
  have s16 : ∀ m, m < 2 ^ 32 → ((nI m).toUInt32 >>> ((16 : Int32).toUInt32 &&& Int32.toUInt32 31)).toInt32 = nI (m / 65536) := fun m hm => pk_ushrN hm 16 16 (by decide)
  have k1 : (1431655765 : Int32) = nI 1431655765 := rfl
  have k2 : (858993459 : Int32) = nI 858993459 := rfl
  have k3 : (252645135 : Int32) = nI 252645135 := rfl
  have k4 : (63 : Int32) = nI 63 := rfl
  have a1 : nI n - nI (n / 2 &&& 1431655765) = nI (bcA n) := pk_sub b0
  unfold f_J6_bitCount_0f7a4
  rw [s1 n (by omega), k1, nI_and, a1, s2 _ (by omega), k2, nI_and, nI_and, nI_add]
  rw [show (bcA n &&& 858993459) + (bcA n / 4 &&& 858993459) = bcB n from rfl, s4 _ (by omega), nI_add, k3, nI_and, show (bcB n + bcB n / 16) &&& 252645135 = bcC n from rfl, s8 _ (by omega), nI_add,
    show bcC n + bcC n / 256 = bcD n from rfl, s16 _ (by omega), nI_add, k4, nI_and, show bcD n + bcD n / 65536 = bcE n from rfl, b5]
theorem ahead_eq {a b n : Nat} (hn : n ≤ 9) (ha : a < 2 ^ n) (hb : b < 2 ^ n) : f_X5_isAheadByDuties z (nI a) (nI b) = some (bI (decide (fd a.testBit b.testBit n = some true))) := by
  have h9 := pow9 hn
  have hx : a ^^^ b < 512 := xor_lt (by omega) (by omega)
  obtain ⟨l1, l2⟩ := low_dec _ hx
  unfold f_X5_isAheadByDuties f_J6_lowestOneBit_0f7a4
  rw [nI_xor, l1]
  simp only [Option.bind_some]
  rw [nI_and]
  rcases l2 with e | ⟨d, d1, d2, d3, d4⟩
  · have e2 : fd a.testBit b.testBit n = none := by
      refine fd_none.mpr (fun i _ => ?_)
      have : (a ^^^ b).testBit i = false := by rw [e]; simp
      rw [Nat.testBit_xor] at this
      cases h1 : a.testBit i <;> cases h2 : b.testBit i <;> simp_all
    rw [e2, e]
    have e3 : lowN 0 &&& a = 0 := by rw [show lowN 0 = 0 from rfl]; simp
    rw [e3]; rfl
  · have hd : d < n := by
      rcases Nat.lt_or_ge d n with q | q
      · exact q
      · rw [Nat.testBit_lt_two_pow (Nat.lt_of_lt_of_le (Nat.xor_lt_two_pow ha hb) (Nat.pow_le_pow_right (by omega) q))] at d3; cases d3
    have e2 : fd a.testBit b.testBit n = some (a.testBit d) := by
      refine fd_at hd (fun j hj => ?_) ?_
      · have := d4 j hj
        rw [Nat.testBit_xor] at this
        cases h1 : a.testBit j <;> cases h2 : b.testBit j <;> simp_all
      · rw [Nat.testBit_xor] at d3
        cases h1 : a.testBit d <;> cases h2 : b.testBit d <;> simp_all
    rw [e2, d2]
    have hle : 2 ^ d &&& a ≤ a := Nat.and_le_right
    cases hq : a.testBit d with
    | false =>
      have e3 : 2 ^ d &&& a = 0 := by
        by_cases c : 2 ^ d &&& a = 0
        · exact c
        · obtain ⟨t, t1, t2⟩ := and_ne0.mp c
          rw [Nat.testBit_two_pow, decide_eq_true_eq] at t1
          subst t1; rw [hq] at t2; cases t2
      rw [e3]; rfl
    | true =>
      have e3 : ¬ 2 ^ d &&& a = 0 := and_ne0.mpr ⟨d, by simp [Nat.testBit_two_pow], hq⟩
      rw [if_neg (show ¬ nI (2 ^ d &&& a) = 0 from fun e => e3 ((nI_eq (b := 0) (by omega) (by omega)).mp e))]; rfl
end SCO
