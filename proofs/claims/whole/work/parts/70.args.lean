/-- a number among those below n -/
def inR (x : Int32) (n : Nat) : Bool := !(decide (x < 0) || decide (nI n ≤ x))
theorem inR_nI {j n : Nat} (h : j < n) (hn : n < 2 ^ 31) : inR (nI j) n = true := by
  unfold inR
  rw [decide_eq_false (nI_pos (by omega)), decide_eq_false (nI_ge h hn)]; rfl
theorem inR_of {x : Int32} {n : Nat} (hn : n < 2 ^ 31) : (inR x n = false ∧ (x < 0 ∨ nI n ≤ x)) ∨ (inR x n = true ∧ ∃ j, j < n ∧ x = nI j) := by
  rcases pk_ix x hn with h | h | ⟨j, h1, h2⟩
  · exact Or.inl ⟨by unfold inR; rw [decide_eq_true h]; rfl, Or.inl h⟩
  · exact Or.inl ⟨by unfold inR; rw [decide_eq_true h, Bool.or_true]; rfl, Or.inr h⟩
  · exact Or.inr ⟨by rw [h2]; exact inR_nI h1 hn, j, h1, h2⟩
theorem rng_eq (x : Int32) (n : Nat) : (if x < (0 : Int32) then some (0 : Int32) else (if nI n ≤ x then some (0 : Int32) else some (1 : Int32))) = some (bI (inR x n)) := by
  unfold inR
  by_cases c1 : x < 0
  · rw [if_pos c1, decide_eq_true c1]; rfl
  · rw [if_neg c1, decide_eq_false c1]
    by_cases c2 : nI n ≤ x
    · rw [if_pos c2, decide_eq_true c2]; rfl
    · rw [if_neg c2, decide_eq_false c2]; rfl
theorem within_eq {z : St} (x : Int32) {n : Nat} (hn : n < 2 ^ 30) : f_X5_within z x 0 (nI n - 1) = some (bI (inR x n)) := by
  unfold f_X5_within
  rw [← rng_eq]
  by_cases c1 : x < 0
  · rw [if_pos c1, if_pos c1]
  · rw [if_neg c1, if_neg c1]
    have e : nI n - 1 < x ↔ nI n ≤ x := by
      have h1 : (nI n - 1).toInt = (n : Int) - 1 := pk_sub_toInt (b := 1) hn (by omega)
      have h2 : (nI n).toInt = (n : Int) := nI_toInt (by omega)
      rw [Int32.lt_iff_toInt_lt, Int32.le_iff_toInt_le, h1, h2]
      omega
    by_cases c2 : nI n ≤ x
    · rw [if_pos (e.mpr c2), if_pos c2]
    · rw [if_neg (fun q => c2 (e.mp q)), if_neg c2]
section ARGS
variable {D : Dt} {z : St}
theorem isPerson_eq (hz : RM D z) (x : Int32) : f_X6_isPerson z x = some (bI (inR x (D 7 1))) := by
  unfold f_X6_isPerson
  rw [hz.1.2.1]; exact rng_eq x _
theorem isDuty_eq (hz : RM D z) (x : Int32) : f_X6_isDuty z x = some (bI (inR x (D 7 0))) := by
  unfold f_X6_isDuty
  rw [hz.1.1]; exact rng_eq x _
theorem isSet_eq (h : OKd D) (hz : RM D z) (x : Int32) : f_X6_isSet z x = some (bI (inR x (2 ^ D 7 0))) := by
  unfold f_X6_isSet
  rw [all_eq h hz.1.1]; exact rng_eq x _
theorem hasP_eq (h : OKd D) (hz : RC D z) (x : Int32) : f_X2_has z x = some (bI (inR x (D 7 1))) := by
  have hm := h.2.1
  unfold f_X2_has
  rw [hz.1.2.1, within_eq x (by omega), Option.bind_some, bz_bI]
theorem hasD_eq (h : OKd D) (hz : RC D z) (x : Int32) : f_X1_has z x = some (bI (inR x (D 7 0))) := by
  have hn := h.1
  unfold f_X1_has
  rw [hz.1.1, within_eq x (by omega), Option.bind_some, bz_bI]
theorem hasW_eq (hw : OKw D) (hv : RWC D z) {p : Nat} (hp : p < D 7 1) (x : Int32) : f_X3_hasWish z p x = some (bI (inR x (D 8 p))) := by
  have h8 := (hw p hp).1
  unfold f_X3_hasWish
  rw [(hv p hp).1, within_eq x (by omega), Option.bind_some, bz_bI]
theorem xor0 {x y : Int32} (h : x ^^^ y = 0) : x = y := by
  apply Int32.toBitVec_inj.mp
  apply BitVec.eq_of_getLsbD_eq
  intro i hi
  have h2 : (x ^^^ y).toBitVec.getLsbD i = false := by rw [h]; simp
  simp only [Int32.toBitVec_xor, BitVec.getLsbD_xor] at h2
  cases h3 : x.toBitVec.getLsbD i <;> cases h4 : y.toBitVec.getLsbD i <;> simp_all
theorem isLine_eq (h : OKd D) (hz : RC D z) (x : Int32) : f_X1_isLine z x = some (bI (inR x (2 ^ D 7 0))) := by
  have h9 := pow9 h.1
  have hpos : 0 < 2 ^ D 7 0 := Nat.two_pow_pos _
  unfold f_X1_isLine
  rw [allC_eq h hz, Option.bind_some]
  rcases inR_of (x := x) (n := 2 ^ D 7 0) (by omega) with ⟨e, hx⟩ | ⟨e, j, hj, rfl⟩
  · rw [e]
    have hne : ¬ (x &&& (nI (2 ^ D 7 0 - 1) ^^^ (-1)) = 0) := by
      intro hq
      rw [i_andnot] at hq
      have h1 := xor0 hq
      rw [pk_and x (D 7 0) (pk_tn (by omega))] at h1
      have h2 : x.toBitVec.toNat % 2 ^ D 7 0 < 2 ^ D 7 0 := Nat.mod_lt _ hpos
      rcases hx with hx | hx
      · rw [h1] at hx; exact nI_pos (by omega) hx
      · rw [h1] at hx; exact nI_ge h2 (by omega) hx
    rw [if_neg hne]; rfl
  · rw [e]
    have hs : j &&& (2 ^ D 7 0 - 1) = j := by rw [Nat.and_two_pow_sub_one_eq_mod, Nat.mod_eq_of_lt hj]
    rw [if_pos ((andnot0 (by omega)).mpr hs)]; rfl
end ARGS
/-- what was given: row 0: 0 whether, 1 as give() did it; rows 1 lines, 2 what was left, 3 who is sick -/
def OKg (D G : Dt) : Prop := G 0 0 ≤ 1 ∧ (G 0 0 = 1 → G 0 1 ≤ 1 ∧ ∀ p, p < D 7 1 → G 1 p < 2 ^ D 7 0 ∧ G 2 p < 2 ^ D 7 0 ∧ G 3 p ≤ 1)
def OKa (D G : Dt) : Prop := OKd D ∧ OKw D ∧ OKg D G
def FM (D G : Dt) (z : St) : Prop := RM D z ∧ RW D z ∧ (z.1 6 = 0 ∨ (z.1 6 = 1 ∧ LG D z)) ∧ z.1 7 = nI (G 0 0) ∧ (G 0 0 = 1 → z.1 8 = nI (G 0 1) ∧ ∀ p, p < D 7 1 → z.2 16 p = nI (G 1 p) ∧ z.2 17 p = nI (G 2 p) ∧ z.2 18 p = nI (G 3 p))
def FC (D G : Dt) (z : St) : Prop := RC D z ∧ RWC D z ∧ ZR z ∧ (z.1 6 = 0 → CHI D z ∧ knows z 0) ∧ z.1 0 = nI (G 0 0) ∧
  (G 0 0 = 1 → z.1 6 = 0 ∧ z.1 1 = nI (1 - G 0 1) ∧ ∀ p, p < D 7 1 → z.1 (13 + 6 * p) = nI (G 2 p) ∧ z.1 (14 + 6 * p) = nI (G 1 p) ∧ z.1 (15 + 6 * p) = nI (G 3 p)) ∧ (∀ p, D 7 1 ≤ p → p < 4 → z.1 (10 + 6 * p) = 0)
section READ
variable {D G : Dt} {zc zm : St}
theorem P_why (h : OKa D G) (hc : FC D G zc) (hm : FM D G zm) (x1 x2 : Int32) : ∃ r, f_X5_why zc x1 x2 = some r ∧ f_X6_why zm x1 x2 = some r := by
  obtain ⟨hd, hw, -⟩ := h
  have h9 := pow9 hd.1
  have hm4 := hd.2.1
  unfold f_X5_why f_X6_why
  rw [hasP_eq hd hc.1, isPerson_eq hm.1, Option.bind_some, Option.bind_some, isLine_eq hd hc.1, isSet_eq hd hm.1, Option.bind_some, Option.bind_some]
  rcases inR_of (x := x1) (n := D 7 1) (by omega) with ⟨e, -⟩ | ⟨e, p, hp, rfl⟩
  · rw [e, if_pos (show bI false = 0 from rfl), if_pos (show bI false = 0 from rfl)]
    exact ⟨_, rfl, rfl⟩
  · rw [e, if_neg (show ¬ bI true = 0 by decide), if_neg (show ¬ bI true = 0 by decide)]
    rcases inR_of (x := x2) (n := 2 ^ D 7 0) (by omega) with ⟨e2, -⟩ | ⟨e2, l, hl, rfl⟩
    · rw [e2, if_pos (show bI false = 0 from rfl), if_pos (show bI false = 0 from rfl)]
      exact ⟨_, rfl, rfl⟩
    · rw [e2, if_neg (show ¬ bI true = 0 by decide), if_neg (show ¬ bI true = 0 by decide), why_eq hd hm.1 hp (by omega), Option.bind_some, ck_nI (by omega) (by omega), nI_clamp (by omega),
        hasSkills_eq hd hc.1 (by omega) hp, Option.bind_some, firstBroken_eq hd hc.1 (by omega), Option.bind_some, hasHours_eq hd hc.1 (by omega) hp, Option.bind_some]
      refine ⟨_, ?_, rfl⟩
      unfold whyN brN
      by_cases q : hrsN D l ≤ D 6 p
      · rw [decide_eq_true q, if_neg (show ¬ D 6 p < hrsN D l by omega)]
        cases anyB (skF D p l) (D 7 0) <;> cases anyB (dyF D l) 14 <;> cases anyB (rsF D l) (D 7 0) <;> cases anyB (rwF D l) 14 <;> cases anyB (wkG D l) 14 <;> rfl
      · rw [decide_eq_false q, if_pos (show D 6 p < hrsN D l by omega)]
        cases anyB (skF D p l) (D 7 0) <;> cases anyB (dyF D l) 14 <;> cases anyB (rsF D l) (D 7 0) <;> cases anyB (rwF D l) 14 <;> cases anyB (wkG D l) 14 <;> rfl
theorem P_meets (h : OKa D G) (hc : FC D G zc) (hm : FM D G zm) (x1 x2 x3 : Int32) : ∃ r, f_X5_meets zc x1 x2 x3 = some r ∧ f_X6_meets zm x1 x2 x3 = some r := by
  obtain ⟨hd, hw, -⟩ := h
  have h9 := pow9 hd.1
  have hm4 := hd.2.1
  unfold f_X5_meets f_X6_meets
  rw [hasP_eq hd hc.1, isPerson_eq hm.1, Option.bind_some, Option.bind_some, isLine_eq hd hc.1, isSet_eq hd hm.1, Option.bind_some, Option.bind_some]
  rcases inR_of (x := x1) (n := D 7 1) (by omega) with ⟨e, -⟩ | ⟨e, p, hp, rfl⟩
  · rw [e, if_pos (show bI false = 0 from rfl), if_pos (show bI false = 0 from rfl)]
    exact ⟨_, rfl, rfl⟩
  · have h8 := (hw p hp).1
    rw [e, if_neg (show ¬ bI true = 0 by decide), if_neg (show ¬ bI true = 0 by decide), ck_nI (by omega) (by omega), ck_nI (by omega) (by omega), ck_nI (by omega) (by omega), nI_clamp (by omega), hasW_eq hw hc.2.1 hp, Option.bind_some, (hm.2.1 p hp).1]
    rcases inR_of (x := x2) (n := D 8 p) (by omega) with ⟨e2, hx⟩ | ⟨e2, w, hwp, rfl⟩
    · rw [e2, if_pos (show bI false = 0 from rfl)]
      refine ⟨_, rfl, ?_⟩
      by_cases q : x2 < 0
      · rw [if_pos q]
      · rw [if_neg q, if_neg (show ¬ x2 < nI (D 8 p) from fun q2 => by
          rcases hx with hx | hx
          · exact q hx
          · rw [Int32.lt_iff_toInt_lt] at q2
            rw [Int32.le_iff_toInt_le] at hx
            omega)]
    · rw [e2, if_neg (show ¬ bI true = 0 by decide), if_neg (nI_pos (by omega)), if_pos (nI_lt hwp (by omega))]
      rcases inR_of (x := x3) (n := 2 ^ D 7 0) (by omega) with ⟨e3, -⟩ | ⟨e3, l, hl, rfl⟩
      · rw [e3, if_pos (show bI false = 0 from rfl), if_pos (show bI false = 0 from rfl)]
        exact ⟨_, rfl, rfl⟩
      · rw [e3, if_neg (show ¬ bI true = 0 by decide), if_neg (show ¬ bI true = 0 by decide), isMetC_eq hd hw hc.1 hc.2.1 hp hwp (by omega), isMet_eq hd hw hm.1 hm.2.1 hp hwp (by omega), Option.bind_some]
        cases metB D p w l <;> exact ⟨_, rfl, rfl⟩
theorem P_line (h : OKa D G) (hc : FC D G zc) (hm : FM D G zm) (x1 : Int32) : ∃ r, f_X5_line zc x1 = some r ∧ f_X6_line zm x1 = some r := by
  obtain ⟨hd, hw, hg⟩ := h
  have hm4 := hd.2.1
  unfold f_X5_line f_X6_line
  rw [hasP_eq hd hc.1, isPerson_eq hm.1, Option.bind_some, Option.bind_some, hc.2.2.2.2.1, hm.2.2.2.1]
  rcases inR_of (x := x1) (n := D 7 1) (by omega) with ⟨e, -⟩ | ⟨e, p, hp, rfl⟩
  · rw [e, if_pos (show bI false = 0 from rfl), if_pos (show bI false = 0 from rfl)]
    exact ⟨_, rfl, rfl⟩
  · rw [e, if_neg (show ¬ bI true = 0 by decide), if_neg (show ¬ bI true = 0 by decide)]
    by_cases q : G 0 0 = 0
    · rw [q, if_pos (show nI 0 = 0 from rfl), if_pos (show nI 0 = 0 from rfl)]
      exact ⟨_, rfl, rfl⟩
    · have q1 : G 0 0 = 1 := by have := hg.1; omega
      rw [q1, if_neg (show ¬ nI 1 = 0 by decide), if_neg (show ¬ nI 1 = 0 by decide), ck_nI (by omega) (by omega), ck_nI (by omega) (by omega), nI_clamp (by omega), ((hc.2.2.2.2.2.1 q1).2.2 p hp).2.1, ((hm.2.2.2.2 q1).2 p hp).1]
      exact ⟨_, rfl, rfl⟩
theorem P_better (h : OKa D G) (hc : FC D G zc) (hm : FM D G zm) (x1 x2 x3 : Int32) : ∃ r, f_X5_better zc x1 x2 x3 = some r ∧ f_X6_better zm x1 x2 x3 = some r := by
  obtain ⟨hd, hw, -⟩ := h
  have h9 := pow9 hd.1
  have hm4 := hd.2.1
  unfold f_X5_better f_X6_better
  rw [hasP_eq hd hc.1, isPerson_eq hm.1, Option.bind_some, Option.bind_some, isLine_eq hd hc.1, isSet_eq hd hm.1, Option.bind_some, Option.bind_some, isLine_eq hd hc.1, isSet_eq hd hm.1, Option.bind_some, Option.bind_some]
  rcases inR_of (x := x1) (n := D 7 1) (by omega) with ⟨e, -⟩ | ⟨e, p, hp, rfl⟩
  · rw [e, if_pos (show bI false = 0 from rfl), if_pos (show bI false = 0 from rfl)]
    exact ⟨_, rfl, rfl⟩
  · rw [e, if_neg (show ¬ bI true = 0 by decide), if_neg (show ¬ bI true = 0 by decide)]
    rcases inR_of (x := x2) (n := 2 ^ D 7 0) (by omega) with ⟨e2, -⟩ | ⟨e2, a, ha, rfl⟩
    · rw [e2, if_pos (show bI false = 0 from rfl), if_pos (show bI false = 0 from rfl)]
      exact ⟨_, rfl, rfl⟩
    · rw [e2, if_neg (show ¬ bI true = 0 by decide), if_neg (show ¬ bI true = 0 by decide)]
      rcases inR_of (x := x3) (n := 2 ^ D 7 0) (by omega) with ⟨e3, -⟩ | ⟨e3, b, hb, rfl⟩
      · rw [e3, if_pos (show bI false = 0 from rfl), if_pos (show bI false = 0 from rfl)]
        exact ⟨_, rfl, rfl⟩
      · have s1 := sc_small (D := D) (p := p) (l := a) (w := D 8 p) (hw p hp).1
        have s2 := sc_small (D := D) (p := p) (l := b) (w := D 8 p) (hw p hp).1
        rw [e3, if_neg (show ¬ bI true = 0 by decide), if_neg (show ¬ bI true = 0 by decide), compares_eq hd hw hm.1 hm.2.1 hp (by omega) (by omega), Option.bind_some, ck_nI (by omega) (by omega), nI_clamp (by omega),
          score_eq hd hw hc.1 hc.2.1 hp (by omega), Option.bind_some, score_eq hd hw hc.1 hc.2.1 hp (by omega), Option.bind_some, ahead_eq hd.1 ha hb, Option.bind_some]
        refine ⟨_, ?_, rfl⟩
        have hs := sc_cmp (D := D) (p := p) (a := a) (b := b) (D 8 p)
        unfold cmpN
        cases hq : fd (fun w => metB D p w a) (fun w => metB D p w b) (D 8 p) with
        | some x =>
          rw [hq] at hs
          cases x
          · simp only at hs ⊢
            rw [if_neg (fun e => by have := (nI_eq (show scN D p a (D 8 p) < 2 ^ 31 by omega) (by omega)).mp e; omega), if_pos (nI_le (by omega) (by omega))]
            rfl
          · simp only at hs ⊢
            rw [if_neg (fun e => by have := (nI_eq (show scN D p a (D 8 p) < 2 ^ 31 by omega) (by omega)).mp e; omega), if_neg (nI_ge hs (by omega))]
            rfl
        | none =>
          rw [hq] at hs
          simp only at hs ⊢
          rw [if_pos (by rw [hs])]
          cases fd a.testBit b.testBit (D 7 0) with
          | none => rfl
          | some x => cases x <;> rfl
end READ
