/-- for whom a line is legal, by bits -/
def lmF (D : Dt) (l p : Nat) : Nat := if legB D p l then 2 ^ p else 0
def Lm (D : Dt) (l : Nat) : Nat := orN (lmF D l) (D 7 1)
section LEG
variable {D : Dt} {z : St} {l : Nat}
theorem two_bits {f : Nat → Bool} {n p : Nat} : (orN (fun j => if f j then 2 ^ j else 0) n).testBit p = (decide (p < n) && f p) := by
  rw [orN_bit]
  apply Bool.eq_iff_iff.mpr
  rw [anyB_iff]
  simp only [Bool.and_eq_true, decide_eq_true_eq]
  constructor
  · rintro ⟨i, h1, h2⟩
    by_cases c : f i = true
    · simp only [c, if_true, Nat.testBit_two_pow, decide_eq_true_eq] at h2
      subst h2; exact ⟨h1, c⟩
    · simp [c] at h2
  · rintro ⟨h1, h2⟩
    exact ⟨p, h1, by simp [h2, Nat.testBit_two_pow]⟩
theorem two_lt {f : Nat → Bool} {n : Nat} (hn : n ≤ 4) : orN (fun j => if f j then 2 ^ j else 0) n < 2 ^ 4 := orN_lt (fun j hj => by
  split
  · exact Nat.pow_lt_pow_right (by omega) (by omega)
  · exact Nat.two_pow_pos _)
theorem Lm_bit {p : Nat} : (Lm D l).testBit p = (decide (p < D 7 1) && legB D p l) := two_bits (f := fun p => legB D p l)
theorem Lm_lt (h : OKd D) : Lm D l < 16 := two_lt (f := fun p => legB D p l) h.2.1
theorem able_eq (h : OKd D) (hz : RC D z) (hl : l < 512) {c : Nat} (hc : c < 16) :
    f_X0_able z (nI c) (nI l) = some (nI (orN (fun p => if c.testBit p && (!anyB (skF D p l) (D 7 0)) && decide (hrsN D l ≤ D 6 p) then 2 ^ p else 0) (D 7 1))) := by
  have hm := h.2.1
  have e1 := hz.1.2.1
  have st : ∀ (k : Int32 → Int32 → Int32 → Int32 → Option Int32) (i s : Nat), i < D 7 1 → f_X0_able_5 z k (nI c) (nI l) (nI s) (nI i) =
      k (nI c) (nI l) (nI (s ||| if c.testBit i && (!anyB (skF D i l) (D 7 0)) && decide (hrsN D l ≤ D 6 i) then 2 ^ i else 0)) (nI (i + 1)) := by
    intro k i s hi
    have hp : 2 ^ i ≤ 2 ^ 4 := Nat.pow_le_pow_right (by omega) (by omega)
    rw [f_X0_able_5.eq_1, e1, if_neg (nI_ge hi (by omega)), ck_nI (by omega) (by omega), isIn_eq (by omega) (by omega), nI_clamp (by omega), hasSkills_eq h hz hl hi, hasHours_eq h hz hl hi]
    simp only [Option.bind_some]
    rw [nI_1, L1, nI_shl (s := 1) (by omega) (by omega), Nat.one_mul, nI_or]
    cases c.testBit i <;> cases anyB (skF D i l) (D 7 0) <;> cases decide (hrsN D l ≤ D 6 i) <;> simp [bI]
  unfold f_X0_able l_X0_able_5
  refine loopP (N := D 7 1) (it := fun f i => iter (fun _ _ _ _ => none) (f_X0_able_5 z) f (nI c) (nI l) (nI (orN (fun p => if c.testBit p && (!anyB (skF D p l) (D 7 0)) && decide (hrsN D l ≤ D 6 p) then 2 ^ p else 0) i)) (nI i)) ?_ (fun f i hi => by rw [iter_s]; exact st _ i _ hi) FU (FU_gt (by omega))
  intro f
  rw [iter_s, f_X0_able_5.eq_1, e1, if_pos (nI_le (Nat.le_refl _) (by omega))]
theorem leg_br {p : Nat} : legB D p l = (decide (brN D l = 0) && (!anyB (skF D p l) (D 7 0)) && decide (hrsN D l ≤ D 6 p)) := by
  unfold legB whyN brN
  cases anyB (skF D p l) (D 7 0) <;> cases anyB (dyF D l) 14 <;> cases anyB (rsF D l) (D 7 0) <;> cases anyB (rwF D l) 14 <;> cases anyB (wkG D l) 14 <;> simp
theorem from_eq (h : OKd D) (hz : RC D z) {k : Nat} (hk : k ≤ D 7 1) : f_X2_from z (nI k) = some (nI (2 ^ D 7 1 - 2 ^ k)) := by
  have hm := h.2.1
  have h1 : 2 ^ D 7 1 ≤ 2 ^ 4 := Nat.pow_le_pow_right (by omega) hm
  have h2 : 2 ^ k ≤ 2 ^ D 7 1 := Nat.pow_le_pow_right (by omega) hk
  unfold f_X2_from
  rw [hz.1.2.1, L1, nI_shl (s := 1) (by omega) (by omega), nI_shl (s := 1) (by omega) (by omega), Nat.one_mul, Nat.one_mul, pk_sub h2]
theorem allC_eq (h : OKd D) (hz : RC D z) : f_X1_all z = some (nI (2 ^ D 7 0 - 1)) := by
  have hn := h.1
  have h9 := pow9 hn
  have h2 : 0 < 2 ^ D 7 0 := Nat.two_pow_pos _
  unfold f_X1_all
  rw [hz.1.1, L1, nI_shl (s := 1) (by omega) (by omega), Nat.one_mul, pk_sub (by omega)]
theorem Lm_0 (h : OKd D) : Lm D 0 = 2 ^ D 7 1 - 2 ^ 0 := by
  apply Nat.eq_of_testBit_eq
  intro p
  rw [Lm_bit, leg_0 h, Bool.and_true, show 2 ^ D 7 1 - 2 ^ 0 = 2 ^ D 7 1 - 1 from rfl, Nat.testBit_two_pow_sub_one]
theorem prev_sub {l : Nat} : (l &&& (l - 1)) &&& l = l &&& (l - 1) := by
  rw [Nat.and_comm l (l - 1), Nat.and_assoc, Nat.and_self]
theorem Lm_step (h : OKd D) {q : Nat} (hq : q &&& l = q) :
    Lm D l = if Lm D q = 0 ∨ brN D l ≠ 0 then 0 else orN (fun p => if (Lm D q).testBit p && (!anyB (skF D p l) (D 7 0)) && decide (hrsN D l ≤ D 6 p) then 2 ^ p else 0) (D 7 1) := by
  apply Nat.eq_of_testBit_eq
  intro p
  by_cases c : Lm D q = 0 ∨ brN D l ≠ 0
  · rw [if_pos c, Lm_bit]
    simp only [Nat.zero_testBit]
    rcases c with c | c
    · by_cases hp : p < D 7 1
      · cases hl : legB D p l with
        | false => simp
        | true =>
          have h1 := leg_mono hq hl
          have h2 : (Lm D q).testBit p = true := by rw [Lm_bit, decide_eq_true hp, h1]; rfl
          rw [c] at h2
          simp at h2
      · simp [hp]
    · rw [leg_br, decide_eq_false c]; simp
  · rw [if_neg c, two_bits (f := fun p => (Lm D q).testBit p && (!anyB (skF D p l) (D 7 0)) && decide (hrsN D l ≤ D 6 p)), Lm_bit, Lm_bit]
    have hb : brN D l = 0 := by
      by_cases e : brN D l = 0
      · exact e
      · exact absurd (Or.inr e) c
    have hlb := leg_br (D := D) (l := l) (p := p)
    rw [hb, decide_eq_true rfl, Bool.true_and] at hlb
    by_cases hp : p < D 7 1
    · rw [decide_eq_true hp, Bool.true_and, Bool.true_and, Bool.true_and]
      cases hl : legB D p l with
      | false =>
        rw [hl] at hlb
        rw [Bool.and_assoc, ← hlb, Bool.and_false]
      | true =>
        rw [hl] at hlb
        rw [Bool.and_assoc, ← hlb, leg_mono hq hl]; rfl
    · simp [hp]
theorem RC_of {z' : St} (hz : RC D z) (h1 : ∀ i, i ≠ 5 → i ≠ 6 → z'.1 i = z.1 i) (h2 : ∀ k, k < 6 → z'.2 k = z.2 k) : RC D z' := by
  obtain ⟨⟨e0, e1, e2, e3, e4, e5, e6⟩, eD, eP⟩ := hz
  refine ⟨⟨?_, ?_, ?_, ?_, ?_, ?_, ?_⟩, fun j hj => ?_, fun p hp => ?_⟩
  · rw [h1 3 (by omega) (by omega)]; exact e0
  · rw [h1 4 (by omega) (by omega)]; exact e1
  · rw [h1 2 (by omega) (by omega)]; exact e2
  · rw [h2 5 (by omega)]; exact e3
  · rw [h2 5 (by omega)]; exact e4
  · rw [h2 5 (by omega)]; exact e5
  · rw [h2 5 (by omega)]; exact e6
  · rw [h2 0 (by omega), h2 1 (by omega), h2 2 (by omega), h2 3 (by omega), h2 4 (by omega)]; exact eD j hj
  · rw [h1 _ (by omega) (by omega), h1 _ (by omega) (by omega)]; exact eP p hp
def FL (D : Dt) (z : St) (l : Nat) (y : St) : Prop := y.1 = z.1 ∧ (∀ k, k ≠ 6 → y.2 k = z.2 k) ∧ ∀ q, q < l → q < 2 ^ D 7 0 → y.2 6 q = nI (Lm D q)
theorem FL_step {y : St} (hI : FL D z l y) {v : Int32} (hv : v = nI (Lm D l)) : FL D z (l + 1) (pA y 6 l v) := by
  refine ⟨hI.1, fun k hk => by rw [pA_row hk]; exact hI.2.1 k hk, fun q hq hq2 => ?_⟩
  by_cases e : q = l
  · subst e; rw [pA_at]; exact hv
  · rw [pA_ne e]; exact hI.2.2 q (by omega) hq2
theorem legal_62 (h : OKd D) {y : St} (hz : RC D y) (hl : l < 512) {c : Nat} (hc : c < 16) (k16 : Int32 → St → Option St) (s0 : Int32) (b : Bool) (hs : s0 = bI b) :
    f_X0_findLegal_62 k16 (nI l) (nI c) s0 y = k16 (nI (l + 1)) (pA y 6 l (nI (if b then 0 else orN (fun p => if c.testBit p && (!anyB (skF D p l) (D 7 0)) && decide (hrsN D l ≤ D 6 p) then 2 ^ p else 0) (D 7 1)))) := by
  subst hs
  unfold f_X0_findLegal_62
  rw [able_eq h hz hl hc]
  simp only [Option.bind_some]
  rw [ck_nI (by omega) (by omega), ck_nI (by omega) (by omega), nI_clamp (by omega), nI_1]
  cases b <;> rfl
theorem findLegal_eq (h : OKd D) (hz : RC D z) : ∃ y, f_X0_findLegal z = some y ∧ y.1 = z.1 ∧ (∀ k, k ≠ 6 → y.2 k = z.2 k) ∧ ∀ q, q < 2 ^ D 7 0 → y.2 6 q = nI (Lm D q) := by
  have h9 := pow9 h.1
  have hpos : 0 < 2 ^ D 7 0 := Nat.two_pow_pos _
  unfold f_X0_findLegal
  rw [L0, from_eq h hz (Nat.zero_le _), Option.bind_some, ck_nI (by omega) (by omega), nI_clamp (by omega), ← Lm_0 h]
  obtain ⟨y, c, d⟩ := loopK (N := 2 ^ D 7 0 - 1) (it := fun f i s => iter (fun _ _ => none) f_X0_findLegal_16 f (nI (i + 1)) s) (I := fun i s => FL D z (i + 1) s) (K := fun s => some s)
    (by
      intro f s hs
      have hzs : RC D s := RC_of hz (fun i _ _ => by rw [hs.1]) (fun k hk => hs.2.1 k (by omega))
      show iter (fun _ _ => none) f_X0_findLegal_16 (f + 1) _ _ = _
      rw [iter_s, f_X0_findLegal_16.eq_1, allC_eq h hzs]
      simp only [Option.bind_some]
      rw [if_pos (nI_lt (by omega) (by omega))])
    (by
      intro f i s hi hs
      have hzs : RC D s := RC_of hz (fun i _ _ => by rw [hs.1]) (fun k hk => hs.2.1 k (by omega))
      have hle : (i + 1) &&& i ≤ i := Nat.and_le_right
      have hsub : ((i + 1) &&& i) &&& (i + 1) = (i + 1) &&& i := prev_sub (l := i + 1)
      have hLq : Lm D ((i + 1) &&& i) < 16 := Lm_lt h
      have hst := Lm_step (D := D) (l := i + 1) h hsub
      show ∃ s', _ ∧ iter (fun _ _ => none) f_X0_findLegal_16 (f + 1) _ _ = _
      rw [iter_s, f_X0_findLegal_16.eq_1, allC_eq h hzs]
      simp only [Option.bind_some]
      rw [if_neg (nI_nlt (by omega) (by omega)), nI_pred, nI_and, ck_nI (by omega) (by omega), nI_clamp (by omega), hs.2.2 _ (by omega) (by omega), firstBroken_eq h hzs (by omega)]
      simp only [Option.bind_some]
      have hbr : brN D (i + 1) ≤ 5 := by
        unfold brN
        repeat' split
        all_goals omega
      by_cases c1 : Lm D ((i + 1) &&& i) = 0
      · rw [if_pos (show nI (Lm D ((i + 1) &&& i)) = 0 by rw [c1]; rfl), legal_62 h hzs (by omega) hLq _ 1 true rfl]
        exact ⟨_, FL_step hs (by rw [hst, if_pos (Or.inl c1)]; rfl), rfl⟩
      · rw [if_neg (show ¬ nI (Lm D ((i + 1) &&& i)) = 0 from fun e => c1 ((nI_eq (b := 0) (by omega) (by omega)).mp e))]
        by_cases c2 : brN D (i + 1) = 0
        · rw [if_pos (show nI (brN D (i + 1)) = 0 by rw [c2]; rfl), legal_62 h hzs (by omega) hLq _ 0 false rfl]
          have hne : ¬ (Lm D ((i + 1) &&& i) = 0 ∨ brN D (i + 1) ≠ 0) := fun e => e.elim c1 (fun e2 => e2 c2)
          exact ⟨_, FL_step hs (by rw [hst, if_neg hne]; rfl), rfl⟩
        · rw [if_neg (show ¬ nI (brN D (i + 1)) = 0 from fun e => c2 ((nI_eq (b := 0) (by omega) (by omega)).mp e)), legal_62 h hzs (by omega) hLq _ 1 true rfl]
          exact ⟨_, FL_step hs (by rw [hst, if_pos (Or.inr c2)]; rfl), rfl⟩)
    FU 0 (pA z 6 0 (nI (Lm D 0))) (Nat.zero_le _) (FU_gt (by omega)) (FL_step (l := 0) ⟨rfl, fun _ _ => rfl, fun q hq => by omega⟩ rfl)
  refine ⟨y, ?_, c.1, c.2.1, fun q hq => c.2.2 q (by omega) hq⟩
  unfold l_X0_findLegal_16
  rw [L1]
  exact d
theorem isLegal_eq (h : OKd D) (hL : ∀ q, q < 2 ^ D 7 0 → z.2 6 q = nI (Lm D q)) {p : Nat} (hp : p < D 7 1) (hl : l < 2 ^ D 7 0) : f_X0_isLegal z (nI p) (nI l) = some (bI (legB D p l)) := by
  have h9 := pow9 h.1
  have hm := h.2.1
  have hLl : Lm D l < 16 := Lm_lt h
  unfold f_X0_isLegal
  rw [ck_nI (by omega) (by omega), nI_clamp (by omega), hL l hl, nI_bit (by omega) (by omega), Lm_bit, decide_eq_true hp, Bool.true_and]
  cases legB D p l <;> rfl
end LEG
