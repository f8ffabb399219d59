theorem neg1_lt {n : Nat} (h : n < 32) : (-1 : Int32) < nI n := by
  have hh : (List.range 32).all (fun n => decide ((-1 : Int32) < nI n)) = true := by decide
  exact of_decide_eq_true (List.all_eq_true.mp hh n (List.mem_range.mpr h))
section BEST
variable {D : Dt} {z : St}
def bsI : Option Nat → Int32
  | none => 0
  | some b => nI b
def scI (D : Dt) (p : Nat) : Option Nat → Int32
  | none => -1
  | some b => nI (scN D p b (D 8 p))
theorem cmp_score {p a b : Nat} : 0 < cmpN D p a b ↔ scN D p b (D 8 p) < scN D p a (D 8 p) ∨ (scN D p a (D 8 p) = scN D p b (D 8 p) ∧ fd a.testBit b.testBit (D 7 0) = some true) := by
  have h := sc_cmp (D := D) (p := p) (a := a) (b := b) (D 8 p)
  unfold cmpN
  cases hq : fd (fun w => metB D p w a) (fun w => metB D p w b) (D 8 p) with
  | some x =>
    rw [hq] at h
    cases x
    · simp only at h ⊢
      constructor
      · intro e; omega
      · rintro (e | e) <;> omega
    · simp only at h ⊢
      constructor
      · intro _; exact Or.inl h
      · intro _; omega
  | none =>
    rw [hq] at h
    simp only at h ⊢
    cases hq2 : fd a.testBit b.testBit (D 7 0) with
    | none => simp; omega
    | some x => cases x <;> simp <;> omega
theorem pk_far {p : Nat} {ps : List Nat} {left : Nat} : ∀ n, left + 1 ≤ n → pkN D p ps left n = pkN D p ps left (left + 1) := by
  intro n
  induction n with
  | zero => intro h; omega
  | succ n ih =>
    intro h
    by_cases e : n = left
    · subst e; rfl
    · have hc : cand D p ps left n = false := by
        cases hq : cand D p ps left n with
        | false => rfl
        | true =>
          simp only [cand, Bool.and_eq_true, decide_eq_true_eq] at hq
          have : n &&& left ≤ left := Nat.and_le_right
          omega
      show (if cand D p ps left n then _ else pkN D p ps left n) = _
      rw [hc, if_neg (by simp)]
      exact ih (by omega)
theorem best_step (h : OKd D) (hw : OKw D) (hz : RC D z) (hv : RWC D z) (hC : CHI D z) (h0 : knows z 0) {p left b l due : Nat} (hp : p < D 7 1) (hl : left < 2 ^ D 7 0) (hb : b < 2 ^ D 7 1) (hll : l ≤ left)
    (hd : due = covL (legB D) (p :: mb b (D 7 1)) left) (kk : Int32 → Int32 → Int32 → Nat → Int32 → Int32 → Int32 → Int32 → St → Option (Int32 × St)) {o : Option Nat} (ho : ∀ x, o = some x → x < 2 ^ D 7 0) :
    ∃ y, FrC z y ∧ CHI D y ∧ knows y 0 ∧ f_X5_bestLine_35 kk (nI p) (nI left) (nI b) p (nI due) (bsI o) (scI D p o) (nI l) z =
      kk (nI p) (nI left) (nI b) p (nI due) (bsI (if cand D p (mb b (D 7 1)) left l then nxt D p l o else o)) (scI D p (if cand D p (mb b (D 7 1)) left l then nxt D p l o else o)) (nI (l + 1)) y := by
  have h9 := pow9 h.1
  have hm := h.2.1
  have hlt : l < 2 ^ D 7 0 := by omega
  have hx : left ^^^ l < 2 ^ D 7 0 := Nat.xor_lt_two_pow hl hlt
  have hc4 : due ≤ 9 := by rw [hd]; exact Nat.le_trans cov_le (popN_le _)
  have hc1 : covL (legB D) (mb b (D 7 1)) (left ^^^ l) ≤ 9 := Nat.le_trans cov_le (popN_le _)
  have hc3 := popN_le l
  have hid : FrC z z := ⟨fun _ _ => rfl, fun _ _ => rfl⟩
  rw [f_X5_bestLine_35.eq_1, if_neg (nI_nlt hll (by omega)), nI_1]
  by_cases c1 : l &&& left = l
  · rw [if_pos ((andnot0 (by omega)).mpr c1), isLegal_eq h hC.1 hp hlt, Option.bind_some]
    cases hg : legB D p l with
    | false =>
      have hcd : cand D p (mb b (D 7 1)) left l = false := by simp [cand, hg]
      rw [if_pos (show bI false = 0 from rfl), hcd]
      exact ⟨z, hid, hC, h0, rfl⟩
    | true =>
      obtain ⟨y, y1, y2, y3, y4⟩ := coverBy_eq h hz hC h0 hb hx
      have hzy := RC_fr hz y2
      have hvy : RWC D y := by
        intro q hq
        rw [y2.1 _ (by omega)]
        refine ⟨(hv q hq).1, fun w hw2 => ?_⟩
        rw [y2.2 _ (by omega), y2.2 _ (by omega)]
        exact (hv q hq).2 w hw2
      rw [if_neg (show ¬ bI true = 0 by decide), bitCount_eq (by omega), Option.bind_some, pop_14 (by omega), nI_andnot, sub_xor c1, y1, Option.bind_some]
      show ∃ y', _ ∧ _ ∧ _ ∧ (if nI due ≤ nI (popN l) + nI (covL (legB D) (mb b (D 7 1)) (left ^^^ l)) then _ else _) = _
      rw [nI_add]
      by_cases c2 : due ≤ popN l + covL (legB D) (mb b (D 7 1)) (left ^^^ l)
      · have hcd : cand D p (mb b (D 7 1)) left l = true := by simp [cand, hg, c1, ← hd, c2]
        have s1 := sc_small (D := D) (p := p) (l := l) (w := D 8 p) (hw p hp).1
        refine ⟨y, y2, y3, y4, ?_⟩
        rw [if_pos (nI_le c2 (by omega)), score_eq h hw hzy hvy hp (by omega), Option.bind_some, hcd, if_pos rfl]
        cases o with
        | none =>
          rw [if_pos (show scI D p none < nI (scN D p l (D 8 p)) from neg1_lt s1)]
          rfl
        | some x =>
          have hxl := ho x rfl
          have s2 := sc_small (D := D) (p := p) (l := x) (w := D 8 p) (hw p hp).1
          have hcs := cmp_score (D := D) (p := p) (a := l) (b := x)
          show (if nI (scN D p x (D 8 p)) < nI (scN D p l (D 8 p)) then _ else if nI (scN D p l (D 8 p)) = nI (scN D p x (D 8 p)) then (f_X5_isAheadByDuties y (nI l) (nI x)).bind _ else _) = _
          by_cases q1 : scN D p x (D 8 p) < scN D p l (D 8 p)
          · rw [if_pos (nI_lt q1 (by omega))]
            simp only [nxt, hcs.mpr (Or.inl q1), if_true]
            rfl
          · rw [if_neg (nI_nlt (Nat.not_lt.mp q1) (by omega))]
            by_cases q2 : scN D p l (D 8 p) = scN D p x (D 8 p)
            · rw [if_pos (by rw [q2]), ahead_eq h.1 hlt hxl, Option.bind_some]
              by_cases q3 : fd l.testBit x.testBit (D 7 0) = some true
              · rw [decide_eq_true q3, if_neg (show ¬ bI true = 0 by decide)]
                simp only [nxt, hcs.mpr (Or.inr ⟨q2, q3⟩), if_true]
                rfl
              · have hn : ¬ 0 < cmpN D p l x := fun e => (hcs.mp e).elim (fun e => q1 e) (fun e => q3 e.2)
                rw [decide_eq_false q3, if_pos (show bI false = 0 from rfl)]
                simp only [nxt, hn, if_false]
            · have hn : ¬ 0 < cmpN D p l x := fun e => (hcs.mp e).elim (fun e => q1 e) (fun e => q2 e.1)
              rw [if_neg (fun e => q2 ((nI_eq (by omega) (by omega)).mp e))]
              simp only [nxt, hn, if_false]
      · have hcd : cand D p (mb b (D 7 1)) left l = false := by simp [cand, hg, c1, ← hd, c2]
        refine ⟨y, y2, y3, y4, ?_⟩
        rw [if_neg (nI_ge (Nat.not_le.mp c2) (by omega)), hcd]
        rfl
  · have hcd : cand D p (mb b (D 7 1)) left l = false := by simp [cand, c1]
    rw [if_neg (fun e => c1 ((andnot0 (by omega)).mp e)), hcd]
    exact ⟨z, hid, hC, h0, rfl⟩
theorem FrC_trans {a b c : St} (h1 : FrC a b) (h2 : FrC b c) : FrC a c := ⟨fun i hi => (h2.1 i hi).trans (h1.1 i hi), fun k hk => (h2.2 k hk).trans (h1.2 k hk)⟩
theorem RWC_fr {y : St} (hv : RWC D z) (h : FrC z y) (hm : D 7 1 ≤ 4) : RWC D y := by
  intro q hq
  rw [h.1 _ (by omega)]
  refine ⟨(hv q hq).1, fun w hw2 => ?_⟩
  rw [h.2 _ (by omega), h.2 _ (by omega)]
  exact (hv q hq).2 w hw2
/-- bestLine(): the best of the lines that keep COVER -/
theorem best_eq (h : OKd D) (hw : OKw D) (hz : RC D z) (hv : RWC D z) (hC : CHI D z) (h0 : knows z 0) {p left b : Nat} (hp : p < D 7 1) (hl : left < 2 ^ D 7 0) (hb : b < 2 ^ D 7 1) (hpb : b.testBit p = false) :
    ∃ y, f_X5_bestLine (nI p) (nI left) (nI b) z = some (nI ((pkN D p (mb b (D 7 1)) left (2 ^ D 7 0)).getD 0), y) ∧ FrC z y ∧ CHI D y ∧ knows y 0 := by
  have h9 := pow9 h.1
  have hm := h.2.1
  have hp4 : 2 ^ D 7 1 ≤ 2 ^ 4 := Nat.pow_le_pow_right (by omega) hm
  have hpp : 2 ^ p < 2 ^ D 7 1 := Nat.pow_lt_pow_right (by omega) hp
  have hbp : b ||| 2 ^ p < 2 ^ D 7 1 := Nat.or_lt_two_pow hb hpp
  obtain ⟨y0, a1, a2, a3, a4⟩ := coverBy_eq h hz hC h0 hbp hl
  have hd : covL (legB D) (mb (b ||| 2 ^ p) (D 7 1)) left = covL (legB D) (p :: mb b (D 7 1)) left := cov_perm (mbR_perm hpb (D 7 1) 0 (by omega) (by omega)) (fun q _ => leg_0 h) left
  unfold f_X5_bestLine
  rw [ck_nI (by omega) (by omega), show (1 : Int32) <<< (nI p &&& 31) = nI (2 ^ p) by rw [L1, nI_shl (s := 1) (by omega) (by omega), Nat.one_mul], nI_or, a1, Option.bind_some, nI_clamp (by omega), hd]
  obtain ⟨b', hb1, hb2, -⟩ := pk_some h (p := p) (ps := mb b (D 7 1)) hl
  obtain ⟨y, c, d⟩ := loopK (N := left + 1) (it := fun f i s => iter (fun _ _ _ _ _ _ _ _ _ => none) f_X5_bestLine_35 f (nI p) (nI left) (nI b) p (nI (covL (legB D) (p :: mb b (D 7 1)) left)) (bsI (pkN D p (mb b (D 7 1)) left i)) (scI D p (pkN D p (mb b (D 7 1)) left i)) (nI i) s)
    (I := fun i s => FrC z s ∧ CHI D s ∧ knows s 0) (K := fun s => some (nI b', s))
    (by
      intro f s hs
      show iter (fun _ _ _ _ _ _ _ _ _ => none) f_X5_bestLine_35 (f + 1) _ _ _ _ _ _ _ _ _ = _
      rw [iter_s, f_X5_bestLine_35.eq_1, if_pos (nI_lt (by omega) (by omega)), ← pk_far (2 ^ D 7 0) (by omega), hb1]
      rfl)
    (by
      intro f i s hi hs
      obtain ⟨y, y1, y2, y3, y4⟩ := best_step h hw (RC_fr hz hs.1) (RWC_fr hv hs.1 hm) hs.2.1 hs.2.2 hp hl hb (show i ≤ left by omega) rfl (iter (fun _ _ _ _ _ _ _ _ _ => none) f_X5_bestLine_35 f) (o := pkN D p (mb b (D 7 1)) left i)
        (fun x hx => Nat.lt_of_lt_of_le (pk_bound hx).1 (by omega))
      show ∃ s', _ ∧ iter (fun _ _ _ _ _ _ _ _ _ => none) f_X5_bestLine_35 (f + 1) _ _ _ _ _ _ _ _ _ = _
      rw [iter_s]
      exact ⟨y, ⟨FrC_trans hs.1 y1, y2, y3⟩, y4⟩)
    FU 0 y0 (Nat.zero_le _) (FU_gt (by omega)) ⟨a2, a3, a4⟩
  rw [hb1]
  exact ⟨y, d, c.1, c.2.1, c.2.2⟩
end BEST
