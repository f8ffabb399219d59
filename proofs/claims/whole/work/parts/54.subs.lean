/-- how many bits -/
def popN (l : Nat) : Nat := sumN (fun d => if l.testBit d then 1 else 0) 9
/-- the parts of a set, the greatest first -/
def subs (s : Nat) : List Nat := ((List.range (s + 1)).reverse).filter (fun l => l &&& s == l)
/-- the chain of parts as the loops take them -/
def chain (s : Nat) : Nat → Nat → List Nat
  | 0, _ => []
  | f + 1, l => l :: (if l = 0 then [] else chain s f ((l - 1) &&& s))
theorem chain_subs : ∀ s, s < 512 → chain s 513 s = subs s := by
  have h : (List.range 512).all (fun s => decide (chain s 513 s = subs s)) = true := by decide +kernel
  intro s hs
  exact of_decide_eq_true (List.all_eq_true.mp h s (List.mem_range.mpr hs))
theorem mem_subs {s l : Nat} : l ∈ subs s ↔ l &&& s = l := by
  unfold subs
  rw [List.mem_filter, List.mem_reverse, List.mem_range]
  constructor
  · intro h; exact of_decide_eq_true (by simpa using h.2)
  · intro h
    refine ⟨?_, by simpa using h⟩
    have : l &&& s ≤ s := Nat.and_le_right
    omega
theorem sub_iff {s l : Nat} : l &&& s = l ↔ ∀ i, l.testBit i = true → s.testBit i = true := by
  constructor
  · intro h i hi
    rw [← h, Nat.testBit_and, Bool.and_eq_true] at hi
    exact hi.2
  · intro h
    apply Nat.eq_of_testBit_eq
    intro i
    rw [Nat.testBit_and]
    cases hl : l.testBit i with
    | false => simp
    | true => rw [h i hl]; rfl
theorem bit9 {l i : Nat} (hl : l < 512) (hi : 9 ≤ i) : l.testBit i = false := Nat.testBit_lt_two_pow (Nat.lt_of_lt_of_le hl (show 512 ≤ 2 ^ i by
  have : 2 ^ 9 ≤ 2 ^ i := Nat.pow_le_pow_right (by omega) hi
  omega))
theorem lt512 {l : Nat} (h : ∀ i, 9 ≤ i → l.testBit i = false) : l < 512 := by
  have : l < 2 ^ 9 := Nat.lt_pow_two_of_testBit l (fun i hi => h i hi)
  omega
theorem sub_lt {s l : Nat} (h : l &&& s = l) (hs : s < 512) : l < 512 := by
  have : l &&& s ≤ s := Nat.and_le_right
  omega
theorem xor_lt {a b : Nat} (ha : a < 512) (hb : b < 512) : a ^^^ b < 512 := by
  have := Nat.xor_lt_two_pow (x := a) (y := b) (n := 9) (by omega) (by omega)
  omega
theorem and_lt {a b : Nat} (ha : a < 512) : a &&& b < 512 := by
  have : a &&& b ≤ a := Nat.and_le_left
  omega
theorem popN_add {l s : Nat} (h : l &&& s = l) : popN l + popN (s ^^^ l) = popN s := by
  unfold popN
  have key : ∀ n, sumN (fun d => if l.testBit d then 1 else 0) n + sumN (fun d => if (s ^^^ l).testBit d then 1 else 0) n = sumN (fun d => if s.testBit d then 1 else 0) n := by
    intro n
    induction n with
    | zero => rfl
    | succ n ih =>
      simp only [sumN, Nat.testBit_xor] at *
      have := sub_iff.mp h n
      cases hl : l.testBit n <;> cases hs : s.testBit n <;> simp [hl, hs] at * <;> omega
  exact key 9
theorem popN_le (l : Nat) : popN l ≤ 9 := by
  have := sumN_le (f := fun d => if l.testBit d then 1 else 0) (n := 9) (b := 1) (fun i _ => by split <;> omega)
  unfold popN; omega
theorem popN_0 : popN 0 = 0 := by decide
theorem popN_pos {l : Nat} (hl : l < 512) : 0 < popN l ↔ l ≠ 0 := by
  have h : (List.range 512).all (fun s => decide (0 < popN s ↔ s ≠ 0)) = true := by decide +kernel
  exact of_decide_eq_true (List.all_eq_true.mp h l (List.mem_range.mpr hl))
theorem popN_mono {l s : Nat} (h : l &&& s = l) : popN l ≤ popN s := by
  have := popN_add h; omega
/-- the greatest of a list's values -/
def maxL (F : Nat → Nat) : List Nat → Nat
  | [] => 0
  | x :: xs => max (F x) (maxL F xs)
theorem maxL_ge {F : Nat → Nat} {xs : List Nat} {x : Nat} (h : x ∈ xs) : F x ≤ maxL F xs := by
  induction xs with
  | nil => cases h
  | cons y ys ih =>
    unfold maxL
    rcases List.mem_cons.mp h with e | e
    · subst e; omega
    · have := ih e; omega
theorem maxL_le {F : Nat → Nat} {xs : List Nat} {b : Nat} (h : ∀ x, x ∈ xs → F x ≤ b) : maxL F xs ≤ b := by
  induction xs with
  | nil => exact Nat.zero_le _
  | cons y ys ih =>
    unfold maxL
    have h1 := h y List.mem_cons_self
    have h2 := ih (fun x hx => h x (List.mem_cons_of_mem _ hx))
    omega
theorem maxL_at {F : Nat → Nat} {xs : List Nat} (h : xs ≠ []) : ∃ x, x ∈ xs ∧ maxL F xs = F x := by
  induction xs with
  | nil => exact absurd rfl h
  | cons y ys ih =>
    by_cases e : ys = []
    · subst e
      exact ⟨y, List.mem_cons_self, by simp [maxL]⟩
    · obtain ⟨x, h1, h2⟩ := ih e
      unfold maxL
      by_cases c : F y ≤ maxL F ys
      · exact ⟨x, List.mem_cons_of_mem _ h1, by rw [Nat.max_eq_right c, h2]⟩
      · exact ⟨y, List.mem_cons_self, by rw [Nat.max_eq_left (by omega)]⟩
theorem maxL_congr {F G : Nat → Nat} {xs : List Nat} (h : ∀ x, x ∈ xs → F x = G x) : maxL F xs = maxL G xs := by
  induction xs with
  | nil => rfl
  | cons y ys ih =>
    unfold maxL
    rw [h y List.mem_cons_self, ih (fun x hx => h x (List.mem_cons_of_mem _ hx))]
/-- COVER of a set by people in a list; lg p l: is line l legal for p -/
def covL (lg : Nat → Nat → Bool) : List Nat → Nat → Nat
  | [], _ => 0
  | p :: ps, s => maxL (fun l => if lg p l then popN l + covL lg ps (s ^^^ l) else 0) (subs s)
theorem subs_ne (s : Nat) : subs s ≠ [] := by
  intro h
  have : 0 ∈ subs s := mem_subs.mpr (by simp)
  rw [h] at this
  cases this
section COV
variable {lg : Nat → Nat → Bool}
theorem cov_ge {p : Nat} {ps : List Nat} {s l : Nat} (h : l &&& s = l) (hl : lg p l = true) : popN l + covL lg ps (s ^^^ l) ≤ covL lg (p :: ps) s := by
  have := maxL_ge (F := fun l => if lg p l then popN l + covL lg ps (s ^^^ l) else 0) (mem_subs.mpr h)
  simp only [hl, if_true] at this
  exact this
theorem cov_at {p : Nat} {ps : List Nat} {s : Nat} (h0 : lg p 0 = true) : ∃ l, l &&& s = l ∧ lg p l = true ∧ covL lg (p :: ps) s = popN l + covL lg ps (s ^^^ l) := by
  obtain ⟨x, h1, h2⟩ := maxL_at (F := fun l => if lg p l then popN l + covL lg ps (s ^^^ l) else 0) (subs_ne s)
  have hx := mem_subs.mp h1
  cases hl : lg p x with
  | true =>
    refine ⟨x, hx, hl, ?_⟩
    show maxL _ (subs s) = _
    rw [h2]
    simp [hl]
  | false =>
    refine ⟨0, by simp, h0, ?_⟩
    have h3 : covL lg (p :: ps) s = 0 := by
      show maxL _ (subs s) = _
      rw [h2]
      simp [hl]
    have h4 := cov_ge (lg := lg) (p := p) (ps := ps) (s := s) (l := 0) (by simp) h0
    omega
theorem cov_le {ps : List Nat} : ∀ {s : Nat}, covL lg ps s ≤ popN s := by
  induction ps with
  | nil => intro s; exact Nat.zero_le _
  | cons p ps ih =>
    intro s
    refine maxL_le (fun x hx => ?_)
    have hs := mem_subs.mp hx
    have h1 := popN_add hs
    have h2 := ih (s := s ^^^ x)
    split <;> omega
theorem xor_bit {s l i : Nat} (h : l &&& s = l) : (s ^^^ l).testBit i = (s.testBit i && !l.testBit i) := by
  rw [Nat.testBit_xor]
  have := sub_iff.mp h i
  cases hl : l.testBit i <;> cases hs : s.testBit i <;> simp_all
theorem cov_swap {p q : Nat} {ps : List Nat} (hp : lg p 0 = true) (hq : lg q 0 = true) (s : Nat) : covL lg (p :: q :: ps) s ≤ covL lg (q :: p :: ps) s := by
  obtain ⟨l1, a1, b1, e1⟩ := cov_at (ps := q :: ps) (s := s) hp
  obtain ⟨l2, a2, b2, e2⟩ := cov_at (ps := ps) (s := s ^^^ l1) hq
  have s2 : l2 &&& s = l2 := sub_iff.mpr (fun i hi => by
    have := sub_iff.mp a2 i hi
    rw [xor_bit a1, Bool.and_eq_true] at this
    exact this.1)
  have s1 : l1 &&& (s ^^^ l2) = l1 := sub_iff.mpr (fun i hi => by
    rw [xor_bit s2, sub_iff.mp a1 i hi]
    cases h2 : l2.testBit i with
    | false => rfl
    | true =>
      have := sub_iff.mp a2 i h2
      rw [xor_bit a1, hi] at this
      simp at this)
  have g1 := cov_ge (lg := lg) (ps := p :: ps) s2 b2
  have g2 := cov_ge (lg := lg) (ps := ps) s1 b1
  have e3 : s ^^^ l2 ^^^ l1 = s ^^^ l1 ^^^ l2 := by rw [Nat.xor_assoc, Nat.xor_comm l2 l1, ← Nat.xor_assoc]
  rw [e3] at g2
  omega
theorem cov_perm {a b : List Nat} (h : List.Perm a b) (h0 : ∀ p, p ∈ a → lg p 0 = true) : ∀ s, covL lg a s = covL lg b s := by
  induction h with
  | nil => intro s; rfl
  | cons x _ ih =>
    intro s
    refine maxL_congr (fun l _ => ?_)
    rw [ih (fun p hp => h0 p (List.mem_cons_of_mem _ hp))]
  | swap x y l =>
    intro s
    have hx := h0 x (List.mem_cons_of_mem _ List.mem_cons_self)
    have hy := h0 y List.mem_cons_self
    exact Nat.le_antisymm (cov_swap hy hx s) (cov_swap hx hy s)
  | trans h1 _ ih1 ih2 =>
    intro s
    rw [ih1 h0 s, ih2 (fun p hp => h0 p (h1.mem_iff.mpr hp)) s]
/-- all of a set can be given -/
theorem cov_whole {p : Nat} {ps : List Nat} {s : Nat} (h0 : lg p 0 = true) : covL lg (p :: ps) s = popN s ↔ ∃ l, l &&& s = l ∧ lg p l = true ∧ covL lg ps (s ^^^ l) = popN (s ^^^ l) := by
  constructor
  · intro h
    obtain ⟨l, a, b, e⟩ := cov_at (ps := ps) (s := s) h0
    refine ⟨l, a, b, ?_⟩
    have := popN_add a
    omega
  · rintro ⟨l, a, b, e⟩
    have h1 := cov_ge (lg := lg) (ps := ps) a b
    have h2 := popN_add a
    have h3 := cov_le (lg := lg) (ps := p :: ps) (s := s)
    omega
/-- s without duty d -/
theorem less_bit {s d i : Nat} (hd : s.testBit d = true) : (s ^^^ 2 ^ d).testBit i = (s.testBit i && !decide (i = d)) := by
  rw [Nat.testBit_xor, Nat.testBit_two_pow]
  by_cases e : d = i
  · subst e; simp [hd]
  · simp [e, Ne.symm e]
theorem less_sub {s d : Nat} (hd : s.testBit d = true) : (s ^^^ 2 ^ d) &&& s = s ^^^ 2 ^ d := sub_iff.mpr (fun i hi => by
  rw [less_bit hd, Bool.and_eq_true] at hi
  exact hi.1)
theorem popN_less {s d : Nat} (hs : s < 512) (hd : s.testBit d = true) : popN (s ^^^ 2 ^ d) + 1 = popN s := by
  have hd9 : d < 9 := by
    rcases Nat.lt_or_ge d 9 with h | h
    · exact h
    · rw [bit9 hs h] at hd; cases hd
  have h2 : 2 ^ d &&& s = 2 ^ d := sub_iff.mpr (fun i hi => by
    rw [Nat.testBit_two_pow] at hi
    have : d = i := by simpa using hi
    rw [← this]; exact hd)
  have h1 := popN_add h2
  have h3 : popN (2 ^ d) = 1 := by
    have h : (List.range 9).all (fun d => decide (popN (2 ^ d) = 1)) = true := by decide
    exact of_decide_eq_true (List.all_eq_true.mp h d (List.mem_range.mpr hd9))
  omega
theorem cov_mono {ps : List Nat} (h0 : ∀ p, p ∈ ps → lg p 0 = true) : ∀ {s t : Nat}, t &&& s = t → covL lg ps t ≤ covL lg ps s := by
  induction ps with
  | nil => intro s t _; exact Nat.le_refl _
  | cons p ps ih =>
    intro s t hts
    obtain ⟨l, a, b, e⟩ := cov_at (ps := ps) (s := t) (h0 p List.mem_cons_self)
    have hls : l &&& s = l := sub_iff.mpr (fun i hi => sub_iff.mp hts i (sub_iff.mp a i hi))
    have g := cov_ge (lg := lg) (ps := ps) hls b
    have g2 := ih (fun q hq => h0 q (List.mem_cons_of_mem _ hq)) (s := s ^^^ l) (t := t ^^^ l) (sub_iff.mpr (fun i hi => by
      rw [xor_bit a, Bool.and_eq_true] at hi
      rw [xor_bit hls, Bool.and_eq_true]
      exact ⟨sub_iff.mp hts i hi.1, hi.2⟩))
    omega
/-- if not all of a set can be given, one of it can be left out -/
theorem cov_drop {ps : List Nat} (h0 : ∀ p, p ∈ ps → lg p 0 = true) : ∀ {s : Nat}, s < 512 → covL lg ps s < popN s → ∃ d, d < 9 ∧ s.testBit d = true ∧ covL lg ps s ≤ covL lg ps (s ^^^ 2 ^ d) := by
  have bit : ∀ {s : Nat}, s < 512 → 0 < popN s → ∃ d, d < 9 ∧ s.testBit d = true := by
    intro s hs h
    unfold popN at h
    obtain ⟨d, h1, h2⟩ := sumN_pos.mp h
    refine ⟨d, h1, ?_⟩
    by_cases c : s.testBit d = true
    · exact c
    · simp [c] at h2
  induction ps with
  | nil =>
    intro s hs h
    obtain ⟨d, h1, h2⟩ := bit hs (by omega)
    exact ⟨d, h1, h2, Nat.le_refl _⟩
  | cons p ps ih =>
    intro s hs h
    obtain ⟨l, a, b, e⟩ := cov_at (ps := ps) (s := s) (h0 p List.mem_cons_self)
    have h1 := popN_add a
    obtain ⟨d, d1, d2, d3⟩ := ih (fun q hq => h0 q (List.mem_cons_of_mem _ hq)) (s := s ^^^ l) (xor_lt hs (sub_lt a hs)) (by omega)
    have d4 := d2
    rw [xor_bit a, Bool.and_eq_true] at d4
    refine ⟨d, d1, d4.1, ?_⟩
    have hl : l &&& (s ^^^ 2 ^ d) = l := sub_iff.mpr (fun i hi => by
      rw [less_bit d4.1, sub_iff.mp a i hi]
      by_cases e : i = d
      · subst e; rw [hi] at d4; simp at d4
      · simp [e])
    have g := cov_ge (lg := lg) (ps := ps) hl b
    have e2 : s ^^^ 2 ^ d ^^^ l = s ^^^ l ^^^ 2 ^ d := by rw [Nat.xor_assoc, Nat.xor_comm (2 ^ d) l, ← Nat.xor_assoc]
    rw [e2] at g
    omega
/-- with lines that stay legal with a duty less: what can be given whole can be without one -/
theorem cov_less {ps : List Nat} (h0 : ∀ p, p ∈ ps → lg p 0 = true) (hd : ∀ p, p ∈ ps → ∀ l d, l < 512 → l.testBit d = true → lg p l = true → lg p (l ^^^ 2 ^ d) = true) :
    ∀ {s d : Nat}, s < 512 → s.testBit d = true → covL lg ps s = popN s → covL lg ps (s ^^^ 2 ^ d) = popN (s ^^^ 2 ^ d) := by
  induction ps with
  | nil =>
    intro s d hs hb h
    have := popN_less hs hb
    have h2 : covL lg [] s = 0 := rfl
    omega
  | cons p ps ih =>
    intro s d hs hb h
    obtain ⟨l, a, b, e⟩ := (cov_whole (h0 p List.mem_cons_self)).mp h
    refine (cov_whole (h0 p List.mem_cons_self)).mpr ?_
    by_cases c : l.testBit d = true
    · refine ⟨l ^^^ 2 ^ d, ?_, hd p List.mem_cons_self l d (sub_lt a hs) c b, ?_⟩
      · exact sub_iff.mpr (fun i hi => by
          rw [less_bit c, Bool.and_eq_true] at hi
          rw [less_bit hb, sub_iff.mp a i hi.1, hi.2]; rfl)
      · have e2 : s ^^^ 2 ^ d ^^^ (l ^^^ 2 ^ d) = s ^^^ l := by
          rw [Nat.xor_comm l, ← Nat.xor_assoc, Nat.xor_assoc s, Nat.xor_self, Nat.xor_zero]
        rw [e2]; exact e
    · have d4 : (s ^^^ l).testBit d = true := by rw [xor_bit a, hb]; simp [c]
      refine ⟨l, ?_, b, ?_⟩
      · exact sub_iff.mpr (fun i hi => by
          rw [less_bit hb, sub_iff.mp a i hi]
          by_cases e : i = d
          · subst e; exact absurd hi c
          · simp [e])
      · have e2 : s ^^^ 2 ^ d ^^^ l = s ^^^ l ^^^ 2 ^ d := by rw [Nat.xor_assoc, Nat.xor_comm (2 ^ d) l, ← Nat.xor_assoc]
        rw [e2]
        exact ih (fun q hq => h0 q (List.mem_cons_of_mem _ hq)) (fun q hq => hd q (List.mem_cons_of_mem _ hq)) (xor_lt hs (sub_lt a hs)) d4 e
end COV
