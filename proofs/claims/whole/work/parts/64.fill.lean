/-- the greatest of some -/
def mxN (f : Nat → Nat) : Nat → Nat
  | 0 => 0
  | n + 1 => max (mxN f n) (f n)
theorem mxN_ge {f : Nat → Nat} {n i : Nat} (h : i < n) : f i ≤ mxN f n := by
  induction n with
  | zero => omega
  | succ n ih =>
    unfold mxN
    by_cases e : i = n
    · subst e; omega
    · have := ih (by omega); omega
theorem mxN_le {f : Nat → Nat} {n b : Nat} (h : ∀ i, i < n → f i ≤ b) : mxN f n ≤ b := by
  induction n with
  | zero => exact Nat.zero_le _
  | succ n ih =>
    unfold mxN
    have h1 := h n (by omega)
    have h2 := ih (fun i hi => h i (by omega))
    omega
section FILL
variable {D : Dt} {z : St}
def olF (D : Dt) (ps : List Nat) (s d : Nat) : Nat := if s.testBit d then covL (legB D) ps (s ^^^ 2 ^ d) else 0
theorem bit_and {s d : Nat} (h : s.testBit d = true) : s &&& 2 ^ d = 2 ^ d := by
  apply Nat.eq_of_testBit_eq
  intro i
  rw [Nat.testBit_and, Nat.testBit_two_pow]
  by_cases e : d = i
  · subst e; simp [h]
  · simp [e]
theorem less_lt {s d n : Nat} (hs : s < 2 ^ n) (h : s.testBit d = true) : s ^^^ 2 ^ d < s := by
  have h1 := less_sub h
  have h2 : (s ^^^ 2 ^ d) &&& s ≤ s := Nat.and_le_right
  have h3 : s ^^^ 2 ^ d ≠ s := by
    intro e
    have : (s ^^^ 2 ^ d).testBit d = s.testBit d := by rw [e]
    rw [less_bit h, h] at this
    simp at this
  omega
theorem oneLess_eq (h : OKd D) (hz : RC D z) {g s : Nat} {ps : List Nat} (hg : g < 16) (hs : s < 2 ^ D 7 0) (hB : ∀ t, t < s → z.2 7 (512 * g + t) = nI (covL (legB D) ps t)) :
    f_X0_bestWithOneLess z (nI (512 * g)) (nI s) = some (nI (mxN (olF D ps s) (D 7 0))) := by
  have hn := h.1
  have h9 := pow9 hn
  have e0 := hz.1.1
  have b9 : ∀ i, mxN (olF D ps s) i ≤ 9 := fun i => mxN_le (fun j _ => by
    unfold olF
    split
    · exact Nat.le_trans cov_le (popN_le _)
    · omega)
  have st : ∀ (k : Int32 → Int32 → Int32 → Int32 → Option Int32) (i v : Nat), i < D 7 0 → v ≤ 9 → f_X0_bestWithOneLess_5 z k (nI (512 * g)) (nI s) (nI v) (nI i) = k (nI (512 * g)) (nI s) (nI (max v (olF D ps s i))) (nI (i + 1)) := by
    intro k i v hi hv
    have hp : 2 ^ i ≤ 2 ^ 9 := Nat.pow_le_pow_right (by omega) (by omega)
    rw [f_X0_bestWithOneLess_5.eq_1, e0, if_neg (nI_ge hi (by omega)), isIn_eq (by omega) (by omega), Option.bind_some, nI_1, show (1 : Int32) <<< (nI i &&& 31) = nI (2 ^ i) by rw [L1, nI_shl (s := 1) (by omega) (by omega), Nat.one_mul]]
    unfold olF
    cases hb : s.testBit i with
    | false =>
      rw [if_pos (show bI false = 0 from rfl)]
      simp
    | true =>
      have hlt := less_lt hs hb
      have hc : covL (legB D) ps (s ^^^ 2 ^ i) ≤ 9 := Nat.le_trans cov_le (popN_le _)
      rw [if_neg (show ¬ bI true = 0 by decide), nI_andnot, bit_and hb, nI_add, ck_nI (by omega) (by omega), nI_clamp (by omega), hB _ hlt]
      simp only [if_true]
      by_cases c : v < covL (legB D) ps (s ^^^ 2 ^ i)
      · rw [if_pos (nI_lt c (by omega)), Nat.max_eq_right (by omega)]
      · rw [if_neg (nI_nlt (Nat.not_lt.mp c) (by omega)), Nat.max_eq_left (by omega)]
  unfold f_X0_bestWithOneLess l_X0_bestWithOneLess_5
  refine loopP (N := D 7 0) (it := fun f i => iter (fun _ _ _ _ => none) (f_X0_bestWithOneLess_5 z) f (nI (512 * g)) (nI s) (nI (mxN (olF D ps s) i)) (nI i)) ?_ (fun f i hi => by rw [iter_s]; exact st _ i _ hi (b9 i)) FU (FU_gt (by omega))
  intro f
  rw [iter_s, f_X0_bestWithOneLess_5.eq_1, e0, if_pos (nI_le (Nat.le_refl _) (by omega))]
/-- COVER, as the component reckons it -/
theorem cov_rec (h : OKd D) {ps : List Nat} {s : Nat} (hs : s < 2 ^ D 7 0) (h0 : s ≠ 0) :
    covL (legB D) ps s = if mxN (olF D ps s) (D 7 0) = popN s - 1 ∧ covL (legB D) ps s = popN s then popN s else mxN (olF D ps s) (D 7 0) := by
  have h9 := pow9 h.1
  have hl0 : ∀ p, p ∈ ps → legB D p 0 = true := fun p _ => leg_0 h
  have hld : ∀ p, p ∈ ps → ∀ l d, l < 512 → l.testBit d = true → legB D p l = true → legB D p (l ^^^ 2 ^ d) = true := fun p _ l d _ hb hl => leg_mono (less_sub hb) hl
  have hbit : ∀ d, s.testBit d = true → d < D 7 0 := by
    intro d hd
    rcases Nat.lt_or_ge d (D 7 0) with q | q
    · exact q
    · rw [Nat.testBit_lt_two_pow (Nat.lt_of_lt_of_le hs (Nat.pow_le_pow_right (by omega) q))] at hd; cases hd
  have hup : mxN (olF D ps s) (D 7 0) ≤ popN s - 1 := mxN_le (fun d _ => by
    unfold olF
    split
    · rename_i hb
      have h1 := popN_less (by omega) hb
      have h2 := cov_le (lg := legB D) (ps := ps) (s := s ^^^ 2 ^ d)
      omega
    · omega)
  by_cases c : covL (legB D) ps s = popN s
  · have hpos := (popN_pos (by omega : s < 512)).mpr h0
    obtain ⟨d, hd⟩ := Nat.exists_testBit_of_ne_zero h0
    have h1 := cov_less hl0 hld (by omega) hd c
    have h2 := popN_less (by omega) hd
    have h3 := mxN_ge (f := olF D ps s) (hbit d hd)
    have h4 : olF D ps s d = covL (legB D) ps (s ^^^ 2 ^ d) := by unfold olF; rw [if_pos hd]
    rw [if_pos ⟨by omega, c⟩]
    exact c
  · rw [if_neg (fun e => c e.2)]
    have hlt : covL (legB D) ps s < popN s := by
      have := cov_le (lg := legB D) (ps := ps) (s := s)
      omega
    obtain ⟨d, d1, d2, d3⟩ := cov_drop hl0 (by omega) hlt
    have h3 := mxN_ge (f := olF D ps s) (hbit d d2)
    have h4 : olF D ps s d = covL (legB D) ps (s ^^^ 2 ^ d) := by unfold olF; rw [if_pos d2]
    have h5 : mxN (olF D ps s) (D 7 0) ≤ covL (legB D) ps s := mxN_le (fun e _ => by
      unfold olF
      split
      · rename_i hb
        exact cov_mono hl0 (less_sub hb)
      · omega)
    omega
end FILL
