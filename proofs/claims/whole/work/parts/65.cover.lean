section WHOLE
variable {D : Dt} {z : St}
def whF (D : Dt) (p : Nat) (ps : List Nat) (s r : Nat) : Bool := legB D p (s ^^^ r) && decide (covL (legB D) ps r = popN r)
theorem sub_xor {s r : Nat} (h : r &&& s = r) : s ^^^ (s &&& r) = s ^^^ r := by rw [Nat.and_comm, h]
theorem xor_sub {s r : Nat} (h : r &&& s = r) : (s ^^^ r) &&& s = s ^^^ r := sub_iff.mpr (fun i hi => by
  rw [xor_bit h, Bool.and_eq_true] at hi
  exact hi.1)
theorem whole_16 (h : OKd D) (hL : ∀ q, q < 2 ^ D 7 0 → z.2 6 q = nI (Lm D q)) {p s gb : Nat} {ps : List Nat} (hp : p < D 7 1) (hs : s < 2 ^ D 7 0) (hg : gb < 16)
    (hB : ∀ t, t < 2 ^ D 7 0 → z.2 7 (512 * gb + t) = nI (covL (legB D) ps t)) :
    ∀ c r f, r < c → r < f → r &&& s = r → iter (fun _ _ _ _ => none) (f_X0_isCoveredWhole_16 z) f (nI p) (nI s) (nI (512 * gb)) (nI r) = some (bI ((chain s c r).any (whF D p ps s))) := by
  have h9 := pow9 h.1
  intro c
  induction c with
  | zero => intro r f hr; omega
  | succ c ih =>
    intro r f hr hf hrs
    obtain ⟨f, rfl⟩ : ∃ q, f = q + 1 := ⟨f - 1, by omega⟩
    have hr5 : r ≤ s := by
      have : r &&& s ≤ s := Nat.and_le_right
      omega
    rw [iter_s, f_X0_isCoveredWhole_16.eq_1]
    by_cases e : r = 0
    · subst e
      rw [if_pos (show nI 0 ≤ (0 : Int32) by decide), isLegal_eq h hL hp hs, Option.bind_some, bz_bI]
      have ec : chain s (c + 1) 0 = [0] := rfl
      have e0 : covL (legB D) ps 0 = popN 0 := by
        have := cov_le (lg := legB D) (ps := ps) (s := 0)
        have := popN_0
        omega
      rw [ec]
      simp [whF, e0]
    · obtain ⟨q, rfl⟩ : ∃ q, r = q + 1 := ⟨r - 1, by omega⟩
      have hx : s ^^^ (q + 1) < 2 ^ D 7 0 := Nat.xor_lt_two_pow hs (by omega)
      have hle : q &&& s ≤ q := Nat.and_le_left
      have hc : covL (legB D) ps (q + 1) ≤ 9 := Nat.le_trans cov_le (popN_le _)
      have hpp := popN_le (q + 1)
      have ec : chain s (c + 1) (q + 1) = (q + 1) :: chain s c (q &&& s) := by
        show (q + 1) :: (if q + 1 = 0 then [] else chain s c ((q + 1 - 1) &&& s)) = _
        rw [if_neg e, Nat.add_sub_cancel]
      have hnext := ih (q &&& s) f (by omega) (by omega) (by rw [Nat.and_assoc, Nat.and_self])
      rw [if_neg (nI_nle (by omega) (by omega)), nI_andnot, sub_xor hrs, isLegal_eq h hL hp hx, Option.bind_some, nI_add, ck_nI (by omega) (by omega), nI_clamp (by omega), hB _ (by omega), bitCount_eq (by omega), Option.bind_some, pop_14 (by omega)]
      unfold f_X0_isCoveredWhole_55
      rw [nI_pred, nI_and, hnext, ec, List.any_cons]
      unfold whF
      cases hl : legB D p (s ^^^ (q + 1)) with
      | false =>
        rw [if_pos (show bI false = 0 from rfl)]
        rfl
      | true =>
        rw [if_neg (show ¬ bI true = 0 by decide)]
        by_cases c2 : covL (legB D) ps (q + 1) = popN (q + 1)
        · rw [if_pos (show nI (covL (legB D) ps (q + 1)) = nI (popN (q + 1)) by rw [c2]), decide_eq_true c2]
          rfl
        · rw [if_neg (fun e => c2 ((nI_eq (by omega) (by omega)).mp e)), decide_eq_false c2]
          rfl
theorem whole_eq (h : OKd D) (hL : ∀ q, q < 2 ^ D 7 0 → z.2 6 q = nI (Lm D q)) {p s g gb : Nat} {ps : List Nat} (hp : p < D 7 1) (hs : s < 2 ^ D 7 0) (hg : g < 16) (hgb : g ^^^ (g &&& 2 ^ p) = gb)
    (hB : ∀ t, t < 2 ^ D 7 0 → z.2 7 (512 * gb + t) = nI (covL (legB D) ps t)) : f_X0_isCoveredWhole z (nI g) (nI p) (nI s) = some (bI (decide (covL (legB D) (p :: ps) s = popN s))) := by
  have h9 := pow9 h.1
  have hm := h.2.1
  have hp2 : 2 ^ p ≤ 2 ^ 4 := Nat.pow_le_pow_right (by omega) (by omega)
  have hgb16 : gb < 16 := by
    rw [← hgb]
    have h1 : g &&& 2 ^ p ≤ g := Nat.and_le_left
    have := Nat.xor_lt_two_pow (x := g) (y := g &&& 2 ^ p) (n := 4) (by omega) (by omega)
    omega
  unfold f_X0_isCoveredWhole l_X0_isCoveredWhole_16
  rw [show (1 : Int32) <<< (nI p &&& 31) = nI (2 ^ p) by rw [L1, nI_shl (s := 1) (by omega) (by omega), Nat.one_mul], nI_andnot, hgb, L512, pk_mul, Nat.mul_comm gb 512,
    whole_16 h hL hp hs hgb16 hB 513 s FU (by omega) (FU_gt (by omega)) (Nat.and_self s), chain_subs s (by omega)]
  congr 2
  apply Bool.eq_iff_iff.mpr
  rw [List.any_eq_true, decide_eq_true_eq, cov_whole (leg_0 h)]
  constructor
  · rintro ⟨r, h1, h2⟩
    have hr := mem_subs.mp h1
    unfold whF at h2
    rw [Bool.and_eq_true, decide_eq_true_eq] at h2
    refine ⟨s ^^^ r, xor_sub hr, h2.1, ?_⟩
    rw [← Nat.xor_assoc, Nat.xor_self, Nat.zero_xor]
    exact h2.2
  · rintro ⟨l, a, b, e⟩
    refine ⟨s ^^^ l, mem_subs.mpr (xor_sub a), ?_⟩
    unfold whF
    rw [← Nat.xor_assoc, Nat.xor_self, Nat.zero_xor, b, decide_eq_true e]
    rfl
def FI (D : Dt) (z : St) (g : Nat) (ps : List Nat) (s : Nat) (y : St) : Prop := y.1 = z.1 ∧ (∀ k, k ≠ 7 → y.2 k = z.2 k) ∧ (∀ q t, q ≠ g → t < 512 → y.2 7 (512 * q + t) = z.2 7 (512 * q + t)) ∧
  ∀ t, t < s → t < 2 ^ D 7 0 → y.2 7 (512 * g + t) = nI (covL (legB D) ps t)
theorem FI_step (h : OKd D) {g s : Nat} {ps : List Nat} {y : St} (hs : s < 2 ^ D 7 0) (hI : FI D z g ps s y) {v : Int32} (hv : v = nI (covL (legB D) ps s)) : FI D z g ps (s + 1) (pA y 7 (512 * g + s) v) := by
  have h9 := pow9 h.1
  refine ⟨hI.1, fun k hk => by rw [pA_row hk]; exact hI.2.1 k hk, fun q t hq ht => ?_, fun t ht ht2 => ?_⟩
  · rw [pA_ne (by omega)]; exact hI.2.2.1 q t hq ht
  · by_cases e : t = s
    · subst e; rw [pA_at]; exact hv
    · rw [pA_ne (by omega)]; exact hI.2.2.2 t (by omega) ht2
theorem fill_eq (h : OKd D) (hz : RC D z) (hL : ∀ q, q < 2 ^ D 7 0 → z.2 6 q = nI (Lm D q)) {p g gb : Nat} {ps : List Nat} (hp : p < D 7 1) (hg : g < 16) (hgb : g ^^^ (g &&& 2 ^ p) = gb) (hne : gb ≠ g)
    (hB : ∀ t, t < 2 ^ D 7 0 → z.2 7 (512 * gb + t) = nI (covL (legB D) ps t)) (h0 : z.2 7 (512 * g) = 0) :
    ∃ y, f_X0_fillCovers (nI g) (nI p) z = some y ∧ FI D z g (p :: ps) (2 ^ D 7 0) y := by
  have h9 := pow9 h.1
  have hpos : 0 < 2 ^ D 7 0 := Nat.two_pow_pos _
  unfold f_X0_fillCovers l_X0_fillCovers_9
  rw [L512, pk_mul, Nat.mul_comm g 512, L1]
  obtain ⟨y, c, d⟩ := loopK (N := 2 ^ D 7 0 - 1) (it := fun f i s => iter (fun _ _ _ _ _ => none) f_X0_fillCovers_9 f (nI g) (nI p) (nI (512 * g)) (nI (i + 1)) s) (I := fun i s => FI D z g (p :: ps) (i + 1) s) (K := fun s => some s)
    (by
      intro f s hs
      have hzs : RC D s := RC_of hz (fun i _ _ => by rw [hs.1]) (fun k hk => hs.2.1 k (by omega))
      show iter (fun _ _ _ _ _ => none) f_X0_fillCovers_9 (f + 1) _ _ _ _ _ = _
      rw [iter_s, f_X0_fillCovers_9.eq_1, allC_eq h hzs, Option.bind_some, if_pos (nI_lt (by omega) (by omega))])
    (by
      intro f i s hi hs
      have hzs : RC D s := RC_of hz (fun i _ _ => by rw [hs.1]) (fun k hk => hs.2.1 k (by omega))
      have hB' : ∀ t, t < 2 ^ D 7 0 → s.2 7 (512 * gb + t) = nI (covL (legB D) ps t) := fun t ht => by rw [hs.2.2.1 gb t hne (by omega)]; exact hB t ht
      have hL' : ∀ q, q < 2 ^ D 7 0 → s.2 6 q = nI (Lm D q) := fun q hq => by rw [hs.2.1 6 (by omega)]; exact hL q hq
      have hrec := cov_rec h (ps := p :: ps) (s := i + 1) (by omega) (by omega)
      have hpn := popN_le (i + 1)
      have hpp : 0 < popN (i + 1) := (popN_pos (by omega)).mpr (by omega)
      have hmx : mxN (olF D (p :: ps) (i + 1)) (D 7 0) ≤ 9 := mxN_le (fun j _ => by
        unfold olF
        split
        · exact Nat.le_trans cov_le (popN_le _)
        · omega)
      show ∃ s', _ ∧ iter (fun _ _ _ _ _ => none) f_X0_fillCovers_9 (f + 1) _ _ _ _ _ = _
      rw [iter_s, f_X0_fillCovers_9.eq_1, allC_eq h hzs, Option.bind_some, if_neg (nI_nlt (by omega) (by omega)), bitCount_eq (by omega), Option.bind_some, pop_14 (by omega),
        oneLess_eq h hzs hg (by omega) (fun t ht => hs.2.2.2 t ht (by omega)), Option.bind_some, whole_eq h hL' hp (by omega) hg hgb hB', Option.bind_some, L1, pk_sub (by omega)]
      unfold f_X0_fillCovers_62
      rw [nI_add, ck_nI (by omega) (by omega), ck_nI (by omega) (by omega), nI_clamp (by omega), nI_1]
      by_cases c1 : mxN (olF D (p :: ps) (i + 1)) (D 7 0) = popN (i + 1) - 1
      · rw [if_pos (show nI (mxN (olF D (p :: ps) (i + 1)) (D 7 0)) = nI (popN (i + 1) - 1) by rw [c1])]
        by_cases c2 : covL (legB D) (p :: ps) (i + 1) = popN (i + 1)
        · rw [decide_eq_true c2, if_neg (show ¬ bI true = 0 by decide), if_neg (show ¬ nI 1 = 0 by decide)]
          exact ⟨_, FI_step h (by omega) hs (by rw [c2]), rfl⟩
        · rw [decide_eq_false c2, if_pos (show bI false = 0 from rfl), if_pos (show (0 : Int32) = 0 from rfl)]
          rw [if_neg (fun e => c2 e.2)] at hrec
          exact ⟨_, FI_step h (by omega) hs (by rw [hrec]), rfl⟩
      · rw [if_neg (show ¬ nI (mxN (olF D (p :: ps) (i + 1)) (D 7 0)) = nI (popN (i + 1) - 1) from fun e => c1 ((nI_eq (by omega) (by omega)).mp e)), if_pos (show (0 : Int32) = 0 from rfl)]
        rw [if_neg (fun e => c1 e.1)] at hrec
        exact ⟨_, FI_step h (by omega) hs (by rw [hrec]), rfl⟩)
    FU 0 z (Nat.zero_le _) (FU_gt (by omega)) ⟨rfl, fun _ _ => rfl, fun _ _ _ _ => rfl, fun t ht _ => by
      have : t = 0 := by omega
      subst this
      have e0 : covL (legB D) (p :: ps) 0 = 0 := by
        have := cov_le (lg := legB D) (ps := p :: ps) (s := 0)
        have := popN_0
        omega
      rw [e0, Nat.add_zero]; exact h0⟩
  refine ⟨y, d, c.1, c.2.1, c.2.2.1, fun t ht ht2 => c.2.2.2 t (by omega) ht2⟩
end WHOLE
