theorem pA_at {z : St} {k j : Nat} {v : Int32} : (pA z k j v).2 k j = v := by show up2 z.2 k j v k j = v; rw [up2_eq, pk_us]
theorem pA_ne {z : St} {k j i : Nat} {v : Int32} (h : i ≠ j) : (pA z k j v).2 k i = z.2 k i := by show up2 z.2 k j v k i = _; rw [up2_eq, pk_un h]
theorem pA_row {z : St} {k j q : Nat} {v : Int32} (h : q ≠ k) : (pA z k j v).2 q = z.2 q := by show up2 z.2 k j v q = _; rw [up2_ne h]
theorem pA_1 {z : St} {k j : Nat} {v : Int32} : (pA z k j v).1 = z.1 := rfl
theorem pS_at {z : St} {k : Nat} {v : Int32} : (pS z k v).1 k = v := by show upd z.1 k v k = v; rw [pk_us]
theorem pS_ne {z : St} {k i : Nat} {v : Int32} (h : i ≠ k) : (pS z k v).1 i = z.1 i := by show upd z.1 k v i = _; rw [pk_un h]
theorem pS_2 {z : St} {k : Nat} {v : Int32} : (pS z k v).2 = z.2 := rfl
theorem i_andnot (x y : Int32) : x &&& (y ^^^ (-1)) = x ^^^ (x &&& y) := by
  apply Int32.toBitVec_inj.mp
  have e : ((-1 : Int32)).toBitVec = BitVec.allOnes 32 := by decide
  simp only [Int32.toBitVec_and, Int32.toBitVec_xor, e]
  apply BitVec.eq_of_getLsbD_eq
  intro i hi
  simp only [BitVec.getLsbD_and, BitVec.getLsbD_xor, BitVec.getLsbD_allOnes, hi, decide_true]
  cases x.toBitVec.getLsbD i <;> cases y.toBitVec.getLsbD i <;> rfl
theorem nI_andnot (a b : Nat) : nI a &&& (nI b ^^^ (-1)) = nI (a ^^^ (a &&& b)) := by
  rw [i_andnot, nI_and, nI_xor]
theorem andnot0 {a b : Nat} (ha : a < 512) : nI a &&& (nI b ^^^ (-1)) = 0 ↔ a &&& b = a := by
  rw [nI_andnot]
  have h1 : a &&& b < 512 := and_lt ha
  have h2 := xor_lt ha h1
  constructor
  · intro h
    have h3 : a ^^^ (a &&& b) = 0 := (nI_eq (b := 0) (by omega) (by omega)).mp h
    have h4 : a ^^^ (a &&& b) ^^^ (a &&& b) = 0 ^^^ (a &&& b) := by rw [h3]
    rw [Nat.xor_assoc, Nat.xor_self, Nat.xor_zero, Nat.zero_xor] at h4
    exact h4.symm
  · intro h
    rw [h, Nat.xor_self]; rfl
def cand (D : Dt) (p : Nat) (ps : List Nat) (left l : Nat) : Bool := decide (l &&& left = l) && legB D p l && decide (covL (legB D) (p :: ps) left ≤ popN l + covL (legB D) ps (left ^^^ l))
def nxt (D : Dt) (p l : Nat) : Option Nat → Option Nat
  | none => some l
  | some b => if 0 < cmpN D p l b then some l else some b
/-- the best of the lines below l -/
def pkN (D : Dt) (p : Nat) (ps : List Nat) (left : Nat) : Nat → Option Nat
  | 0 => none
  | l + 1 => if cand D p ps left l then nxt D p l (pkN D p ps left l) else pkN D p ps left l
def enc : Option Nat → Int32
  | none => -1
  | some b => nI b
section GIVES
variable {D : Dt} {T : Nat → Nat} {z : St}
theorem pk_bound {p : Nat} {ps : List Nat} {left : Nat} : ∀ {n b : Nat}, pkN D p ps left n = some b → b < n ∧ cand D p ps left b = true := by
  intro n
  induction n with
  | zero => intro b h; cases h
  | succ n ih =>
    intro b h
    unfold pkN at h
    cases hc : cand D p ps left n with
    | false =>
      rw [hc] at h
      simp only [Bool.false_eq_true, if_false] at h
      obtain ⟨h1, h2⟩ := ih h
      exact ⟨by omega, h2⟩
    | true =>
      rw [hc, if_pos rfl] at h
      cases hq : pkN D p ps left n with
      | none =>
        rw [hq] at h
        cases h
        exact ⟨by omega, hc⟩
      | some b' =>
        rw [hq] at h
        obtain ⟨h1, h2⟩ := ih hq
        by_cases c : 0 < cmpN D p n b'
        · simp only [nxt, c, if_true] at h
          cases h
          exact ⟨by omega, hc⟩
        · simp only [nxt, c, if_false] at h
          cases h
          exact ⟨by omega, h2⟩
theorem pk_has {p : Nat} {ps : List Nat} {left l : Nat} (hc : cand D p ps left l = true) : ∀ {n : Nat}, l < n → ∃ b, pkN D p ps left n = some b := by
  intro n
  induction n with
  | zero => intro h; omega
  | succ n ih =>
    intro h
    unfold pkN
    by_cases e : l = n
    · subst e
      rw [hc, if_pos rfl]
      cases pkN D p ps left l with
      | none => exact ⟨l, rfl⟩
      | some b' =>
        by_cases c : 0 < cmpN D p l b'
        · exact ⟨l, by simp [nxt, c]⟩
        · exact ⟨b', by simp [nxt, c]⟩
    · obtain ⟨b, hb⟩ := ih (by omega)
      rw [hb]
      split
      · by_cases c : 0 < cmpN D p n b
        · exact ⟨n, by simp [nxt, c]⟩
        · exact ⟨b, by simp [nxt, c]⟩
      · exact ⟨b, rfl⟩
theorem pk_some (h : OKd D) {p : Nat} {ps : List Nat} {left : Nat} (hl : left < 2 ^ D 7 0) : ∃ b, pkN D p ps left (2 ^ D 7 0) = some b ∧ b &&& left = b ∧ legB D p b = true := by
  obtain ⟨l, a, b, e⟩ := cov_at (lg := legB D) (ps := ps) (s := left) (p := p) (leg_0 h)
  have hlt : l < 2 ^ D 7 0 := by
    have : l &&& left ≤ left := Nat.and_le_right
    omega
  obtain ⟨x, hx⟩ := pk_has (D := D) (p := p) (ps := ps) (left := left) (l := l) (by simp [cand, a, b, e]) hlt
  obtain ⟨h1, h2⟩ := pk_bound hx
  refine ⟨x, hx, ?_, ?_⟩
  · simp only [cand, Bool.and_eq_true, decide_eq_true_eq] at h2; exact h2.1.1
  · simp only [cand, Bool.and_eq_true, decide_eq_true_eq] at h2; exact h2.1.2
theorem cmpN_le (p a b : Nat) : cmpN D p a b ≤ 2 := by
  unfold cmpN
  cases fd (fun w => metB D p w a) (fun w => metB D p w b) (D 8 p) with
  | some x => cases x <;> simp
  | none =>
    cases fd a.testBit b.testBit (D 7 0) with
    | some x => cases x <;> simp
    | none => simp
theorem gives_43s (h : OKd D) (hw : OKw D) {y : St} (hz : RM D y) (hv : RW D y) (hL : LG D y) {k left p : Nat} (hk : k < D 7 1) (hp : p < D 7 1) (hl : left < 2 ^ D 7 0) {ps : List Nat}
    (hB1 : ∀ t, t < 2 ^ D 7 0 → y.2 11 (512 * (k + 1) + t) = nI (covL (legB D) ps t)) (hB0 : y.2 11 (512 * k + left) = nI (covL (legB D) (p :: ps) left)) (k15 : Int32 → Int32 → St → Option St)
    (kk : Int32 → Int32 → Int32 → Int32 → Int32 → St → Option St) {l : Nat} (hlt : l < 2 ^ D 7 0) {o : Option Nat} (ho : ∀ b, o = some b → b < 512) :
    f_X6_gives_43 k15 kk (nI left) (nI k) (nI p) (enc o) (nI l) y =
      kk (nI left) (nI k) (nI p) (enc (if cand D p ps left l then nxt D p l o else o)) (nI (l + 1)) y := by
  have h9 := pow9 h.1
  have hm := h.2.1
  have hx : left ^^^ l < 2 ^ D 7 0 := Nat.xor_lt_two_pow hl hlt
  have hc1 := cov_le (lg := legB D) (ps := ps) (s := left ^^^ l)
  have hc2 := popN_le (left ^^^ l)
  have hc3 := popN_le l
  have hc4 := cov_le (lg := legB D) (ps := p :: ps) (s := left)
  have hc5 := popN_le left
  rw [f_X6_gives_43.eq_1, all_eq h hz.1.1, if_neg (nI_ge hlt (by omega))]
  rw [L512, pk_mul, nI_add, ck_nI (by omega) (by omega), nI_clamp (by omega), hL p l hp hlt, size_eq (by omega)]
  simp only [Option.bind_some]
  rw [nI_1, nI_1, pk_mul, pk_mul, nI_xor, nI_add, nI_add, ck_nI (show 512 * (k + 1) + (left ^^^ l) < 2560 by omega) (by omega), ck_nI (show 512 * k + left < 2560 by omega) (by omega), nI_clamp (show 512 * (k + 1) + (left ^^^ l) < 2 ^ 31 by omega), nI_clamp (show 512 * k + left < 2 ^ 31 by omega), hB1 _ hx, hB0, nI_add]
  unfold cand
  by_cases c1 : l &&& left = l
  · rw [if_pos ((andnot0 (by omega)).mpr c1), decide_eq_true c1]
    cases hg : legB D p l with
    | false =>
      rw [if_pos (show bI false = 0 from rfl)]
      rfl
    | true =>
      rw [if_neg (show ¬ bI true = 0 by decide)]
      by_cases c2 : covL (legB D) (p :: ps) left ≤ popN l + covL (legB D) ps (left ^^^ l)
      · rw [if_pos (nI_le c2 (by omega)), decide_eq_true c2]
        simp only [Bool.and_true, if_true]
        cases o with
        | none =>
          rw [if_pos (show enc none < 0 by decide)]
          rfl
        | some b =>
          have hb := ho b rfl
          rw [if_neg (show ¬ enc (some b) < 0 from nI_pos (by omega))]
          show (f_X6_compares y (nI p) (nI l) (nI b)).bind _ = _
          rw [compares_eq h hw hz hv hp (by omega) hb]
          simp only [Option.bind_some]
          have hcm := cmpN_le (D := D) p l b
          by_cases c3 : 0 < cmpN D p l b
          · rw [if_neg (nI_nle c3 (by omega))]
            simp only [nxt, c3, if_true]
            rfl
          · have e3 : cmpN D p l b = 0 := by omega
            rw [if_pos (show nI (cmpN D p l b) ≤ 0 by rw [e3]; decide)]
            simp only [nxt, c3, if_false]
      · rw [if_neg (nI_ge (Nat.not_le.mp c2) (by omega)), decide_eq_false c2]
        rfl
  · rw [if_neg (fun e => c1 ((andnot0 (by omega)).mp e)), decide_eq_false c1]
    rfl
theorem gives_43 (h : OKd D) (hw : OKw D) {y : St} (hz : RM D y) (hv : RW D y) (hL : LG D y) {k left p : Nat} (hk : k < D 7 1) (hp : p < D 7 1) (hl : left < 2 ^ D 7 0) {ps : List Nat}
    (hB1 : ∀ t, t < 2 ^ D 7 0 → y.2 11 (512 * (k + 1) + t) = nI (covL (legB D) ps t)) (hB0 : y.2 11 (512 * k + left) = nI (covL (legB D) (p :: ps) left)) (k15 : Int32 → Int32 → St → Option St) :
    l_X6_gives_43 k15 (nI left) (nI k) (nI p) (-1) 0 y = k15 (nI left ^^^ enc (pkN D p ps left (2 ^ D 7 0))) (nI (k + 1)) (pA y 14 p (enc (pkN D p ps left (2 ^ D 7 0)))) := by
  have h9 := pow9 h.1
  have hm := h.2.1
  unfold l_X6_gives_43
  refine loopP (N := 2 ^ D 7 0) (it := fun f i => iter (fun _ _ _ _ _ _ => none) (f_X6_gives_43 k15) f (nI left) (nI k) (nI p) (enc (pkN D p ps left i)) (nI i) y) ?_ ?_ FU (FU_gt (by omega))
  · intro f
    rw [iter_s, f_X6_gives_43.eq_1, all_eq h hz.1.1, if_pos (nI_le (Nat.le_refl _) (by omega)), ck_nI (by omega) (by omega), nI_clamp (by omega), L1, nI_add]
  · intro f i hi
    rw [iter_s]
    exact gives_43s h hw hz hv hL hk hp hl hB1 hB0 k15 _ hi (o := pkN D p ps left i) (fun b hb => Nat.lt_of_lt_of_le (pk_bound hb).1 (by omega))
/-- what the k-th gets, out of what is left -/
def gotF (D : Dt) (T : Nat → Nat) (left k : Nat) : Nat := (pkN D (T k) (tl T (k + 1) (D 7 1 - (k + 1))) left (2 ^ D 7 0)).getD 0
def gl (D : Dt) (T : Nat → Nat) : Nat → Nat
  | 0 => 2 ^ D 7 0 - 1
  | k + 1 => gl D T k ^^^ gotF D T (gl D T k) k
theorem got_spec (h : OKd D) {left k : Nat} (hl : left < 2 ^ D 7 0) : pkN D (T k) (tl T (k + 1) (D 7 1 - (k + 1))) left (2 ^ D 7 0) = some (gotF D T left k) ∧ gotF D T left k &&& left = gotF D T left k ∧ legB D (T k) (gotF D T left k) = true := by
  obtain ⟨b, h1, h2, h3⟩ := pk_some h (p := T k) (ps := tl T (k + 1) (D 7 1 - (k + 1))) hl
  have e : gotF D T left k = b := by unfold gotF; rw [h1]; rfl
  rw [e]
  exact ⟨h1, h2, h3⟩
theorem gl_lt (h : OKd D) : ∀ k, gl D T k < 2 ^ D 7 0
  | 0 => by
    have : 0 < 2 ^ D 7 0 := Nat.two_pow_pos _
    show 2 ^ D 7 0 - 1 < _
    omega
  | k + 1 => by
    have h1 := gl_lt h k
    obtain ⟨-, h2, -⟩ := got_spec (T := T) h (k := k) h1
    have h3 : gotF D T (gl D T k) k &&& gl D T k ≤ gl D T k := Nat.and_le_right
    exact Nat.xor_lt_two_pow h1 (by omega)
def GI (D : Dt) (T : Nat → Nat) (z : St) (k : Nat) (y : St) : Prop := (∀ i, y.1 i = z.1 i) ∧ (∀ q, q ≠ 14 → q ≠ 15 → y.2 q = z.2 q) ∧ ∀ q, q < k → y.2 14 (T q) = nI (gotF D T (gl D T q) q) ∧ y.2 15 (T q) = nI (gl D T q)
/-- gives(): what each gets by the turns -/
theorem gives_eq (h : OKd D) (hw : OKw D) (hz : RM D z) (hv : RW D z) (hk : z.1 6 = 0 ∨ (z.1 6 = 1 ∧ LG D z)) (hT : ∀ k, k < D 7 1 → z.2 12 k = nI (T k) ∧ T k < D 7 1) (hI : ∀ i j, i < D 7 1 → j < D 7 1 → T i = T j → i = j) :
    ∃ y, f_X6_gives z = some y ∧ (∀ i, i ≠ 6 → y.1 i = z.1 i) ∧ y.1 6 = 1 ∧ (∀ q, (q < 10 ∨ 15 < q) → y.2 q = z.2 q) ∧ LG D y ∧
      ∀ q, q < D 7 1 → y.2 14 (T q) = nI (gotF D T (gl D T q) q) ∧ y.2 15 (T q) = nI (gl D T q) := by
  have h9 := pow9 h.1
  have hm := h.2.1
  obtain ⟨w, w1, w2, w3, w4, w5, w6⟩ := covers_eq h hz hk hT
  have hzw : RM D w := RM_of hz w2 (fun k hk => w4 k (by omega) (by omega))
  have hvw : RW D w := RW_of hv (fun k hk => w4 k (by omega) (by omega))
  unfold f_X6_gives
  rw [w1]
  simp only [Option.bind_some]
  have hpos : 0 < 2 ^ D 7 0 := Nat.two_pow_pos _
  rw [all_eq h hzw.1.1, L1, pk_sub (by omega)]
  obtain ⟨y, c, d⟩ := loopK (N := D 7 1) (it := fun f i s => iter (fun _ _ _ => none) (f_X6_gives_15) f (nI (gl D T i)) (nI i) s) (I := fun i s => GI D T w i s) (K := fun s => some s)
    (by
      intro f s hs
      show iter (fun _ _ _ => none) f_X6_gives_15 (f + 1) _ _ _ = _
      rw [iter_s, f_X6_gives_15.eq_1, hs.1 1, hzw.1.2.1, if_pos (nI_le (Nat.le_refl _) (by omega))])
    (by
      intro f i s hi hs
      obtain ⟨hT1, hT2⟩ := hT i hi
      have hgl := gl_lt (T := T) h i
      obtain ⟨g1, g2, g3⟩ := got_spec (T := T) h (k := i) hgl
      show ∃ s', _ ∧ iter (fun _ _ _ => none) f_X6_gives_15 (f + 1) _ _ _ = _
      rw [iter_s, f_X6_gives_15.eq_1, hs.1 1, hzw.1.2.1, if_neg (nI_ge hi (by omega)), ck_nI (by omega) (by omega), nI_clamp (by omega), hs.2.1 12 (by omega) (by omega), w4 12 (by omega) (by omega), hT1,
        ck_nI (by omega) (by omega), nI_clamp (by omega)]
      have hy : ∀ q, q ≠ 14 → q ≠ 15 → (pA s 15 (T i) (nI (gl D T i))).2 q = w.2 q := by
        intro q h1 h2
        show up2 s.2 15 _ _ q = _
        rw [up2_ne h2]; exact hs.2.1 q h1 h2
      have hzy : RM D (pA s 15 (T i) (nI (gl D T i))) := RM_of hzw (fun j _ => hs.1 j) (fun q hq => hy q (by omega) (by omega))
      have hvy : RW D (pA s 15 (T i) (nI (gl D T i))) := RW_of hvw (fun q hq => hy q (by omega) (by omega))
      rw [gives_43 h hw hzy hvy (by intro p l hp hl; rw [hy 10 (by omega) (by omega)]; exact w5 p l hp hl) hi hT2 hgl (ps := tl T (i + 1) (D 7 1 - (i + 1)))
        (by intro t ht; rw [hy 11 (by omega) (by omega)]; exact w6 (i + 1) t (by omega) ht)
        (by rw [hy 11 (by omega) (by omega), w6 i _ (by omega) hgl, tl_cons T hi]), g1]
      refine ⟨pA (pA s 15 (T i) (nI (gl D T i))) 14 (T i) (nI (gotF D T (gl D T i) i)), ⟨hs.1, fun q h1 h2 => ?_, fun q hq => ?_⟩, ?_⟩
      · show up2 (pA s 15 (T i) (nI (gl D T i))).2 14 _ _ q = _
        rw [up2_ne h1]; exact hy q h1 h2
      · by_cases e : q = i
        · subst e
          rw [pA_at, pA_row (by omega), pA_at]
          exact ⟨rfl, rfl⟩
        · have hne : T q ≠ T i := fun e2 => e (hI q i (by omega) hi e2)
          rw [pA_ne hne, pA_row (by omega), pA_row (by omega), pA_ne hne]
          exact hs.2.2 q (by omega)
      · show iter (fun _ _ _ => none) f_X6_gives_15 f (nI (gl D T i) ^^^ nI (gotF D T (gl D T i) i)) _ _ = _
        rw [nI_xor]
        rfl)
    FU 0 w (Nat.zero_le _) (FU_gt (by omega)) ⟨fun _ => rfl, fun _ _ _ => rfl, fun q hq => by omega⟩
  refine ⟨y, d, fun i hi => ?_, ?_, fun q hq => ?_, ?_, fun q hq => c.2.2 q hq⟩
  · rw [c.1 i]; exact w2 i hi
  · rw [c.1 6]; exact w3
  · rw [c.2.1 q (by omega) (by omega)]; exact w4 q (by omega) (by omega)
  · intro p l hp hl; rw [c.2.1 10 (by omega) (by omega)]; exact w5 p l hp hl
end GIVES
