/-- the members of a group, from k on -/
def mbR (g : Nat) : Nat → Nat → List Nat
  | _, 0 => []
  | k, r + 1 => if g.testBit k then k :: mbR g (k + 1) r else mbR g (k + 1) r
def mb (g m : Nat) : List Nat := mbR g 0 m
def gpF (m g p : Nat) : Nat := g &&& (2 ^ m - 2 ^ p)
def gpP (m g p : Nat) : Bool := decide (gpF m g p < 16) && (!g.testBit p || (decide (mb (gpF m g p) m = p :: mb (gpF m g (p + 1)) m) && decide (gpF m g p ^^^ (gpF m g p &&& 2 ^ p) = gpF m g (p + 1)) && decide (gpF m g (p + 1) ≠ gpF m g p) && decide (gpF m g p ≠ 0))) &&
  (g.testBit p || decide (gpF m g p = gpF m g (p + 1)))
theorem gp_all : (List.range 5).all (fun m => (List.range 16).all (fun g => (List.range m).all (fun p => gpP m g p))) = true := by decide +kernel
theorem gp_dec (m : Nat) (hm : m < 5) (g : Nat) (hg : g < 16) (p : Nat) (hp : p < m) : gpF m g p < 16 ∧ (g.testBit p = true → mb (gpF m g p) m = p :: mb (gpF m g (p + 1)) m ∧ gpF m g p ^^^ (gpF m g p &&& 2 ^ p) = gpF m g (p + 1) ∧ gpF m g (p + 1) ≠ gpF m g p ∧ gpF m g p ≠ 0) ∧
    (g.testBit p = false → gpF m g p = gpF m g (p + 1)) := by
  have h1 := List.all_eq_true.mp (List.all_eq_true.mp (List.all_eq_true.mp gp_all m (List.mem_range.mpr hm)) g (List.mem_range.mpr hg)) p (List.mem_range.mpr hp)
  unfold gpP at h1
  simp only [Bool.and_eq_true, Bool.or_eq_true, decide_eq_true_eq, Bool.not_eq_true'] at h1
  refine ⟨h1.1.1, fun hb => ?_, fun hb => ?_⟩
  · rcases h1.1.2 with e | e
    · rw [hb] at e; cases e
    · exact ⟨e.1.1.1, e.1.1.2, e.1.2, e.2⟩
  · rcases h1.2 with e | e
    · rw [hb] at e; cases e
    · exact e
theorem gp_endA : (List.range 5).all (fun m => (List.range (2 ^ m)).all (fun g => decide (gpF m g m = 0) && decide (gpF m g 0 = g))) = true := by decide +kernel
theorem gp_end (m : Nat) (hm : m < 5) (g : Nat) (hg : g < 2 ^ m) : gpF m g m = 0 ∧ gpF m g 0 = g := by
  have h1 := List.all_eq_true.mp (List.all_eq_true.mp gp_endA m (List.mem_range.mpr hm)) g (List.mem_range.mpr hg)
  simp only [Bool.and_eq_true, decide_eq_true_eq] at h1
  exact h1
theorem mb_0 : ∀ m, m < 5 → mb 0 m = [] := by decide
theorem mbR_lo {g p : Nat} : ∀ r k, p < k → mbR (g ||| 2 ^ p) k r = mbR g k r
  | 0, _, _ => rfl
  | r + 1, k, h => by
    unfold mbR
    rw [Nat.testBit_or, Nat.testBit_two_pow, decide_eq_false (show ¬ p = k by omega), Bool.or_false, mbR_lo r (k + 1) (by omega)]
theorem mbR_perm {g p : Nat} (hg : g.testBit p = false) : ∀ r k, k ≤ p → p < k + r → List.Perm (mbR (g ||| 2 ^ p) k r) (p :: mbR g k r)
  | 0, k, h1, h2 => by omega
  | r + 1, k, h1, h2 => by
    unfold mbR
    rw [Nat.testBit_or, Nat.testBit_two_pow]
    by_cases e : p = k
    · subst e
      rw [hg, decide_eq_true rfl, Bool.or_true, if_pos rfl, mbR_lo r (p + 1) (by omega)]
      exact List.Perm.refl _
    · rw [decide_eq_false e, Bool.or_false]
      have ih := mbR_perm hg r (k + 1) (by omega) (by omega)
      by_cases c : g.testBit k = true
      · rw [if_pos c, if_pos c]
        exact (List.Perm.cons k ih).trans (List.Perm.swap p k _)
      · rw [if_neg c, if_neg c]
        exact ih
section CBY
variable {D : Dt} {z : St}
def CR (D : Dt) (y : St) (q : Nat) : Prop := ∀ t, t < 2 ^ D 7 0 → y.2 7 (512 * q + t) = nI (covL (legB D) (mb q (D 7 1)) t)
def ZR (y : St) : Prop := (∀ t, t < 512 → y.2 7 t = 0) ∧ ∀ q, q < 16 → y.2 7 (512 * q) = 0
/-- a chart that is fresh -/
def CHI (D : Dt) (y : St) : Prop := (∀ q, q < 2 ^ D 7 0 → y.2 6 q = nI (Lm D q)) ∧ ZR y ∧ ∃ K, K < 2 ^ 16 ∧ y.1 5 = nI K ∧ ∀ q, q < 16 → K.testBit q = true → CR D y q
def knows (y : St) (q : Nat) : Prop := ∃ K, K < 2 ^ 16 ∧ y.1 5 = nI K ∧ K.testBit q = true
def FrC (z y : St) : Prop := (∀ i, i ≠ 5 → y.1 i = z.1 i) ∧ ∀ k, k ≠ 7 → y.2 k = z.2 k
theorem nI16 {a b : Nat} (ha : a < 2 ^ 16) (hb : b < 2 ^ 16) (h : nI a = nI b) : a = b := (nI_eq (by omega) (by omega)).mp h
theorem RC_fr {y : St} (hz : RC D z) (h : FrC z y) : RC D y := RC_of hz (fun i h5 _ => h.1 i h5) (fun k hk => h.2 k (by omega))
theorem findCovers_eq (h : OKd D) (hz : RC D z) (hC : CHI D z) (h0 : knows z 0) {g : Nat} (hg : g < 2 ^ D 7 1) :
    ∃ y, f_X0_findCovers (nI g) z = some y ∧ FrC z y ∧ CHI D y ∧ knows y 0 ∧ knows y g := by
  have h9 := pow9 h.1
  have hm := h.2.1
  have hp4 : 2 ^ D 7 1 ≤ 2 ^ 4 := Nat.pow_le_pow_right (by omega) hm
  have hend := gp_end (D 7 1) (by omega) g hg
  have hpos : 0 < 2 ^ D 7 0 := Nat.two_pow_pos _
  unfold f_X0_findCovers l_X0_findCovers_10
  rw [hz.1.2.1]
  obtain ⟨y, c, d⟩ := loopK (N := D 7 1) (it := fun f i s => iter (fun _ _ _ => none) f_X0_findCovers_10 f (nI g) (nI (D 7 1 - i) - 1) s)
    (I := fun i s => FrC z s ∧ CHI D s ∧ knows s 0 ∧ knows s (gpF (D 7 1) g (D 7 1 - i))) (K := fun s => some s)
    (by
      intro f s hs
      show iter (fun _ _ _ => none) f_X0_findCovers_10 (f + 1) _ _ _ = _
      rw [iter_s, f_X0_findCovers_10.eq_1, Nat.sub_self, if_pos (by decide)])
    (by
      intro f i s hi hs
      obtain ⟨hF, hCs, hk0, hkn⟩ := hs
      obtain ⟨k, hk'⟩ : ∃ k, D 7 1 - i = k + 1 := ⟨D 7 1 - i - 1, by omega⟩
      have hk1 : D 7 1 - (i + 1) = k := by omega
      have hzs := RC_fr hz hF
      obtain ⟨g1, g2, g3⟩ := gp_dec (D 7 1) (by omega) g (by omega) k (by omega)
      obtain ⟨hL, hZ, K, K1, K2, K3⟩ := hCs
      have e3 : nI k + (-1) = nI k - 1 := (Int32.sub_eq_add_neg _ _).symm
      show ∃ s', _ ∧ iter (fun _ _ _ => none) f_X0_findCovers_10 (f + 1) _ _ _ = _
      rw [hk'] at hkn ⊢
      rw [iter_s, f_X0_findCovers_10.eq_1, nI_pred, if_neg (nI_pos (by omega)), from_eq h hzs (by omega), Option.bind_some, nI_and, show g &&& (2 ^ D 7 1 - 2 ^ k) = gpF (D 7 1) g k from rfl, K2,
        isIn_eq (by omega) (by omega), Option.bind_some, e3, hk1]
      cases hb : K.testBit (gpF (D 7 1) g k) with
      | true =>
        rw [if_neg (show ¬ bI true = 0 by decide)]
        exact ⟨s, ⟨hF, ⟨hL, hZ, K, K1, K2, K3⟩, hk0, ⟨K, K1, K2, hb⟩⟩, rfl⟩
      | false =>
        have hgk : g.testBit k = true := by
          cases hq : g.testBit k with
          | true => rfl
          | false =>
            obtain ⟨K', a1, a2, a3⟩ := hkn
            have : K' = K := nI16 a1 K1 (by rw [← a2, ← K2])
            subst this
            rw [← g3 hq, hb] at a3
            cases a3
        obtain ⟨m1, m2, m3, m4⟩ := g2 hgk
        obtain ⟨K', a1, a2, a3⟩ := hkn
        have hKK : K' = K := nI16 a1 K1 (by rw [← a2, ← K2])
        subst hKK
        have hgb16 : gpF (D 7 1) g (k + 1) < 16 := by
          rw [← m2]
          have q1 : gpF (D 7 1) g k &&& 2 ^ k ≤ gpF (D 7 1) g k := Nat.and_le_left
          have := Nat.xor_lt_two_pow (x := gpF (D 7 1) g k) (y := gpF (D 7 1) g k &&& 2 ^ k) (n := 4) (by omega) (by omega)
          omega
        obtain ⟨y, f1, f2⟩ := fill_eq h hzs hL (p := k) (g := gpF (D 7 1) g k) (by omega) g1 m2 m3 (K3 _ hgb16 a3) (hZ.2 _ g1)
        have hp2 : 2 ^ gpF (D 7 1) g k < 2 ^ 16 := Nat.pow_lt_pow_right (by omega) g1
        rw [if_pos (show bI false = 0 from rfl), f1, Option.bind_some, f2.1, K2, show (1 : Int32) <<< (nI (gpF (D 7 1) g k) &&& 31) = nI (2 ^ gpF (D 7 1) g k) by rw [L1, nI_shl (s := 1) (by omega) (by omega), Nat.one_mul], nI_or]
        have hK16 : K' ||| 2 ^ gpF (D 7 1) g k < 2 ^ 16 := Nat.or_lt_two_pow a1 hp2
        obtain ⟨K0, b1, b2, b3⟩ := hk0
        have hK0 : K0 = K' := nI16 b1 a1 (by rw [← b2, ← K2])
        subst hK0
        refine ⟨pS y 5 (nI (K0 ||| 2 ^ gpF (D 7 1) g k)), ⟨⟨fun i hi => by rw [pS_ne hi, f2.1]; exact hF.1 i hi, fun q hq => by rw [pS_2, f2.2.1 q hq]; exact hF.2 q hq⟩,
          ⟨fun q hq => by rw [pS_2, f2.2.1 6 (by omega)]; exact hL q hq, ⟨fun t ht => ?_, fun q hq => ?_⟩, _, hK16, pS_at, fun q hq hb2 t ht => ?_⟩,
          ⟨_, hK16, pS_at, by rw [Nat.testBit_or, b3]; rfl⟩, ⟨_, hK16, pS_at, by rw [Nat.testBit_or, Nat.testBit_two_pow, decide_eq_true rfl, Bool.or_true]⟩⟩, rfl⟩
        · rw [pS_2]
          have := f2.2.2.1 0 t (Ne.symm m4) ht
          rw [Nat.mul_zero, Nat.zero_add] at this
          rw [this]; exact hZ.1 t ht
        · rw [pS_2]
          by_cases e : q = gpF (D 7 1) g k
          · subst e
            have := f2.2.2.2 0 (by omega) (by omega)
            have e0 : covL (legB D) (k :: mb (gpF (D 7 1) g (k + 1)) (D 7 1)) 0 = 0 := by
              have := cov_le (lg := legB D) (ps := k :: mb (gpF (D 7 1) g (k + 1)) (D 7 1)) (s := 0)
              have := popN_0
              omega
            rw [e0] at this
            exact this
          · have := f2.2.2.1 q 0 e (by omega)
            rw [Nat.add_zero] at this
            rw [this]; exact hZ.2 q hq
        · rw [pS_2]
          by_cases e : q = gpF (D 7 1) g k
          · subst e
            rw [m1]; exact f2.2.2.2 t ht ht
          · rw [f2.2.2.1 q t e (by omega)]
            refine K3 q hq ?_ t ht
            rw [Nat.testBit_or, Nat.testBit_two_pow, decide_eq_false (fun q2 => e q2.symm), Bool.or_false] at hb2
            exact hb2)
    FU 0 z (Nat.zero_le _) (FU_gt (by omega)) ⟨⟨fun _ _ => rfl, fun _ _ => rfl⟩, hC, h0, by rw [Nat.sub_zero, hend.1]; exact h0⟩
  rw [Nat.sub_self, hend.2] at c
  exact ⟨y, d, c.1, c.2.1, c.2.2.1, c.2.2.2⟩
theorem coverBy_eq (h : OKd D) (hz : RC D z) (hC : CHI D z) (h0 : knows z 0) {g s : Nat} (hg : g < 2 ^ D 7 1) (hs : s < 2 ^ D 7 0) :
    ∃ y, f_X0_coverBy (nI g) (nI s) z = some (nI (covL (legB D) (mb g (D 7 1)) s), y) ∧ FrC z y ∧ CHI D y ∧ knows y 0 := by
  have h9 := pow9 h.1
  have hm := h.2.1
  have hp4 : 2 ^ D 7 1 ≤ 2 ^ 4 := Nat.pow_le_pow_right (by omega) hm
  have e16 : ∀ y : St, CHI D y → knows y g → f_X0_coverBy_16 (nI g) (nI s) y = some (nI (covL (legB D) (mb g (D 7 1)) s), y) := by
    intro y hy hk
    obtain ⟨-, -, K, K1, K2, K3⟩ := hy
    obtain ⟨K', a1, a2, a3⟩ := hk
    have : K' = K := nI16 a1 K1 (by rw [← a2, ← K2])
    subst this
    unfold f_X0_coverBy_16
    rw [L512, pk_mul, Nat.mul_comm g 512, nI_add, ck_nI (by omega) (by omega), nI_clamp (by omega), K3 g (by omega) a3 s hs]
  obtain ⟨K, K1, K2, K3⟩ := hC.2.2
  unfold f_X0_coverBy
  rw [K2, isIn_eq (by omega) (by omega), Option.bind_some]
  cases hb : K.testBit g with
  | true =>
    rw [if_neg (show ¬ bI true = 0 by decide)]
    exact ⟨z, e16 z hC ⟨K, K1, K2, hb⟩, ⟨fun _ _ => rfl, fun _ _ => rfl⟩, hC, h0⟩
  | false =>
    rw [if_pos (show bI false = 0 from rfl)]
    obtain ⟨y, f1, f2, f3, f4, f5⟩ := findCovers_eq h hz hC h0 hg
    rw [f1, Option.bind_some]
    exact ⟨y, e16 y f3 f5, f2, f3, f4⟩
/-- refresh(): the chart is fresh behind it -/
theorem refresh_eq (h : OKd D) (hz : RC D z) (hZ : ZR z) (hC : z.1 6 = 0 → CHI D z ∧ knows z 0) :
    ∃ y, f_X0_refresh z = some y ∧ (∀ i, i ≠ 5 → i ≠ 6 → y.1 i = z.1 i) ∧ (∀ k, k ≠ 6 → y.2 k = z.2 k) ∧ y.1 6 = 0 ∧ CHI D y ∧ knows y 0 := by
  unfold f_X0_refresh
  by_cases e : z.1 6 = 0
  · rw [if_pos e]
    obtain ⟨c1, c2⟩ := hC e
    exact ⟨z, rfl, fun _ _ _ => rfl, fun _ _ => rfl, e, c1, c2⟩
  · rw [if_neg e]
    obtain ⟨y, f1, f2, f3, f4⟩ := findLegal_eq h hz
    have hm := h.2.1
    rw [f1, Option.bind_some]
    have e5 : (pS (pS y 5 1) 6 0).1 5 = nI 1 := by rw [pS_ne (by omega), pS_at]; rfl
    refine ⟨pS (pS y 5 1) 6 0, rfl, fun i h5 h6 => by rw [pS_ne h6, pS_ne h5, f2], fun k hk => by rw [pS_2, pS_2]; exact f3 k hk, pS_at, ⟨fun q hq => by rw [pS_2, pS_2]; exact f4 q hq, ?_, 1, by omega, e5, ?_⟩, 1, by omega, e5, by decide⟩
    · refine ⟨fun t ht => ?_, fun q hq => ?_⟩
      · rw [pS_2, pS_2, f3 7 (by omega)]; exact hZ.1 t ht
      · rw [pS_2, pS_2, f3 7 (by omega)]; exact hZ.2 q hq
    · intro q hq hb t ht
      have hq0 : q = 0 := by
        rcases Nat.eq_zero_or_pos q with e | e
        · exact e
        · rw [Nat.testBit_lt_two_pow (show 1 < 2 ^ q from Nat.one_lt_two_pow (by omega))] at hb; cases hb
      subst hq0
      have h9 := pow9 h.1
      rw [pS_2, pS_2, f3 7 (by omega), Nat.mul_zero, Nat.zero_add, hZ.1 t (by omega), mb_0 _ (by omega)]
      rfl
end CBY
