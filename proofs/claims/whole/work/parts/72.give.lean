/-- what is open behind the first k -/
def opN (D G : Dt) : Nat → Nat
  | 0 => 2 ^ D 7 0 - 1
  | k + 1 => opN D G k ^^^ (opN D G k &&& G 1 k)
section GIVE
variable {D G : Dt} {zc zm : St}
theorem opN_bit {i : Nat} : ∀ k, (opN D G k).testBit i = (decide (i < D 7 0) && !anyB (fun p => (G 1 p).testBit i) k)
  | 0 => by simp [opN, anyB, Nat.testBit_two_pow_sub_one]
  | k + 1 => by
    unfold opN anyB
    rw [Nat.testBit_xor, Nat.testBit_and, opN_bit k]
    cases decide (i < D 7 0) <;> cases anyB (fun p => (G 1 p).testBit i) k <;> cases (G 1 k).testBit i <;> rfl
theorem opN_lt : ∀ k, opN D G k < 2 ^ D 7 0
  | 0 => by
    have : 0 < 2 ^ D 7 0 := Nat.two_pow_pos _
    show 2 ^ D 7 0 - 1 < _
    omega
  | k + 1 => by
    have h1 := opN_lt k
    have h2 : opN D G k &&& G 1 k ≤ opN D G k := Nat.and_le_left
    exact Nat.xor_lt_two_pow h1 (by omega)
theorem openNow_eq (hd : OKd D) {z : St} (hz : RM D z) (hG : ∀ p, p < D 7 1 → z.2 16 p = nI (G 1 p)) : f_X6_openNow z = some (nI (opN D G (D 7 1))) := by
  have h9 := pow9 hd.1
  have hm4 := hd.2.1
  have hpos : 0 < 2 ^ D 7 0 := Nat.two_pow_pos _
  unfold f_X6_openNow l_X6_openNow_11
  rw [all_eq hd hz.1.1, L1, pk_sub (by omega)]
  refine loopP (N := D 7 1) (it := fun f i => iter (fun _ _ => none) (f_X6_openNow_11 z) f (nI (opN D G i)) (nI i)) ?_ ?_ FU (FU_gt (by omega))
  · intro f
    rw [iter_s, f_X6_openNow_11.eq_1, hz.1.2.1, if_pos (nI_le (Nat.le_refl _) (by omega))]
  · intro f i hi
    rw [iter_s, f_X6_openNow_11.eq_1, hz.1.2.1, if_neg (nI_ge hi (by omega)), ck_nI (by omega) (by omega), nI_clamp (by omega), hG i hi, nI_andnot, nI_1]
    rfl
theorem P_open (h : OKa D G) (hc : FC D G zc) (hm : FM D G zm) : ∃ r, f_X5_open zc = some r ∧ f_X6_open zm = some r := by
  obtain ⟨hd, hw, hg⟩ := h
  have h9 := pow9 hd.1
  have hm4 := hd.2.1
  unfold f_X5_open f_X6_open
  rw [hc.2.2.2.2.1, hm.2.2.2.1]
  by_cases q : G 0 0 = 0
  · rw [q, if_pos (show nI 0 = 0 from rfl), if_pos (show nI 0 = 0 from rfl)]
    exact ⟨_, rfl, rfl⟩
  · have q1 : G 0 0 = 1 := by have := hg.1; omega
    have hah : f_X2_allHeld zc = some (nI (orN (G 1) (D 7 1))) := by
      unfold f_X2_allHeld l_X2_allHeld_4
      refine loopP (N := D 7 1) (it := fun f i => iter (fun _ _ => none) (f_X2_allHeld_4 zc) f (nI (orN (G 1) i)) (nI i)) ?_ ?_ FU (FU_gt (by omega))
      · intro f
        rw [iter_s, f_X2_allHeld_4.eq_1, hc.1.1.2.1, if_pos (nI_le (Nat.le_refl _) (by omega))]
      · intro f i hi
        rw [iter_s, f_X2_allHeld_4.eq_1, hc.1.1.2.1, if_neg (nI_ge hi (by omega)), ck_nI (by omega) (by omega), nI_clamp (by omega), ((hc.2.2.2.2.2.1 q1).2.2 i hi).2.1, nI_or, nI_1]
        rfl
    rw [q1, if_neg (show ¬ nI 1 = 0 by decide), if_neg (show ¬ nI 1 = 0 by decide), allC_eq hd hc.1, Option.bind_some, hah, Option.bind_some, openNow_eq hd hm.1 (fun p hp => ((hm.2.2.2.2 q1).2 p hp).1), Option.bind_some, nI_andnot]
    refine ⟨_, ?_, rfl⟩
    congr 2
    apply Nat.eq_of_testBit_eq
    intro i
    rw [opN_bit, Nat.testBit_xor, Nat.testBit_and, orN_bit, Nat.testBit_two_pow_sub_one]
    cases decide (i < D 7 0) <;> cases anyB (fun p => (G 1 p).testBit i) (D 7 1) <;> rfl
/-- two loops that go alike -/
theorem loop2 {R : Type} {N : Nat} {it1 it2 : Nat → Nat → Option R} {bad : Nat → Bool} {e : Nat → R} {nx : R} (a0 : ∀ f, it1 (f + 1) N = some nx) (b0 : ∀ f, it2 (f + 1) N = some nx)
    (a1 : ∀ f i, i < N → it1 (f + 1) i = if bad i then some (e i) else it1 f (i + 1)) (b1 : ∀ f i, i < N → it2 (f + 1) i = if bad i then some (e i) else it2 f (i + 1)) :
    ∀ f i, i ≤ N → N - i < f → ∃ r, it1 f i = some r ∧ it2 f i = some r := by
  intro f
  induction f with
  | zero => intro i _ h; omega
  | succ f ih =>
    intro i hi hf
    by_cases q : i = N
    · subst q; exact ⟨nx, a0 f, b0 f⟩
    · rw [a1 f i (by omega), b1 f i (by omega)]
      by_cases c : bad i = true
      · rw [if_pos c, if_pos c]; exact ⟨_, rfl, rfl⟩
      · rw [if_neg c, if_neg c]; exact ih (i + 1) (by omega) (by omega)
theorem P_who (h : OKa D G) (hc : FC D G zc) (hm : FM D G zm) (x1 : Int32) : ∃ r, f_X5_who zc x1 = some r ∧ f_X6_who zm x1 = some r := by
  obtain ⟨hd, hw, hg⟩ := h
  have h9 := pow9 hd.1
  have hn := hd.1
  have hm4 := hd.2.1
  unfold f_X5_who f_X6_who
  rw [hasD_eq hd hc.1, isDuty_eq hm.1, Option.bind_some, Option.bind_some, hc.2.2.2.2.1, hm.2.2.2.1]
  rcases inR_of (x := x1) (n := D 7 0) (by omega) with ⟨e, -⟩ | ⟨e, d, hdd, rfl⟩
  · rw [e, if_pos (show bI false = 0 from rfl), if_pos (show bI false = 0 from rfl)]
    exact ⟨_, rfl, rfl⟩
  · rw [e, if_neg (show ¬ bI true = 0 by decide), if_neg (show ¬ bI true = 0 by decide)]
    by_cases q : G 0 0 = 0
    · rw [q, if_pos (show nI 0 = 0 from rfl), if_pos (show nI 0 = 0 from rfl)]
      exact ⟨_, rfl, rfl⟩
    · have q1 : G 0 0 = 1 := by have := hg.1; omega
      rw [q1, if_neg (show ¬ nI 1 = 0 by decide), if_neg (show ¬ nI 1 = 0 by decide)]
      unfold l_X5_who_25 l_X6_who_22
      refine loop2 (N := D 7 1) (it1 := fun f i => iter (fun _ _ => none) (f_X5_who_25 zc) f (nI d) (nI i)) (it2 := fun f i => iter (fun _ _ => none) (f_X6_who_22 zm) f (nI d) (nI i)) (bad := fun i => (G 1 i).testBit d) (e := fun i => nI i) (nx := -1) ?_ ?_ ?_ ?_ FU 0 (Nat.zero_le _) (FU_gt (by omega))
      · intro f
        rw [iter_s, f_X5_who_25.eq_1, hc.1.1.2.1, if_pos (nI_le (Nat.le_refl _) (by omega))]
      · intro f
        rw [iter_s, f_X6_who_22.eq_1, hm.1.1.2.1, if_pos (nI_le (Nat.le_refl _) (by omega))]
      · intro f i hi
        have hG := ((hg.2 q1).2 i hi).1
        rw [iter_s, f_X5_who_25.eq_1, hc.1.1.2.1, if_neg (nI_ge hi (by omega)), ck_nI (by omega) (by omega), nI_clamp (by omega), ((hc.2.2.2.2.2.1 q1).2.2 i hi).2.1, isIn_eq (by omega) (by omega), Option.bind_some, nI_1]
        cases (G 1 i).testBit d
        · rw [if_pos (show bI false = 0 from rfl)]; rfl
        · rw [if_neg (show ¬ bI true = 0 by decide)]; rfl
      · intro f i hi
        have hG := ((hg.2 q1).2 i hi).1
        rw [iter_s, f_X6_who_22.eq_1, hm.1.1.2.1, if_neg (nI_ge hi (by omega)), ck_nI (by omega) (by omega), nI_clamp (by omega), ((hm.2.2.2.2 q1).2 i hi).1, has_eq (by omega) (by omega), Option.bind_some, nI_1]
        cases (G 1 i).testBit d
        · rw [if_pos (show bI false = 0 from rfl)]; rfl
        · rw [if_neg (show ¬ bI true = 0 by decide)]; rfl
end GIVE
