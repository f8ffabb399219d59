/-- a loop over a state -/
theorem loopK {S R : Type} {N : Nat} {it : Nat → Nat → S → Option R} {I : Nat → S → Prop} {K : S → Option R} (h0 : ∀ f s, I N s → it (f + 1) N s = K s)
    (hs : ∀ f i s, i < N → I i s → ∃ s', I (i + 1) s' ∧ it (f + 1) i s = it f (i + 1) s') : ∀ f i s, i ≤ N → N - i < f → I i s → ∃ s', I N s' ∧ it f i s = K s' := by
  intro f
  induction f with
  | zero => intro i s _ h; omega
  | succ f ih =>
    intro i s hi hf hI
    by_cases e : i = N
    · subst e
      exact ⟨s, hI, h0 f s hI⟩
    · obtain ⟨s', h1, h2⟩ := hs f i s (by omega) hI
      obtain ⟨s2, h3, h4⟩ := ih (i + 1) s' (by omega) (by omega) h1
      exact ⟨s2, h3, h2.trans h4⟩
theorem size_eq {z : St} {l : Nat} (hl : l < 512) : f_X6_size z (nI l) = some (nI (popN l)) := by
  have st : ∀ (k : Int32 → Int32 → Int32 → Option Int32) (i s : Nat), i < 9 → f_X6_size_4 z k (nI l) (nI s) (nI i) = k (nI l) (nI (s + if l.testBit i then 1 else 0)) (nI (i + 1)) := by
    intro k i s hi
    rw [f_X6_size_4.eq_1, L9, if_neg (nI_ge hi (by omega)), has_eq (by omega) (by omega)]
    simp only [Option.bind_some, bI_0, nI_add, L1]
    by_cases c0 : l.testBit i = true <;> simp [c0]
  unfold f_X6_size l_X6_size_4
  refine loopP (N := 9) (it := fun f i => iter (fun _ _ _ => none) (f_X6_size_4 z) f (nI l) (nI (sumN (fun d => if l.testBit d then 1 else 0) i)) (nI i)) ?_ (fun f i hi => st _ i _ hi) FU (FU_gt (by omega))
  intro f
  show f_X6_size_4 z _ _ _ _ = _
  rw [f_X6_size_4.eq_1, L9, if_pos (nI_le (Nat.le_refl _) (by omega))]
  rfl
def legB (D : Dt) (p l : Nat) : Bool := decide (whyN D p l = 0)
theorem leg_iff {D : Dt} {p l : Nat} : legB D p l = true ↔ (∀ j, j < D 7 0 → skF D p l j = false) ∧ (∀ t, t < 14 → dyF D l t = false) ∧ (∀ j, j < D 7 0 → rsF D l j = false) ∧ (∀ t, t < 14 → rwF D l t = false) ∧ (∀ t, t < 14 → wkG D l t = false) ∧ hrsN D l ≤ D 6 p := by
  unfold legB whyN
  rw [decide_eq_true_iff]
  constructor
  · intro h
    cases h1 : anyB (skF D p l) (D 7 0) <;> cases h2 : anyB (dyF D l) 14 <;> cases h3 : anyB (rsF D l) (D 7 0) <;> cases h4 : anyB (rwF D l) 14 <;> cases h5 : anyB (wkG D l) 14 <;> simp only [h1, h2, h3, h4, h5] at h <;> simp at h
    exact ⟨anyB_false.mp h1, anyB_false.mp h2, anyB_false.mp h3, anyB_false.mp h4, anyB_false.mp h5, by omega⟩
  · rintro ⟨h1, h2, h3, h4, h5, h6⟩
    rw [anyB_false.mpr h1, anyB_false.mpr h2, anyB_false.mpr h3, anyB_false.mpr h4, anyB_false.mpr h5]
    simp
    omega
section MONO
variable {D : Dt} {p l l' : Nat}
theorem on_mono (h : l' &&& l = l') (t : Nat) : onDayN D l' t ≤ onDayN D l t := by
  refine sumN_mono (fun j _ => ?_)
  have := sub_iff.mp h j
  unfold onB
  cases h1 : l'.testBit j <;> cases h2 : l.testBit j <;> simp_all
theorem run_mono (h : l' &&& l = l') : ∀ t, runN D l' t ≤ runN D l t
  | 0 => Nat.le_refl _
  | t + 1 => by
    have h1 := run_mono h t
    have h2 := on_mono (D := D) h t
    unfold runN
    split <;> split <;> omega
theorem wk_mono (h : l' &&& l = l') (t : Nat) : wkN D l' t ≤ wkN D l t := by
  refine sumN_mono (fun j _ => ?_)
  have := sub_iff.mp h j
  unfold wkF
  cases h1 : l'.testBit j <;> cases h2 : l.testBit j <;> simp_all
theorem hrs_mono (h : l' &&& l = l') : hrsN D l' ≤ hrsN D l := by
  refine sumN_mono (fun j _ => ?_)
  have := sub_iff.mp h j
  cases h1 : l'.testBit j <;> cases h2 : l.testBit j <;> simp_all
/-- what is legal stays so with less -/
theorem leg_mono (h : l' &&& l = l') (hl : legB D p l = true) : legB D p l' = true := by
  obtain ⟨h1, h2, h3, h4, h5, h6⟩ := leg_iff.mp hl
  refine leg_iff.mpr ⟨fun j hj => ?_, fun t ht => ?_, fun j hj => ?_, fun t ht => ?_, fun t ht => ?_, Nat.le_trans (hrs_mono h) h6⟩
  · have a := h1 j hj
    have b := sub_iff.mp h j
    unfold skF at *
    cases c1 : l'.testBit j <;> cases c2 : l.testBit j <;> simp_all
  · have a := h2 t ht
    have b := on_mono (D := D) h t
    unfold dyF at *
    simp only [decide_eq_false_iff_not] at *
    omega
  · have a := h3 j hj
    have b := sub_iff.mp h j
    unfold rsF at *
    cases c1 : l'.testBit j with
    | false => rfl
    | true =>
      rw [b c1, Bool.true_and] at a
      rw [Bool.true_and]
      refine anyB_false.mpr (fun i hi => ?_)
      have a2 := anyB_false.mp a i hi
      have b2 := on_mono (D := D) h (D 0 j + D 1 j + i)
      unfold rsG at *
      simp only [decide_eq_false_iff_not] at *
      omega
  · have a := h4 t ht
    have b := run_mono (D := D) h (t + 1)
    unfold rwF at *
    simp only [decide_eq_false_iff_not] at *
    omega
  · have a := h5 t ht
    have b := wk_mono (D := D) h t
    unfold wkG at *
    simp only [decide_eq_false_iff_not] at *
    omega
theorem sumN_0 {f : Nat → Nat} {n : Nat} (h : ∀ i, i < n → f i = 0) : sumN f n = 0 := by
  have := sumN_pos (f := f) (n := n)
  rcases Nat.eq_zero_or_pos (sumN f n) with e | e
  · exact e
  · obtain ⟨i, h1, h2⟩ := this.mp e
    rw [h i h1] at h2
    omega
theorem leg_0 (h : OKd D) : legB D p 0 = true := by
  have o : ∀ t, onDayN D 0 t = 0 := fun t => sumN_0 (fun i _ => by simp [onB])
  refine leg_iff.mpr ⟨fun j _ => by simp [skF], fun t _ => by simp [dyF, o], fun j _ => by simp [rsF], fun t _ => ?_, fun t _ => ?_, ?_⟩
  · have : runN D 0 (t + 1) = 0 := by simp [runN, o]
    simp [rwF, this]
  · have : wkN D 0 t = 0 := sumN_0 (fun i _ => by simp [wkF])
    simp [wkG, this]
  · have : hrsN D 0 = 0 := sumN_0 (fun i _ => by simp)
    omega
end MONO
theorem pow9 {n : Nat} (h : n ≤ 9) : 2 ^ n ≤ 512 := by
  have : 2 ^ n ≤ 2 ^ 9 := Nat.pow_le_pow_right (by omega) h
  omega
theorem all_eq {z : St} {D : Dt} (h : OKd D) (hz : z.1 0 = nI (D 7 0)) : ((1 : Int32) <<< ((z.1 0) &&& 31)) = nI (2 ^ D 7 0) := by
  have := pow9 h.1
  rw [hz, L1, nI_shl (by have := h.1; omega) (by omega), Nat.one_mul]
theorem RM_of {D : Dt} {z z' : St} (hz : RM D z) (h1 : ∀ i, i ≠ 6 → z'.1 i = z.1 i) (h2 : ∀ k, k < 10 → z'.2 k = z.2 k) : RM D z' := by
  obtain ⟨⟨e0, e1, e2, e3, e4, e5⟩, eD, eP⟩ := hz
  refine ⟨⟨?_, ?_, ?_, ?_, ?_, ?_⟩, fun j hj => ?_, fun p hp => ?_⟩
  · rw [h1 0 (by omega)]; exact e0
  · rw [h1 1 (by omega)]; exact e1
  · rw [h1 2 (by omega)]; exact e2
  · rw [h1 3 (by omega)]; exact e3
  · rw [h1 4 (by omega)]; exact e4
  · rw [h1 5 (by omega)]; exact e5
  · rw [h2 0 (by omega), h2 1 (by omega), h2 2 (by omega), h2 3 (by omega), h2 4 (by omega)]; exact eD j hj
  · rw [h2 5 (by omega), h2 6 (by omega)]; exact eP p hp
theorem RW_of {D : Dt} {z z' : St} (hz : RW D z) (h2 : ∀ k, k < 10 → z'.2 k = z.2 k) : RW D z' := by
  intro p hp
  rw [h2 7 (by omega), h2 8 (by omega), h2 9 (by omega)]
  exact hz p hp
theorem up2_ne {F : Nat → Nat → Int32} {k j q : Nat} {v : Int32} (h : q ≠ k) : up2 F k j v q = F q := by
  unfold up2; rw [if_neg h]
theorem up2_eq {F : Nat → Nat → Int32} {k j : Nat} {v : Int32} : up2 F k j v k = upd (F k) j v := by
  unfold up2; rw [if_pos rfl]
/-- what is legal, as the model marks it -/
def LG (D : Dt) (z : St) : Prop := ∀ p l, p < D 7 1 → l < 2 ^ D 7 0 → z.2 10 (512 * p + l) = bI (legB D p l)
def MI (D : Dt) (z : St) (p l : Nat) (y : St) : Prop := (∀ i, i ≠ 6 → y.1 i = z.1 i) ∧ y.1 6 = 1 ∧ (∀ k, k ≠ 10 → y.2 k = z.2 k) ∧
  ∀ q k, q < D 7 1 → k < 2 ^ D 7 0 → (q < p ∨ (q = p ∧ k < l)) → y.2 10 (512 * q + k) = bI (legB D q k)
theorem nar1 : vp_nar .boolean (1 : Int32) = 1 := rfl
theorem nar0 : vp_nar .boolean (0 : Int32) = 0 := rfl
section MARKS
variable {D : Dt} {z : St}
theorem MI_step (h : OKd D) {p l : Nat} {y : St} (hp : p < D 7 1) (hl : l < 2 ^ D 7 0) (hI : MI D z p l y) {v : Int32} (hv : v = bI (legB D p l)) : MI D z p (l + 1) (pA y 10 (512 * p + l) v) := by
  obtain ⟨i1, i2, i3, i4⟩ := hI
  have h9 := pow9 h.1
  refine ⟨i1, i2, fun k hk => ?_, fun q k hq hk hlt => ?_⟩
  · show up2 y.2 10 _ _ k = _
    rw [up2_ne hk]; exact i3 k hk
  · show up2 y.2 10 _ _ 10 _ = _
    rw [up2_eq]
    by_cases e : q = p ∧ k = l
    · obtain ⟨rfl, rfl⟩ := e
      rw [pk_us]; exact hv
    · rw [pk_un (by omega)]
      exact i4 q k hq hk (by omega)
theorem marks_25 (h : OKd D) (hz : RM D z) {p : Nat} (hp : p < D 7 1) (k15 : Int32 → St → Option St) {y : St} (hI : MI D z p 0 y) :
    ∃ y', MI D z p (2 ^ D 7 0) y' ∧ l_X6_marks_25 k15 (nI p) 0 y = k15 (nI (p + 1)) y' := by
  have h9 := pow9 h.1
  have hm := h.2.1
  unfold l_X6_marks_25
  refine loopK (N := 2 ^ D 7 0) (it := fun f i s => iter (fun _ _ _ => none) (f_X6_marks_25 k15) f (nI p) (nI i) s) (I := fun i s => MI D z p i s) (K := fun s => k15 (nI (p + 1)) s) ?_ ?_ FU 0 y (Nat.zero_le _) (FU_gt (by omega)) hI
  · intro f s hs
    show f_X6_marks_25 k15 _ _ _ _ = _
    rw [f_X6_marks_25.eq_1, all_eq h (RM_of hz hs.1 (fun k hk => hs.2.2.1 k (by omega))).1.1, if_pos (nI_le (Nat.le_refl _) (by omega)), L1, nI_add]
  · intro f i s hi hs
    have hzs : RM D s := RM_of hz hs.1 (fun k hk => hs.2.2.1 k (by omega))
    show ∃ s', _ ∧ f_X6_marks_25 k15 _ _ _ _ = _
    rw [f_X6_marks_25.eq_1, all_eq h hzs.1.1, if_neg (nI_ge hi (by omega)), why_eq h hzs hp (by omega)]
    generalize iter (fun _ _ _ => none) (f_X6_marks_25 k15) f = k
    simp only [Option.bind_some]
    rw [L512, pk_mul, nI_add, ck_nI (by omega) (by omega), ck_nI (by omega) (by omega), nI_clamp (by omega), nar1, nar0]
    have hw : whyN D p i ≤ 6 := by
      unfold whyN
      repeat' split
      all_goals omega
    by_cases c : whyN D p i = 0
    · rw [if_pos (show nI (whyN D p i) = 0 by rw [c]; rfl), L1, nI_add]
      exact ⟨_, MI_step h hp hi hs (by unfold legB; rw [decide_eq_true c]; rfl), rfl⟩
    · rw [if_neg (show ¬ nI (whyN D p i) = 0 from fun e => c ((nI_eq (b := 0) (by omega) (by omega)).mp e)), L1, nI_add]
      exact ⟨_, MI_step h hp hi hs (by unfold legB; rw [decide_eq_false c]; rfl), rfl⟩
/-- marks(): the table of what is legal -/
theorem marks_eq (h : OKd D) (hz : RM D z) (hk : z.1 6 = 0 ∨ (z.1 6 = 1 ∧ LG D z)) :
    ∃ y, f_X6_marks z = some y ∧ (∀ i, i ≠ 6 → y.1 i = z.1 i) ∧ y.1 6 = 1 ∧ (∀ k, k ≠ 10 → y.2 k = z.2 k) ∧ LG D y := by
  unfold f_X6_marks
  rcases hk with e | ⟨e, hL⟩
  · rw [if_pos e]
    have hm := h.2.1
    have h9 := pow9 h.1
    obtain ⟨y, hy, he⟩ := loopK (N := D 7 1) (it := fun f i s => iter (fun _ _ => none) (f_X6_marks_15) f (nI i) s) (I := fun i s => MI D z i 0 s) (K := fun s => some s)
      (by
        intro f s hs
        show f_X6_marks_15 _ _ _ = _
        have hzs : RM D s := RM_of hz hs.1 (fun k hk => hs.2.2.1 k (by omega))
        rw [f_X6_marks_15.eq_1, hzs.1.2.1, if_pos (nI_le (Nat.le_refl _) (by omega))])
      (by
        intro f i s hi hs
        show ∃ s', _ ∧ f_X6_marks_15 _ _ _ = _
        have hzs : RM D s := RM_of hz hs.1 (fun k hk => hs.2.2.1 k (by omega))
        rw [f_X6_marks_15.eq_1, hzs.1.2.1, if_neg (nI_ge hi (by omega))]
        obtain ⟨y', h1, h2⟩ := marks_25 h hz hi (iter (fun _ _ => none) (f_X6_marks_15) f) hs
        refine ⟨y', ⟨h1.1, h1.2.1, h1.2.2.1, fun q k hq hk hlt => h1.2.2.2 q k hq hk (by omega)⟩, h2⟩)
      FU 0 (pS z 6 1) (Nat.zero_le _) (FU_gt (by omega))
      ⟨fun i hi => by show upd z.1 6 1 i = _; rw [pk_un hi], by show upd z.1 6 1 6 = _; rw [pk_us], fun _ _ => rfl, fun q k _ _ hlt => by omega⟩
    exact ⟨y, he, hy.1, hy.2.1, hy.2.2.1, fun q k hq hk => hy.2.2.2 q k hq hk (by omega)⟩
  · rw [if_neg (by rw [e]; decide)]
    exact ⟨z, rfl, fun _ _ => rfl, e, fun _ _ => rfl, hL⟩
end MARKS
