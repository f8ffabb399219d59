theorem runN_le (D : Dt) (l : Nat) : ∀ t, runN D l t ≤ t
  | 0 => Nat.le_refl 0
  | t + 1 => by
    have := runN_le D l t
    unfold runN
    split <;> omega
theorem wk_le {D : Dt} (h : OKd D) {l t i : Nat} (hi : i ≤ D 7 0) : sumN (wkF D l t) i ≤ 360 := by
  have := sumN_le (f := wkF D l t) (n := i) (b := 40) (fun j hj => by
    have := h.2.2.2.2.2.2.1 j (by omega)
    unfold wkF
    split <;> omega)
  have := h.1
  omega
section WHY
variable {D : Dt} {z : St} {p l : Nat}
theorem why_216 (h : OKd D) (hz : RM D z) (hl : l < 512) {t : Nat} (ht : t < 100) (k203 : Int32 → Int32 → Int32 → Option Int32) :
    l_X6_whyNot_216 z k203 (nI p) (nI l) (nI t) 0 0 = if wkG D l t then some 5 else k203 (nI p) (nI l) (nI (t + 1)) := by
  obtain ⟨⟨e0, e1, e2, e3, e4, e5⟩, eD, -⟩ := hz
  have hn := h.1
  have h5 := h.2.2.2.2.2.1
  have st : ∀ (k : Int32 → Int32 → Int32 → Int32 → Int32 → Option Int32) (i s : Nat), i < D 7 0 → f_X6_whyNot_216 z k203 k (nI p) (nI l) (nI t) (nI s) (nI i) = k (nI p) (nI l) (nI t) (nI (s + wkF D l t i)) (nI (i + 1)) := by
    intro k i s hi
    obtain ⟨d0, d1, d2, -⟩ := eD i hi
    have hb := h.2.2.2.2.2.2.1 i hi
    unfold f_X6_whyNot_216
    rw [e0, if_neg (nI_ge hi (by omega)), has_eq (by omega) (by omega)]
    simp only [Option.bind_some, bI_0, ck_nI (show i < 9 by omega) (show 9 < 2 ^ 31 by omega), nI_clamp (show i < 2 ^ 31 by omega), d0, d2, nI_add, L1, L7,
      nI_ltI (show D 0 i < 2 ^ 31 by omega) (show t < 2 ^ 31 by omega), nI_leI (show t + 7 < 2 ^ 31 by omega) (show D 0 i < 2 ^ 31 by omega), wkF]
    by_cases c0 : l.testBit i = true
    · by_cases c1 : D 0 i < t
      · simp [c0, c1, Nat.not_le.mpr c1]
      · by_cases c2 : t + 7 ≤ D 0 i
        · simp [c0, c1, c2, Nat.not_lt.mpr c2]
        · simp [c0, c1, c2, Nat.not_lt.mp c1, Nat.not_le.mp c2]
    · simp [c0]
  unfold l_X6_whyNot_216
  refine loopP (N := D 7 0) (it := fun f i => iter (fun _ _ _ _ _ => none) (f_X6_whyNot_216 z k203) f (nI p) (nI l) (nI t) (nI (sumN (wkF D l t) i)) (nI i)) ?_ (fun f i hi => st _ i _ hi) FU (FU_gt (by omega))
  intro f
  show f_X6_whyNot_216 z k203 _ _ _ _ _ _ = _
  unfold f_X6_whyNot_216
  have hw := wk_le h (l := l) (t := t) (Nat.le_refl (D 7 0))
  rw [e0, if_pos (nI_le (Nat.le_refl _) (by omega)), e5]
  simp only [nI_leI (show sumN (wkF D l t) (D 7 0) < 2 ^ 31 by omega) (show D 7 5 < 2 ^ 31 by omega), nI_add, L1, wkG, wkN]
  by_cases c : sumN (wkF D l t) (D 7 0) ≤ D 7 5
  · simp [c, Nat.not_lt.mpr c]
  · simp [c, Nat.not_le.mp c]
theorem why_203 (h : OKd D) (hz : RM D z) (hp : p < D 7 1) (hl : l < 512) :
    l_X6_whyNot_203 z (nI p) (nI l) 0 = if anyB (wkG D l) 14 then some 5 else some (nI (if D 6 p < hrsN D l then 6 else 0)) := by
  have hP := h.2.2.2.2.2.2.2 p hp
  have hp4 := h.2.1
  have hh := hours_eq h hz hl
  have hle : hrsN D l ≤ 360 := hrs_le h (Nat.le_refl _)
  unfold l_X6_whyNot_203
  refine loopC (N := 14) (it := fun f i => iter (fun _ _ _ => none) (f_X6_whyNot_203 z) f (nI p) (nI l) (nI i)) ?_ ?_ FU (FU_gt (by omega))
  · intro f
    show f_X6_whyNot_203 z _ _ _ _ = _
    unfold f_X6_whyNot_203
    rw [L14, if_pos (nI_le (Nat.le_refl _) (by omega)), hh]
    simp only [Option.bind_some, ck_nI (show p < 4 by omega) (show 4 < 2 ^ 31 by omega), nI_clamp (show p < 2 ^ 31 by omega), (hz.2.2 p hp).2, nI_leI (show hrsN D l < 2 ^ 31 by omega) (show D 6 p < 2 ^ 31 by omega)]
    by_cases c : hrsN D l ≤ D 6 p
    · rw [if_pos c, if_neg (Nat.not_lt.mpr c)]; rfl
    · rw [if_neg c, if_pos (Nat.not_le.mp c)]; rfl
  · intro f i hi
    show f_X6_whyNot_203 z _ _ _ _ = _
    rw [f_X6_whyNot_203.eq_1, L14, if_neg (nI_ge hi (by omega)), why_216 h hz hl (by omega)]
theorem why_159 (h : OKd D) (hz : RM D z) (hp : p < D 7 1) (hl : l < 512) :
    l_X6_whyNot_159 z (nI p) (nI l) 0 0 = if anyB (rwF D l) 14 then some 4 else l_X6_whyNot_203 z (nI p) (nI l) 0 := by
  have h4 := h.2.2.2.2.1
  have e4 := hz.1.2.2.2.2.1
  have hn := h.1
  unfold l_X6_whyNot_159
  refine loopC (N := 14) (it := fun f i => iter (fun _ _ _ _ => none) (f_X6_whyNot_159 z) f (nI p) (nI l) (nI (runN D l i)) (nI i)) ?_ ?_ FU (FU_gt (by omega))
  · intro f
    show f_X6_whyNot_159 z _ _ _ _ _ = _
    rw [f_X6_whyNot_159.eq_1, L14, if_pos (nI_le (Nat.le_refl _) (by omega))]
  · intro f i hi
    show f_X6_whyNot_159 z _ _ _ _ _ = _
    have hr := runN_le D l i
    have ho := onDayN_le D l i
    rw [f_X6_whyNot_159.eq_1, L14, if_neg (nI_ge hi (by omega)), onDay_eq h hz hl (by omega)]
    generalize hk : iter (fun _ _ _ _ => none) (f_X6_whyNot_159 z) f = k
    simp only [Option.bind_some, f_X6_whyNot_183, e4, L0, L1, nI_add, nI_leI (show onDayN D l i < 2 ^ 31 by omega) (show 0 < 2 ^ 31 by omega), nI_leI (show 0 < 2 ^ 31 by omega) (show D 7 4 < 2 ^ 31 by omega),
      nI_leI (show runN D l i + 1 < 2 ^ 31 by omega) (show D 7 4 < 2 ^ 31 by omega), rwF]
    by_cases c : onDayN D l i ≤ 0
    · rw [if_pos c, if_pos (Nat.zero_le _)]
      simp [runN, Nat.not_lt.mpr c]
    · have e : runN D l (i + 1) = runN D l i + 1 := by simp [runN, Nat.not_le.mp c]
      rw [if_neg c]
      by_cases c2 : runN D l i + 1 ≤ D 7 4
      · simp [e, c2, Nat.not_lt.mpr c2]
      · simp [e, c2, Nat.not_le.mp c2]
theorem restN_le (h : OKd D) (j : Nat) : restN D j ≤ 3 := by
  obtain ⟨h0, h1, h2, h3, -⟩ := h
  unfold restN
  split <;> split <;> omega
theorem why_110 (h : OKd D) (hz : RM D z) (hl : l < 512) {j e : Nat} (hj : j < D 7 0) (he : e ≤ 14) (k72 : Int32 → Int32 → Int32 → Option Int32) :
    l_X6_whyNot_110 z k72 (nI p) (nI l) (nI j) (nI e) (nI e) = if anyB (rsG D l e) (min (restN D j) (14 - e)) then some 3 else k72 (nI p) (nI l) (nI (j + 1)) := by
  have hr := restN_le h j
  have hn := h.1
  unfold l_X6_whyNot_110
  refine loopC (N := min (restN D j) (14 - e)) (it := fun f i => iter (fun _ _ _ _ _ => none) (f_X6_whyNot_110 z k72) f (nI p) (nI l) (nI j) (nI e) (nI (e + i))) ?_ ?_ FU (FU_gt (by omega))
  · intro f
    show f_X6_whyNot_110 z k72 _ _ _ _ _ _ = _
    rw [f_X6_whyNot_110.eq_1, rest_eq h hz hj]
    simp only [Option.bind_some, nI_add, L1]
    by_cases c : e + restN D j ≤ e + min (restN D j) (14 - e)
    · rw [if_pos (nI_le c (by omega))]
    · rw [if_neg (nI_ge (Nat.not_le.mp c) (by omega)), L14, if_pos (nI_le (by omega) (by omega))]
  · intro f i hi
    show f_X6_whyNot_110 z k72 _ _ _ _ _ _ = _
    have ho := onDayN_le D l (e + i)
    rw [f_X6_whyNot_110.eq_1, rest_eq h hz hj]
    generalize iter (fun _ _ _ _ _ => none) (f_X6_whyNot_110 z k72) f = k
    simp only [Option.bind_some, nI_add, L1]
    rw [if_neg (nI_ge (by omega) (by omega)), L14, if_neg (nI_ge (by omega) (by omega)), onDay_eq h hz hl (by omega)]
    simp only [Option.bind_some, L0, nI_leI (show onDayN D l (e + i) < 2 ^ 31 by omega) (show 0 < 2 ^ 31 by omega), rsG]
    by_cases c : onDayN D l (e + i) ≤ 0
    · simp [c, Nat.not_lt.mpr c, Nat.add_assoc]
    · simp [c, Nat.not_le.mp c]
theorem why_72 (h : OKd D) (hz : RM D z) (hl : l < 512) :
    l_X6_whyNot_72 z (nI p) (nI l) 0 = if anyB (rsF D l) (D 7 0) then some 3 else l_X6_whyNot_159 z (nI p) (nI l) 0 0 := by
  have hn := h.1
  have e0 := hz.1.1
  unfold l_X6_whyNot_72
  refine loopC (N := D 7 0) (it := fun f i => iter (fun _ _ _ => none) (f_X6_whyNot_72 z) f (nI p) (nI l) (nI i)) ?_ ?_ FU (FU_gt (by omega))
  · intro f
    show f_X6_whyNot_72 z _ _ _ _ = _
    rw [f_X6_whyNot_72.eq_1, e0, if_pos (nI_le (Nat.le_refl _) (by omega))]
  · intro f i hi
    show f_X6_whyNot_72 z _ _ _ _ = _
    obtain ⟨d0, d1, -⟩ := hz.2.1 i hi
    have hb := h.2.2.2.2.2.2.1 i hi
    rw [f_X6_whyNot_72.eq_1, e0, if_neg (nI_ge hi (by omega)), has_eq (by omega) (by omega)]
    generalize iter (fun _ _ _ => none) (f_X6_whyNot_72 z) f = k
    simp only [Option.bind_some, bI_0, ck_nI (show i < 9 by omega) (show 9 < 2 ^ 31 by omega), nI_clamp (show i < 2 ^ 31 by omega), d0, d1, nI_add, L1, why_110 h hz hl hi (show D 0 i + D 1 i ≤ 14 by omega), rsF]
    by_cases c0 : l.testBit i = true <;> simp [c0]
theorem why_46 (h : OKd D) (hz : RM D z) (hl : l < 512) :
    l_X6_whyNot_46 z (nI p) (nI l) 0 = if anyB (dyF D l) 14 then some 2 else l_X6_whyNot_72 z (nI p) (nI l) 0 := by
  have hn := h.1
  unfold l_X6_whyNot_46
  refine loopC (N := 14) (it := fun f i => iter (fun _ _ _ => none) (f_X6_whyNot_46 z) f (nI p) (nI l) (nI i)) ?_ ?_ FU (FU_gt (by omega))
  · intro f
    show f_X6_whyNot_46 z _ _ _ _ = _
    rw [f_X6_whyNot_46.eq_1, L14, if_pos (nI_le (Nat.le_refl _) (by omega))]
  · intro f i hi
    show f_X6_whyNot_46 z _ _ _ _ = _
    have ho := onDayN_le D l i
    rw [f_X6_whyNot_46.eq_1, L14, if_neg (nI_ge hi (by omega)), onDay_eq h hz hl (by omega)]
    generalize iter (fun _ _ _ => none) (f_X6_whyNot_46 z) f = k
    simp only [Option.bind_some, L1, nI_add, nI_leI (show onDayN D l i < 2 ^ 31 by omega) (show 1 < 2 ^ 31 by omega), dyF]
    by_cases c : onDayN D l i ≤ 1
    · simp [c, Nat.not_lt.mpr c]
    · simp [c, Nat.not_le.mp c]
theorem why_2 (h : OKd D) (hz : RM D z) (hp : p < D 7 1) (hl : l < 512) :
    l_X6_whyNot_2 z (nI p) (nI l) 0 = if anyB (skF D p l) (D 7 0) then some 1 else l_X6_whyNot_46 z (nI p) (nI l) 0 := by
  have hn := h.1
  have e0 := hz.1.1
  have hp4 := h.2.1
  have hP := h.2.2.2.2.2.2.2 p hp
  unfold l_X6_whyNot_2
  refine loopC (N := D 7 0) (it := fun f i => iter (fun _ _ _ => none) (f_X6_whyNot_2 z) f (nI p) (nI l) (nI i)) ?_ ?_ FU (FU_gt (by omega))
  · intro f
    show f_X6_whyNot_2 z _ _ _ _ = _
    rw [f_X6_whyNot_2.eq_1, e0, if_pos (nI_le (Nat.le_refl _) (by omega))]
  · intro f i hi
    show f_X6_whyNot_2 z _ _ _ _ = _
    obtain ⟨d0, d1, d2, d3, -⟩ := hz.2.1 i hi
    have hb := h.2.2.2.2.2.2.1 i hi
    rw [f_X6_whyNot_2.eq_1, e0, if_neg (nI_ge hi (by omega)), has_eq (by omega) (by omega)]
    generalize iter (fun _ _ _ => none) (f_X6_whyNot_2 z) f = k
    simp only [Option.bind_some, bI_0, ck_nI (show i < 9 by omega) (show 9 < 2 ^ 31 by omega), ck_nI (show p < 4 by omega) (show 4 < 2 ^ 31 by omega), nI_clamp (show i < 2 ^ 31 by omega), nI_clamp (show p < 2 ^ 31 by omega), d3, (hz.2.2 p hp).1,
      has_eq (show D 5 p < 2 ^ 31 by omega) (show D 3 i < 32 by omega), nI_add, L1, skF]
    by_cases c0 : l.testBit i = true
    · by_cases c1 : (D 5 p).testBit (D 3 i) = true <;> simp [c0, c1]
    · simp [c0]
/-- the model's whyNot -/
theorem why_eq (h : OKd D) (hz : RM D z) (hp : p < D 7 1) (hl : l < 512) : f_X6_whyNot z (nI p) (nI l) = some (nI (whyN D p l)) := by
  unfold f_X6_whyNot
  rw [why_2 h hz hp hl, why_46 h hz hl, why_72 h hz hl, why_159 h hz hp hl, why_203 h hz hp hl]
  unfold whyN
  repeat' split
  all_goals rfl
end WHY
