theorem iter_s {K : Type} (z : K) (b : K → K) (n : Nat) : iter z b (n + 1) = b (iter z b n) := rfl
/-- people by their turns, from the k-th on -/
def tl (T : Nat → Nat) : Nat → Nat → List Nat
  | _, 0 => []
  | k, r + 1 => T k :: tl T (k + 1) r
def CV (D : Dt) (T : Nat → Nat) (z : St) (k s : Nat) (y : St) : Prop := (∀ i, y.1 i = z.1 i) ∧ (∀ q, q ≠ 11 → y.2 q = z.2 q) ∧
  ∀ q t, q ≤ D 7 1 → t < 2 ^ D 7 0 → (k < q ∨ (q = k ∧ t < s)) → y.2 11 (512 * q + t) = nI (covL (legB D) (tl T q (D 7 1 - q)) t)
section COVERS
variable {D : Dt} {T : Nat → Nat} {z : St}
theorem CV_step (h : OKd D) {k s : Nat} {y : St} (hk : k ≤ D 7 1) (hs : s < 2 ^ D 7 0) (hI : CV D T z k s y) {v : Int32} (hv : v = nI (covL (legB D) (tl T k (D 7 1 - k)) s)) : CV D T z k (s + 1) (pA y 11 (512 * k + s) v) := by
  obtain ⟨i1, i2, i3⟩ := hI
  have h9 := pow9 h.1
  refine ⟨i1, fun q hq => ?_, fun q t hq ht hlt => ?_⟩
  · show up2 y.2 11 _ _ q = _
    rw [up2_ne hq]; exact i2 q hq
  · show up2 y.2 11 _ _ 11 _ = _
    rw [up2_eq]
    by_cases e : q = k ∧ t = s
    · obtain ⟨rfl, rfl⟩ := e
      rw [pk_us]; exact hv
    · rw [pk_un (by omega)]
      exact i3 q t hq ht (by omega)
theorem cov_67s (h : OKd D) {k s : Nat} (hk : k < D 7 1) (hs : s < 2 ^ D 7 0) {y : St} (hT : y.2 12 k = nI (T k) ∧ T k < D 7 1) (hL : LG D y)
    (hB : ∀ t, t < 2 ^ D 7 0 → y.2 11 (512 * (k + 1) + t) = nI (covL (legB D) (tl T (k + 1) (D 7 1 - (k + 1))) t)) (k47 : Int32 → Int32 → St → Option St) (k53 : Int32 → Int32 → Int32 → St → Option St)
    (kk : Int32 → Int32 → Int32 → Int32 → Int32 → Int32 → St → Option St) (x1 : Int32) {l most : Nat} (hls : l &&& s = l) (hmo : most ≤ 100) :
    f_X6_covers_67 k47 k53 kk x1 (nI k) (nI s) (nI most) (nI l) 1 y =
      kk x1 (nI k) (nI s) (nI (max most (if legB D (T k) l then popN l + covL (legB D) (tl T (k + 1) (D 7 1 - (k + 1))) (s ^^^ l) else 0))) ((nI l - 1) &&& nI s) (if l = 0 then 0 else 1) y := by
  have h9 := pow9 h.1
  have hm := h.2.1
  have hl5 : l ≤ s := by
    have : l &&& s ≤ s := Nat.and_le_right
    omega
  have hx : s ^^^ l < 2 ^ D 7 0 := Nat.xor_lt_two_pow hs (by omega)
  have hc1 := cov_le (lg := legB D) (ps := tl T (k + 1) (D 7 1 - (k + 1))) (s := s ^^^ l)
  have hc2 := popN_le (s ^^^ l)
  have hc3 := popN_le l
  rw [f_X6_covers_67.eq_1]
  rw [if_neg (by decide), ck_nI (by omega) (by omega), nI_clamp (by omega), hT.1, L512, pk_mul, nI_add, ck_nI (by omega) (by omega), nI_clamp (by omega), hL (T k) l hT.2 (by omega), size_eq (by omega)]
  simp only [Option.bind_some, f_X6_covers_139]
  rw [L1, nI_add, pk_mul, nI_xor, nI_add, ck_nI (by omega) (by omega), nI_clamp (by omega), hB _ hx, nI_add]
  have e0 : ∀ (a b : Option St), (if nI l ≤ 0 then a else b) = if l = 0 then a else b := by
    intro a b
    by_cases e : l = 0
    · rw [if_pos e, if_pos (show nI l ≤ 0 by rw [e]; decide)]
    · rw [if_neg e, if_neg (nI_nle (by omega) (by omega))]
  rw [e0, e0]
  cases hg : legB D (T k) l with
  | false =>
    rw [if_pos (show bI false = 0 from rfl)]
    simp only [Bool.false_eq_true, if_false, Nat.max_zero]
    by_cases e : l = 0
    · rw [if_pos e, if_pos e]
    · rw [if_neg e, if_neg e]
  | true =>
    rw [if_neg (show ¬ bI true = 0 by decide)]
    simp only [if_true]
    by_cases c2 : popN l + covL (legB D) (tl T (k + 1) (D 7 1 - (k + 1))) (s ^^^ l) ≤ most
    · rw [if_pos (nI_le c2 (by omega)), Nat.max_eq_left c2]
      by_cases e : l = 0
      · rw [if_pos e, if_pos e]
      · rw [if_neg e, if_neg e]
    · rw [if_neg (nI_ge (Nat.not_le.mp c2) (by omega)), Nat.max_eq_right (by omega)]
      by_cases e : l = 0
      · rw [if_pos e, if_pos e]
      · rw [if_neg e, if_neg e]
theorem cov_67 (h : OKd D) {k s : Nat} (hk : k < D 7 1) (hs : s < 2 ^ D 7 0) {y : St} (hT : y.2 12 k = nI (T k) ∧ T k < D 7 1) (hL : LG D y)
    (hB : ∀ t, t < 2 ^ D 7 0 → y.2 11 (512 * (k + 1) + t) = nI (covL (legB D) (tl T (k + 1) (D 7 1 - (k + 1))) t)) (k47 : Int32 → Int32 → St → Option St) (k53 : Int32 → Int32 → Int32 → St → Option St) (x1 : Int32) :
    ∀ c l most f, l < c → l + 1 < f → l &&& s = l → most ≤ 100 →
      iter (fun _ _ _ _ _ _ _ => none) (f_X6_covers_67 k47 k53) f x1 (nI k) (nI s) (nI most) (nI l) 1 y =
      k53 x1 (nI k) (nI (s + 1)) (pA y 11 (512 * k + s) (nI (max most (maxL (fun l => if legB D (T k) l then popN l + covL (legB D) (tl T (k + 1) (D 7 1 - (k + 1))) (s ^^^ l) else 0) (chain s c l))))) := by
  have h9 := pow9 h.1
  have hm := h.2.1
  intro c
  induction c with
  | zero => intro l most f hl; omega
  | succ c ih =>
    intro l most f hl hf hls hmo
    obtain ⟨f, rfl⟩ : ∃ g, f = g + 1 := ⟨f - 1, by omega⟩
    rw [iter_s]
    refine (cov_67s h hk hs hT hL hB k47 k53 (iter (fun _ _ _ _ _ _ _ => none) (f_X6_covers_67 k47 k53) f) x1 hls hmo).trans ?_
    have hc1 := cov_le (lg := legB D) (ps := tl T (k + 1) (D 7 1 - (k + 1))) (s := s ^^^ l)
    have hc2 := popN_le (s ^^^ l)
    have hc3 := popN_le l
    by_cases e : l = 0
    · subst e
      obtain ⟨f, rfl⟩ : ∃ g, f = g + 1 := ⟨f - 1, by omega⟩
      rw [if_pos rfl]
      have e1 : ∀ (kk : Int32 → Int32 → Int32 → Int32 → Int32 → Int32 → St → Option St) (a b : Int32), f_X6_covers_67 k47 k53 kk x1 (nI k) (nI s) a b 0 y = k53 x1 (nI k) (nI (s + 1)) (pA y 11 (512 * k + s) a) := by
        intro kk a b
        rw [f_X6_covers_67.eq_1, if_pos rfl, L512, pk_mul, nI_add, ck_nI (by omega) (by omega), nI_clamp (by omega), L1, nI_add]
      rw [iter_s]
      refine (e1 _ _ _).trans ?_
      have ec : chain s (c + 1) 0 = [0] := rfl
      rw [ec]
      simp only [maxL, Nat.max_zero]
    · rw [if_neg e]
      obtain ⟨q, rfl⟩ : ∃ q, l = q + 1 := ⟨l - 1, by omega⟩
      rw [nI_pred, nI_and]
      have hle : q &&& s ≤ q := Nat.and_le_left
      have hmo2 : max most (if legB D (T k) (q + 1) then popN (q + 1) + covL (legB D) (tl T (k + 1) (D 7 1 - (k + 1))) (s ^^^ (q + 1)) else 0) ≤ 100 := by
        split <;> omega
      rw [ih (q &&& s) _ f (by omega) (by omega) (by rw [Nat.and_assoc, Nat.and_self]) hmo2]
      have ec : chain s (c + 1) (q + 1) = (q + 1) :: chain s c (q &&& s) := by
        show (q + 1) :: (if q + 1 = 0 then [] else chain s c ((q + 1 - 1) &&& s)) = _
        rw [if_neg e, Nat.add_sub_cancel]
      rw [ec]
      simp only [maxL, Nat.max_assoc]
theorem tl_cons (T : Nat → Nat) {k m : Nat} (h : k < m) : tl T k (m - k) = T k :: tl T (k + 1) (m - (k + 1)) := by
  obtain ⟨r, hr⟩ : ∃ r, m - k = r + 1 := ⟨m - k - 1, by omega⟩
  rw [hr, show m - (k + 1) = r by omega]
  rfl
theorem cov_53 (h : OKd D) {k : Nat} (hk : k < D 7 1) (hT : z.2 12 k = nI (T k) ∧ T k < D 7 1) (hL : LG D z) (k47 : Int32 → Int32 → St → Option St) {y : St} (hI : CV D T z k 0 y) :
    ∃ y', CV D T z k (2 ^ D 7 0) y' ∧ l_X6_covers_53 k47 (nI (2 ^ D 7 0)) (nI k) 0 y = k47 (nI (2 ^ D 7 0)) (nI k + (-1)) y' := by
  have h9 := pow9 h.1
  have hm := h.2.1
  unfold l_X6_covers_53
  refine loopK (N := 2 ^ D 7 0) (it := fun f i s => iter (fun _ _ _ _ => none) (f_X6_covers_53 k47) f (nI (2 ^ D 7 0)) (nI k) (nI i) s) (I := fun i s => CV D T z k i s) (K := fun s => k47 (nI (2 ^ D 7 0)) (nI k + (-1)) s) ?_ ?_ FU 0 y (Nat.zero_le _) (FU_gt (by omega)) hI
  · intro f s hs
    show f_X6_covers_53 k47 _ _ _ _ _ = _
    rw [f_X6_covers_53.eq_1, if_pos (nI_le (Nat.le_refl _) (by omega))]
  · intro f i s hi hs
    show ∃ s', _ ∧ f_X6_covers_53 k47 _ _ _ _ _ = _
    have hTs : s.2 12 k = nI (T k) ∧ T k < D 7 1 := by rw [hs.2.1 12 (by omega)]; exact hT
    have hLs : LG D s := by intro p l hp hl; rw [hs.2.1 10 (by omega)]; exact hL p l hp hl
    rw [f_X6_covers_53.eq_1, if_neg (nI_ge hi (by omega))]
    unfold l_X6_covers_67
    have := cov_67 h hk hi hTs hLs (fun t ht => hs.2.2 (k + 1) t (by omega) ht (by omega)) k47 (iter (fun _ _ _ _ => none) (f_X6_covers_53 k47) f) (nI (2 ^ D 7 0)) 513 i 0 FU (by omega) (FU_gt (by omega)) (Nat.and_self i) (by omega)
    refine ⟨_, CV_step h (Nat.le_of_lt hk) hi hs ?_, this⟩
    rw [chain_subs i (by omega), Nat.zero_max, tl_cons T hk]
    rfl
/-- covers(): the table of COVER, for people by their turns -/
theorem covers_eq (h : OKd D) (hz : RM D z) (hk : z.1 6 = 0 ∨ (z.1 6 = 1 ∧ LG D z)) (hT : ∀ k, k < D 7 1 → z.2 12 k = nI (T k) ∧ T k < D 7 1) :
    ∃ y, f_X6_covers z = some y ∧ (∀ i, i ≠ 6 → y.1 i = z.1 i) ∧ y.1 6 = 1 ∧ (∀ q, q ≠ 10 → q ≠ 11 → y.2 q = z.2 q) ∧ LG D y ∧
      ∀ q t, q ≤ D 7 1 → t < 2 ^ D 7 0 → y.2 11 (512 * q + t) = nI (covL (legB D) (tl T q (D 7 1 - q)) t) := by
  have h9 := pow9 h.1
  have hm := h.2.1
  obtain ⟨w, w1, w2, w3, w4, w5⟩ := marks_eq h hz hk
  have hzw : RM D w := RM_of hz w2 (fun k hk => w4 k (by omega))
  unfold f_X6_covers
  rw [w1]
  simp only [Option.bind_some]
  rw [all_eq h hzw.1.1]
  obtain ⟨y1, c1, d1⟩ := loopK (N := 2 ^ D 7 0) (it := fun f i s => iter (fun _ _ _ => none) (f_X6_covers_13) f (nI (2 ^ D 7 0)) (nI i) s) (I := fun i s => CV D T w (D 7 1) i s) (K := fun s => l_X6_covers_47 (nI (2 ^ D 7 0)) (nI (D 7 1) - 1) s)
    (by
      intro f s hs
      show f_X6_covers_13 _ _ _ _ = _
      rw [f_X6_covers_13.eq_1, if_pos (nI_le (Nat.le_refl _) (by omega)), hs.1 1, hzw.1.2.1])
    (by
      intro f i s hi hs
      show ∃ s', _ ∧ f_X6_covers_13 _ _ _ _ = _
      rw [f_X6_covers_13.eq_1, if_neg (nI_ge hi (by omega)), hs.1 1, hzw.1.2.1, L512, pk_mul, nI_add, ck_nI (by omega) (by omega), nI_clamp (by omega), L1, nI_add]
      refine ⟨_, CV_step h (Nat.le_refl _) hi hs ?_, rfl⟩
      rw [Nat.sub_self]; rfl)
    FU 0 w (Nat.zero_le _) (FU_gt (by omega)) ⟨fun _ => rfl, fun _ _ => rfl, fun q t hq ht hlt => by omega⟩
  unfold l_X6_covers_13
  have d1' : iter (fun _ _ _ => none) f_X6_covers_13 FU (nI (2 ^ D 7 0)) 0 w = l_X6_covers_47 (nI (2 ^ D 7 0)) (nI (D 7 1) - 1) y1 := d1
  rw [d1']
  obtain ⟨y, c2, d2⟩ := loopK (N := D 7 1) (it := fun f i s => iter (fun _ _ _ => none) (f_X6_covers_47) f (nI (2 ^ D 7 0)) (nI (D 7 1 - i) - 1) s) (I := fun i s => CV D T w (D 7 1 - i) (2 ^ D 7 0) s) (K := fun s => some s)
    (by
      intro f s hs
      show f_X6_covers_47 _ _ _ _ = _
      rw [f_X6_covers_47.eq_1, Nat.sub_self, if_pos (by decide)])
    (by
      intro f i s hi hs
      show ∃ s', _ ∧ f_X6_covers_47 _ _ _ _ = _
      obtain ⟨k, hk'⟩ : ∃ k, D 7 1 - i = k + 1 := ⟨D 7 1 - i - 1, by omega⟩
      have hk1 : D 7 1 - (i + 1) = k := by omega
      rw [f_X6_covers_47.eq_1, hk', nI_pred, if_neg (nI_pos (by omega))]
      obtain ⟨s', e1, e2⟩ := cov_53 h (k := k) (by omega) (by rw [w4 12 (by omega)]; exact hT k (by omega)) w5 (iter (fun _ _ _ => none) (f_X6_covers_47) f) (y := s) (z := w)
        ⟨hs.1, hs.2.1, fun q t hq ht hlt => hs.2.2 q t hq ht (by omega)⟩
      refine ⟨s', by rw [hk1]; exact e1, ?_⟩
      rw [show nI k + (-1) = nI k - 1 from (Int32.sub_eq_add_neg _ _).symm] at e2
      rw [hk1]
      exact e2)
    FU 0 y1 (Nat.zero_le _) (FU_gt (by omega)) c1
  refine ⟨y, d2, fun i hi => ?_, ?_, fun q h10 h11 => ?_, ?_, fun q t hq ht => ?_⟩
  · rw [c2.1 i]; exact w2 i hi
  · rw [c2.1 6]; exact w3
  · rw [c2.2.1 q h11]; exact w4 q h10
  · intro p l hp hl; rw [c2.2.1 10 (by omega)]; exact w5 p l hp hl
  · exact c2.2.2 q t hq ht (by omega)
end COVERS
