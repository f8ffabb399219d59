section LOOK
variable {D G : Dt} {zc zm : St}
/-- a chart may be made anew: nothing else changes -/
theorem FC_chart (hd : OKd D) {y : St} (hc : FC D G zc) (h1 : ∀ i, i ≠ 5 → i ≠ 6 → y.1 i = zc.1 i) (h2 : ∀ k, k ≠ 6 → k ≠ 7 → y.2 k = zc.2 k) (h6 : y.1 6 = 0) (hC : CHI D y) (hk : knows y 0) : FC D G y := by
  have hm := hd.2.1
  obtain ⟨a1, a2, a3, a4, a5, a6, a7⟩ := hc
  refine ⟨RC_of a1 h1 (fun k hk => h2 k (by omega) (by omega)), ?_, hC.2.1, fun _ => ⟨hC, hk⟩, by rw [h1 0 (by omega) (by omega)]; exact a5, fun hg => ?_, fun p hp hp4 => by rw [h1 _ (by omega) (by omega)]; exact a7 p hp hp4⟩
  · intro q hq
    rw [h1 _ (by omega) (by omega)]
    refine ⟨(a2 q hq).1, fun w hw2 => ?_⟩
    rw [h2 _ (by omega) (by omega), h2 _ (by omega) (by omega)]
    exact (a2 q hq).2 w hw2
  · obtain ⟨b1, b2, b3⟩ := a6 hg
    refine ⟨h6, by rw [h1 1 (by omega) (by omega)]; exact b2, fun p hp => ?_⟩
    rw [h1 _ (by omega) (by omega), h1 _ (by omega) (by omega), h1 _ (by omega) (by omega)]
    exact b3 p hp
theorem FC_refresh (hd : OKd D) (hc : FC D G zc) : ∃ y, f_X0_refresh zc = some y ∧ FC D G y ∧ CHI D y ∧ knows y 0 ∧ y.1 6 = 0 := by
  obtain ⟨y, y1, y2, y3, y4, y5, y6⟩ := refresh_eq hd hc.1 hc.2.2.1 hc.2.2.2.1
  exact ⟨y, y1, FC_chart hd hc y2 (fun k h6 _ => y3 k h6) y4 y5 y6, y5, y6, y4⟩
/-- the model's own rows may change -/
theorem FM_scratch {y : St} (hm : FM D G zm) (h1 : ∀ i, i ≠ 6 → y.1 i = zm.1 i) (h6 : y.1 6 = 1) (h2 : ∀ k, (k < 10 ∨ 15 < k) → y.2 k = zm.2 k) (hL : LG D y) : FM D G y := by
  obtain ⟨a1, a2, a3, a4, a5⟩ := hm
  refine ⟨RM_of a1 h1 (fun k hk => h2 k (by omega)), RW_of a2 (fun k hk => h2 k (by omega)), Or.inr ⟨h6, hL⟩, by rw [h1 7 (by omega)]; exact a4, fun hg => ?_⟩
  rw [h1 8 (by omega), h2 16 (by omega), h2 17 (by omega), h2 18 (by omega)]
  exact a5 hg
def lnN (D : Dt) (p : Nat) : Nat → Nat := sumN (fun l => if legB D p l then 1 else 0)
theorem lnN_le {p : Nat} (n : Nat) : lnN D p n ≤ n := by
  have := sumN_le (f := fun l => if legB D p l then 1 else 0) (n := n) (b := 1) (fun i _ => by split <;> omega)
  unfold lnN; omega
theorem P_lines (h : OKa D G) (hc : FC D G zc) (hm : FM D G zm) (x1 : Int32) : ∃ r yc ym, f_X5_lines x1 zc = some (r, yc) ∧ f_X6_lines x1 zm = some (r, ym) ∧ FC D G yc ∧ FM D G ym := by
  obtain ⟨hd, hw, hg⟩ := h
  have h9 := pow9 hd.1
  have hm4 := hd.2.1
  have hpos : 0 < 2 ^ D 7 0 := Nat.two_pow_pos _
  unfold f_X5_lines f_X6_lines
  rw [hasP_eq hd hc.1, isPerson_eq hm.1, Option.bind_some, Option.bind_some]
  rcases inR_of (x := x1) (n := D 7 1) (by omega) with ⟨e, -⟩ | ⟨e, p, hp, rfl⟩
  · rw [e, if_pos (show bI false = 0 from rfl), if_pos (show bI false = 0 from rfl)]
    exact ⟨_, _, _, rfl, rfl, hc, hm⟩
  · rw [e, if_neg (show ¬ bI true = 0 by decide), if_neg (show ¬ bI true = 0 by decide)]
    obtain ⟨yc, c1, c2, c3, c4, c5⟩ := FC_refresh hd hc
    obtain ⟨ym, m1, m2, m3, m4, m5⟩ := marks_eq hd hm.1 hm.2.2.1
    have hFM := FM_scratch hm m2 m3 (fun k hk => m4 k (by omega)) m5
    rw [c1, m1, Option.bind_some, Option.bind_some]
    refine ⟨nI (lnN D p (2 ^ D 7 0)), yc, ym, ?_, ?_, c2, hFM⟩
    · unfold l_X5_lines_24
      refine loopP (N := 2 ^ D 7 0) (it := fun f i => iter (fun _ _ _ _ => none) f_X5_lines_24 f (nI p) (nI (lnN D p i)) (nI i) yc) ?_ ?_ FU (FU_gt (by omega))
      · intro f
        rw [iter_s, f_X5_lines_24.eq_1, allC_eq hd c2.1, Option.bind_some, if_pos (nI_lt (by omega) (by omega))]
      · intro f i hi
        rw [iter_s, f_X5_lines_24.eq_1, allC_eq hd c2.1, Option.bind_some, if_neg (nI_nlt (by omega) (by omega)), isLegal_eq hd c3.1 hp hi, Option.bind_some, nI_1, nI_1]
        unfold lnN
        simp only [sumN]
        cases legB D p i
        · rw [if_pos (show bI false = 0 from rfl)]; rfl
        · rw [if_neg (show ¬ bI true = 0 by decide)]; rfl
    · unfold l_X6_lines_18
      refine loopP (N := 2 ^ D 7 0) (it := fun f i => iter (fun _ _ _ _ => none) f_X6_lines_18 f (nI p) (nI (lnN D p i)) (nI i) ym) ?_ ?_ FU (FU_gt (by omega))
      · intro f
        rw [iter_s, f_X6_lines_18.eq_1, all_eq hd hFM.1.1.1, if_pos (nI_le (Nat.le_refl _) (by omega))]
      · intro f i hi
        rw [iter_s, f_X6_lines_18.eq_1, all_eq hd hFM.1.1.1, if_neg (nI_ge hi (by omega)), L512, pk_mul, nI_add, ck_nI (by omega) (by omega), nI_clamp (by omega), m5 p i hp hi, nI_1, nI_1]
        unfold lnN
        simp only [sumN]
        cases legB D p i
        · rw [if_pos (show bI false = 0 from rfl)]; rfl
        · rw [if_neg (show ¬ bI true = 0 by decide)]; rfl
/-- byNumbers(): everyone in its own turn -/
theorem byNumbers_eq (hd : OKd D) (hz : RM D zm) : ∃ y, f_X6_byNumbers zm = some y ∧ y.1 = zm.1 ∧ (∀ k, k ≠ 12 → y.2 k = zm.2 k) ∧ ∀ k, k < D 7 1 → y.2 12 k = nI k := by
  have hm4 := hd.2.1
  obtain ⟨y, c, d⟩ := loopK (N := D 7 1) (it := fun f i s => iter (fun _ _ => none) f_X6_byNumbers_2 f (nI i) s) (I := fun i s => s.1 = zm.1 ∧ (∀ k, k ≠ 12 → s.2 k = zm.2 k) ∧ ∀ k, k < i → s.2 12 k = nI k) (K := fun s => some s)
    (by
      intro f s hs
      show iter (fun _ _ => none) f_X6_byNumbers_2 (f + 1) _ _ = _
      rw [iter_s, f_X6_byNumbers_2.eq_1, hs.1, hz.1.2.1, if_pos (nI_le (Nat.le_refl _) (by omega))])
    (by
      intro f i s hi hs
      show ∃ s', _ ∧ iter (fun _ _ => none) f_X6_byNumbers_2 (f + 1) _ _ = _
      rw [iter_s, f_X6_byNumbers_2.eq_1, hs.1, hz.1.2.1, if_neg (nI_ge hi (by omega)), ck_nI (by omega) (by omega), nI_clamp (by omega), nI_1]
      refine ⟨pA s 12 i (nI i), ⟨hs.1, fun k hk => by rw [pA_row hk]; exact hs.2.1 k hk, fun k hk => ?_⟩, rfl⟩
      by_cases e : k = i
      · subst e; rw [pA_at]
      · rw [pA_ne e]; exact hs.2.2 k (by omega))
    FU 0 zm (Nat.zero_le _) (FU_gt (by omega)) ⟨rfl, fun _ _ => rfl, fun k hk => by omega⟩
  exact ⟨y, d, c.1, c.2.1, c.2.2⟩
theorem mb_from : ∀ m, m < 5 → ∀ k, k < m + 1 → mb (2 ^ m - 2 ^ k) m = tl id k (m - k) ∧ 2 ^ m - 2 ^ k < 2 ^ m := by
  have h : (List.range 5).all (fun m => (List.range (m + 1)).all (fun k => decide (mb (2 ^ m - 2 ^ k) m = tl id k (m - k)) && decide (2 ^ m - 2 ^ k < 2 ^ m))) = true := by decide +kernel
  intro m hm k hk
  have h1 := List.all_eq_true.mp (List.all_eq_true.mp h m (List.mem_range.mpr hm)) k (List.mem_range.mpr hk)
  simp only [Bool.and_eq_true, decide_eq_true_eq] at h1
  exact h1
theorem P_cover (h : OKa D G) (hc : FC D G zc) (hm : FM D G zm) (x1 x2 : Int32) : ∃ r yc ym, f_X5_cover x1 x2 zc = some (r, yc) ∧ f_X6_cover x1 x2 zm = some (r, ym) ∧ FC D G yc ∧ FM D G ym := by
  obtain ⟨hd, hw, hg⟩ := h
  have h9 := pow9 hd.1
  have hm4 := hd.2.1
  have hwi : f_X5_within zc x2 0 (zc.1 4) = some (bI (inR x2 (D 7 1 + 1))) := by
    rw [hc.1.1.2.1, ← within_eq (z := zc) x2 (n := D 7 1 + 1) (by omega), nI_pred]
  unfold f_X5_cover f_X6_cover
  rw [hwi, Option.bind_some, isLine_eq hd hc.1, isSet_eq hd hm.1, Option.bind_some, Option.bind_some, hm.1.1.2.1]
  rcases inR_of (x := x2) (n := D 7 1 + 1) (by omega) with ⟨e, hx⟩ | ⟨e, k, hk, rfl⟩
  · rw [e, if_pos (show bI false = 0 from rfl)]
    refine ⟨_, _, _, rfl, ?_, hc, hm⟩
    by_cases q : x2 < 0
    · rw [if_pos q]
    · rw [if_neg q, if_neg (show ¬ x2 ≤ nI (D 7 1) from fun q2 => by
        rcases hx with hx | hx
        · exact q hx
        · rw [Int32.le_iff_toInt_le] at q2 hx
          rw [nI_toInt (by omega)] at q2 hx
          omega)]
  · rw [e, if_neg (show ¬ bI true = 0 by decide), if_neg (nI_pos (by omega)), if_pos (nI_le (by omega) (by omega))]
    rcases inR_of (x := x1) (n := 2 ^ D 7 0) (by omega) with ⟨e2, -⟩ | ⟨e2, s, hs, rfl⟩
    · rw [e2, if_pos (show bI false = 0 from rfl), if_pos (show bI false = 0 from rfl)]
      exact ⟨_, _, _, rfl, rfl, hc, hm⟩
    · rw [e2, if_neg (show ¬ bI true = 0 by decide), if_neg (show ¬ bI true = 0 by decide)]
      obtain ⟨yc, c1, c2, c3, c4, c5⟩ := FC_refresh hd hc
      obtain ⟨b, b1, b2, b3, b4⟩ := byNumbers_eq hd hm.1
      have hRMb : RM D b := RM_of hm.1 (fun i _ => by rw [b2]) (fun k hk => b3 k (by omega))
      have hKb : b.1 6 = 0 ∨ (b.1 6 = 1 ∧ LG D b) := by
        rw [b2]
        rcases hm.2.2.1 with q | ⟨q, hL⟩
        · exact Or.inl q
        · exact Or.inr ⟨q, fun p l hp hl => by rw [b3 10 (by omega)]; exact hL p l hp hl⟩
      obtain ⟨ym, m1, m2, m3, m4, m5, m6⟩ := covers_eq (T := id) hd hRMb hKb (fun k hk => ⟨b4 k hk, hk⟩)
      obtain ⟨f1, f2⟩ := mb_from (D 7 1) (by omega) k hk
      obtain ⟨y2, g1, g2, g3, g4⟩ := coverBy_eq hd c2.1 c3 c4 f2 hs
      rw [c1, b1, Option.bind_some, Option.bind_some, from_eq hd c2.1 (by omega), Option.bind_some, m1, Option.bind_some, g1, Option.bind_some, L512, pk_mul, nI_add, ck_nI (by omega) (by omega), nI_clamp (by omega), m6 k s (by omega) hs, f1]
      refine ⟨_, y2, ym, rfl, rfl, FC_chart hd c2 (fun i h5 _ => g2.1 i h5) (fun k _ h7 => g2.2 k h7) (by rw [g2.1 6 (by omega)]; exact c5) g3 g4, ?_⟩
      exact FM_scratch hm (fun i hi => by rw [m2 i hi, b2]) m3 (fun k hk => by rw [m4 k (by omega) (by omega), b3 k (by omega)]) m5
end LOOK
