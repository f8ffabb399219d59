/-- only what was given to people has changed -/
def PG (z y : St) : Prop := (∀ i, (i < 13 ∨ (i - 10) % 6 < 3) → y.1 i = z.1 i) ∧ y.2 = z.2
def gvG (D : Dt) : Dt := fun k p => if k = 0 then 1 else if k = 1 then gotF D id (gl D id p) p else if k = 2 then gl D id p else 0
section GIVEB
variable {D G : Dt} {zc zm : St}
theorem PG_put {z y : St} (h : PG z y) {j p : Nat} {v : Int32} (h1 : 13 ≤ j) (h2 : j ≤ 15) : PG z (pS y (j + 6 * p) v) := ⟨fun i hi => by rw [pS_ne (by omega)]; exact h.1 i hi, h.2⟩
theorem PG_rf {z : St} : PG z z := ⟨fun _ _ => rfl, rfl⟩
theorem RC_pg {z y : St} (hz : RC D z) (h : PG z y) : RC D y := by
  obtain ⟨⟨e0, e1, e2, e3, e4, e5, e6⟩, eD, eP⟩ := hz
  refine ⟨⟨?_, ?_, ?_, ?_, ?_, ?_, ?_⟩, fun j hj => ?_, fun p hp => ?_⟩
  · rw [h.1 3 (by omega)]; exact e0
  · rw [h.1 4 (by omega)]; exact e1
  · rw [h.1 2 (by omega)]; exact e2
  · rw [h.2]; exact e3
  · rw [h.2]; exact e4
  · rw [h.2]; exact e5
  · rw [h.2]; exact e6
  · rw [h.2]; exact eD j hj
  · rw [h.1 _ (by omega), h.1 _ (by omega)]; exact eP p hp
theorem RWC_pg {z y : St} (hz : RWC D z) (h : PG z y) : RWC D y := by
  intro p hp
  rw [h.1 _ (by omega), h.2]; exact hz p hp
theorem CHI_pg {z y : St} (hz : CHI D z) (h : PG z y) : CHI D y := by
  obtain ⟨a, b, K, c, d, e⟩ := hz
  refine ⟨by rw [h.2]; exact a, ?_, K, c, by rw [h.1 5 (by omega)]; exact d, ?_⟩
  · unfold ZR; rw [h.2]; exact b
  · intro q hq hk t ht; rw [h.2]; exact e q hq hk t ht
theorem kn_pg {z y : St} {q : Nat} (hz : knows z q) (h : PG z y) : knows y q := by
  obtain ⟨K, a, b, c⟩ := hz
  exact ⟨K, a, by rw [h.1 5 (by omega)]; exact b, c⟩
theorem from_bit : ∀ m, m < 5 → ∀ i, i < m → (2 ^ m - 2 ^ (i + 1)).testBit i = false := by
  have h : (List.range 5).all (fun m => (List.range m).all (fun i => !(2 ^ m - 2 ^ (i + 1)).testBit i)) = true := by decide +kernel
  intro m hm i hi
  have h1 := List.all_eq_true.mp (List.all_eq_true.mp h m (List.mem_range.mpr hm)) i (List.mem_range.mpr hi)
  simpa using h1
theorem giveC (h : OKd D) (hw : OKw D) (hc : FC D G zc) : ∃ y, f_X5_give zc = some (nI (popN (gl D id (D 7 1))), y) ∧ FC D (gvG D) y := by
  have h9 := pow9 h.1
  have hm4 := h.2.1
  obtain ⟨z, c1, c2, c3, c4, c5⟩ := FC_refresh h hc
  unfold f_X5_give
  rw [c1, Option.bind_some, allC_eq h c2.1, Option.bind_some]
  have hglm := gl_lt (T := id) h (D 7 1)
  obtain ⟨y, c, d⟩ := loopK (N := D 7 1) (it := fun f i s => iter (fun _ _ _ => none) f_X5_give_17 f (nI (gl D id i)) (nI i) s)
    (I := fun i s => RC D s ∧ RWC D s ∧ CHI D s ∧ knows s 0 ∧ s.1 6 = 0 ∧ (∀ p, D 7 1 ≤ p → p < 4 → s.1 (10 + 6 * p) = 0) ∧ ∀ p, p < i → s.1 (13 + 6 * p) = nI (gl D id p) ∧ s.1 (14 + 6 * p) = nI (gotF D id (gl D id p) p) ∧ s.1 (15 + 6 * p) = 0)
    (K := fun s => some (nI (popN (gl D id (D 7 1))), pS (pS s 0 1) 1 0))
    (by
      intro f s hs
      show iter (fun _ _ _ => none) f_X5_give_17 (f + 1) _ _ _ = _
      rw [iter_s, f_X5_give_17.eq_1, hs.1.1.2.1, if_pos (nI_le (Nat.le_refl _) (by omega)), bitCount_eq (by omega), Option.bind_some, pop_14 (by omega)])
    (by
      intro f i s hi hs
      obtain ⟨s1, s2, s3, s4, s5, s6, s7⟩ := hs
      have hgl := gl_lt (T := id) h i
      obtain ⟨g1, g2, g3⟩ := got_spec (T := id) h (k := i) hgl
      have hP := PG_put (PG_rf (z := s)) (j := 13) (p := i) (v := nI (gl D id i)) (by omega) (by omega)
      obtain ⟨f1, f2⟩ := mb_from (D 7 1) (by omega) (i + 1) (by omega)
      obtain ⟨y, b1, b2, b3, b4⟩ := best_eq h hw (RC_pg s1 hP) (RWC_pg s2 hP) (CHI_pg s3 hP) (kn_pg s4 hP) hi hgl f2 (from_bit (D 7 1) (by omega) i hi)
      rw [f1, show pkN D i (tl id (i + 1) (D 7 1 - (i + 1))) (gl D id i) (2 ^ D 7 0) = some (gotF D id (gl D id i) i) from g1] at b1
      have hRy := RC_fr (RC_pg s1 hP) b2
      have hWy := RWC_fr (RWC_pg s2 hP) b2 hm4
      have hP2 := PG_put (PG_put (PG_rf (z := y)) (j := 14) (p := i) (v := nI (gotF D id (gl D id i) i)) (by omega) (by omega)) (j := 15) (p := i) (v := 0) (by omega) (by omega)
      show ∃ s', _ ∧ iter (fun _ _ _ => none) f_X5_give_17 (f + 1) _ _ _ = _
      rw [iter_s, f_X5_give_17.eq_1, s1.1.2.1, if_neg (nI_ge hi (by omega)), ck_nI (by omega) (by omega), nI_clamp (by omega), nI_1, from_eq h (RC_pg s1 hP) (by omega), Option.bind_some, b1, Option.bind_some]
      refine ⟨pS (pS y (14 + 6 * i) (nI (gotF D id (gl D id i) i))) (15 + 6 * i) 0, ⟨RC_pg hRy hP2, RWC_pg hWy hP2, CHI_pg b3 hP2, kn_pg b4 hP2, ?_, fun p hp1 hp2 => ?_, fun p hp => ?_⟩, ?_⟩
      · rw [pS_ne (by omega), pS_ne (by omega), b2.1 6 (by omega), pS_ne (by omega)]; exact s5
      · rw [pS_ne (by omega), pS_ne (by omega), b2.1 _ (by omega), pS_ne (by omega)]; exact s6 p hp1 hp2
      · by_cases e : p = i
        · subst e
          refine ⟨?_, ?_, pS_at⟩
          · rw [pS_ne (by omega), pS_ne (by omega), b2.1 _ (by omega), pS_at]
          · rw [pS_ne (by omega), pS_at]
        · obtain ⟨t1, t2, t3⟩ := s7 p (by omega)
          refine ⟨?_, ?_, ?_⟩
          · rw [pS_ne (by omega), pS_ne (by omega), b2.1 _ (by omega), pS_ne (by omega)]; exact t1
          · rw [pS_ne (by omega), pS_ne (by omega), b2.1 _ (by omega), pS_ne (by omega)]; exact t2
          · rw [pS_ne (by omega), pS_ne (by omega), b2.1 _ (by omega), pS_ne (by omega)]; exact t3
      · show iter (fun _ _ _ => none) f_X5_give_17 f (nI (gl D id i) &&& (((pS (pS y (14 + 6 * i) (nI (gotF D id (gl D id i) i))) (15 + 6 * i) 0).1 (14 + 6 * i)) ^^^ (-1))) _ _ = _
        rw [pS_ne (by omega), pS_at, nI_andnot, sub_xor g2]
        rfl)
    FU 0 z (Nat.zero_le _) (FU_gt (by omega)) ⟨c2.1, c2.2.1, c3, c4, c5, c2.2.2.2.2.2.2, fun p hp => by omega⟩
  obtain ⟨s1, s2, s3, s4, s5, s6, s7⟩ := c
  refine ⟨_, d, ?_⟩
  have hP3 : PG y y := PG_rf
  have q1 : ∀ i, i ≠ 0 → i ≠ 1 → (pS (pS y 0 1) 1 0).1 i = y.1 i := fun i h0 h1 => by rw [pS_ne h1, pS_ne h0]
  refine ⟨?_, ?_, s3.2.1, fun _ => ⟨?_, ?_⟩, ?_, fun _ => ⟨?_, ?_, fun p hp => ?_⟩, fun p hp1 hp2 => ?_⟩
  · obtain ⟨⟨e0, e1, e2, e3, e4, e5, e6⟩, eD, eP⟩ := s1
    refine ⟨⟨?_, ?_, ?_, e3, e4, e5, e6⟩, eD, fun p hp => ?_⟩
    · rw [q1 3 (by omega) (by omega)]; exact e0
    · rw [q1 4 (by omega) (by omega)]; exact e1
    · rw [q1 2 (by omega) (by omega)]; exact e2
    · rw [q1 _ (by omega) (by omega), q1 _ (by omega) (by omega)]; exact eP p hp
  · intro p hp
    rw [q1 _ (by omega) (by omega)]; exact s2 p hp
  · obtain ⟨a, b, K, c, e, f⟩ := s3
    exact ⟨a, b, K, c, by rw [q1 5 (by omega) (by omega)]; exact e, f⟩
  · obtain ⟨K, a, b, c⟩ := s4
    exact ⟨K, a, by rw [q1 5 (by omega) (by omega)]; exact b, c⟩
  · rw [pS_ne (by omega), pS_at]; rfl
  · rw [q1 6 (by omega) (by omega)]; exact s5
  · rw [pS_at]; rfl
  · rw [q1 _ (by omega) (by omega), q1 _ (by omega) (by omega), q1 _ (by omega) (by omega)]
    exact s7 p hp
  · rw [q1 _ (by omega) (by omega)]; exact s6 p hp1 hp2
theorem op_gl (h : OKd D) : ∀ k, opN D (gvG D) k = gl D id k
  | 0 => rfl
  | k + 1 => by
    have hgl := gl_lt (T := id) h k
    obtain ⟨g1, g2, g3⟩ := got_spec (T := id) h (k := k) hgl
    show opN D (gvG D) k ^^^ (opN D (gvG D) k &&& gvG D 1 k) = gl D id k ^^^ gotF D id (gl D id k) k
    rw [op_gl h k, show gvG D 1 k = gotF D id (gl D id k) k from rfl, sub_xor g2]
theorem giveM (h : OKd D) (hw : OKw D) (hm : FM D G zm) : ∃ y, f_X6_give zm = some (nI (popN (gl D id (D 7 1))), y) ∧ FM D (gvG D) y := by
  have h9 := pow9 h.1
  have hm4 := h.2.1
  obtain ⟨b, b1, b2, b3, b4⟩ := byNumbers_eq h hm.1
  have hRMb : RM D b := RM_of hm.1 (fun i _ => by rw [b2]) (fun k hk => b3 k (by omega))
  have hRWb : RW D b := RW_of hm.2.1 (fun k hk => b3 k (by omega))
  have hKb : b.1 6 = 0 ∨ (b.1 6 = 1 ∧ LG D b) := by
    rw [b2]
    rcases hm.2.2.1 with q | ⟨q, hL⟩
    · exact Or.inl q
    · exact Or.inr ⟨q, fun p l hp hl => by rw [b3 10 (by omega)]; exact hL p l hp hl⟩
  obtain ⟨w, w1, w2, w3, w4, w5, w6⟩ := gives_eq (T := id) h hw hRMb hRWb hKb (fun k hk => ⟨b4 k hk, hk⟩) (fun i j _ _ e => e)
  have hRMw : RM D w := RM_of hRMb w2 (fun k hk => w4 k (by omega))
  have hRWw : RW D w := RW_of hRWb (fun k hk => w4 k (by omega))
  unfold f_X6_give
  rw [b1, Option.bind_some, w1, Option.bind_some]
  have hglm := gl_lt (T := id) h (D 7 1)
  obtain ⟨y, c, d⟩ := loopK (N := D 7 1) (it := fun f i s => iter (fun _ _ => none) f_X6_give_10 f (nI i) s)
    (I := fun i s => s.1 = w.1 ∧ (∀ k, k < 16 → s.2 k = w.2 k) ∧ ∀ p, p < i → s.2 16 p = nI (gvG D 1 p) ∧ s.2 17 p = nI (gvG D 2 p) ∧ s.2 18 p = nI (gvG D 3 p))
    (K := fun s => some (nI (popN (gl D id (D 7 1))), pS (pS s 7 1) 8 1))
    (by
      intro f s hs
      have hz : RM D (pS (pS s 7 1) 8 1) := by
        obtain ⟨⟨e0, e1, e2, e3, e4, e5⟩, eD, eP⟩ := hRMw
        refine ⟨⟨?_, ?_, ?_, ?_, ?_, ?_⟩, fun j hj => ?_, fun p hp => ?_⟩
        · rw [pS_ne (by omega), pS_ne (by omega), hs.1]; exact e0
        · rw [pS_ne (by omega), pS_ne (by omega), hs.1]; exact e1
        · rw [pS_ne (by omega), pS_ne (by omega), hs.1]; exact e2
        · rw [pS_ne (by omega), pS_ne (by omega), hs.1]; exact e3
        · rw [pS_ne (by omega), pS_ne (by omega), hs.1]; exact e4
        · rw [pS_ne (by omega), pS_ne (by omega), hs.1]; exact e5
        · rw [pS_2, pS_2, hs.2.1 0 (by omega), hs.2.1 1 (by omega), hs.2.1 2 (by omega), hs.2.1 3 (by omega), hs.2.1 4 (by omega)]; exact eD j hj
        · rw [pS_2, pS_2, hs.2.1 5 (by omega), hs.2.1 6 (by omega)]; exact eP p hp
      show iter (fun _ _ => none) f_X6_give_10 (f + 1) _ _ = _
      rw [iter_s, f_X6_give_10.eq_1, hs.1, hRMw.1.2.1, if_pos (nI_le (Nat.le_refl _) (by omega)), openNow_eq (G := gvG D) h hz (fun p hp => (hs.2.2 p hp).1), Option.bind_some, op_gl h, size_eq (by omega), Option.bind_some])
    (by
      intro f i s hi hs
      obtain ⟨t1, t2⟩ := w6 i hi
      show ∃ s', _ ∧ iter (fun _ _ => none) f_X6_give_10 (f + 1) _ _ = _
      rw [iter_s, f_X6_give_10.eq_1, hs.1, hRMw.1.2.1, if_neg (nI_ge hi (by omega)), ck_nI (by omega) (by omega), ck_nI (by omega) (by omega), ck_nI (by omega) (by omega), ck_nI (by omega) (by omega), ck_nI (by omega) (by omega), nI_clamp (by omega), nI_1, nar0, pA_row (by omega), hs.2.1 14 (by omega), hs.2.1 15 (by omega)]
      refine ⟨pA (pA (pA s 16 i (w.2 14 i)) 17 i (w.2 15 i)) 18 i 0, ⟨hs.1, fun k hk => by rw [pA_row (by omega), pA_row (by omega), pA_row (by omega)]; exact hs.2.1 k hk, fun p hp => ?_⟩, rfl⟩
      by_cases e : p = i
      · subst e
        refine ⟨?_, ?_, ?_⟩
        · rw [pA_row (by omega), pA_row (by omega), pA_at]; exact t1
        · rw [pA_row (by omega), pA_at]; exact t2
        · rw [pA_at]; rfl
      · obtain ⟨u1, u2, u3⟩ := hs.2.2 p (by omega)
        refine ⟨?_, ?_, ?_⟩
        · rw [pA_row (by omega), pA_row (by omega), pA_ne e]; exact u1
        · rw [pA_row (by omega), pA_ne e, pA_row (by omega)]; exact u2
        · rw [pA_ne e, pA_row (by omega), pA_row (by omega)]; exact u3)
    FU 0 w (Nat.zero_le _) (FU_gt (by omega)) ⟨rfl, fun _ _ => rfl, fun p hp => by omega⟩
  refine ⟨_, d, ?_⟩
  have q1 : ∀ i, i ≠ 7 → i ≠ 8 → (pS (pS y 7 1) 8 1).1 i = w.1 i := fun i h0 h1 => by rw [pS_ne h1, pS_ne h0, c.1]
  refine ⟨?_, ?_, Or.inr ⟨?_, ?_⟩, ?_, fun _ => ⟨?_, fun p hp => c.2.2 p hp⟩⟩
  · obtain ⟨⟨e0, e1, e2, e3, e4, e5⟩, eD, eP⟩ := hRMw
    refine ⟨⟨?_, ?_, ?_, ?_, ?_, ?_⟩, fun j hj => ?_, fun p hp => ?_⟩
    · rw [q1 0 (by omega) (by omega)]; exact e0
    · rw [q1 1 (by omega) (by omega)]; exact e1
    · rw [q1 2 (by omega) (by omega)]; exact e2
    · rw [q1 3 (by omega) (by omega)]; exact e3
    · rw [q1 4 (by omega) (by omega)]; exact e4
    · rw [q1 5 (by omega) (by omega)]; exact e5
    · rw [pS_2, pS_2, c.2.1 0 (by omega), c.2.1 1 (by omega), c.2.1 2 (by omega), c.2.1 3 (by omega), c.2.1 4 (by omega)]; exact eD j hj
    · rw [pS_2, pS_2, c.2.1 5 (by omega), c.2.1 6 (by omega)]; exact eP p hp
  · exact RW_of hRWw (fun k hk => by rw [pS_2, pS_2]; exact c.2.1 k (by omega))
  · rw [q1 6 (by omega) (by omega)]; exact w3
  · intro p l hp hl; rw [pS_2, pS_2, c.2.1 10 (by omega)]; exact w5 p l hp hl
  · rw [pS_ne (by omega), pS_at]; rfl
  · rw [pS_at]; rfl
theorem gv_ok (h : OKd D) : OKg D (gvG D) := by
  refine ⟨Nat.le_refl 1, fun _ => ⟨Nat.le_refl 1, fun p hp => ⟨?_, gl_lt (T := id) h p, Nat.zero_le _⟩⟩⟩
  have hgl := gl_lt (T := id) h p
  obtain ⟨g1, g2, g3⟩ := got_spec (T := id) h (k := p) hgl
  have : gotF D id (gl D id p) p &&& gl D id p ≤ gl D id p := Nat.and_le_right
  show gotF D id (gl D id p) p < _
  omega
theorem P_give (h : OKa D G) (hc : FC D G zc) (hm : FM D G zm) : ∃ r yc ym, f_X5_give zc = some (r, yc) ∧ f_X6_give zm = some (r, ym) ∧ OKa D (gvG D) ∧ FC D (gvG D) yc ∧ FM D (gvG D) ym := by
  obtain ⟨yc, c1, c2⟩ := giveC h.1 h.2.1 hc
  obtain ⟨ym, m1, m2⟩ := giveM h.1 h.2.1 hm
  exact ⟨_, yc, ym, c1, m1, ⟨h.1, h.2.1, gv_ok h.1⟩, c2, m2⟩
end GIVEB
