section GEN
variable {p : Program} {l : Launch} {e : Env} {s : State} {m : MethodId} {args : Array Value} {below : List Frame} {meth : Method} {c : Code} {d : G3} {a : Nat → Nat}
def f_X5_cover (x1 : Int32) (x2 : Int32) (z : St) : Option (Int32 × St) := (f_X5_within z x2 (0 : Int32) (z.1 4)).bind (fun r_1 => (if r_1 = (0 : Int32) then some ((-1 : Int32), z) else (f_X1_isLine z x1).bind (fun r_2 => (if r_2 = (0 : Int32) then some ((-2 : Int32), z) else (f_X0_refresh z).bind (fun r_3 => (f_X2_from r_3 x2).bind (fun r_4 => (f_X0_coverBy r_4 x1 r_3).bind (fun r_5 => some (r_5.1, r_5.2))))))))
set_option maxHeartbeats 4000000 in
set_option maxRecDepth 100000 in
theorem t_X5_cover {RR : Int32 × St} (X : Cx p s m c cX5_cover RX5 3 d) (hJ : Inj 26 a) (hr : meth.sig.returnType = (some .int)) (hlk : meth.locks = false) : ∀ (x1 : Int32) (x2 : Int32) (z : St), f_X5_cover x1 x2 z = some RR → WWr wC 26 d a p l e { frames := 6, cells := 0, slots := 0, locals := 137 } s m args below meth c RR z 3 [(0, .ref (a 0)), (1, .int x1), (2, .int x2)] 0 [] := by
  intro x1 x2 z hf H locs ls hP hS hl
  obtain ⟨hx, hb, hml, hown, hE⟩ := id X
  unfold f_X5_cover at hf
  refine lv_iload_n hx hb dX5_cover_0 rfl (lv_at hl 2 rfl) ?_
  refine lv_iconst (v := 0) hx hb dX5_cover_1 (by decide) ?_
  refine lv_aload_n hx hb dX5_cover_2 rfl (lv_at hl 0 rfl) ?_
  refine gf_5_26 hx hb hE hown hP dX5_cover_3 ?_
  refine gf_5_58 hx hb hE hown hP dX5_cover_6 ?_
  obtain ⟨r_1, hc, hf⟩ := bnd hf
  refine rdS X (c_X5_within l d a z x2 (0 : Int32) (z.1 4) hc) (k_X5_39 hE rfl rfl ⟨Nat.le_of_ble_eq_true rfl, Nat.le_of_ble_eq_true rfl⟩) hP rfl hl.1 rfl (Nat.le_of_ble_eq_true rfl) dX5_cover_9 ?_
  refine lv_if_ne (tgt := 17) hx hb dX5_cover_12 (by decide) (fun q => ?_) (fun q => ?_)
  · have hf := (if_neg q).symm.trans hf
    refine lv_aload_n hx hb dX5_cover_17 rfl (lv_at hl 0 rfl) ?_
    refine gf_5_12 hx hb hE hown hP dX5_cover_18 ?_
    refine lv_iload_n hx hb dX5_cover_21 rfl (lv_at hl 1 rfl) ?_
    obtain ⟨r_2, hc, hf⟩ := bnd hf
    refine rdV X (c_X1_isLine l d a z x1 hc) (k_X5_92 hE rfl rfl ⟨Nat.le_of_ble_eq_true rfl, Nat.le_of_ble_eq_true rfl⟩) hP (va_recv (q := (RX1, TX1, 7)) hE.2 hP (ci := 1) (q0 := 1) rfl rfl) rfl hl.1 rfl (Nat.le_of_ble_eq_true rfl) dX5_cover_22 ?_
    refine lv_if_ne (tgt := 31) hx hb dX5_cover_25 (by decide) (fun q => ?_) (fun q => ?_)
    · have hf := (if_neg q).symm.trans hf
      refine lv_aload_n hx hb dX5_cover_31 rfl (lv_at hl 0 rfl) ?_
      refine gf_5_35 hx hb hE hown hP dX5_cover_32 ?_
      obtain ⟨r_3, hc, hf⟩ := bnd hf
      refine wrVv X (c_X0_refresh l d a z hc) (k_X5_113 hE rfl rfl ⟨Nat.le_of_ble_eq_true rfl, Nat.le_of_ble_eq_true rfl⟩) hP hJ hS (va_recv (q := (RX0, TX0, 7)) hE.2 hP (ci := 0) (q0 := 11) rfl rfl) rfl hl.1 rfl (Nat.le_of_ble_eq_true rfl) dX5_cover_35 (fun H locs hP hS => ?_)
      refine lv_aload_n hx hb dX5_cover_38 rfl (lv_at hl 0 rfl) ?_
      refine gf_5_35 hx hb hE hown hP dX5_cover_39 ?_
      refine lv_aload_n hx hb dX5_cover_42 rfl (lv_at hl 0 rfl) ?_
      refine gf_5_26 hx hb hE hown hP dX5_cover_43 ?_
      refine lv_iload_n hx hb dX5_cover_46 rfl (lv_at hl 2 rfl) ?_
      obtain ⟨r_4, hc, hf⟩ := bnd hf
      refine rdV X (c_X2_from l d a r_3 x2 hc) (k_X5_124 hE rfl rfl ⟨Nat.le_of_ble_eq_true rfl, Nat.le_of_ble_eq_true rfl⟩) hP (va_recv (q := (RX2, TX2, 2)) hE.2 hP (ci := 2) (q0 := 9) rfl rfl) rfl hl.1 rfl (Nat.le_of_ble_eq_true rfl) dX5_cover_47 ?_
      refine lv_iload_n hx hb dX5_cover_50 rfl (lv_at hl 1 rfl) ?_
      obtain ⟨r_5, hc, hf⟩ := bnd hf
      refine wrV X (c_X0_coverBy l d a r_3 r_4 x1 hc) (k_X5_128 hE rfl rfl ⟨Nat.le_of_ble_eq_true rfl, Nat.le_of_ble_eq_true rfl⟩) hP hJ hS (va_recv (q := (RX0, TX0, 7)) hE.2 hP (ci := 0) (q0 := 11) rfl rfl) rfl hl.1 rfl (Nat.le_of_ble_eq_true rfl) dX5_cover_51 (fun H locs hP hS => ?_)
      obtain rfl := Option.some.inj hf
      exact W.iret hx hb hr (fun t ht _ => ⟨rfl, by rw [ht]; exact hP, hS.F ht⟩) hS.2.2 dX5_cover_54 hlk
    · have hf := (if_pos q).symm.trans hf
      refine lv_bipush (v := -2) hx hb dX5_cover_28 (by decide) ?_
      obtain rfl := Option.some.inj hf
      exact W.iret hx hb hr (fun t ht _ => ⟨rfl, by rw [ht]; exact hP, hS.F ht⟩) hS.2.2 dX5_cover_30 hlk
  · have hf := (if_pos q).symm.trans hf
    refine lv_iconst (v := -1) hx hb dX5_cover_15 (by decide) ?_
    obtain rfl := Option.some.inj hf
    exact W.iret hx hb hr (fun t ht _ => ⟨rfl, by rw [ht]; exact hP, hS.F ht⟩) hS.2.2 dX5_cover_16 hlk
set_option maxHeartbeats 4000000 in
set_option maxRecDepth 100000 in
theorem c_X5_cover (l : Launch) (d : G3) (a : Nat → Nat) (z : St) (x1 : Int32) (x2 : Int32) {RR : Int32 × St} (hf : f_X5_cover x1 x2 z = some RR) : Met l yX5_cover [Cond.code yX5_cover cX5_cover 3 (some .int)] { frames := 6, cells := 0, slots := 0, locals := 137 } (wpre wC 26 d a z [.ref (a 0), .int x1, .int x2]) (QW wC 26 d a RR) 0 0 (AD 26 a) := by
  refine Met.ofW (cc := cX5_cover) (maxL := 3) (ret := (some .int)) (by decide) rfl ?_
  intro p e s m args below meth c s₁ B hml hv
  obtain ⟨rfl, hE, hP, hJ⟩ := hv
  have X : Cx p s m c cX5_cover RX5 3 d := ⟨B.exec, B.bytes, hml, findClass_of_methodNamed B.named, hE⟩
  have hl := lv_entry ([.ref (a 0), .int x1, .int x2]) (n := 3) (Nat.le_of_ble_eq_true rfl)
  rw [lg_entry_eq]
  generalize (lg_sl ([.ref (a 0), .int x1, .int x2]) ++ List.replicate (3 - (lg_sl ([.ref (a 0), .int x1, .int x2])).length) Slot.unset).toArray = ls at hl ⊢
  have hl : lv_has ls 3 [(0, .ref (a 0)), (1, .int x1), (2, .int x2)] := hl
  exact t_X5_cover X hJ B.returns B.notSynchronized x1 x2 z hf s.heap [] ls hP va_S.rf hl
def f_J6_lowestOneBit_0f7a4 (z : St) (x0 : Int32) : Option (Int32) := some (x0 &&& (-x0))
set_option maxHeartbeats 4000000 in
set_option maxRecDepth 100000 in
theorem t_J6_lowestOneBit_0f7a4 {RR : Int32} (X : Cx p s m c cJ6_lowestOneBit_0f7a4 RJ6 1 d) {z : St} (hP : va_P d.1 classes (wC d a z) s.heap) (hr : meth.sig.returnType = (some .int)) (hlk : meth.locks = false) : ∀ (x0 : Int32), f_J6_lowestOneBit_0f7a4 z x0 = some RR → WRd p l e { frames := 0, cells := 0, slots := 0, locals := 0 } s m args below meth c RR 1 [(0, .int x0)] 0 [] := by
  intro x0 hf ls hl
  obtain ⟨hx, hb, hml, hown, hE⟩ := id X
  unfold f_J6_lowestOneBit_0f7a4 at hf
  refine lv_iload_n hx hb dJ6_lowestOneBit_0f7a4_0 rfl (lv_at hl 0 rfl) ?_
  refine lv_iload_n hx hb dJ6_lowestOneBit_0f7a4_1 rfl (lv_at hl 0 rfl) ?_
  refine lv_ineg hx hb dJ6_lowestOneBit_0f7a4_2 ?_
  refine lv_iand hx hb dJ6_lowestOneBit_0f7a4_3 ?_
  obtain rfl := Option.some.inj hf
  exact W.iret hx hb hr (fun t ht _ => ⟨rfl, ht⟩) (fun _ h => nomatch h) dJ6_lowestOneBit_0f7a4_4 hlk
set_option maxHeartbeats 4000000 in
set_option maxRecDepth 100000 in
theorem c_J6_lowestOneBit_0f7a4 (l : Launch) (d : G3) (a : Nat → Nat) (z : St) (x0 : Int32) {RR : Int32} (hf : f_J6_lowestOneBit_0f7a4 z x0 = some RR) : Met l yJ6_lowestOneBit_0f7a4 [Cond.code yJ6_lowestOneBit_0f7a4 cJ6_lowestOneBit_0f7a4 1 (some .int)] { frames := 0, cells := 0, slots := 0, locals := 0 } (rpre wC d a z [.int x0]) (QcRead RR) 0 0 (fun _ => False) := by
  refine Met.ofW (cc := cJ6_lowestOneBit_0f7a4) (maxL := 1) (ret := (some .int)) (by decide) rfl ?_
  intro p e s m args below meth c s₁ B hml hv
  obtain ⟨rfl, hE, hP⟩ := hv
  have X : Cx p s m c cJ6_lowestOneBit_0f7a4 RJ6 1 d := ⟨B.exec, B.bytes, hml, findClass_of_methodNamed B.named, hE⟩
  have hl := lv_entry ([.int x0]) (n := 1) (Nat.le_of_ble_eq_true rfl)
  rw [lg_entry_eq]
  generalize (lg_sl ([.int x0]) ++ List.replicate (1 - (lg_sl ([.int x0])).length) Slot.unset).toArray = ls at hl ⊢
  have hl : lv_has ls 1 [(0, .int x0)] := hl
  exact t_J6_lowestOneBit_0f7a4 X hP B.returns B.notSynchronized x0 hf ls hl
def f_X5_isAheadByDuties (z : St) (x0 : Int32) (x1 : Int32) : Option (Int32) := (f_J6_lowestOneBit_0f7a4 z (x0 ^^^ x1)).bind (fun r_1 => (if (r_1 &&& x0) = (0 : Int32) then some (0 : Int32) else some (1 : Int32)))
set_option maxHeartbeats 4000000 in
set_option maxRecDepth 100000 in
theorem t_X5_isAheadByDuties {RR : Int32} (X : Cx p s m c cX5_isAheadByDuties RX5 2 d) {z : St} (hP : va_P d.1 classes (wC d a z) s.heap) (hr : meth.sig.returnType = (some .boolean)) (hlk : meth.locks = false) : ∀ (x0 : Int32) (x1 : Int32), f_X5_isAheadByDuties z x0 x1 = some RR → WRd p l e { frames := 1, cells := 0, slots := 0, locals := 20 } s m args below meth c RR 2 [(0, .int x0), (1, .int x1)] 0 [] := by
  intro x0 x1 hf ls hl
  obtain ⟨hx, hb, hml, hown, hE⟩ := id X
  unfold f_X5_isAheadByDuties at hf
  refine lv_iload_n hx hb dX5_isAheadByDuties_0 rfl (lv_at hl 0 rfl) ?_
  refine lv_iload_n hx hb dX5_isAheadByDuties_1 rfl (lv_at hl 1 rfl) ?_
  refine lv_ixor hx hb dX5_isAheadByDuties_2 ?_
  obtain ⟨r_1, hc, hf⟩ := bnd hf
  refine rdS X (c_J6_lowestOneBit_0f7a4 l d a z (x0 ^^^ x1) hc) (k_X5_205 hE rfl rfl ⟨Nat.le_of_ble_eq_true rfl, Nat.le_of_ble_eq_true rfl⟩) hP rfl hl.1 rfl (Nat.le_of_ble_eq_true rfl) dX5_isAheadByDuties_3 ?_
  refine lv_iload_n hx hb dX5_isAheadByDuties_6 rfl (lv_at hl 0 rfl) ?_
  refine lv_iand hx hb dX5_isAheadByDuties_7 ?_
  refine lv_if_eq (tgt := 15) hx hb dX5_isAheadByDuties_8 (by decide) (fun q => ?_) (fun q => ?_)
  · have hf := (if_pos q).symm.trans hf
    refine lv_iconst (v := 0) hx hb dX5_isAheadByDuties_15 (by decide) ?_
    obtain rfl := Option.some.inj hf
    exact W.zret hx hb hr rfl (fun t ht _ => ⟨rfl, ht⟩) (fun _ h => nomatch h) dX5_isAheadByDuties_16 hlk
  · have hf := (if_neg q).symm.trans hf
    refine lv_iconst (v := 1) hx hb dX5_isAheadByDuties_11 (by decide) ?_
    refine lv_goto (tgt := 16) hx hb dX5_isAheadByDuties_12 (by decide) ?_
    obtain rfl := Option.some.inj hf
    exact W.zret hx hb hr rfl (fun t ht _ => ⟨rfl, ht⟩) (fun _ h => nomatch h) dX5_isAheadByDuties_16 hlk
set_option maxHeartbeats 4000000 in
set_option maxRecDepth 100000 in
theorem c_X5_isAheadByDuties (l : Launch) (d : G3) (a : Nat → Nat) (z : St) (x0 : Int32) (x1 : Int32) {RR : Int32} (hf : f_X5_isAheadByDuties z x0 x1 = some RR) : Met l yX5_isAheadByDuties [Cond.code yX5_isAheadByDuties cX5_isAheadByDuties 2 (some .boolean)] { frames := 1, cells := 0, slots := 0, locals := 20 } (rpre wC d a z [.int x0, .int x1]) (QcRead RR) 0 0 (fun _ => False) := by
  refine Met.ofW (cc := cX5_isAheadByDuties) (maxL := 2) (ret := (some .boolean)) (by decide) rfl ?_
  intro p e s m args below meth c s₁ B hml hv
  obtain ⟨rfl, hE, hP⟩ := hv
  have X : Cx p s m c cX5_isAheadByDuties RX5 2 d := ⟨B.exec, B.bytes, hml, findClass_of_methodNamed B.named, hE⟩
  have hl := lv_entry ([.int x0, .int x1]) (n := 2) (Nat.le_of_ble_eq_true rfl)
  rw [lg_entry_eq]
  generalize (lg_sl ([.int x0, .int x1]) ++ List.replicate (2 - (lg_sl ([.int x0, .int x1])).length) Slot.unset).toArray = ls at hl ⊢
  have hl : lv_has ls 2 [(0, .int x0), (1, .int x1)] := hl
  exact t_X5_isAheadByDuties X hP B.returns B.notSynchronized x0 x1 hf ls hl
def f_X5_better (z : St) (x1 : Int32) (x2 : Int32) (x3 : Int32) : Option (Int32) := (f_X2_has z x1).bind (fun r_1 => (if r_1 = (0 : Int32) then some (-1 : Int32) else (f_X1_isLine z x2).bind (fun r_2 => (if r_2 = (0 : Int32) then some (-2 : Int32) else (f_X1_isLine z x3).bind (fun r_3 => (if r_3 = (0 : Int32) then some (-2 : Int32) else ck 4 x1 ((f_X3_score z x1.toNatClampNeg x2).bind (fun r_5 => (f_X3_score z x1.toNatClampNeg x3).bind (fun r_6 => (if r_5 = r_6 then (f_X5_isAheadByDuties z x2 x3).bind (fun r_7 => (if r_7 = (0 : Int32) then some (0 : Int32) else some (1 : Int32))) else (if r_5 ≤ r_6 then some (0 : Int32) else some (2 : Int32))))))))))))
set_option maxHeartbeats 4000000 in
set_option maxRecDepth 100000 in
theorem t_X5_better {RR : Int32} (X : Cx p s m c cX5_better RX5 7 d) {z : St} (hP : va_P d.1 classes (wC d a z) s.heap) (hr : meth.sig.returnType = (some .int)) (hlk : meth.locks = false) : ∀ (x1 : Int32) (x2 : Int32) (x3 : Int32), f_X5_better z x1 x2 x3 = some RR → WRd p l e { frames := 4, cells := 0, slots := 0, locals := 92 } s m args below meth c RR 7 [(0, .ref (a 0)), (1, .int x1), (2, .int x2), (3, .int x3)] 0 [] := by
  intro x1 x2 x3 hf ls hl
  obtain ⟨hx, hb, hml, hown, hE⟩ := id X
  unfold f_X5_better at hf
  refine lv_aload_n hx hb dX5_better_0 rfl (lv_at hl 0 rfl) ?_
  refine gf_5_26 hx hb hE hown hP dX5_better_1 ?_
  refine lv_iload_n hx hb dX5_better_4 rfl (lv_at hl 1 rfl) ?_
  obtain ⟨r_1, hc, hf⟩ := bnd hf
  refine rdV X (c_X2_has l d a z x1 hc) (k_X5_72 hE rfl rfl ⟨Nat.le_of_ble_eq_true rfl, Nat.le_of_ble_eq_true rfl⟩) hP (va_recv (q := (RX2, TX2, 2)) hE.2 hP (ci := 2) (q0 := 9) rfl rfl) rfl hl.1 rfl (Nat.le_of_ble_eq_true rfl) dX5_better_5 ?_
  refine lv_if_ne (tgt := 13) hx hb dX5_better_8 (by decide) (fun q => ?_) (fun q => ?_)
  · have hf := (if_neg q).symm.trans hf
    refine lv_aload_n hx hb dX5_better_13 rfl (lv_at hl 0 rfl) ?_
    refine gf_5_12 hx hb hE hown hP dX5_better_14 ?_
    refine lv_iload_n hx hb dX5_better_17 rfl (lv_at hl 2 rfl) ?_
    obtain ⟨r_2, hc, hf⟩ := bnd hf
    refine rdV X (c_X1_isLine l d a z x2 hc) (k_X5_92 hE rfl rfl ⟨Nat.le_of_ble_eq_true rfl, Nat.le_of_ble_eq_true rfl⟩) hP (va_recv (q := (RX1, TX1, 7)) hE.2 hP (ci := 1) (q0 := 1) rfl rfl) rfl hl.1 rfl (Nat.le_of_ble_eq_true rfl) dX5_better_18 ?_
    refine lv_if_eq (tgt := 35) hx hb dX5_better_21 (by decide) (fun q => ?_) (fun q => ?_)
    · have hf := (if_pos q).symm.trans hf
      refine lv_bipush (v := -2) hx hb dX5_better_35 (by decide) ?_
      obtain rfl := Option.some.inj hf
      exact W.iret hx hb hr (fun t ht _ => ⟨rfl, ht⟩) (fun _ h => nomatch h) dX5_better_37 hlk
    · have hf := (if_neg q).symm.trans hf
      refine lv_aload_n hx hb dX5_better_24 rfl (lv_at hl 0 rfl) ?_
      refine gf_5_12 hx hb hE hown hP dX5_better_25 ?_
      refine lv_iload_n hx hb dX5_better_28 rfl (lv_at hl 3 rfl) ?_
      obtain ⟨r_3, hc, hf⟩ := bnd hf
      refine rdV X (c_X1_isLine l d a z x3 hc) (k_X5_92 hE rfl rfl ⟨Nat.le_of_ble_eq_true rfl, Nat.le_of_ble_eq_true rfl⟩) hP (va_recv (q := (RX1, TX1, 7)) hE.2 hP (ci := 1) (q0 := 1) rfl rfl) rfl hl.1 rfl (Nat.le_of_ble_eq_true rfl) dX5_better_29 ?_
      refine lv_if_ne (tgt := 38) hx hb dX5_better_32 (by decide) (fun q => ?_) (fun q => ?_)
      · have hf := (if_neg q).symm.trans hf
        refine lv_aload_n hx hb dX5_better_38 rfl (lv_at hl 0 rfl) ?_
        refine gf_5_26 hx hb hE hown hP dX5_better_39 ?_
        refine gf_5_76 hx hb hE hown hP dX5_better_42 ?_
        refine lv_iload_n hx hb dX5_better_45 rfl (lv_at hl 1 rfl) ?_
        obtain ⟨hi_4, hf⟩ := ck_some hf
        refine al_rank hx hb hE hP hi_4 dX5_better_46 ?_
        refine lv_astore (lv' := [(4, .ref (a (14 + 3 * x1.toNatClampNeg))), (0, .ref (a 0)), (1, .int x1), (2, .int x2), (3, .int x3)]) hx hb dX5_better_47 hl (by decide) rfl (fun ls hl => ?_)
        refine lv_aload hx hb dX5_better_49 (lv_at hl 0 rfl) ?_
        refine lv_aload_n hx hb dX5_better_51 rfl (lv_at hl 1 rfl) ?_
        refine gf_5_12 hx hb hE hown hP dX5_better_52 ?_
        refine lv_iload_n hx hb dX5_better_55 rfl (lv_at hl 3 rfl) ?_
        obtain ⟨r_5, hc, hf⟩ := bnd hf
        refine rdV X (c_X3_score l d a z x1.toNatClampNeg x2 (vp_lt hi_4) hc) (k_X5_131 hE rfl rfl ⟨Nat.le_of_ble_eq_true rfl, Nat.le_of_ble_eq_true rfl⟩) hP (recvP hE hP (vp_lt hi_4)) rfl hl.1 rfl (Nat.le_of_ble_eq_true rfl) dX5_better_56 ?_
        refine lv_istore (lv' := [(5, .int r_5), (4, .ref (a (14 + 3 * x1.toNatClampNeg))), (0, .ref (a 0)), (1, .int x1), (2, .int x2), (3, .int x3)]) hx hb dX5_better_59 hl (by decide) rfl (fun ls hl => ?_)
        refine lv_aload hx hb dX5_better_61 (lv_at hl 1 rfl) ?_
        refine lv_aload_n hx hb dX5_better_63 rfl (lv_at hl 2 rfl) ?_
        refine gf_5_12 hx hb hE hown hP dX5_better_64 ?_
        refine lv_iload_n hx hb dX5_better_67 rfl (lv_at hl 5 rfl) ?_
        obtain ⟨r_6, hc, hf⟩ := bnd hf
        refine rdV X (c_X3_score l d a z x1.toNatClampNeg x3 (vp_lt hi_4) hc) (k_X5_131 hE rfl rfl ⟨Nat.le_of_ble_eq_true rfl, Nat.le_of_ble_eq_true rfl⟩) hP (recvP hE hP (vp_lt hi_4)) rfl hl.1 rfl (Nat.le_of_ble_eq_true rfl) dX5_better_68 ?_
        refine lv_istore (lv' := [(6, .int r_6), (5, .int r_5), (4, .ref (a (14 + 3 * x1.toNatClampNeg))), (0, .ref (a 0)), (1, .int x1), (2, .int x2), (3, .int x3)]) hx hb dX5_better_71 hl (by decide) rfl (fun ls hl => ?_)
        refine lv_iload hx hb dX5_better_73 (lv_at hl 1 rfl) ?_
        refine lv_iload hx hb dX5_better_75 (lv_at hl 0 rfl) ?_
        refine lv_icmp_eq (tgt := 93) hx hb dX5_better_77 (by decide) (fun q => ?_) (fun q => ?_)
        · have hf := (if_pos q).symm.trans hf
          refine lv_iload_n hx hb dX5_better_93 rfl (lv_at hl 5 rfl) ?_
          refine lv_iload_n hx hb dX5_better_94 rfl (lv_at hl 6 rfl) ?_
          obtain ⟨r_7, hc, hf⟩ := bnd hf
          refine rdS X (c_X5_isAheadByDuties l d a z x2 x3 hc) (k_X5_134 hE rfl rfl ⟨Nat.le_of_ble_eq_true rfl, Nat.le_of_ble_eq_true rfl⟩) hP rfl hl.1 rfl (Nat.le_of_ble_eq_true rfl) dX5_better_95 ?_
          refine lv_if_eq (tgt := 105) hx hb dX5_better_98 (by decide) (fun q => ?_) (fun q => ?_)
          · have hf := (if_pos q).symm.trans hf
            refine lv_iconst (v := 0) hx hb dX5_better_105 (by decide) ?_
            obtain rfl := Option.some.inj hf
            exact W.iret hx hb hr (fun t ht _ => ⟨rfl, ht⟩) (fun _ h => nomatch h) dX5_better_106 hlk
          · have hf := (if_neg q).symm.trans hf
            refine lv_iconst (v := 1) hx hb dX5_better_101 (by decide) ?_
            refine lv_goto (tgt := 106) hx hb dX5_better_102 (by decide) ?_
            obtain rfl := Option.some.inj hf
            exact W.iret hx hb hr (fun t ht _ => ⟨rfl, ht⟩) (fun _ h => nomatch h) dX5_better_106 hlk
        · have hf := (if_neg q).symm.trans hf
          refine lv_iload hx hb dX5_better_80 (lv_at hl 1 rfl) ?_
          refine lv_iload hx hb dX5_better_82 (lv_at hl 0 rfl) ?_
          refine lv_icmp_le (tgt := 91) hx hb dX5_better_84 (by decide) (fun q => ?_) (fun q => ?_)
          · have hf := (if_pos q).symm.trans hf
            refine lv_iconst (v := 0) hx hb dX5_better_91 (by decide) ?_
            obtain rfl := Option.some.inj hf
            exact W.iret hx hb hr (fun t ht _ => ⟨rfl, ht⟩) (fun _ h => nomatch h) dX5_better_92 hlk
          · have hf := (if_neg q).symm.trans hf
            refine lv_iconst (v := 2) hx hb dX5_better_87 (by decide) ?_
            refine lv_goto (tgt := 92) hx hb dX5_better_88 (by decide) ?_
            obtain rfl := Option.some.inj hf
            exact W.iret hx hb hr (fun t ht _ => ⟨rfl, ht⟩) (fun _ h => nomatch h) dX5_better_92 hlk
      · have hf := (if_pos q).symm.trans hf
        refine lv_bipush (v := -2) hx hb dX5_better_35 (by decide) ?_
        obtain rfl := Option.some.inj hf
        exact W.iret hx hb hr (fun t ht _ => ⟨rfl, ht⟩) (fun _ h => nomatch h) dX5_better_37 hlk
  · have hf := (if_pos q).symm.trans hf
    refine lv_iconst (v := -1) hx hb dX5_better_11 (by decide) ?_
    obtain rfl := Option.some.inj hf
    exact W.iret hx hb hr (fun t ht _ => ⟨rfl, ht⟩) (fun _ h => nomatch h) dX5_better_12 hlk
set_option maxHeartbeats 4000000 in
set_option maxRecDepth 100000 in
theorem c_X5_better (l : Launch) (d : G3) (a : Nat → Nat) (z : St) (x1 : Int32) (x2 : Int32) (x3 : Int32) {RR : Int32} (hf : f_X5_better z x1 x2 x3 = some RR) : Met l yX5_better [Cond.code yX5_better cX5_better 7 (some .int)] { frames := 4, cells := 0, slots := 0, locals := 92 } (rpre wC d a z [.ref (a 0), .int x1, .int x2, .int x3]) (QcRead RR) 0 0 (fun _ => False) := by
  refine Met.ofW (cc := cX5_better) (maxL := 7) (ret := (some .int)) (by decide) rfl ?_
  intro p e s m args below meth c s₁ B hml hv
  obtain ⟨rfl, hE, hP⟩ := hv
  have X : Cx p s m c cX5_better RX5 7 d := ⟨B.exec, B.bytes, hml, findClass_of_methodNamed B.named, hE⟩
  have hl := lv_entry ([.ref (a 0), .int x1, .int x2, .int x3]) (n := 7) (Nat.le_of_ble_eq_true rfl)
  rw [lg_entry_eq]
  generalize (lg_sl ([.ref (a 0), .int x1, .int x2, .int x3]) ++ List.replicate (7 - (lg_sl ([.ref (a 0), .int x1, .int x2, .int x3])).length) Slot.unset).toArray = ls at hl ⊢
  have hl : lv_has ls 7 [(0, .ref (a 0)), (1, .int x1), (2, .int x2), (3, .int x3)] := hl
  exact t_X5_better X hP B.returns B.notSynchronized x1 x2 x3 hf ls hl
def f_X5_bestLine_35 (k35 : Int32 → Int32 → Int32 → Nat → Int32 → Int32 → Int32 → Int32 → St → Option (Int32 × St)) (x1 : Int32) (x2 : Int32) (x3 : Int32) (p4 : Nat) (x5 : Int32) (x6 : Int32) (x7 : Int32) (x8 : Int32) (z : St) : Option (Int32 × St) := (if x2 < x8 then some (x6, z) else (if (x8 &&& (x2 ^^^ (-1 : Int32))) = (0 : Int32) then (f_X0_isLegal z x1 x8).bind (fun r_1 => (if r_1 = (0 : Int32) then k35 x1 x2 x3 p4 x5 x6 x7 (x8 + (1 : Int32)) z else (f_J6_bitCount_0f7a4 z x8).bind (fun r_2 => (f_X0_coverBy x3 (x2 &&& (x8 ^^^ (-1 : Int32))) z).bind (fun r_3 => (if x5 ≤ (r_2 + r_3.1) then (f_X3_score r_3.2 p4 x8).bind (fun r_4 => (if x7 < r_4 then k35 x1 x2 x3 p4 x5 x8 r_4 (x8 + (1 : Int32)) r_3.2 else (if r_4 = x7 then (f_X5_isAheadByDuties r_3.2 x8 x6).bind (fun r_5 => (if r_5 = (0 : Int32) then k35 x1 x2 x3 p4 x5 x6 x7 (x8 + (1 : Int32)) r_3.2 else k35 x1 x2 x3 p4 x5 x8 r_4 (x8 + (1 : Int32)) r_3.2)) else k35 x1 x2 x3 p4 x5 x6 x7 (x8 + (1 : Int32)) r_3.2))) else k35 x1 x2 x3 p4 x5 x6 x7 (x8 + (1 : Int32)) r_3.2))))) else k35 x1 x2 x3 p4 x5 x6 x7 (x8 + (1 : Int32)) z))
def l_X5_bestLine_35 : Int32 → Int32 → Int32 → Nat → Int32 → Int32 → Int32 → Int32 → St → Option (Int32 × St) := iter (fun _ _ _ _ _ _ _ _ _ => none) (f_X5_bestLine_35) FU
set_option maxHeartbeats 4000000 in
set_option maxRecDepth 100000 in
theorem t_X5_bestLine_35 {RR : Int32 × St} (X : Cx p s m c cX5_bestLine RX5 10 d) (hJ : Inj 26 a) (hr : meth.sig.returnType = (some .int)) (hlk : meth.locks = false) {k35 : Int32 → Int32 → Int32 → Nat → Int32 → Int32 → Int32 → Int32 → St → Option (Int32 × St)} (hk35 : ∀ (x1 : Int32) (x2 : Int32) (x3 : Int32) (p4 : Nat) (x5 : Int32) (x6 : Int32) (x7 : Int32) (x8 : Int32) (z : St) (hp4 : p4 < 4), k35 x1 x2 x3 p4 x5 x6 x7 x8 z = some RR → WWr wC 26 d a p l e { frames := 5, cells := 0, slots := 0, locals := 119 } s m args below meth c RR z 10 [(0, .ref (a 0)), (1, .int x1), (2, .int x2), (3, .int x3), (4, .ref (a (14 + 3 * p4))), (5, .int x5), (6, .int x6), (7, .int x7), (8, .int x8)] 35 []) : ∀ (x1 : Int32) (x2 : Int32) (x3 : Int32) (p4 : Nat) (x5 : Int32) (x6 : Int32) (x7 : Int32) (x8 : Int32) (z : St) (hp4 : p4 < 4), f_X5_bestLine_35 k35 x1 x2 x3 p4 x5 x6 x7 x8 z = some RR → WWr wC 26 d a p l e { frames := 5, cells := 0, slots := 0, locals := 119 } s m args below meth c RR z 10 [(0, .ref (a 0)), (1, .int x1), (2, .int x2), (3, .int x3), (4, .ref (a (14 + 3 * p4))), (5, .int x5), (6, .int x6), (7, .int x7), (8, .int x8)] 35 [] := by
  intro x1 x2 x3 p4 x5 x6 x7 x8 z hp4 hf H locs ls hP hS hl
  obtain ⟨hx, hb, hml, hown, hE⟩ := id X
  unfold f_X5_bestLine_35 at hf
  refine lv_iload hx hb dX5_bestLine_35 (lv_at hl 8 rfl) ?_
  refine lv_iload_n hx hb dX5_bestLine_37 rfl (lv_at hl 2 rfl) ?_
  refine lv_icmp_gt (tgt := 145) hx hb dX5_bestLine_38 (by decide) (fun q => ?_) (fun q => ?_)
  · have hf := (if_pos q).symm.trans hf
    refine lv_iload hx hb dX5_bestLine_145 (lv_at hl 6 rfl) ?_
    obtain rfl := Option.some.inj hf
    exact W.iret hx hb hr (fun t ht _ => ⟨rfl, by rw [ht]; exact hP, hS.F ht⟩) hS.2.2 dX5_bestLine_147 hlk
  · have hf := (if_neg q).symm.trans hf
    refine lv_iload hx hb dX5_bestLine_41 (lv_at hl 8 rfl) ?_
    refine lv_iload_n hx hb dX5_bestLine_43 rfl (lv_at hl 2 rfl) ?_
    refine lv_iconst (v := -1) hx hb dX5_bestLine_44 (by decide) ?_
    refine lv_ixor hx hb dX5_bestLine_45 ?_
    refine lv_iand hx hb dX5_bestLine_46 ?_
    refine lv_if_ne (tgt := 139) hx hb dX5_bestLine_47 (by decide) (fun q => ?_) (fun q => ?_)
    · have hf := (if_neg q).symm.trans hf
      refine lv_iinc (v := (x8 + (1 : Int32))) (lv' := [(8, .int (x8 + (1 : Int32))), (0, .ref (a 0)), (1, .int x1), (2, .int x2), (3, .int x3), (4, .ref (a (14 + 3 * p4))), (5, .int x5), (6, .int x6), (7, .int x7)]) hx hb dX5_bestLine_139 hl (k := 8) rfl rfl (by decide) rfl (fun ls hl => ?_)
      refine lv_goto (tgt := 35) hx hb dX5_bestLine_142 (by decide) ?_
      exact hk35 x1 x2 x3 p4 x5 x6 x7 (x8 + (1 : Int32)) z hp4 hf H locs ls hP hS (lv_sub hl [1, 2, 3, 4, 5, 6, 7, 8, 0] rfl)
    · have hf := (if_pos q).symm.trans hf
      refine lv_aload_n hx hb dX5_bestLine_50 rfl (lv_at hl 0 rfl) ?_
      refine gf_5_35 hx hb hE hown hP dX5_bestLine_51 ?_
      refine lv_iload_n hx hb dX5_bestLine_54 rfl (lv_at hl 1 rfl) ?_
      refine lv_iload hx hb dX5_bestLine_55 (lv_at hl 8 rfl) ?_
      obtain ⟨r_1, hc, hf⟩ := bnd hf
      refine rdV X (c_X0_isLegal l d a z x1 x8 hc) (k_X5_120 hE rfl rfl ⟨Nat.le_of_ble_eq_true rfl, Nat.le_of_ble_eq_true rfl⟩) hP (va_recv (q := (RX0, TX0, 7)) hE.2 hP (ci := 0) (q0 := 11) rfl rfl) rfl hl.1 rfl (Nat.le_of_ble_eq_true rfl) dX5_bestLine_57 ?_
      refine lv_if_ne (tgt := 66) hx hb dX5_bestLine_60 (by decide) (fun q => ?_) (fun q => ?_)
      · have hf := (if_neg q).symm.trans hf
        refine lv_iload hx hb dX5_bestLine_66 (lv_at hl 8 rfl) ?_
        obtain ⟨r_2, hc, hf⟩ := bnd hf
        refine rdS X (c_J6_bitCount_0f7a4 l d a z x8 hc) (k_X5_153 hE rfl rfl ⟨Nat.le_of_ble_eq_true rfl, Nat.le_of_ble_eq_true rfl⟩) hP rfl hl.1 rfl (Nat.le_of_ble_eq_true rfl) dX5_bestLine_68 ?_
        refine lv_aload_n hx hb dX5_bestLine_71 rfl (lv_at hl 0 rfl) ?_
        refine gf_5_35 hx hb hE hown hP dX5_bestLine_72 ?_
        refine lv_iload_n hx hb dX5_bestLine_75 rfl (lv_at hl 3 rfl) ?_
        refine lv_iload_n hx hb dX5_bestLine_76 rfl (lv_at hl 2 rfl) ?_
        refine lv_iload hx hb dX5_bestLine_77 (lv_at hl 8 rfl) ?_
        refine lv_iconst (v := -1) hx hb dX5_bestLine_79 (by decide) ?_
        refine lv_ixor hx hb dX5_bestLine_80 ?_
        refine lv_iand hx hb dX5_bestLine_81 ?_
        obtain ⟨r_3, hc, hf⟩ := bnd hf
        refine wrV X (c_X0_coverBy l d a z x3 (x2 &&& (x8 ^^^ (-1 : Int32))) hc) (k_X5_128 hE rfl rfl ⟨Nat.le_of_ble_eq_true rfl, Nat.le_of_ble_eq_true rfl⟩) hP hJ hS (va_recv (q := (RX0, TX0, 7)) hE.2 hP (ci := 0) (q0 := 11) rfl rfl) rfl hl.1 rfl (Nat.le_of_ble_eq_true rfl) dX5_bestLine_82 (fun H locs hP hS => ?_)
        refine lv_iadd hx hb dX5_bestLine_85 ?_
        refine lv_iload hx hb dX5_bestLine_86 (lv_at hl 5 rfl) ?_
        refine lv_icmp_ge (tgt := 94) hx hb dX5_bestLine_88 (by decide) (fun q => ?_) (fun q => ?_)
        · have hf := (if_pos q).symm.trans hf
          refine lv_aload hx hb dX5_bestLine_94 (lv_at hl 4 rfl) ?_
          refine lv_aload_n hx hb dX5_bestLine_96 rfl (lv_at hl 0 rfl) ?_
          refine gf_5_12 hx hb hE hown hP dX5_bestLine_97 ?_
          refine lv_iload hx hb dX5_bestLine_100 (lv_at hl 8 rfl) ?_
          obtain ⟨r_4, hc, hf⟩ := bnd hf
          refine rdV X (c_X3_score l d a r_3.2 p4 x8 hp4 hc) (k_X5_131 hE rfl rfl ⟨Nat.le_of_ble_eq_true rfl, Nat.le_of_ble_eq_true rfl⟩) hP (recvP hE hP hp4) rfl hl.1 rfl (Nat.le_of_ble_eq_true rfl) dX5_bestLine_102 ?_
          refine lv_istore (lv' := [(9, .int r_4), (0, .ref (a 0)), (1, .int x1), (2, .int x2), (3, .int x3), (4, .ref (a (14 + 3 * p4))), (5, .int x5), (6, .int x6), (7, .int x7), (8, .int x8)]) hx hb dX5_bestLine_105 hl (by decide) rfl (fun ls hl => ?_)
          refine lv_iload hx hb dX5_bestLine_107 (lv_at hl 0 rfl) ?_
          refine lv_iload hx hb dX5_bestLine_109 (lv_at hl 8 rfl) ?_
          refine lv_icmp_gt (tgt := 131) hx hb dX5_bestLine_111 (by decide) (fun q => ?_) (fun q => ?_)
          · have hf := (if_pos q).symm.trans hf
            refine lv_iload hx hb dX5_bestLine_131 (lv_at hl 9 rfl) ?_
            refine lv_istore (lv' := [(6, .int x8), (9, .int r_4), (0, .ref (a 0)), (1, .int x1), (2, .int x2), (3, .int x3), (4, .ref (a (14 + 3 * p4))), (5, .int x5), (7, .int x7), (8, .int x8)]) hx hb dX5_bestLine_133 hl (by decide) rfl (fun ls hl => ?_)
            refine lv_iload hx hb dX5_bestLine_135 (lv_at hl 1 rfl) ?_
            refine lv_istore (lv' := [(7, .int r_4), (6, .int x8), (9, .int r_4), (0, .ref (a 0)), (1, .int x1), (2, .int x2), (3, .int x3), (4, .ref (a (14 + 3 * p4))), (5, .int x5), (8, .int x8)]) hx hb dX5_bestLine_137 hl (by decide) rfl (fun ls hl => ?_)
            refine lv_iinc (v := (x8 + (1 : Int32))) (lv' := [(8, .int (x8 + (1 : Int32))), (7, .int r_4), (6, .int x8), (9, .int r_4), (0, .ref (a 0)), (1, .int x1), (2, .int x2), (3, .int x3), (4, .ref (a (14 + 3 * p4))), (5, .int x5)]) hx hb dX5_bestLine_139 hl (k := 9) rfl rfl (by decide) rfl (fun ls hl => ?_)
            refine lv_goto (tgt := 35) hx hb dX5_bestLine_142 (by decide) ?_
            exact hk35 x1 x2 x3 p4 x5 x8 r_4 (x8 + (1 : Int32)) r_3.2 hp4 hf H locs ls hP hS (lv_sub hl [4, 5, 6, 7, 8, 9, 2, 1, 0] rfl)
          · have hf := (if_neg q).symm.trans hf
            refine lv_iload hx hb dX5_bestLine_114 (lv_at hl 0 rfl) ?_
            refine lv_iload hx hb dX5_bestLine_116 (lv_at hl 8 rfl) ?_
            refine lv_icmp_ne (tgt := 139) hx hb dX5_bestLine_118 (by decide) (fun q => ?_) (fun q => ?_)
            · have hf := (if_neg q).symm.trans hf
              refine lv_iinc (v := (x8 + (1 : Int32))) (lv' := [(8, .int (x8 + (1 : Int32))), (9, .int r_4), (0, .ref (a 0)), (1, .int x1), (2, .int x2), (3, .int x3), (4, .ref (a (14 + 3 * p4))), (5, .int x5), (6, .int x6), (7, .int x7)]) hx hb dX5_bestLine_139 hl (k := 9) rfl rfl (by decide) rfl (fun ls hl => ?_)
              refine lv_goto (tgt := 35) hx hb dX5_bestLine_142 (by decide) ?_
              exact hk35 x1 x2 x3 p4 x5 x6 x7 (x8 + (1 : Int32)) r_3.2 hp4 hf H locs ls hP hS (lv_sub hl [2, 3, 4, 5, 6, 7, 8, 9, 0] rfl)
            · have hf := (if_pos q).symm.trans hf
              refine lv_iload hx hb dX5_bestLine_121 (lv_at hl 9 rfl) ?_
              refine lv_iload hx hb dX5_bestLine_123 (lv_at hl 7 rfl) ?_
              obtain ⟨r_5, hc, hf⟩ := bnd hf
              refine rdS X (c_X5_isAheadByDuties l d a r_3.2 x8 x6 hc) (k_X5_134 hE rfl rfl ⟨Nat.le_of_ble_eq_true rfl, Nat.le_of_ble_eq_true rfl⟩) hP rfl hl.1 rfl (Nat.le_of_ble_eq_true rfl) dX5_bestLine_125 ?_
              refine lv_if_eq (tgt := 139) hx hb dX5_bestLine_128 (by decide) (fun q => ?_) (fun q => ?_)
              · have hf := (if_pos q).symm.trans hf
                refine lv_iinc (v := (x8 + (1 : Int32))) (lv' := [(8, .int (x8 + (1 : Int32))), (9, .int r_4), (0, .ref (a 0)), (1, .int x1), (2, .int x2), (3, .int x3), (4, .ref (a (14 + 3 * p4))), (5, .int x5), (6, .int x6), (7, .int x7)]) hx hb dX5_bestLine_139 hl (k := 9) rfl rfl (by decide) rfl (fun ls hl => ?_)
                refine lv_goto (tgt := 35) hx hb dX5_bestLine_142 (by decide) ?_
                exact hk35 x1 x2 x3 p4 x5 x6 x7 (x8 + (1 : Int32)) r_3.2 hp4 hf H locs ls hP hS (lv_sub hl [2, 3, 4, 5, 6, 7, 8, 9, 0] rfl)
              · have hf := (if_neg q).symm.trans hf
                refine lv_iload hx hb dX5_bestLine_131 (lv_at hl 9 rfl) ?_
                refine lv_istore (lv' := [(6, .int x8), (9, .int r_4), (0, .ref (a 0)), (1, .int x1), (2, .int x2), (3, .int x3), (4, .ref (a (14 + 3 * p4))), (5, .int x5), (7, .int x7), (8, .int x8)]) hx hb dX5_bestLine_133 hl (by decide) rfl (fun ls hl => ?_)
                refine lv_iload hx hb dX5_bestLine_135 (lv_at hl 1 rfl) ?_
                refine lv_istore (lv' := [(7, .int r_4), (6, .int x8), (9, .int r_4), (0, .ref (a 0)), (1, .int x1), (2, .int x2), (3, .int x3), (4, .ref (a (14 + 3 * p4))), (5, .int x5), (8, .int x8)]) hx hb dX5_bestLine_137 hl (by decide) rfl (fun ls hl => ?_)
                refine lv_iinc (v := (x8 + (1 : Int32))) (lv' := [(8, .int (x8 + (1 : Int32))), (7, .int r_4), (6, .int x8), (9, .int r_4), (0, .ref (a 0)), (1, .int x1), (2, .int x2), (3, .int x3), (4, .ref (a (14 + 3 * p4))), (5, .int x5)]) hx hb dX5_bestLine_139 hl (k := 9) rfl rfl (by decide) rfl (fun ls hl => ?_)
                refine lv_goto (tgt := 35) hx hb dX5_bestLine_142 (by decide) ?_
                exact hk35 x1 x2 x3 p4 x5 x8 r_4 (x8 + (1 : Int32)) r_3.2 hp4 hf H locs ls hP hS (lv_sub hl [4, 5, 6, 7, 8, 9, 2, 1, 0] rfl)
        · have hf := (if_neg q).symm.trans hf
          refine lv_goto (tgt := 139) hx hb dX5_bestLine_91 (by decide) ?_
          refine lv_iinc (v := (x8 + (1 : Int32))) (lv' := [(8, .int (x8 + (1 : Int32))), (0, .ref (a 0)), (1, .int x1), (2, .int x2), (3, .int x3), (4, .ref (a (14 + 3 * p4))), (5, .int x5), (6, .int x6), (7, .int x7)]) hx hb dX5_bestLine_139 hl (k := 8) rfl rfl (by decide) rfl (fun ls hl => ?_)
          refine lv_goto (tgt := 35) hx hb dX5_bestLine_142 (by decide) ?_
          exact hk35 x1 x2 x3 p4 x5 x6 x7 (x8 + (1 : Int32)) r_3.2 hp4 hf H locs ls hP hS (lv_sub hl [1, 2, 3, 4, 5, 6, 7, 8, 0] rfl)
      · have hf := (if_pos q).symm.trans hf
        refine lv_goto (tgt := 139) hx hb dX5_bestLine_63 (by decide) ?_
        refine lv_iinc (v := (x8 + (1 : Int32))) (lv' := [(8, .int (x8 + (1 : Int32))), (0, .ref (a 0)), (1, .int x1), (2, .int x2), (3, .int x3), (4, .ref (a (14 + 3 * p4))), (5, .int x5), (6, .int x6), (7, .int x7)]) hx hb dX5_bestLine_139 hl (k := 8) rfl rfl (by decide) rfl (fun ls hl => ?_)
        refine lv_goto (tgt := 35) hx hb dX5_bestLine_142 (by decide) ?_
        exact hk35 x1 x2 x3 p4 x5 x6 x7 (x8 + (1 : Int32)) z hp4 hf H locs ls hP hS (lv_sub hl [1, 2, 3, 4, 5, 6, 7, 8, 0] rfl)
theorem u_X5_bestLine_35 {RR : Int32 × St} (X : Cx p s m c cX5_bestLine RX5 10 d) (hJ : Inj 26 a) (hr : meth.sig.returnType = (some .int)) (hlk : meth.locks = false) : ∀ (x1 : Int32) (x2 : Int32) (x3 : Int32) (p4 : Nat) (x5 : Int32) (x6 : Int32) (x7 : Int32) (x8 : Int32) (z : St) (hp4 : p4 < 4), l_X5_bestLine_35 x1 x2 x3 p4 x5 x6 x7 x8 z = some RR → WWr wC 26 d a p l e { frames := 5, cells := 0, slots := 0, locals := 119 } s m args below meth c RR z 10 [(0, .ref (a 0)), (1, .int x1), (2, .int x2), (3, .int x3), (4, .ref (a (14 + 3 * p4))), (5, .int x5), (6, .int x6), (7, .int x7), (8, .int x8)] 35 [] := by
  unfold l_X5_bestLine_35
  generalize FU = n
  induction n with
  | zero => intro x1 x2 x3 p4 x5 x6 x7 x8 z hp4 hf; exact absurd (show (none : Option (Int32 × St)) = some RR from hf) (by simp)
  | succ n ih => exact t_X5_bestLine_35 X hJ hr hlk ih
def f_X5_bestLine (x1 : Int32) (x2 : Int32) (x3 : Int32) (z : St) : Option (Int32 × St) := ck 4 x1 ((f_X0_coverBy (x3 ||| ((1 : Int32) <<< (x1 &&& 31))) x2 z).bind (fun r_2 => l_X5_bestLine_35 x1 x2 x3 x1.toNatClampNeg r_2.1 (0 : Int32) (-1 : Int32) (0 : Int32) r_2.2))
set_option maxHeartbeats 4000000 in
set_option maxRecDepth 100000 in
theorem t_X5_bestLine {RR : Int32 × St} (X : Cx p s m c cX5_bestLine RX5 10 d) (hJ : Inj 26 a) (hr : meth.sig.returnType = (some .int)) (hlk : meth.locks = false) : ∀ (x1 : Int32) (x2 : Int32) (x3 : Int32) (z : St), f_X5_bestLine x1 x2 x3 z = some RR → WWr wC 26 d a p l e { frames := 5, cells := 0, slots := 0, locals := 119 } s m args below meth c RR z 10 [(0, .ref (a 0)), (1, .int x1), (2, .int x2), (3, .int x3)] 0 [] := by
  intro x1 x2 x3 z hf H locs ls hP hS hl
  obtain ⟨hx, hb, hml, hown, hE⟩ := id X
  unfold f_X5_bestLine at hf
  refine lv_aload_n hx hb dX5_bestLine_0 rfl (lv_at hl 0 rfl) ?_
  refine gf_5_26 hx hb hE hown hP dX5_bestLine_1 ?_
  refine gf_5_76 hx hb hE hown hP dX5_bestLine_4 ?_
  refine lv_iload_n hx hb dX5_bestLine_7 rfl (lv_at hl 1 rfl) ?_
  obtain ⟨hi_1, hf⟩ := ck_some hf
  refine al_rank hx hb hE hP hi_1 dX5_bestLine_8 ?_
  refine lv_astore (lv' := [(4, .ref (a (14 + 3 * x1.toNatClampNeg))), (0, .ref (a 0)), (1, .int x1), (2, .int x2), (3, .int x3)]) hx hb dX5_bestLine_9 hl (by decide) rfl (fun ls hl => ?_)
  refine lv_aload_n hx hb dX5_bestLine_11 rfl (lv_at hl 1 rfl) ?_
  refine gf_5_35 hx hb hE hown hP dX5_bestLine_12 ?_
  refine lv_iload_n hx hb dX5_bestLine_15 rfl (lv_at hl 4 rfl) ?_
  refine lv_iconst (v := 1) hx hb dX5_bestLine_16 (by decide) ?_
  refine lv_iload_n hx hb dX5_bestLine_17 rfl (lv_at hl 2 rfl) ?_
  refine lv_ishl hx hb dX5_bestLine_18 ?_
  refine lv_ior hx hb dX5_bestLine_19 ?_
  refine lv_iload_n hx hb dX5_bestLine_20 rfl (lv_at hl 3 rfl) ?_
  obtain ⟨r_2, hc, hf⟩ := bnd hf
  refine wrV X (c_X0_coverBy l d a z (x3 ||| ((1 : Int32) <<< (x1 &&& 31))) x2 hc) (k_X5_128 hE rfl rfl ⟨Nat.le_of_ble_eq_true rfl, Nat.le_of_ble_eq_true rfl⟩) hP hJ hS (va_recv (q := (RX0, TX0, 7)) hE.2 hP (ci := 0) (q0 := 11) rfl rfl) rfl hl.1 rfl (Nat.le_of_ble_eq_true rfl) dX5_bestLine_21 (fun H locs hP hS => ?_)
  refine lv_istore (lv' := [(5, .int r_2.1), (4, .ref (a (14 + 3 * x1.toNatClampNeg))), (0, .ref (a 0)), (1, .int x1), (2, .int x2), (3, .int x3)]) hx hb dX5_bestLine_24 hl (by decide) rfl (fun ls hl => ?_)
  refine lv_iconst (v := 0) hx hb dX5_bestLine_26 (by decide) ?_
  refine lv_istore (lv' := [(6, .int (0 : Int32)), (5, .int r_2.1), (4, .ref (a (14 + 3 * x1.toNatClampNeg))), (0, .ref (a 0)), (1, .int x1), (2, .int x2), (3, .int x3)]) hx hb dX5_bestLine_27 hl (by decide) rfl (fun ls hl => ?_)
  refine lv_iconst (v := -1) hx hb dX5_bestLine_29 (by decide) ?_
  refine lv_istore (lv' := [(7, .int (-1 : Int32)), (6, .int (0 : Int32)), (5, .int r_2.1), (4, .ref (a (14 + 3 * x1.toNatClampNeg))), (0, .ref (a 0)), (1, .int x1), (2, .int x2), (3, .int x3)]) hx hb dX5_bestLine_30 hl (by decide) rfl (fun ls hl => ?_)
  refine lv_iconst (v := 0) hx hb dX5_bestLine_32 (by decide) ?_
  refine lv_istore (lv' := [(8, .int (0 : Int32)), (7, .int (-1 : Int32)), (6, .int (0 : Int32)), (5, .int r_2.1), (4, .ref (a (14 + 3 * x1.toNatClampNeg))), (0, .ref (a 0)), (1, .int x1), (2, .int x2), (3, .int x3)]) hx hb dX5_bestLine_33 hl (by decide) rfl (fun ls hl => ?_)
  exact u_X5_bestLine_35 X hJ hr hlk x1 x2 x3 x1.toNatClampNeg r_2.1 (0 : Int32) (-1 : Int32) (0 : Int32) r_2.2 (vp_lt hi_1) hf H locs ls hP hS (lv_sub hl [5, 6, 7, 8, 4, 3, 2, 1, 0] rfl)
set_option maxHeartbeats 4000000 in
set_option maxRecDepth 100000 in
theorem c_X5_bestLine (l : Launch) (d : G3) (a : Nat → Nat) (z : St) (x1 : Int32) (x2 : Int32) (x3 : Int32) {RR : Int32 × St} (hf : f_X5_bestLine x1 x2 x3 z = some RR) : Met l yX5_bestLine [Cond.code yX5_bestLine cX5_bestLine 10 (some .int)] { frames := 5, cells := 0, slots := 0, locals := 119 } (wpre wC 26 d a z [.ref (a 0), .int x1, .int x2, .int x3]) (QW wC 26 d a RR) 0 0 (AD 26 a) := by
  refine Met.ofW (cc := cX5_bestLine) (maxL := 10) (ret := (some .int)) (by decide) rfl ?_
  intro p e s m args below meth c s₁ B hml hv
  obtain ⟨rfl, hE, hP, hJ⟩ := hv
  have X : Cx p s m c cX5_bestLine RX5 10 d := ⟨B.exec, B.bytes, hml, findClass_of_methodNamed B.named, hE⟩
  have hl := lv_entry ([.ref (a 0), .int x1, .int x2, .int x3]) (n := 10) (Nat.le_of_ble_eq_true rfl)
  rw [lg_entry_eq]
  generalize (lg_sl ([.ref (a 0), .int x1, .int x2, .int x3]) ++ List.replicate (10 - (lg_sl ([.ref (a 0), .int x1, .int x2, .int x3])).length) Slot.unset).toArray = ls at hl ⊢
  have hl : lv_has ls 10 [(0, .ref (a 0)), (1, .int x1), (2, .int x2), (3, .int x3)] := hl
  exact t_X5_bestLine X hJ B.returns B.notSynchronized x1 x2 x3 z hf s.heap [] ls hP va_S.rf hl
end GEN
