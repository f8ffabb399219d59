section GEN
variable {p : Program} {l : Launch} {e : Env} {s : State} {m : MethodId} {args : Array Value} {below : List Frame} {meth : Method} {c : Code} {d : G3} {a : Nat → Nat}
def f_X1_skillsOf_4 (z : St) (k4 : Int32 → Int32 → Int32 → Option (Int32)) (x1 : Int32) (x2 : Int32) (x3 : Int32) : Option (Int32) := (if (z.1 3) ≤ x3 then some x2 else (f_X5_isIn z x3 x1).bind (fun r_1 => (if r_1 = (0 : Int32) then k4 x1 x2 (x3 + (1 : Int32)) else ck 9 x3 (k4 x1 (x2 ||| ((1 : Int32) <<< ((z.2 4 x3.toNatClampNeg) &&& 31))) (x3 + (1 : Int32))))))
def l_X1_skillsOf_4 (z : St) : Int32 → Int32 → Int32 → Option (Int32) := iter (fun _ _ _ => none) (f_X1_skillsOf_4 z) FU
set_option maxHeartbeats 4000000 in
set_option maxRecDepth 100000 in
theorem t_X1_skillsOf_4 {RR : Int32} (X : Cx p s m c cX1_skillsOf RX1 4 d) {z : St} (hP : va_P d.1 classes (wC d a z) s.heap) (hr : meth.sig.returnType = (some .int)) (hlk : meth.locks = false) {k4 : Int32 → Int32 → Int32 → Option (Int32)} (hk4 : ∀ (x1 : Int32) (x2 : Int32) (x3 : Int32), k4 x1 x2 x3 = some RR → WRd p l e { frames := 1, cells := 0, slots := 0, locals := 21 } s m args below meth c RR 4 [(0, .ref (a 1)), (1, .int x1), (2, .int x2), (3, .int x3)] 4 []) : ∀ (x1 : Int32) (x2 : Int32) (x3 : Int32), f_X1_skillsOf_4 z k4 x1 x2 x3 = some RR → WRd p l e { frames := 1, cells := 0, slots := 0, locals := 21 } s m args below meth c RR 4 [(0, .ref (a 1)), (1, .int x1), (2, .int x2), (3, .int x3)] 4 [] := by
  intro x1 x2 x3 hf ls hl
  obtain ⟨hx, hb, hml, hown, hE⟩ := id X
  unfold f_X1_skillsOf_4 at hf
  refine lv_iload_n hx hb dX1_skillsOf_4 rfl (lv_at hl 3 rfl) ?_
  refine lv_aload_n hx hb dX1_skillsOf_5 rfl (lv_at hl 0 rfl) ?_
  refine gf_1_27 hx hb hE hown hP dX1_skillsOf_6 ?_
  refine lv_icmp_ge (tgt := 37) hx hb dX1_skillsOf_9 (by decide) (fun q => ?_) (fun q => ?_)
  · have hf := (if_pos q).symm.trans hf
    refine lv_iload_n hx hb dX1_skillsOf_37 rfl (lv_at hl 2 rfl) ?_
    obtain rfl := Option.some.inj hf
    exact W.iret hx hb hr (fun t ht _ => ⟨rfl, ht⟩) (fun _ h => nomatch h) dX1_skillsOf_38 hlk
  · have hf := (if_neg q).symm.trans hf
    refine lv_iload_n hx hb dX1_skillsOf_12 rfl (lv_at hl 3 rfl) ?_
    refine lv_iload_n hx hb dX1_skillsOf_13 rfl (lv_at hl 1 rfl) ?_
    obtain ⟨r_1, hc, hf⟩ := bnd hf
    refine rdSN X (c_X5_isIn l d a z x3 x1 hc) (k_X1_42 hE rfl rfl ⟨Nat.le_of_ble_eq_true rfl, Nat.le_of_ble_eq_true rfl⟩) hP rfl hl.1 rfl (Nat.le_of_ble_eq_true rfl) dX1_skillsOf_14 ?_
    refine lv_if_eq (tgt := 31) hx hb dX1_skillsOf_17 (by decide) (fun q => ?_) (fun q => ?_)
    · have hf := (if_pos q).symm.trans hf
      refine lv_iinc (v := (x3 + (1 : Int32))) (lv' := [(3, .int (x3 + (1 : Int32))), (0, .ref (a 1)), (1, .int x1), (2, .int x2)]) hx hb dX1_skillsOf_31 hl (k := 3) rfl rfl (by decide) rfl (fun ls hl => ?_)
      refine lv_goto (tgt := 4) hx hb dX1_skillsOf_34 (by decide) ?_
      exact hk4 x1 x2 (x3 + (1 : Int32)) hf ls (lv_sub hl [1, 2, 3, 0] rfl)
    · have hf := (if_neg q).symm.trans hf
      refine lv_iload_n hx hb dX1_skillsOf_20 rfl (lv_at hl 2 rfl) ?_
      refine lv_iconst (v := 1) hx hb dX1_skillsOf_21 (by decide) ?_
      refine lv_aload_n hx hb dX1_skillsOf_22 rfl (lv_at hl 0 rfl) ?_
      refine gf_1_24 hx hb hE hown hP dX1_skillsOf_23 ?_
      refine lv_iload_n hx hb dX1_skillsOf_26 rfl (lv_at hl 3 rfl) ?_
      obtain ⟨hi, hf⟩ := ck_some hf
      refine ld_C_6 hx hb hE hP hi dX1_skillsOf_27 ?_
      refine lv_ishl hx hb dX1_skillsOf_28 ?_
      refine lv_ior hx hb dX1_skillsOf_29 ?_
      refine lv_istore_n (lv' := [(2, .int (x2 ||| ((1 : Int32) <<< ((z.2 4 x3.toNatClampNeg) &&& 31)))), (0, .ref (a 1)), (1, .int x1), (3, .int x3)]) hx hb dX1_skillsOf_30 rfl hl (by decide) rfl (fun ls hl => ?_)
      refine lv_iinc (v := (x3 + (1 : Int32))) (lv' := [(3, .int (x3 + (1 : Int32))), (2, .int (x2 ||| ((1 : Int32) <<< ((z.2 4 x3.toNatClampNeg) &&& 31)))), (0, .ref (a 1)), (1, .int x1)]) hx hb dX1_skillsOf_31 hl (k := 3) rfl rfl (by decide) rfl (fun ls hl => ?_)
      refine lv_goto (tgt := 4) hx hb dX1_skillsOf_34 (by decide) ?_
      exact hk4 x1 (x2 ||| ((1 : Int32) <<< ((z.2 4 x3.toNatClampNeg) &&& 31))) (x3 + (1 : Int32)) hf ls (lv_sub hl [2, 3, 1, 0] rfl)
theorem u_X1_skillsOf_4 {RR : Int32} (X : Cx p s m c cX1_skillsOf RX1 4 d) {z : St} (hP : va_P d.1 classes (wC d a z) s.heap) (hr : meth.sig.returnType = (some .int)) (hlk : meth.locks = false) : ∀ (x1 : Int32) (x2 : Int32) (x3 : Int32), l_X1_skillsOf_4 z x1 x2 x3 = some RR → WRd p l e { frames := 1, cells := 0, slots := 0, locals := 21 } s m args below meth c RR 4 [(0, .ref (a 1)), (1, .int x1), (2, .int x2), (3, .int x3)] 4 [] := by
  unfold l_X1_skillsOf_4
  generalize FU = n
  induction n with
  | zero => intro x1 x2 x3 hf; exact absurd (show (none : Option (Int32)) = some RR from hf) (by simp)
  | succ n ih => exact t_X1_skillsOf_4 X hP hr hlk ih
def f_X1_skillsOf (z : St) (x1 : Int32) : Option (Int32) := l_X1_skillsOf_4 z x1 (0 : Int32) (0 : Int32)
set_option maxHeartbeats 4000000 in
set_option maxRecDepth 100000 in
theorem t_X1_skillsOf {RR : Int32} (X : Cx p s m c cX1_skillsOf RX1 4 d) {z : St} (hP : va_P d.1 classes (wC d a z) s.heap) (hr : meth.sig.returnType = (some .int)) (hlk : meth.locks = false) : ∀ (x1 : Int32), f_X1_skillsOf z x1 = some RR → WRd p l e { frames := 1, cells := 0, slots := 0, locals := 21 } s m args below meth c RR 4 [(0, .ref (a 1)), (1, .int x1)] 0 [] := by
  intro x1 hf ls hl
  obtain ⟨hx, hb, hml, hown, hE⟩ := id X
  unfold f_X1_skillsOf at hf
  refine lv_iconst (v := 0) hx hb dX1_skillsOf_0 (by decide) ?_
  refine lv_istore_n (lv' := [(2, .int (0 : Int32)), (0, .ref (a 1)), (1, .int x1)]) hx hb dX1_skillsOf_1 rfl hl (by decide) rfl (fun ls hl => ?_)
  refine lv_iconst (v := 0) hx hb dX1_skillsOf_2 (by decide) ?_
  refine lv_istore_n (lv' := [(3, .int (0 : Int32)), (2, .int (0 : Int32)), (0, .ref (a 1)), (1, .int x1)]) hx hb dX1_skillsOf_3 rfl hl (by decide) rfl (fun ls hl => ?_)
  exact u_X1_skillsOf_4 X hP hr hlk x1 (0 : Int32) (0 : Int32) hf ls (lv_sub hl [2, 3, 1, 0] rfl)
set_option maxHeartbeats 4000000 in
set_option maxRecDepth 100000 in
theorem c_X1_skillsOf (l : Launch) (d : G3) (a : Nat → Nat) (z : St) (x1 : Int32) {RR : Int32} (hf : f_X1_skillsOf z x1 = some RR) : Met l yX1_skillsOf [Cond.code yX1_skillsOf cX1_skillsOf 4 (some .int)] { frames := 1, cells := 0, slots := 0, locals := 21 } (rpre wC d a z [.ref (a 1), .int x1]) (QcRead RR) 0 0 (fun _ => False) := by
  refine Met.ofW (cc := cX1_skillsOf) (maxL := 4) (ret := (some .int)) (by decide) rfl ?_
  intro p e s m args below meth c s₁ B hml hv
  obtain ⟨rfl, hE, hP⟩ := hv
  have X : Cx p s m c cX1_skillsOf RX1 4 d := ⟨B.exec, B.bytes, hml, findClass_of_methodNamed B.named, hE⟩
  have hl := lv_entry ([.ref (a 1), .int x1]) (n := 4) (Nat.le_of_ble_eq_true rfl)
  rw [lg_entry_eq]
  generalize (lg_sl ([.ref (a 1), .int x1]) ++ List.replicate (4 - (lg_sl ([.ref (a 1), .int x1])).length) Slot.unset).toArray = ls at hl ⊢
  have hl : lv_has ls 4 [(0, .ref (a 1)), (1, .int x1)] := hl
  exact t_X1_skillsOf X hP B.returns B.notSynchronized x1 hf ls hl
def f_X3_hasSkills (z : St) (p0 : Nat) (x2 : Int32) : Option (Int32) := (f_X1_skillsOf z x2).bind (fun r_1 => (if (r_1 &&& ((z.1 (11 + 6 * p0)) ^^^ (-1 : Int32))) = (0 : Int32) then some (1 : Int32) else some (0 : Int32)))
set_option maxHeartbeats 4000000 in
set_option maxRecDepth 100000 in
theorem t_X3_hasSkills {RR : Int32} (X : Cx p s m c cX3_hasSkills RX3 3 d) {z : St} (hP : va_P d.1 classes (wC d a z) s.heap) (hr : meth.sig.returnType = (some .boolean)) (hlk : meth.locks = false) : ∀ (p0 : Nat) (x2 : Int32) (hp0 : p0 < 4), f_X3_hasSkills z p0 x2 = some RR → WRd p l e { frames := 2, cells := 0, slots := 0, locals := 44 } s m args below meth c RR 3 [(0, .ref (a (14 + 3 * p0))), (1, .ref (a 1)), (2, .int x2)] 0 [] := by
  intro p0 x2 hp0 hf ls hl
  obtain ⟨hx, hb, hml, hown, hE⟩ := id X
  unfold f_X3_hasSkills at hf
  refine lv_aload_n hx hb dX3_hasSkills_0 rfl (lv_at hl 1 rfl) ?_
  refine lv_iload_n hx hb dX3_hasSkills_1 rfl (lv_at hl 2 rfl) ?_
  obtain ⟨r_1, hc, hf⟩ := bnd hf
  refine rdV X (c_X1_skillsOf l d a z x2 hc) (k_X3_26 hE rfl rfl ⟨Nat.le_of_ble_eq_true rfl, Nat.le_of_ble_eq_true rfl⟩) hP (va_recv (q := (RX1, TX1, 7)) hE.2 hP (ci := 1) (q0 := 1) rfl rfl) rfl hl.1 rfl (Nat.le_of_ble_eq_true rfl) dX3_hasSkills_2 ?_
  refine lv_aload_n hx hb dX3_hasSkills_5 rfl (lv_at hl 0 rfl) ?_
  refine gf_3_32 hx hb hE hown hP hp0 dX3_hasSkills_6 ?_
  refine lv_iconst (v := -1) hx hb dX3_hasSkills_9 (by decide) ?_
  refine lv_ixor hx hb dX3_hasSkills_10 ?_
  refine lv_iand hx hb dX3_hasSkills_11 ?_
  refine lv_if_ne (tgt := 19) hx hb dX3_hasSkills_12 (by decide) (fun q => ?_) (fun q => ?_)
  · have hf := (if_neg q).symm.trans hf
    refine lv_iconst (v := 0) hx hb dX3_hasSkills_19 (by decide) ?_
    obtain rfl := Option.some.inj hf
    exact W.zret hx hb hr rfl (fun t ht _ => ⟨rfl, ht⟩) (fun _ h => nomatch h) dX3_hasSkills_20 hlk
  · have hf := (if_pos q).symm.trans hf
    refine lv_iconst (v := 1) hx hb dX3_hasSkills_15 (by decide) ?_
    refine lv_goto (tgt := 20) hx hb dX3_hasSkills_16 (by decide) ?_
    obtain rfl := Option.some.inj hf
    exact W.zret hx hb hr rfl (fun t ht _ => ⟨rfl, ht⟩) (fun _ h => nomatch h) dX3_hasSkills_20 hlk
set_option maxHeartbeats 4000000 in
set_option maxRecDepth 100000 in
theorem c_X3_hasSkills (l : Launch) (d : G3) (a : Nat → Nat) (z : St) (p0 : Nat) (x2 : Int32) (hp0 : p0 < 4) {RR : Int32} (hf : f_X3_hasSkills z p0 x2 = some RR) : Met l yX3_hasSkills [Cond.code yX3_hasSkills cX3_hasSkills 3 (some .boolean)] { frames := 2, cells := 0, slots := 0, locals := 44 } (rpre wC d a z [.ref (a (14 + 3 * p0)), .ref (a 1), .int x2]) (QcRead RR) 0 0 (fun _ => False) := by
  refine Met.ofW (cc := cX3_hasSkills) (maxL := 3) (ret := (some .boolean)) (by decide) rfl ?_
  intro p e s m args below meth c s₁ B hml hv
  obtain ⟨rfl, hE, hP⟩ := hv
  have X : Cx p s m c cX3_hasSkills RX3 3 d := ⟨B.exec, B.bytes, hml, findClass_of_methodNamed B.named, hE⟩
  have hl := lv_entry ([.ref (a (14 + 3 * p0)), .ref (a 1), .int x2]) (n := 3) (Nat.le_of_ble_eq_true rfl)
  rw [lg_entry_eq]
  generalize (lg_sl ([.ref (a (14 + 3 * p0)), .ref (a 1), .int x2]) ++ List.replicate (3 - (lg_sl ([.ref (a (14 + 3 * p0)), .ref (a 1), .int x2])).length) Slot.unset).toArray = ls at hl ⊢
  have hl : lv_has ls 3 [(0, .ref (a (14 + 3 * p0))), (1, .ref (a 1)), (2, .int x2)] := hl
  exact t_X3_hasSkills X hP B.returns B.notSynchronized p0 x2 hp0 hf ls hl
def f_X3_hasHours (z : St) (p0 : Nat) (x2 : Int32) : Option (Int32) := (f_X1_hoursOf z x2).bind (fun r_1 => (if (z.1 (12 + 6 * p0)) < r_1 then some (0 : Int32) else some (1 : Int32)))
set_option maxHeartbeats 4000000 in
set_option maxRecDepth 100000 in
theorem t_X3_hasHours {RR : Int32} (X : Cx p s m c cX3_hasHours RX3 3 d) {z : St} (hP : va_P d.1 classes (wC d a z) s.heap) (hr : meth.sig.returnType = (some .boolean)) (hlk : meth.locks = false) : ∀ (p0 : Nat) (x2 : Int32) (hp0 : p0 < 4), f_X3_hasHours z p0 x2 = some RR → WRd p l e { frames := 2, cells := 0, slots := 0, locals := 44 } s m args below meth c RR 3 [(0, .ref (a (14 + 3 * p0))), (1, .ref (a 1)), (2, .int x2)] 0 [] := by
  intro p0 x2 hp0 hf ls hl
  obtain ⟨hx, hb, hml, hown, hE⟩ := id X
  unfold f_X3_hasHours at hf
  refine lv_aload_n hx hb dX3_hasHours_0 rfl (lv_at hl 1 rfl) ?_
  refine lv_iload_n hx hb dX3_hasHours_1 rfl (lv_at hl 2 rfl) ?_
  obtain ⟨r_1, hc, hf⟩ := bnd hf
  refine rdV X (c_X1_hoursOf l d a z x2 hc) (k_X3_35 hE rfl rfl ⟨Nat.le_of_ble_eq_true rfl, Nat.le_of_ble_eq_true rfl⟩) hP (va_recv (q := (RX1, TX1, 7)) hE.2 hP (ci := 1) (q0 := 1) rfl rfl) rfl hl.1 rfl (Nat.le_of_ble_eq_true rfl) dX3_hasHours_2 ?_
  refine lv_aload_n hx hb dX3_hasHours_5 rfl (lv_at hl 0 rfl) ?_
  refine gf_3_38 hx hb hE hown hP hp0 dX3_hasHours_6 ?_
  refine lv_icmp_gt (tgt := 16) hx hb dX3_hasHours_9 (by decide) (fun q => ?_) (fun q => ?_)
  · have hf := (if_pos q).symm.trans hf
    refine lv_iconst (v := 0) hx hb dX3_hasHours_16 (by decide) ?_
    obtain rfl := Option.some.inj hf
    exact W.zret hx hb hr rfl (fun t ht _ => ⟨rfl, ht⟩) (fun _ h => nomatch h) dX3_hasHours_17 hlk
  · have hf := (if_neg q).symm.trans hf
    refine lv_iconst (v := 1) hx hb dX3_hasHours_12 (by decide) ?_
    refine lv_goto (tgt := 17) hx hb dX3_hasHours_13 (by decide) ?_
    obtain rfl := Option.some.inj hf
    exact W.zret hx hb hr rfl (fun t ht _ => ⟨rfl, ht⟩) (fun _ h => nomatch h) dX3_hasHours_17 hlk
set_option maxHeartbeats 4000000 in
set_option maxRecDepth 100000 in
theorem c_X3_hasHours (l : Launch) (d : G3) (a : Nat → Nat) (z : St) (p0 : Nat) (x2 : Int32) (hp0 : p0 < 4) {RR : Int32} (hf : f_X3_hasHours z p0 x2 = some RR) : Met l yX3_hasHours [Cond.code yX3_hasHours cX3_hasHours 3 (some .boolean)] { frames := 2, cells := 0, slots := 0, locals := 44 } (rpre wC d a z [.ref (a (14 + 3 * p0)), .ref (a 1), .int x2]) (QcRead RR) 0 0 (fun _ => False) := by
  refine Met.ofW (cc := cX3_hasHours) (maxL := 3) (ret := (some .boolean)) (by decide) rfl ?_
  intro p e s m args below meth c s₁ B hml hv
  obtain ⟨rfl, hE, hP⟩ := hv
  have X : Cx p s m c cX3_hasHours RX3 3 d := ⟨B.exec, B.bytes, hml, findClass_of_methodNamed B.named, hE⟩
  have hl := lv_entry ([.ref (a (14 + 3 * p0)), .ref (a 1), .int x2]) (n := 3) (Nat.le_of_ble_eq_true rfl)
  rw [lg_entry_eq]
  generalize (lg_sl ([.ref (a (14 + 3 * p0)), .ref (a 1), .int x2]) ++ List.replicate (3 - (lg_sl ([.ref (a (14 + 3 * p0)), .ref (a 1), .int x2])).length) Slot.unset).toArray = ls at hl ⊢
  have hl : lv_has ls 3 [(0, .ref (a (14 + 3 * p0))), (1, .ref (a 1)), (2, .int x2)] := hl
  exact t_X3_hasHours X hP B.returns B.notSynchronized p0 x2 hp0 hf ls hl
def f_X0_able_5 (z : St) (k5 : Int32 → Int32 → Int32 → Int32 → Option (Int32)) (x1 : Int32) (x2 : Int32) (x3 : Int32) (x4 : Int32) : Option (Int32) := (if (z.1 4) ≤ x4 then some x3 else ck 4 x4 ((f_X5_isIn z x4 x1).bind (fun r_2 => (if r_2 = (0 : Int32) then k5 x1 x2 x3 (x4 + (1 : Int32)) else (f_X3_hasSkills z x4.toNatClampNeg x2).bind (fun r_3 => (if r_3 = (0 : Int32) then k5 x1 x2 x3 (x4 + (1 : Int32)) else (f_X3_hasHours z x4.toNatClampNeg x2).bind (fun r_4 => (if r_4 = (0 : Int32) then k5 x1 x2 x3 (x4 + (1 : Int32)) else k5 x1 x2 (x3 ||| ((1 : Int32) <<< (x4 &&& 31))) (x4 + (1 : Int32))))))))))
def l_X0_able_5 (z : St) : Int32 → Int32 → Int32 → Int32 → Option (Int32) := iter (fun _ _ _ _ => none) (f_X0_able_5 z) FU
set_option maxHeartbeats 4000000 in
set_option maxRecDepth 100000 in
theorem t_X0_able_5 {RR : Int32} (X : Cx p s m c cX0_able RX0 6 d) {z : St} (hP : va_P d.1 classes (wC d a z) s.heap) (hr : meth.sig.returnType = (some .int)) (hlk : meth.locks = false) {k5 : Int32 → Int32 → Int32 → Int32 → Option (Int32)} (hk5 : ∀ (x1 : Int32) (x2 : Int32) (x3 : Int32) (x4 : Int32), k5 x1 x2 x3 x4 = some RR → WRd p l e { frames := 3, cells := 0, slots := 0, locals := 66 } s m args below meth c RR 6 [(0, .ref (a 11)), (1, .int x1), (2, .int x2), (3, .int x3), (4, .int x4)] 5 []) : ∀ (x1 : Int32) (x2 : Int32) (x3 : Int32) (x4 : Int32), f_X0_able_5 z k5 x1 x2 x3 x4 = some RR → WRd p l e { frames := 3, cells := 0, slots := 0, locals := 66 } s m args below meth c RR 6 [(0, .ref (a 11)), (1, .int x1), (2, .int x2), (3, .int x3), (4, .int x4)] 5 [] := by
  intro x1 x2 x3 x4 hf ls hl
  obtain ⟨hx, hb, hml, hown, hE⟩ := id X
  unfold f_X0_able_5 at hf
  refine lv_iload hx hb dX0_able_5 (lv_at hl 4 rfl) ?_
  refine lv_aload_n hx hb dX0_able_7 rfl (lv_at hl 0 rfl) ?_
  refine gf_0_30 hx hb hE hown hP dX0_able_8 ?_
  refine gf_0_71 hx hb hE hown hP dX0_able_11 ?_
  refine lv_icmp_ge (tgt := 77) hx hb dX0_able_14 (by decide) (fun q => ?_) (fun q => ?_)
  · have hf := (if_pos q).symm.trans hf
    refine lv_iload_n hx hb dX0_able_77 rfl (lv_at hl 3 rfl) ?_
    obtain rfl := Option.some.inj hf
    exact W.iret hx hb hr (fun t ht _ => ⟨rfl, ht⟩) (fun _ h => nomatch h) dX0_able_78 hlk
  · have hf := (if_neg q).symm.trans hf
    refine lv_aload_n hx hb dX0_able_17 rfl (lv_at hl 0 rfl) ?_
    refine gf_0_30 hx hb hE hown hP dX0_able_18 ?_
    refine gf_0_74 hx hb hE hown hP dX0_able_21 ?_
    refine lv_iload hx hb dX0_able_24 (lv_at hl 4 rfl) ?_
    obtain ⟨hi_1, hf⟩ := ck_some hf
    refine al_rank hx hb hE hP hi_1 dX0_able_26 ?_
    refine lv_astore (lv' := [(5, .ref (a (14 + 3 * x4.toNatClampNeg))), (0, .ref (a 11)), (1, .int x1), (2, .int x2), (3, .int x3), (4, .int x4)]) hx hb dX0_able_27 hl (by decide) rfl (fun ls hl => ?_)
    refine lv_iload hx hb dX0_able_29 (lv_at hl 5 rfl) ?_
    refine lv_iload_n hx hb dX0_able_31 rfl (lv_at hl 2 rfl) ?_
    obtain ⟨r_2, hc, hf⟩ := bnd hf
    refine rdSN X (c_X5_isIn l d a z x4 x1 hc) (k_X0_41 hE rfl rfl ⟨Nat.le_of_ble_eq_true rfl, Nat.le_of_ble_eq_true rfl⟩) hP rfl hl.1 rfl (Nat.le_of_ble_eq_true rfl) dX0_able_32 ?_
    refine lv_if_eq (tgt := 71) hx hb dX0_able_35 (by decide) (fun q => ?_) (fun q => ?_)
    · have hf := (if_pos q).symm.trans hf
      refine lv_iinc (v := (x4 + (1 : Int32))) (lv' := [(4, .int (x4 + (1 : Int32))), (5, .ref (a (14 + 3 * x4.toNatClampNeg))), (0, .ref (a 11)), (1, .int x1), (2, .int x2), (3, .int x3)]) hx hb dX0_able_71 hl (k := 5) rfl rfl (by decide) rfl (fun ls hl => ?_)
      refine lv_goto (tgt := 5) hx hb dX0_able_74 (by decide) ?_
      exact hk5 x1 x2 x3 (x4 + (1 : Int32)) hf ls (lv_sub hl [2, 3, 4, 5, 0] rfl)
    · have hf := (if_neg q).symm.trans hf
      refine lv_aload hx hb dX0_able_38 (lv_at hl 0 rfl) ?_
      refine lv_aload_n hx hb dX0_able_40 rfl (lv_at hl 1 rfl) ?_
      refine gf_0_22 hx hb hE hown hP dX0_able_41 ?_
      refine lv_iload_n hx hb dX0_able_44 rfl (lv_at hl 3 rfl) ?_
      obtain ⟨r_3, hc, hf⟩ := bnd hf
      refine rdV X (c_X3_hasSkills l d a z x4.toNatClampNeg x2 (vp_lt hi_1) hc) (k_X0_78 hE rfl rfl ⟨Nat.le_of_ble_eq_true rfl, Nat.le_of_ble_eq_true rfl⟩) hP (recvP hE hP (vp_lt hi_1)) rfl hl.1 rfl (Nat.le_of_ble_eq_true rfl) dX0_able_45 ?_
      refine lv_if_eq (tgt := 71) hx hb dX0_able_48 (by decide) (fun q => ?_) (fun q => ?_)
      · have hf := (if_pos q).symm.trans hf
        refine lv_iinc (v := (x4 + (1 : Int32))) (lv' := [(4, .int (x4 + (1 : Int32))), (5, .ref (a (14 + 3 * x4.toNatClampNeg))), (0, .ref (a 11)), (1, .int x1), (2, .int x2), (3, .int x3)]) hx hb dX0_able_71 hl (k := 5) rfl rfl (by decide) rfl (fun ls hl => ?_)
        refine lv_goto (tgt := 5) hx hb dX0_able_74 (by decide) ?_
        exact hk5 x1 x2 x3 (x4 + (1 : Int32)) hf ls (lv_sub hl [2, 3, 4, 5, 0] rfl)
      · have hf := (if_neg q).symm.trans hf
        refine lv_aload hx hb dX0_able_51 (lv_at hl 0 rfl) ?_
        refine lv_aload_n hx hb dX0_able_53 rfl (lv_at hl 1 rfl) ?_
        refine gf_0_22 hx hb hE hown hP dX0_able_54 ?_
        refine lv_iload_n hx hb dX0_able_57 rfl (lv_at hl 3 rfl) ?_
        obtain ⟨r_4, hc, hf⟩ := bnd hf
        refine rdV X (c_X3_hasHours l d a z x4.toNatClampNeg x2 (vp_lt hi_1) hc) (k_X0_84 hE rfl rfl ⟨Nat.le_of_ble_eq_true rfl, Nat.le_of_ble_eq_true rfl⟩) hP (recvP hE hP (vp_lt hi_1)) rfl hl.1 rfl (Nat.le_of_ble_eq_true rfl) dX0_able_58 ?_
        refine lv_if_eq (tgt := 71) hx hb dX0_able_61 (by decide) (fun q => ?_) (fun q => ?_)
        · have hf := (if_pos q).symm.trans hf
          refine lv_iinc (v := (x4 + (1 : Int32))) (lv' := [(4, .int (x4 + (1 : Int32))), (5, .ref (a (14 + 3 * x4.toNatClampNeg))), (0, .ref (a 11)), (1, .int x1), (2, .int x2), (3, .int x3)]) hx hb dX0_able_71 hl (k := 5) rfl rfl (by decide) rfl (fun ls hl => ?_)
          refine lv_goto (tgt := 5) hx hb dX0_able_74 (by decide) ?_
          exact hk5 x1 x2 x3 (x4 + (1 : Int32)) hf ls (lv_sub hl [2, 3, 4, 5, 0] rfl)
        · have hf := (if_neg q).symm.trans hf
          refine lv_iload_n hx hb dX0_able_64 rfl (lv_at hl 4 rfl) ?_
          refine lv_iconst (v := 1) hx hb dX0_able_65 (by decide) ?_
          refine lv_iload hx hb dX0_able_66 (lv_at hl 5 rfl) ?_
          refine lv_ishl hx hb dX0_able_68 ?_
          refine lv_ior hx hb dX0_able_69 ?_
          refine lv_istore_n (lv' := [(3, .int (x3 ||| ((1 : Int32) <<< (x4 &&& 31)))), (5, .ref (a (14 + 3 * x4.toNatClampNeg))), (0, .ref (a 11)), (1, .int x1), (2, .int x2), (4, .int x4)]) hx hb dX0_able_70 rfl hl (by decide) rfl (fun ls hl => ?_)
          refine lv_iinc (v := (x4 + (1 : Int32))) (lv' := [(4, .int (x4 + (1 : Int32))), (3, .int (x3 ||| ((1 : Int32) <<< (x4 &&& 31)))), (5, .ref (a (14 + 3 * x4.toNatClampNeg))), (0, .ref (a 11)), (1, .int x1), (2, .int x2)]) hx hb dX0_able_71 hl (k := 5) rfl rfl (by decide) rfl (fun ls hl => ?_)
          refine lv_goto (tgt := 5) hx hb dX0_able_74 (by decide) ?_
          exact hk5 x1 x2 (x3 ||| ((1 : Int32) <<< (x4 &&& 31))) (x4 + (1 : Int32)) hf ls (lv_sub hl [3, 4, 5, 1, 0] rfl)
theorem u_X0_able_5 {RR : Int32} (X : Cx p s m c cX0_able RX0 6 d) {z : St} (hP : va_P d.1 classes (wC d a z) s.heap) (hr : meth.sig.returnType = (some .int)) (hlk : meth.locks = false) : ∀ (x1 : Int32) (x2 : Int32) (x3 : Int32) (x4 : Int32), l_X0_able_5 z x1 x2 x3 x4 = some RR → WRd p l e { frames := 3, cells := 0, slots := 0, locals := 66 } s m args below meth c RR 6 [(0, .ref (a 11)), (1, .int x1), (2, .int x2), (3, .int x3), (4, .int x4)] 5 [] := by
  unfold l_X0_able_5
  generalize FU = n
  induction n with
  | zero => intro x1 x2 x3 x4 hf; exact absurd (show (none : Option (Int32)) = some RR from hf) (by simp)
  | succ n ih => exact t_X0_able_5 X hP hr hlk ih
def f_X0_able (z : St) (x1 : Int32) (x2 : Int32) : Option (Int32) := l_X0_able_5 z x1 x2 (0 : Int32) (0 : Int32)
set_option maxHeartbeats 4000000 in
set_option maxRecDepth 100000 in
theorem t_X0_able {RR : Int32} (X : Cx p s m c cX0_able RX0 6 d) {z : St} (hP : va_P d.1 classes (wC d a z) s.heap) (hr : meth.sig.returnType = (some .int)) (hlk : meth.locks = false) : ∀ (x1 : Int32) (x2 : Int32), f_X0_able z x1 x2 = some RR → WRd p l e { frames := 3, cells := 0, slots := 0, locals := 66 } s m args below meth c RR 6 [(0, .ref (a 11)), (1, .int x1), (2, .int x2)] 0 [] := by
  intro x1 x2 hf ls hl
  obtain ⟨hx, hb, hml, hown, hE⟩ := id X
  unfold f_X0_able at hf
  refine lv_iconst (v := 0) hx hb dX0_able_0 (by decide) ?_
  refine lv_istore_n (lv' := [(3, .int (0 : Int32)), (0, .ref (a 11)), (1, .int x1), (2, .int x2)]) hx hb dX0_able_1 rfl hl (by decide) rfl (fun ls hl => ?_)
  refine lv_iconst (v := 0) hx hb dX0_able_2 (by decide) ?_
  refine lv_istore (lv' := [(4, .int (0 : Int32)), (3, .int (0 : Int32)), (0, .ref (a 11)), (1, .int x1), (2, .int x2)]) hx hb dX0_able_3 hl (by decide) rfl (fun ls hl => ?_)
  exact u_X0_able_5 X hP hr hlk x1 x2 (0 : Int32) (0 : Int32) hf ls (lv_sub hl [2, 3, 4, 1, 0] rfl)
set_option maxHeartbeats 4000000 in
set_option maxRecDepth 100000 in
theorem c_X0_able (l : Launch) (d : G3) (a : Nat → Nat) (z : St) (x1 : Int32) (x2 : Int32) {RR : Int32} (hf : f_X0_able z x1 x2 = some RR) : Met l yX0_able [Cond.code yX0_able cX0_able 6 (some .int)] { frames := 3, cells := 0, slots := 0, locals := 66 } (rpre wC d a z [.ref (a 11), .int x1, .int x2]) (QcRead RR) 0 0 (fun _ => False) := by
  refine Met.ofW (cc := cX0_able) (maxL := 6) (ret := (some .int)) (by decide) rfl ?_
  intro p e s m args below meth c s₁ B hml hv
  obtain ⟨rfl, hE, hP⟩ := hv
  have X : Cx p s m c cX0_able RX0 6 d := ⟨B.exec, B.bytes, hml, findClass_of_methodNamed B.named, hE⟩
  have hl := lv_entry ([.ref (a 11), .int x1, .int x2]) (n := 6) (Nat.le_of_ble_eq_true rfl)
  rw [lg_entry_eq]
  generalize (lg_sl ([.ref (a 11), .int x1, .int x2]) ++ List.replicate (6 - (lg_sl ([.ref (a 11), .int x1, .int x2])).length) Slot.unset).toArray = ls at hl ⊢
  have hl : lv_has ls 6 [(0, .ref (a 11)), (1, .int x1), (2, .int x2)] := hl
  exact t_X0_able X hP B.returns B.notSynchronized x1 x2 hf ls hl
def f_X0_findLegal_62 (k16 : Int32 → St → Option (St)) (x1 : Int32) (x2 : Int32) (s0 : Int32) (z : St) : Option (St) := (if s0 = (0 : Int32) then (f_X0_able z x2 x1).bind (fun r_1 => ck 512 x1 (k16 (x1 + (1 : Int32)) (pA z 6 x1.toNatClampNeg r_1))) else ck 512 x1 (k16 (x1 + (1 : Int32)) (pA z 6 x1.toNatClampNeg (0 : Int32))))
set_option maxHeartbeats 4000000 in
set_option maxRecDepth 100000 in
theorem t_X0_findLegal_62 {RR : St} (X : Cx p s m c cX0_findLegal RX0 4 d) (hJ : Inj 26 a) (hr : meth.sig.returnType = none) (hlk : meth.locks = false) {k16 : Int32 → St → Option (St)} (hk16 : ∀ (x1 : Int32) (z : St), k16 x1 z = some RR → WWv wC 26 d a p l e { frames := 4, cells := 0, slots := 0, locals := 94 } s m args below meth c RR z 4 [(0, .ref (a 11)), (1, .int x1)] 16 []) : ∀ (x1 : Int32) (x2 : Int32) (s0 : Int32) (z : St), f_X0_findLegal_62 k16 x1 x2 s0 z = some RR → WWv wC 26 d a p l e { frames := 4, cells := 0, slots := 0, locals := 94 } s m args below meth c RR z 4 [(0, .ref (a 11)), (1, .int x1), (2, .int x2)] 62 [.int s0] := by
  intro x1 x2 s0 z hf H locs ls hP hS hl
  obtain ⟨hx, hb, hml, hown, hE⟩ := id X
  unfold f_X0_findLegal_62 at hf
  refine lv_istore_n (lv' := [(3, .int s0), (0, .ref (a 11)), (1, .int x1), (2, .int x2)]) hx hb dX0_findLegal_62 rfl hl (by decide) rfl (fun ls hl => ?_)
  refine lv_aload_n hx hb dX0_findLegal_63 rfl (lv_at hl 1 rfl) ?_
  refine gf_0_9 hx hb hE hown hP dX0_findLegal_64 ?_
  refine lv_iload_n hx hb dX0_findLegal_67 rfl (lv_at hl 2 rfl) ?_
  refine lv_iload_n hx hb dX0_findLegal_68 rfl (lv_at hl 0 rfl) ?_
  refine lv_if_eq (tgt := 76) hx hb dX0_findLegal_69 (by decide) (fun q => ?_) (fun q => ?_)
  · have hf := (if_pos q).symm.trans hf
    refine lv_aload_n hx hb dX0_findLegal_76 rfl (lv_at hl 1 rfl) ?_
    refine lv_iload_n hx hb dX0_findLegal_77 rfl (lv_at hl 3 rfl) ?_
    refine lv_iload_n hx hb dX0_findLegal_78 rfl (lv_at hl 2 rfl) ?_
    obtain ⟨r_1, hc, hf⟩ := bnd hf
    refine rdV X (c_X0_able l d a z x2 x1 hc) (k_X0_67 hE rfl rfl ⟨Nat.le_of_ble_eq_true rfl, Nat.le_of_ble_eq_true rfl⟩) hP (va_recv (q := (RX0, TX0, 7)) hE.2 hP (ci := 0) (q0 := 11) rfl rfl) rfl hl.1 rfl (Nat.le_of_ble_eq_true rfl) dX0_findLegal_79 ?_
    obtain ⟨hi, hf⟩ := ck_some hf
    refine st_C_12 hx hb hE hP hJ hS hi dX0_findLegal_82 (fun H locs hP hS => ?_)
    refine lv_iinc (v := (x1 + (1 : Int32))) (lv' := [(1, .int (x1 + (1 : Int32))), (3, .int s0), (0, .ref (a 11)), (2, .int x2)]) hx hb dX0_findLegal_83 hl (k := 2) rfl rfl (by decide) rfl (fun ls hl => ?_)
    refine lv_goto (tgt := 16) hx hb dX0_findLegal_86 (by decide) ?_
    exact hk16 (x1 + (1 : Int32)) (pA z 6 x1.toNatClampNeg r_1) hf H locs ls hP hS (lv_sub hl [2, 0] rfl)
  · have hf := (if_neg q).symm.trans hf
    refine lv_iconst (v := 0) hx hb dX0_findLegal_72 (by decide) ?_
    refine lv_goto (tgt := 82) hx hb dX0_findLegal_73 (by decide) ?_
    obtain ⟨hi, hf⟩ := ck_some hf
    refine st_C_12 hx hb hE hP hJ hS hi dX0_findLegal_82 (fun H locs hP hS => ?_)
    refine lv_iinc (v := (x1 + (1 : Int32))) (lv' := [(1, .int (x1 + (1 : Int32))), (3, .int s0), (0, .ref (a 11)), (2, .int x2)]) hx hb dX0_findLegal_83 hl (k := 2) rfl rfl (by decide) rfl (fun ls hl => ?_)
    refine lv_goto (tgt := 16) hx hb dX0_findLegal_86 (by decide) ?_
    exact hk16 (x1 + (1 : Int32)) (pA z 6 x1.toNatClampNeg (0 : Int32)) hf H locs ls hP hS (lv_sub hl [2, 0] rfl)
def f_X0_findLegal_16 (k16 : Int32 → St → Option (St)) (x1 : Int32) (z : St) : Option (St) := (f_X1_all z).bind (fun r_1 => (if r_1 < x1 then some z else ck 512 (x1 &&& (x1 - (1 : Int32))) ((if (z.2 6 (x1 &&& (x1 - (1 : Int32))).toNatClampNeg) = (0 : Int32) then f_X0_findLegal_62 k16 x1 (z.2 6 (x1 &&& (x1 - (1 : Int32))).toNatClampNeg) (1 : Int32) z else (f_X4_firstBroken z x1).bind (fun r_2 => (if r_2 = (0 : Int32) then f_X0_findLegal_62 k16 x1 (z.2 6 (x1 &&& (x1 - (1 : Int32))).toNatClampNeg) (0 : Int32) z else f_X0_findLegal_62 k16 x1 (z.2 6 (x1 &&& (x1 - (1 : Int32))).toNatClampNeg) (1 : Int32) z))))))
def l_X0_findLegal_16 : Int32 → St → Option (St) := iter (fun _ _ => none) (f_X0_findLegal_16) FU
set_option maxHeartbeats 4000000 in
set_option maxRecDepth 100000 in
theorem t_X0_findLegal_16 {RR : St} (X : Cx p s m c cX0_findLegal RX0 4 d) (hJ : Inj 26 a) (hr : meth.sig.returnType = none) (hlk : meth.locks = false) {k16 : Int32 → St → Option (St)} (hk16 : ∀ (x1 : Int32) (z : St), k16 x1 z = some RR → WWv wC 26 d a p l e { frames := 4, cells := 0, slots := 0, locals := 94 } s m args below meth c RR z 4 [(0, .ref (a 11)), (1, .int x1)] 16 []) : ∀ (x1 : Int32) (z : St), f_X0_findLegal_16 k16 x1 z = some RR → WWv wC 26 d a p l e { frames := 4, cells := 0, slots := 0, locals := 94 } s m args below meth c RR z 4 [(0, .ref (a 11)), (1, .int x1)] 16 [] := by
  intro x1 z hf H locs ls hP hS hl
  obtain ⟨hx, hb, hml, hown, hE⟩ := id X
  unfold f_X0_findLegal_16 at hf
  refine lv_iload_n hx hb dX0_findLegal_16 rfl (lv_at hl 1 rfl) ?_
  refine lv_aload_n hx hb dX0_findLegal_17 rfl (lv_at hl 0 rfl) ?_
  refine gf_0_22 hx hb hE hown hP dX0_findLegal_18 ?_
  obtain ⟨r_1, hc, hf⟩ := bnd hf
  refine rdV X (c_X1_all l d a z hc) (k_X0_55 hE rfl rfl ⟨Nat.le_of_ble_eq_true rfl, Nat.le_of_ble_eq_true rfl⟩) hP (va_recv (q := (RX1, TX1, 7)) hE.2 hP (ci := 1) (q0 := 1) rfl rfl) rfl hl.1 rfl (Nat.le_of_ble_eq_true rfl) dX0_findLegal_21 ?_
  refine lv_icmp_gt (tgt := 89) hx hb dX0_findLegal_24 (by decide) (fun q => ?_) (fun q => ?_)
  · have hf := (if_pos q).symm.trans hf
    obtain rfl := Option.some.inj hf
    exact W.vret hx hb hr (fun t ht _ => ⟨rfl, by rw [ht]; exact hP, hS.F ht⟩) hS.2.2 dX0_findLegal_89 hlk
  · have hf := (if_neg q).symm.trans hf
    refine lv_aload_n hx hb dX0_findLegal_27 rfl (lv_at hl 0 rfl) ?_
    refine gf_0_9 hx hb hE hown hP dX0_findLegal_28 ?_
    refine lv_iload_n hx hb dX0_findLegal_31 rfl (lv_at hl 1 rfl) ?_
    refine lv_iload_n hx hb dX0_findLegal_32 rfl (lv_at hl 1 rfl) ?_
    refine lv_iconst (v := 1) hx hb dX0_findLegal_33 (by decide) ?_
    refine lv_isub hx hb dX0_findLegal_34 ?_
    refine lv_iand hx hb dX0_findLegal_35 ?_
    obtain ⟨hi, hf⟩ := ck_some hf
    refine ld_C_12 hx hb hE hP hi dX0_findLegal_36 ?_
    refine lv_istore_n (lv' := [(2, .int (z.2 6 (x1 &&& (x1 - (1 : Int32))).toNatClampNeg)), (0, .ref (a 11)), (1, .int x1)]) hx hb dX0_findLegal_37 rfl hl (by decide) rfl (fun ls hl => ?_)
    refine lv_iload_n hx hb dX0_findLegal_38 rfl (lv_at hl 0 rfl) ?_
    refine lv_if_eq (tgt := 57) hx hb dX0_findLegal_39 (by decide) (fun q => ?_) (fun q => ?_)
    · have hf := (if_pos q).symm.trans hf
      refine lv_iconst (v := 1) hx hb dX0_findLegal_57 (by decide) ?_
      refine lv_goto (tgt := 62) hx hb dX0_findLegal_58 (by decide) ?_
      exact t_X0_findLegal_62 X hJ hr hlk hk16 x1 (z.2 6 (x1 &&& (x1 - (1 : Int32))).toNatClampNeg) (1 : Int32) z hf H locs ls hP hS (lv_sub hl [1, 2, 0] rfl)
    · have hf := (if_neg q).symm.trans hf
      refine lv_aload_n hx hb dX0_findLegal_42 rfl (lv_at hl 1 rfl) ?_
      refine gf_0_26 hx hb hE hown hP dX0_findLegal_43 ?_
      refine lv_aload_n hx hb dX0_findLegal_46 rfl (lv_at hl 1 rfl) ?_
      refine gf_0_22 hx hb hE hown hP dX0_findLegal_47 ?_
      refine lv_iload_n hx hb dX0_findLegal_50 rfl (lv_at hl 2 rfl) ?_
      obtain ⟨r_2, hc, hf⟩ := bnd hf
      refine rdV X (c_X4_firstBroken l d a z x1 hc) (k_X0_61 hE rfl rfl ⟨Nat.le_of_ble_eq_true rfl, Nat.le_of_ble_eq_true rfl⟩) hP (va_recv (q := (RX4, TX4, 1)) hE.2 hP (ci := 4) (q0 := 7) rfl rfl) rfl hl.1 rfl (Nat.le_of_ble_eq_true rfl) dX0_findLegal_51 ?_
      refine lv_if_eq (tgt := 61) hx hb dX0_findLegal_54 (by decide) (fun q => ?_) (fun q => ?_)
      · have hf := (if_pos q).symm.trans hf
        refine lv_iconst (v := 0) hx hb dX0_findLegal_61 (by decide) ?_
        exact t_X0_findLegal_62 X hJ hr hlk hk16 x1 (z.2 6 (x1 &&& (x1 - (1 : Int32))).toNatClampNeg) (0 : Int32) z hf H locs ls hP hS (lv_sub hl [1, 2, 0] rfl)
      · have hf := (if_neg q).symm.trans hf
        refine lv_iconst (v := 1) hx hb dX0_findLegal_57 (by decide) ?_
        refine lv_goto (tgt := 62) hx hb dX0_findLegal_58 (by decide) ?_
        exact t_X0_findLegal_62 X hJ hr hlk hk16 x1 (z.2 6 (x1 &&& (x1 - (1 : Int32))).toNatClampNeg) (1 : Int32) z hf H locs ls hP hS (lv_sub hl [1, 2, 0] rfl)
theorem u_X0_findLegal_16 {RR : St} (X : Cx p s m c cX0_findLegal RX0 4 d) (hJ : Inj 26 a) (hr : meth.sig.returnType = none) (hlk : meth.locks = false) : ∀ (x1 : Int32) (z : St), l_X0_findLegal_16 x1 z = some RR → WWv wC 26 d a p l e { frames := 4, cells := 0, slots := 0, locals := 94 } s m args below meth c RR z 4 [(0, .ref (a 11)), (1, .int x1)] 16 [] := by
  unfold l_X0_findLegal_16
  generalize FU = n
  induction n with
  | zero => intro x1 z hf; exact absurd (show (none : Option (St)) = some RR from hf) (by simp)
  | succ n ih => exact t_X0_findLegal_16 X hJ hr hlk ih
def f_X0_findLegal (z : St) : Option (St) := (f_X2_from z (0 : Int32)).bind (fun r_1 => ck 512 (0 : Int32) (l_X0_findLegal_16 (1 : Int32) (pA z 6 (0 : Int32).toNatClampNeg r_1)))
set_option maxHeartbeats 4000000 in
set_option maxRecDepth 100000 in
theorem t_X0_findLegal {RR : St} (X : Cx p s m c cX0_findLegal RX0 4 d) (hJ : Inj 26 a) (hr : meth.sig.returnType = none) (hlk : meth.locks = false) : ∀ (z : St), f_X0_findLegal z = some RR → WWv wC 26 d a p l e { frames := 4, cells := 0, slots := 0, locals := 94 } s m args below meth c RR z 4 [(0, .ref (a 11))] 0 [] := by
  intro z hf H locs ls hP hS hl
  obtain ⟨hx, hb, hml, hown, hE⟩ := id X
  unfold f_X0_findLegal at hf
  refine lv_aload_n hx hb dX0_findLegal_0 rfl (lv_at hl 0 rfl) ?_
  refine gf_0_9 hx hb hE hown hP dX0_findLegal_1 ?_
  refine lv_iconst (v := 0) hx hb dX0_findLegal_4 (by decide) ?_
  refine lv_aload_n hx hb dX0_findLegal_5 rfl (lv_at hl 0 rfl) ?_
  refine gf_0_30 hx hb hE hown hP dX0_findLegal_6 ?_
  refine lv_iconst (v := 0) hx hb dX0_findLegal_9 (by decide) ?_
  obtain ⟨r_1, hc, hf⟩ := bnd hf
  refine rdV X (c_X2_from l d a z (0 : Int32) hc) (k_X0_49 hE rfl rfl ⟨Nat.le_of_ble_eq_true rfl, Nat.le_of_ble_eq_true rfl⟩) hP (va_recv (q := (RX2, TX2, 2)) hE.2 hP (ci := 2) (q0 := 9) rfl rfl) rfl hl.1 rfl (Nat.le_of_ble_eq_true rfl) dX0_findLegal_10 ?_
  obtain ⟨hi, hf⟩ := ck_some hf
  refine st_C_12 hx hb hE hP hJ hS hi dX0_findLegal_13 (fun H locs hP hS => ?_)
  refine lv_iconst (v := 1) hx hb dX0_findLegal_14 (by decide) ?_
  refine lv_istore_n (lv' := [(1, .int (1 : Int32)), (0, .ref (a 11))]) hx hb dX0_findLegal_15 rfl hl (by decide) rfl (fun ls hl => ?_)
  exact u_X0_findLegal_16 X hJ hr hlk (1 : Int32) (pA z 6 (0 : Int32).toNatClampNeg r_1) hf H locs ls hP hS (lv_sub hl [1, 0] rfl)
set_option maxHeartbeats 4000000 in
set_option maxRecDepth 100000 in
theorem c_X0_findLegal (l : Launch) (d : G3) (a : Nat → Nat) (z : St) {RR : St} (hf : f_X0_findLegal z = some RR) : Met l yX0_findLegal [Cond.code yX0_findLegal cX0_findLegal 4 none] { frames := 4, cells := 0, slots := 0, locals := 94 } (wpre wC 26 d a z [.ref (a 11)]) (QV wC 26 d a RR) 0 0 (AD 26 a) := by
  refine Met.ofW (cc := cX0_findLegal) (maxL := 4) (ret := none) (by decide) rfl ?_
  intro p e s m args below meth c s₁ B hml hv
  obtain ⟨rfl, hE, hP, hJ⟩ := hv
  have X : Cx p s m c cX0_findLegal RX0 4 d := ⟨B.exec, B.bytes, hml, findClass_of_methodNamed B.named, hE⟩
  have hl := lv_entry ([.ref (a 11)]) (n := 4) (Nat.le_of_ble_eq_true rfl)
  rw [lg_entry_eq]
  generalize (lg_sl ([.ref (a 11)]) ++ List.replicate (4 - (lg_sl ([.ref (a 11)])).length) Slot.unset).toArray = ls at hl ⊢
  have hl : lv_has ls 4 [(0, .ref (a 11))] := hl
  exact t_X0_findLegal X hJ B.returns B.notSynchronized z hf s.heap [] ls hP va_S.rf hl
def f_X0_refresh (z : St) : Option (St) := (if (z.1 6) = (0 : Int32) then some z else (f_X0_findLegal z).bind (fun r_1 => some (pS (pS r_1 5 (1 : Int32)) 6 (0 : Int32))))
set_option maxHeartbeats 4000000 in
set_option maxRecDepth 100000 in
theorem t_X0_refresh {RR : St} (X : Cx p s m c cX0_refresh RX0 1 d) (hJ : Inj 26 a) (hr : meth.sig.returnType = none) (hlk : meth.locks = false) : ∀ (z : St), f_X0_refresh z = some RR → WWv wC 26 d a p l e { frames := 5, cells := 0, slots := 0, locals := 117 } s m args below meth c RR z 1 [(0, .ref (a 11))] 0 [] := by
  intro z hf H locs ls hP hS hl
  obtain ⟨hx, hb, hml, hown, hE⟩ := id X
  unfold f_X0_refresh at hf
  refine lv_aload_n hx hb dX0_refresh_0 rfl (lv_at hl 0 rfl) ?_
  refine gf_0_18 hx hb hE hown hP dX0_refresh_1 ?_
  refine lv_if_eq (tgt := 21) hx hb dX0_refresh_4 (by decide) (fun q => ?_) (fun q => ?_)
  · have hf := (if_pos q).symm.trans hf
    obtain rfl := Option.some.inj hf
    exact W.vret hx hb hr (fun t ht _ => ⟨rfl, by rw [ht]; exact hP, hS.F ht⟩) hS.2.2 dX0_refresh_21 hlk
  · have hf := (if_neg q).symm.trans hf
    refine lv_aload_n hx hb dX0_refresh_7 rfl (lv_at hl 0 rfl) ?_
    obtain ⟨r_1, hc, hf⟩ := bnd hf
    refine wrVv X (c_X0_findLegal l d a z hc) (k_X0_34 hE rfl rfl ⟨Nat.le_of_ble_eq_true rfl, Nat.le_of_ble_eq_true rfl⟩) hP hJ hS (va_recv (q := (RX0, TX0, 7)) hE.2 hP (ci := 0) (q0 := 11) rfl rfl) rfl hl.1 rfl (Nat.le_of_ble_eq_true rfl) dX0_refresh_8 (fun H locs hP hS => ?_)
    refine lv_aload_n hx hb dX0_refresh_11 rfl (lv_at hl 0 rfl) ?_
    refine lv_iconst (v := 1) hx hb dX0_refresh_12 (by decide) ?_
    refine pf_0_37 hx hb hE hown hP hJ hS dX0_refresh_13 (fun H locs hP hS => ?_)
    refine lv_aload_n hx hb dX0_refresh_16 rfl (lv_at hl 0 rfl) ?_
    refine lv_iconst (v := 0) hx hb dX0_refresh_17 (by decide) ?_
    refine pf_0_18 hx hb hE hown hP hJ hS rfl rfl dX0_refresh_18 (fun H locs hP hS => ?_)
    obtain rfl := Option.some.inj hf
    exact W.vret hx hb hr (fun t ht _ => ⟨rfl, by rw [ht]; exact hP, hS.F ht⟩) hS.2.2 dX0_refresh_21 hlk
set_option maxHeartbeats 4000000 in
set_option maxRecDepth 100000 in
theorem c_X0_refresh (l : Launch) (d : G3) (a : Nat → Nat) (z : St) {RR : St} (hf : f_X0_refresh z = some RR) : Met l yX0_refresh [Cond.code yX0_refresh cX0_refresh 1 none] { frames := 5, cells := 0, slots := 0, locals := 117 } (wpre wC 26 d a z [.ref (a 11)]) (QV wC 26 d a RR) 0 0 (AD 26 a) := by
  refine Met.ofW (cc := cX0_refresh) (maxL := 1) (ret := none) (by decide) rfl ?_
  intro p e s m args below meth c s₁ B hml hv
  obtain ⟨rfl, hE, hP, hJ⟩ := hv
  have X : Cx p s m c cX0_refresh RX0 1 d := ⟨B.exec, B.bytes, hml, findClass_of_methodNamed B.named, hE⟩
  have hl := lv_entry ([.ref (a 11)]) (n := 1) (Nat.le_of_ble_eq_true rfl)
  rw [lg_entry_eq]
  generalize (lg_sl ([.ref (a 11)]) ++ List.replicate (1 - (lg_sl ([.ref (a 11)])).length) Slot.unset).toArray = ls at hl ⊢
  have hl : lv_has ls 1 [(0, .ref (a 11))] := hl
  exact t_X0_refresh X hJ B.returns B.notSynchronized z hf s.heap [] ls hP va_S.rf hl
def f_X0_isLegal (z : St) (x1 : Int32) (x2 : Int32) : Option (Int32) := ck 512 x2 ((if (((z.2 6 x2.toNatClampNeg) >>> (x1 &&& 31)) &&& (1 : Int32)) = (1 : Int32) then some (1 : Int32) else some (0 : Int32)))
set_option maxHeartbeats 4000000 in
set_option maxRecDepth 100000 in
theorem t_X0_isLegal {RR : Int32} (X : Cx p s m c cX0_isLegal RX0 3 d) {z : St} (hP : va_P d.1 classes (wC d a z) s.heap) (hr : meth.sig.returnType = (some .boolean)) (hlk : meth.locks = false) : ∀ (x1 : Int32) (x2 : Int32), f_X0_isLegal z x1 x2 = some RR → WRd p l e { frames := 0, cells := 0, slots := 0, locals := 0 } s m args below meth c RR 3 [(0, .ref (a 11)), (1, .int x1), (2, .int x2)] 0 [] := by
  intro x1 x2 hf ls hl
  obtain ⟨hx, hb, hml, hown, hE⟩ := id X
  unfold f_X0_isLegal at hf
  refine lv_aload_n hx hb dX0_isLegal_0 rfl (lv_at hl 0 rfl) ?_
  refine gf_0_9 hx hb hE hown hP dX0_isLegal_1 ?_
  refine lv_iload_n hx hb dX0_isLegal_4 rfl (lv_at hl 2 rfl) ?_
  obtain ⟨hi, hf⟩ := ck_some hf
  refine ld_C_12 hx hb hE hP hi dX0_isLegal_5 ?_
  refine lv_iload_n hx hb dX0_isLegal_6 rfl (lv_at hl 1 rfl) ?_
  refine lv_ishr hx hb dX0_isLegal_7 ?_
  refine lv_iconst (v := 1) hx hb dX0_isLegal_8 (by decide) ?_
  refine lv_iand hx hb dX0_isLegal_9 ?_
  refine lv_iconst (v := 1) hx hb dX0_isLegal_10 (by decide) ?_
  refine lv_icmp_ne (tgt := 18) hx hb dX0_isLegal_11 (by decide) (fun q => ?_) (fun q => ?_)
  · have hf := (if_neg q).symm.trans hf
    refine lv_iconst (v := 0) hx hb dX0_isLegal_18 (by decide) ?_
    obtain rfl := Option.some.inj hf
    exact W.zret hx hb hr rfl (fun t ht _ => ⟨rfl, ht⟩) (fun _ h => nomatch h) dX0_isLegal_19 hlk
  · have hf := (if_pos q).symm.trans hf
    refine lv_iconst (v := 1) hx hb dX0_isLegal_14 (by decide) ?_
    refine lv_goto (tgt := 19) hx hb dX0_isLegal_15 (by decide) ?_
    obtain rfl := Option.some.inj hf
    exact W.zret hx hb hr rfl (fun t ht _ => ⟨rfl, ht⟩) (fun _ h => nomatch h) dX0_isLegal_19 hlk
set_option maxHeartbeats 4000000 in
set_option maxRecDepth 100000 in
theorem c_X0_isLegal (l : Launch) (d : G3) (a : Nat → Nat) (z : St) (x1 : Int32) (x2 : Int32) {RR : Int32} (hf : f_X0_isLegal z x1 x2 = some RR) : Met l yX0_isLegal [Cond.code yX0_isLegal cX0_isLegal 3 (some .boolean)] { frames := 0, cells := 0, slots := 0, locals := 0 } (rpre wC d a z [.ref (a 11), .int x1, .int x2]) (QcRead RR) 0 0 (fun _ => False) := by
  refine Met.ofW (cc := cX0_isLegal) (maxL := 3) (ret := (some .boolean)) (by decide) rfl ?_
  intro p e s m args below meth c s₁ B hml hv
  obtain ⟨rfl, hE, hP⟩ := hv
  have X : Cx p s m c cX0_isLegal RX0 3 d := ⟨B.exec, B.bytes, hml, findClass_of_methodNamed B.named, hE⟩
  have hl := lv_entry ([.ref (a 11), .int x1, .int x2]) (n := 3) (Nat.le_of_ble_eq_true rfl)
  rw [lg_entry_eq]
  generalize (lg_sl ([.ref (a 11), .int x1, .int x2]) ++ List.replicate (3 - (lg_sl ([.ref (a 11), .int x1, .int x2])).length) Slot.unset).toArray = ls at hl ⊢
  have hl : lv_has ls 3 [(0, .ref (a 11)), (1, .int x1), (2, .int x2)] := hl
  exact t_X0_isLegal X hP B.returns B.notSynchronized x1 x2 hf ls hl
end GEN
