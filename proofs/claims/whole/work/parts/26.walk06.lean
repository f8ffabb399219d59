section GEN
variable {p : Program} {l : Launch} {e : Env} {s : State} {m : MethodId} {args : Array Value} {below : List Frame} {meth : Method} {c : Code} {d : G3} {a : Nat → Nat}
def f_X2_allWishesMet_4 (z : St) (k4 : Int32 → Int32 → Option (Int32)) (x2 : Int32) (x3 : Int32) : Option (Int32) := (if (z.1 4) ≤ x3 then some x2 else ck 4 x3 ((f_X3_wishesMet z x3.toNatClampNeg).bind (fun r_2 => k4 (x2 + r_2) (x3 + (1 : Int32)))))
def l_X2_allWishesMet_4 (z : St) : Int32 → Int32 → Option (Int32) := iter (fun _ _ => none) (f_X2_allWishesMet_4 z) FU
set_option maxHeartbeats 4000000 in
set_option maxRecDepth 100000 in
theorem t_X2_allWishesMet_4 {RR : Int32} (X : Cx p s m c cX2_allWishesMet RX2 4 d) {z : St} (hP : va_P d.1 classes (wC d a z) s.heap) (hr : meth.sig.returnType = (some .int)) (hlk : meth.locks = false) {k4 : Int32 → Int32 → Option (Int32)} (hk4 : ∀ (x2 : Int32) (x3 : Int32), k4 x2 x3 = some RR → WRd p l e { frames := 5, cells := 0, slots := 0, locals := 113 } s m args below meth c RR 4 [(0, .ref (a 9)), (1, .ref (a 1)), (2, .int x2), (3, .int x3)] 4 []) : ∀ (x2 : Int32) (x3 : Int32), f_X2_allWishesMet_4 z k4 x2 x3 = some RR → WRd p l e { frames := 5, cells := 0, slots := 0, locals := 113 } s m args below meth c RR 4 [(0, .ref (a 9)), (1, .ref (a 1)), (2, .int x2), (3, .int x3)] 4 [] := by
  intro x2 x3 hf ls hl
  obtain ⟨hx, hb, hml, hown, hE⟩ := id X
  unfold f_X2_allWishesMet_4 at hf
  refine lv_iload_n hx hb dX2_allWishesMet_4 rfl (lv_at hl 3 rfl) ?_
  refine lv_aload_n hx hb dX2_allWishesMet_5 rfl (lv_at hl 0 rfl) ?_
  refine gf_2_18 hx hb hE hown hP dX2_allWishesMet_6 ?_
  refine lv_icmp_ge (tgt := 31) hx hb dX2_allWishesMet_9 (by decide) (fun q => ?_) (fun q => ?_)
  · have hf := (if_pos q).symm.trans hf
    refine lv_iload_n hx hb dX2_allWishesMet_31 rfl (lv_at hl 2 rfl) ?_
    obtain rfl := Option.some.inj hf
    exact W.iret hx hb hr (fun t ht _ => ⟨rfl, ht⟩) (fun _ h => nomatch h) dX2_allWishesMet_32 hlk
  · have hf := (if_neg q).symm.trans hf
    refine lv_iload_n hx hb dX2_allWishesMet_12 rfl (lv_at hl 2 rfl) ?_
    refine lv_aload_n hx hb dX2_allWishesMet_13 rfl (lv_at hl 0 rfl) ?_
    refine gf_2_11 hx hb hE hown hP dX2_allWishesMet_14 ?_
    refine lv_iload_n hx hb dX2_allWishesMet_17 rfl (lv_at hl 3 rfl) ?_
    obtain ⟨hi_1, hf⟩ := ck_some hf
    refine al_rank hx hb hE hP hi_1 dX2_allWishesMet_18 ?_
    refine lv_aload_n hx hb dX2_allWishesMet_19 rfl (lv_at hl 1 rfl) ?_
    obtain ⟨r_2, hc, hf⟩ := bnd hf
    refine rdV X (c_X3_wishesMet l d a z x3.toNatClampNeg (vp_lt hi_1) hc) (k_X2_38 hE rfl rfl ⟨Nat.le_of_ble_eq_true rfl, Nat.le_of_ble_eq_true rfl⟩) hP (recvP hE hP (vp_lt hi_1)) rfl hl.1 rfl (Nat.le_of_ble_eq_true rfl) dX2_allWishesMet_20 ?_
    refine lv_iadd hx hb dX2_allWishesMet_23 ?_
    refine lv_istore_n (lv' := [(2, .int (x2 + r_2)), (0, .ref (a 9)), (1, .ref (a 1)), (3, .int x3)]) hx hb dX2_allWishesMet_24 rfl hl (by decide) rfl (fun ls hl => ?_)
    refine lv_iinc (v := (x3 + (1 : Int32))) (lv' := [(3, .int (x3 + (1 : Int32))), (2, .int (x2 + r_2)), (0, .ref (a 9)), (1, .ref (a 1))]) hx hb dX2_allWishesMet_25 hl (k := 3) rfl rfl (by decide) rfl (fun ls hl => ?_)
    refine lv_goto (tgt := 4) hx hb dX2_allWishesMet_28 (by decide) ?_
    exact hk4 (x2 + r_2) (x3 + (1 : Int32)) hf ls (lv_sub hl [2, 3, 1, 0] rfl)
theorem u_X2_allWishesMet_4 {RR : Int32} (X : Cx p s m c cX2_allWishesMet RX2 4 d) {z : St} (hP : va_P d.1 classes (wC d a z) s.heap) (hr : meth.sig.returnType = (some .int)) (hlk : meth.locks = false) : ∀ (x2 : Int32) (x3 : Int32), l_X2_allWishesMet_4 z x2 x3 = some RR → WRd p l e { frames := 5, cells := 0, slots := 0, locals := 113 } s m args below meth c RR 4 [(0, .ref (a 9)), (1, .ref (a 1)), (2, .int x2), (3, .int x3)] 4 [] := by
  unfold l_X2_allWishesMet_4
  generalize FU = n
  induction n with
  | zero => intro x2 x3 hf; exact absurd (show (none : Option (Int32)) = some RR from hf) (by simp)
  | succ n ih => exact t_X2_allWishesMet_4 X hP hr hlk ih
def f_X2_allWishesMet (z : St) : Option (Int32) := l_X2_allWishesMet_4 z (0 : Int32) (0 : Int32)
set_option maxHeartbeats 4000000 in
set_option maxRecDepth 100000 in
theorem t_X2_allWishesMet {RR : Int32} (X : Cx p s m c cX2_allWishesMet RX2 4 d) {z : St} (hP : va_P d.1 classes (wC d a z) s.heap) (hr : meth.sig.returnType = (some .int)) (hlk : meth.locks = false) : f_X2_allWishesMet z = some RR → WRd p l e { frames := 5, cells := 0, slots := 0, locals := 113 } s m args below meth c RR 4 [(0, .ref (a 9)), (1, .ref (a 1))] 0 [] := by
  intro hf ls hl
  obtain ⟨hx, hb, hml, hown, hE⟩ := id X
  unfold f_X2_allWishesMet at hf
  refine lv_iconst (v := 0) hx hb dX2_allWishesMet_0 (by decide) ?_
  refine lv_istore_n (lv' := [(2, .int (0 : Int32)), (0, .ref (a 9)), (1, .ref (a 1))]) hx hb dX2_allWishesMet_1 rfl hl (by decide) rfl (fun ls hl => ?_)
  refine lv_iconst (v := 0) hx hb dX2_allWishesMet_2 (by decide) ?_
  refine lv_istore_n (lv' := [(3, .int (0 : Int32)), (2, .int (0 : Int32)), (0, .ref (a 9)), (1, .ref (a 1))]) hx hb dX2_allWishesMet_3 rfl hl (by decide) rfl (fun ls hl => ?_)
  exact u_X2_allWishesMet_4 X hP hr hlk (0 : Int32) (0 : Int32) hf ls (lv_sub hl [2, 3, 1, 0] rfl)
set_option maxHeartbeats 4000000 in
set_option maxRecDepth 100000 in
theorem c_X2_allWishesMet (l : Launch) (d : G3) (a : Nat → Nat) (z : St) {RR : Int32} (hf : f_X2_allWishesMet z = some RR) : Met l yX2_allWishesMet [Cond.code yX2_allWishesMet cX2_allWishesMet 4 (some .int)] { frames := 5, cells := 0, slots := 0, locals := 113 } (rpre wC d a z [.ref (a 9), .ref (a 1)]) (QcRead RR) 0 0 (fun _ => False) := by
  refine Met.ofW (cc := cX2_allWishesMet) (maxL := 4) (ret := (some .int)) (by decide) rfl ?_
  intro p e s m args below meth c s₁ B hml hv
  obtain ⟨rfl, hE, hP⟩ := hv
  have X : Cx p s m c cX2_allWishesMet RX2 4 d := ⟨B.exec, B.bytes, hml, findClass_of_methodNamed B.named, hE⟩
  have hl := lv_entry ([.ref (a 9), .ref (a 1)]) (n := 4) (Nat.le_of_ble_eq_true rfl)
  rw [lg_entry_eq]
  generalize (lg_sl ([.ref (a 9), .ref (a 1)]) ++ List.replicate (4 - (lg_sl ([.ref (a 9), .ref (a 1)])).length) Slot.unset).toArray = ls at hl ⊢
  have hl : lv_has ls 4 [(0, .ref (a 9)), (1, .ref (a 1))] := hl
  exact t_X2_allWishesMet X hP B.returns B.notSynchronized hf ls hl
def f_X3_enterWish (p0 : Nat) (x1 : Int32) (x2 : Int32) (z : St) : Option (Int32 × St) := ck 5 (z.1 (10 + 6 * p0)) (ck 5 (z.1 (10 + 6 * p0)) (some ((z.1 (10 + 6 * p0)), (pS (pA (pA z (8 + 2 * p0) (z.1 (10 + 6 * p0)).toNatClampNeg x1) (9 + 2 * p0) (z.1 (10 + 6 * p0)).toNatClampNeg x2) (10 + 6 * p0) (((pA (pA z (8 + 2 * p0) (z.1 (10 + 6 * p0)).toNatClampNeg x1) (9 + 2 * p0) (z.1 (10 + 6 * p0)).toNatClampNeg x2).1 (10 + 6 * p0)) + (1 : Int32))))))
set_option maxHeartbeats 4000000 in
set_option maxRecDepth 100000 in
theorem t_X3_enterWish {RR : Int32 × St} (X : Cx p s m c cX3_enterWish RX3 4 d) (hJ : Inj 26 a) (hr : meth.sig.returnType = (some .int)) (hlk : meth.locks = false) : ∀ (p0 : Nat) (x1 : Int32) (x2 : Int32) (z : St) (hp0 : p0 < 4), f_X3_enterWish p0 x1 x2 z = some RR → WWr wC 26 d a p l e { frames := 0, cells := 0, slots := 0, locals := 0 } s m args below meth c RR z 4 [(0, .ref (a (14 + 3 * p0))), (1, .int x1), (2, .int x2)] 0 [] := by
  intro p0 x1 x2 z hp0 hf H locs ls hP hS hl
  obtain ⟨hx, hb, hml, hown, hE⟩ := id X
  unfold f_X3_enterWish at hf
  refine lv_aload_n hx hb dX3_enterWish_0 rfl (lv_at hl 0 rfl) ?_
  refine gf_3_18 hx hb hE hown hP hp0 dX3_enterWish_1 ?_
  refine lv_istore_n (lv' := [(3, .int (z.1 (10 + 6 * p0))), (0, .ref (a (14 + 3 * p0))), (1, .int x1), (2, .int x2)]) hx hb dX3_enterWish_4 rfl hl (by decide) rfl (fun ls hl => ?_)
  refine lv_aload_n hx hb dX3_enterWish_5 rfl (lv_at hl 1 rfl) ?_
  refine gf_3_9 hx hb hE hown hP hp0 dX3_enterWish_6 ?_
  refine lv_iload_n hx hb dX3_enterWish_9 rfl (lv_at hl 0 rfl) ?_
  refine lv_iload_n hx hb dX3_enterWish_10 rfl (lv_at hl 2 rfl) ?_
  obtain ⟨hi, hf⟩ := ck_some hf
  refine va_iast hx hb hE.2 hP (wC_D hJ) hS (15 + 3 * p0) 0 (wC_kd hp0) rfl hi dX3_enterWish_11 (fun H locs hP _ hS => ?_)
  rw [wC_kd_set hp0] at hP
  have hP : va_P d.1 classes (wC d a (pA z (8 + 2 * p0) (z.1 (10 + 6 * p0)).toNatClampNeg x1)) H := hP
  refine lv_aload_n hx hb dX3_enterWish_12 rfl (lv_at hl 1 rfl) ?_
  refine gf_3_15 hx hb hE hown hP hp0 dX3_enterWish_13 ?_
  refine lv_iload_n hx hb dX3_enterWish_16 rfl (lv_at hl 0 rfl) ?_
  refine lv_iload_n hx hb dX3_enterWish_17 rfl (lv_at hl 3 rfl) ?_
  obtain ⟨hi, hf⟩ := ck_some hf
  refine va_iast hx hb hE.2 hP (wC_D hJ) hS (16 + 3 * p0) 0 (wC_vl hp0) rfl hi dX3_enterWish_18 (fun H locs hP _ hS => ?_)
  rw [wC_vl_set hp0] at hP
  have hP : va_P d.1 classes (wC d a (pA (pA z (8 + 2 * p0) (z.1 (10 + 6 * p0)).toNatClampNeg x1) (9 + 2 * p0) (z.1 (10 + 6 * p0)).toNatClampNeg x2)) H := hP
  refine lv_aload_n hx hb dX3_enterWish_19 rfl (lv_at hl 1 rfl) ?_
  refine lv_dup hx hb dX3_enterWish_20 rfl ?_
  refine gf_3_18 hx hb hE hown hP hp0 dX3_enterWish_21 ?_
  refine lv_iconst (v := 1) hx hb dX3_enterWish_24 (by decide) ?_
  refine lv_iadd hx hb dX3_enterWish_25 ?_
  refine pf_3_18 hx hb hE hown hP hJ hS hp0 dX3_enterWish_26 (fun H locs hP hS => ?_)
  refine lv_iload_n hx hb dX3_enterWish_29 rfl (lv_at hl 0 rfl) ?_
  obtain rfl := Option.some.inj hf
  exact W.iret hx hb hr (fun t ht _ => ⟨rfl, by rw [ht]; exact hP, hS.F ht⟩) hS.2.2 dX3_enterWish_30 hlk
set_option maxHeartbeats 4000000 in
set_option maxRecDepth 100000 in
theorem c_X3_enterWish (l : Launch) (d : G3) (a : Nat → Nat) (z : St) (p0 : Nat) (x1 : Int32) (x2 : Int32) (hp0 : p0 < 4) {RR : Int32 × St} (hf : f_X3_enterWish p0 x1 x2 z = some RR) : Met l yX3_enterWish [Cond.code yX3_enterWish cX3_enterWish 4 (some .int)] { frames := 0, cells := 0, slots := 0, locals := 0 } (wpre wC 26 d a z [.ref (a (14 + 3 * p0)), .int x1, .int x2]) (QW wC 26 d a RR) 0 0 (AD 26 a) := by
  refine Met.ofW (cc := cX3_enterWish) (maxL := 4) (ret := (some .int)) (by decide) rfl ?_
  intro p e s m args below meth c s₁ B hml hv
  obtain ⟨rfl, hE, hP, hJ⟩ := hv
  have X : Cx p s m c cX3_enterWish RX3 4 d := ⟨B.exec, B.bytes, hml, findClass_of_methodNamed B.named, hE⟩
  have hl := lv_entry ([.ref (a (14 + 3 * p0)), .int x1, .int x2]) (n := 4) (Nat.le_of_ble_eq_true rfl)
  rw [lg_entry_eq]
  generalize (lg_sl ([.ref (a (14 + 3 * p0)), .int x1, .int x2]) ++ List.replicate (4 - (lg_sl ([.ref (a (14 + 3 * p0)), .int x1, .int x2])).length) Slot.unset).toArray = ls at hl ⊢
  have hl : lv_has ls 4 [(0, .ref (a (14 + 3 * p0))), (1, .int x1), (2, .int x2)] := hl
  exact t_X3_enterWish X hJ B.returns B.notSynchronized p0 x1 x2 z hp0 hf s.heap [] ls hP va_S.rf hl
def f_X3_hasWish (z : St) (p0 : Nat) (x1 : Int32) : Option (Int32) := (f_X5_within z x1 (0 : Int32) ((z.1 (10 + 6 * p0)) - (1 : Int32))).bind (fun r_1 => bz r_1 (some r_1))
set_option maxHeartbeats 4000000 in
set_option maxRecDepth 100000 in
theorem t_X3_hasWish {RR : Int32} (X : Cx p s m c cX3_hasWish RX3 2 d) {z : St} (hP : va_P d.1 classes (wC d a z) s.heap) (hr : meth.sig.returnType = (some .boolean)) (hlk : meth.locks = false) : ∀ (p0 : Nat) (x1 : Int32) (hp0 : p0 < 4), f_X3_hasWish z p0 x1 = some RR → WRd p l e { frames := 1, cells := 0, slots := 0, locals := 22 } s m args below meth c RR 2 [(0, .ref (a (14 + 3 * p0))), (1, .int x1)] 0 [] := by
  intro p0 x1 hp0 hf ls hl
  obtain ⟨hx, hb, hml, hown, hE⟩ := id X
  unfold f_X3_hasWish at hf
  refine lv_iload_n hx hb dX3_hasWish_0 rfl (lv_at hl 1 rfl) ?_
  refine lv_iconst (v := 0) hx hb dX3_hasWish_1 (by decide) ?_
  refine lv_aload_n hx hb dX3_hasWish_2 rfl (lv_at hl 0 rfl) ?_
  refine gf_3_18 hx hb hE hown hP hp0 dX3_hasWish_3 ?_
  refine lv_iconst (v := 1) hx hb dX3_hasWish_6 (by decide) ?_
  refine lv_isub hx hb dX3_hasWish_7 ?_
  obtain ⟨r_1, hc, hf⟩ := bnd hf
  refine rdSN X (c_X5_within l d a z x1 (0 : Int32) ((z.1 (10 + 6 * p0)) - (1 : Int32)) hc) (k_X3_22 hE rfl rfl ⟨Nat.le_of_ble_eq_true rfl, Nat.le_of_ble_eq_true rfl⟩) hP rfl hl.1 rfl (Nat.le_of_ble_eq_true rfl) dX3_hasWish_8 ?_
  obtain ⟨hn, hf⟩ := bz_some hf
  obtain rfl := Option.some.inj hf
  exact W.zret hx hb hr hn (fun t ht _ => ⟨rfl, ht⟩) (fun _ h => nomatch h) dX3_hasWish_11 hlk
set_option maxHeartbeats 4000000 in
set_option maxRecDepth 100000 in
theorem c_X3_hasWish (l : Launch) (d : G3) (a : Nat → Nat) (z : St) (p0 : Nat) (x1 : Int32) (hp0 : p0 < 4) {RR : Int32} (hf : f_X3_hasWish z p0 x1 = some RR) : Met l yX3_hasWish [Cond.code yX3_hasWish cX3_hasWish 2 (some .boolean)] { frames := 1, cells := 0, slots := 0, locals := 22 } (rpre wC d a z [.ref (a (14 + 3 * p0)), .int x1]) (QcRead RR) 0 0 (fun _ => False) := by
  refine Met.ofW (cc := cX3_hasWish) (maxL := 2) (ret := (some .boolean)) (by decide) rfl ?_
  intro p e s m args below meth c s₁ B hml hv
  obtain ⟨rfl, hE, hP⟩ := hv
  have X : Cx p s m c cX3_hasWish RX3 2 d := ⟨B.exec, B.bytes, hml, findClass_of_methodNamed B.named, hE⟩
  have hl := lv_entry ([.ref (a (14 + 3 * p0)), .int x1]) (n := 2) (Nat.le_of_ble_eq_true rfl)
  rw [lg_entry_eq]
  generalize (lg_sl ([.ref (a (14 + 3 * p0)), .int x1]) ++ List.replicate (2 - (lg_sl ([.ref (a (14 + 3 * p0)), .int x1])).length) Slot.unset).toArray = ls at hl ⊢
  have hl : lv_has ls 2 [(0, .ref (a (14 + 3 * p0))), (1, .int x1)] := hl
  exact t_X3_hasWish X hP B.returns B.notSynchronized p0 x1 hp0 hf ls hl
def f_X3_loses (z : St) (p0 : Nat) (x2 : Int32) : Option (Int32) := (f_X3_score z p0 (z.1 (14 + 6 * p0))).bind (fun r_1 => (f_X3_score z p0 x2).bind (fun r_2 => (if r_1 ≤ r_2 then some (0 : Int32) else some (1 : Int32))))
set_option maxHeartbeats 4000000 in
set_option maxRecDepth 100000 in
theorem t_X3_loses {RR : Int32} (X : Cx p s m c cX3_loses RX3 3 d) {z : St} (hP : va_P d.1 classes (wC d a z) s.heap) (hr : meth.sig.returnType = (some .boolean)) (hlk : meth.locks = false) : ∀ (p0 : Nat) (x2 : Int32) (hp0 : p0 < 4), f_X3_loses z p0 x2 = some RR → WRd p l e { frames := 4, cells := 0, slots := 0, locals := 92 } s m args below meth c RR 3 [(0, .ref (a (14 + 3 * p0))), (1, .ref (a 1)), (2, .int x2)] 0 [] := by
  intro p0 x2 hp0 hf ls hl
  obtain ⟨hx, hb, hml, hown, hE⟩ := id X
  unfold f_X3_loses at hf
  refine lv_aload_n hx hb dX3_loses_0 rfl (lv_at hl 0 rfl) ?_
  refine lv_aload_n hx hb dX3_loses_1 rfl (lv_at hl 1 rfl) ?_
  refine lv_aload_n hx hb dX3_loses_2 rfl (lv_at hl 0 rfl) ?_
  refine gf_3_55 hx hb hE hown hP hp0 dX3_loses_3 ?_
  obtain ⟨r_1, hc, hf⟩ := bnd hf
  refine rdV X (c_X3_score l d a z p0 (z.1 (14 + 6 * p0)) hp0 hc) (k_X3_58 hE rfl rfl ⟨Nat.le_of_ble_eq_true rfl, Nat.le_of_ble_eq_true rfl⟩) hP (recvP hE hP hp0) rfl hl.1 rfl (Nat.le_of_ble_eq_true rfl) dX3_loses_6 ?_
  refine lv_aload_n hx hb dX3_loses_9 rfl (lv_at hl 0 rfl) ?_
  refine lv_aload_n hx hb dX3_loses_10 rfl (lv_at hl 1 rfl) ?_
  refine lv_iload_n hx hb dX3_loses_11 rfl (lv_at hl 2 rfl) ?_
  obtain ⟨r_2, hc, hf⟩ := bnd hf
  refine rdV X (c_X3_score l d a z p0 x2 hp0 hc) (k_X3_58 hE rfl rfl ⟨Nat.le_of_ble_eq_true rfl, Nat.le_of_ble_eq_true rfl⟩) hP (recvP hE hP hp0) rfl hl.1 rfl (Nat.le_of_ble_eq_true rfl) dX3_loses_12 ?_
  refine lv_icmp_le (tgt := 22) hx hb dX3_loses_15 (by decide) (fun q => ?_) (fun q => ?_)
  · have hf := (if_pos q).symm.trans hf
    refine lv_iconst (v := 0) hx hb dX3_loses_22 (by decide) ?_
    obtain rfl := Option.some.inj hf
    exact W.zret hx hb hr rfl (fun t ht _ => ⟨rfl, ht⟩) (fun _ h => nomatch h) dX3_loses_23 hlk
  · have hf := (if_neg q).symm.trans hf
    refine lv_iconst (v := 1) hx hb dX3_loses_18 (by decide) ?_
    refine lv_goto (tgt := 23) hx hb dX3_loses_19 (by decide) ?_
    obtain rfl := Option.some.inj hf
    exact W.zret hx hb hr rfl (fun t ht _ => ⟨rfl, ht⟩) (fun _ h => nomatch h) dX3_loses_23 hlk
set_option maxHeartbeats 4000000 in
set_option maxRecDepth 100000 in
theorem c_X3_loses (l : Launch) (d : G3) (a : Nat → Nat) (z : St) (p0 : Nat) (x2 : Int32) (hp0 : p0 < 4) {RR : Int32} (hf : f_X3_loses z p0 x2 = some RR) : Met l yX3_loses [Cond.code yX3_loses cX3_loses 3 (some .boolean)] { frames := 4, cells := 0, slots := 0, locals := 92 } (rpre wC d a z [.ref (a (14 + 3 * p0)), .ref (a 1), .int x2]) (QcRead RR) 0 0 (fun _ => False) := by
  refine Met.ofW (cc := cX3_loses) (maxL := 3) (ret := (some .boolean)) (by decide) rfl ?_
  intro p e s m args below meth c s₁ B hml hv
  obtain ⟨rfl, hE, hP⟩ := hv
  have X : Cx p s m c cX3_loses RX3 3 d := ⟨B.exec, B.bytes, hml, findClass_of_methodNamed B.named, hE⟩
  have hl := lv_entry ([.ref (a (14 + 3 * p0)), .ref (a 1), .int x2]) (n := 3) (Nat.le_of_ble_eq_true rfl)
  rw [lg_entry_eq]
  generalize (lg_sl ([.ref (a (14 + 3 * p0)), .ref (a 1), .int x2]) ++ List.replicate (3 - (lg_sl ([.ref (a (14 + 3 * p0)), .ref (a 1), .int x2])).length) Slot.unset).toArray = ls at hl ⊢
  have hl : lv_has ls 3 [(0, .ref (a (14 + 3 * p0))), (1, .ref (a 1)), (2, .int x2)] := hl
  exact t_X3_loses X hP B.returns B.notSynchronized p0 x2 hp0 hf ls hl
def f_X4_replace (x1 : Int32) (x2 : Int32) (z : St) : Option (Int32 × St) := ck 4 x1 (ck 4 x1 (some ((z.2 5 x1.toNatClampNeg), (pA z 5 x1.toNatClampNeg x2))))
set_option maxHeartbeats 4000000 in
set_option maxRecDepth 100000 in
theorem t_X4_replace {RR : Int32 × St} (X : Cx p s m c cX4_replace RX4 4 d) (hJ : Inj 26 a) (hr : meth.sig.returnType = (some .int)) (hlk : meth.locks = false) : ∀ (x1 : Int32) (x2 : Int32) (z : St), f_X4_replace x1 x2 z = some RR → WWr wC 26 d a p l e { frames := 0, cells := 0, slots := 0, locals := 0 } s m args below meth c RR z 4 [(0, .ref (a 7)), (1, .int x1), (2, .int x2)] 0 [] := by
  intro x1 x2 z hf H locs ls hP hS hl
  obtain ⟨hx, hb, hml, hown, hE⟩ := id X
  unfold f_X4_replace at hf
  refine lv_aload_n hx hb dX4_replace_0 rfl (lv_at hl 0 rfl) ?_
  refine gf_4_18 hx hb hE hown hP dX4_replace_1 ?_
  refine lv_iload_n hx hb dX4_replace_4 rfl (lv_at hl 1 rfl) ?_
  obtain ⟨hi, hf⟩ := ck_some hf
  refine ld_C_8 hx hb hE hP hi dX4_replace_5 ?_
  refine lv_istore_n (lv' := [(3, .int (z.2 5 x1.toNatClampNeg)), (0, .ref (a 7)), (1, .int x1), (2, .int x2)]) hx hb dX4_replace_6 rfl hl (by decide) rfl (fun ls hl => ?_)
  refine lv_aload_n hx hb dX4_replace_7 rfl (lv_at hl 1 rfl) ?_
  refine gf_4_18 hx hb hE hown hP dX4_replace_8 ?_
  refine lv_iload_n hx hb dX4_replace_11 rfl (lv_at hl 2 rfl) ?_
  refine lv_iload_n hx hb dX4_replace_12 rfl (lv_at hl 3 rfl) ?_
  obtain ⟨hi, hf⟩ := ck_some hf
  refine st_C_8 hx hb hE hP hJ hS hi dX4_replace_13 (fun H locs hP hS => ?_)
  refine lv_iload_n hx hb dX4_replace_14 rfl (lv_at hl 0 rfl) ?_
  obtain rfl := Option.some.inj hf
  exact W.iret hx hb hr (fun t ht _ => ⟨rfl, by rw [ht]; exact hP, hS.F ht⟩) hS.2.2 dX4_replace_15 hlk
set_option maxHeartbeats 4000000 in
set_option maxRecDepth 100000 in
theorem c_X4_replace (l : Launch) (d : G3) (a : Nat → Nat) (z : St) (x1 : Int32) (x2 : Int32) {RR : Int32 × St} (hf : f_X4_replace x1 x2 z = some RR) : Met l yX4_replace [Cond.code yX4_replace cX4_replace 4 (some .int)] { frames := 0, cells := 0, slots := 0, locals := 0 } (wpre wC 26 d a z [.ref (a 7), .int x1, .int x2]) (QW wC 26 d a RR) 0 0 (AD 26 a) := by
  refine Met.ofW (cc := cX4_replace) (maxL := 4) (ret := (some .int)) (by decide) rfl ?_
  intro p e s m args below meth c s₁ B hml hv
  obtain ⟨rfl, hE, hP, hJ⟩ := hv
  have X : Cx p s m c cX4_replace RX4 4 d := ⟨B.exec, B.bytes, hml, findClass_of_methodNamed B.named, hE⟩
  have hl := lv_entry ([.ref (a 7), .int x1, .int x2]) (n := 4) (Nat.le_of_ble_eq_true rfl)
  rw [lg_entry_eq]
  generalize (lg_sl ([.ref (a 7), .int x1, .int x2]) ++ List.replicate (4 - (lg_sl ([.ref (a 7), .int x1, .int x2])).length) Slot.unset).toArray = ls at hl ⊢
  have hl : lv_has ls 4 [(0, .ref (a 7)), (1, .int x1), (2, .int x2)] := hl
  exact t_X4_replace X hJ B.returns B.notSynchronized x1 x2 z hf s.heap [] ls hP va_S.rf hl
def f_X5_isDay (z : St) (x0 : Int32) : Option (Int32) := (f_X5_within z x0 (0 : Int32) (13 : Int32)).bind (fun r_1 => bz r_1 (some r_1))
set_option maxHeartbeats 4000000 in
set_option maxRecDepth 100000 in
theorem t_X5_isDay {RR : Int32} (X : Cx p s m c cX5_isDay RX5 1 d) {z : St} (hP : va_P d.1 classes (wC d a z) s.heap) (hr : meth.sig.returnType = (some .boolean)) (hlk : meth.locks = false) : ∀ (x0 : Int32), f_X5_isDay z x0 = some RR → WRd p l e { frames := 1, cells := 0, slots := 0, locals := 22 } s m args below meth c RR 1 [(0, .int x0)] 0 [] := by
  intro x0 hf ls hl
  obtain ⟨hx, hb, hml, hown, hE⟩ := id X
  unfold f_X5_isDay at hf
  refine lv_iload_n hx hb dX5_isDay_0 rfl (lv_at hl 0 rfl) ?_
  refine lv_iconst (v := 0) hx hb dX5_isDay_1 (by decide) ?_
  refine lv_bipush (v := 13) hx hb dX5_isDay_2 (by decide) ?_
  obtain ⟨r_1, hc, hf⟩ := bnd hf
  refine rdS X (c_X5_within l d a z x0 (0 : Int32) (13 : Int32) hc) (k_X5_39 hE rfl rfl ⟨Nat.le_of_ble_eq_true rfl, Nat.le_of_ble_eq_true rfl⟩) hP rfl hl.1 rfl (Nat.le_of_ble_eq_true rfl) dX5_isDay_4 ?_
  obtain ⟨hn, hf⟩ := bz_some hf
  obtain rfl := Option.some.inj hf
  exact W.zret hx hb hr hn (fun t ht _ => ⟨rfl, ht⟩) (fun _ h => nomatch h) dX5_isDay_7 hlk
set_option maxHeartbeats 4000000 in
set_option maxRecDepth 100000 in
theorem c_X5_isDay (l : Launch) (d : G3) (a : Nat → Nat) (z : St) (x0 : Int32) {RR : Int32} (hf : f_X5_isDay z x0 = some RR) : Met l yX5_isDay [Cond.code yX5_isDay cX5_isDay 1 (some .boolean)] { frames := 1, cells := 0, slots := 0, locals := 22 } (rpre wC d a z [.int x0]) (QcRead RR) 0 0 (fun _ => False) := by
  refine Met.ofW (cc := cX5_isDay) (maxL := 1) (ret := (some .boolean)) (by decide) rfl ?_
  intro p e s m args below meth c s₁ B hml hv
  obtain ⟨rfl, hE, hP⟩ := hv
  have X : Cx p s m c cX5_isDay RX5 1 d := ⟨B.exec, B.bytes, hml, findClass_of_methodNamed B.named, hE⟩
  have hl := lv_entry ([.int x0]) (n := 1) (Nat.le_of_ble_eq_true rfl)
  rw [lg_entry_eq]
  generalize (lg_sl ([.int x0]) ++ List.replicate (1 - (lg_sl ([.int x0])).length) Slot.unset).toArray = ls at hl ⊢
  have hl : lv_has ls 1 [(0, .int x0)] := hl
  exact t_X5_isDay X hP B.returns B.notSynchronized x0 hf ls hl
def f_X5_startAnew (z : St) : Option (St) := (f_X0_forget (pS z 0 (0 : Int32))).bind (fun r_1 => some r_1)
set_option maxHeartbeats 4000000 in
set_option maxRecDepth 100000 in
theorem t_X5_startAnew {RR : St} (X : Cx p s m c cX5_startAnew RX5 1 d) (hJ : Inj 26 a) (hr : meth.sig.returnType = none) (hlk : meth.locks = false) : ∀ (z : St), f_X5_startAnew z = some RR → WWv wC 26 d a p l e { frames := 1, cells := 0, slots := 0, locals := 20 } s m args below meth c RR z 1 [(0, .ref (a 0))] 0 [] := by
  intro z hf H locs ls hP hS hl
  obtain ⟨hx, hb, hml, hown, hE⟩ := id X
  unfold f_X5_startAnew at hf
  refine lv_aload_n hx hb dX5_startAnew_0 rfl (lv_at hl 0 rfl) ?_
  refine lv_iconst (v := 0) hx hb dX5_startAnew_1 (by decide) ?_
  refine pf_5_85 hx hb hE hown hP hJ hS rfl rfl dX5_startAnew_2 (fun H locs hP hS => ?_)
  refine lv_aload_n hx hb dX5_startAnew_5 rfl (lv_at hl 0 rfl) ?_
  refine gf_5_35 hx hb hE hown hP dX5_startAnew_6 ?_
  obtain ⟨r_1, hc, hf⟩ := bnd hf
  refine wrVv X (c_X0_forget l d a (pS z 0 (0 : Int32)) hc) (k_X5_202 hE rfl rfl ⟨Nat.le_of_ble_eq_true rfl, Nat.le_of_ble_eq_true rfl⟩) hP hJ hS (va_recv (q := (RX0, TX0, 7)) hE.2 hP (ci := 0) (q0 := 11) rfl rfl) rfl hl.1 rfl (Nat.le_of_ble_eq_true rfl) dX5_startAnew_9 (fun H locs hP hS => ?_)
  obtain rfl := Option.some.inj hf
  exact W.vret hx hb hr (fun t ht _ => ⟨rfl, by rw [ht]; exact hP, hS.F ht⟩) hS.2.2 dX5_startAnew_12 hlk
set_option maxHeartbeats 4000000 in
set_option maxRecDepth 100000 in
theorem c_X5_startAnew (l : Launch) (d : G3) (a : Nat → Nat) (z : St) {RR : St} (hf : f_X5_startAnew z = some RR) : Met l yX5_startAnew [Cond.code yX5_startAnew cX5_startAnew 1 none] { frames := 1, cells := 0, slots := 0, locals := 20 } (wpre wC 26 d a z [.ref (a 0)]) (QV wC 26 d a RR) 0 0 (AD 26 a) := by
  refine Met.ofW (cc := cX5_startAnew) (maxL := 1) (ret := none) (by decide) rfl ?_
  intro p e s m args below meth c s₁ B hml hv
  obtain ⟨rfl, hE, hP, hJ⟩ := hv
  have X : Cx p s m c cX5_startAnew RX5 1 d := ⟨B.exec, B.bytes, hml, findClass_of_methodNamed B.named, hE⟩
  have hl := lv_entry ([.ref (a 0)]) (n := 1) (Nat.le_of_ble_eq_true rfl)
  rw [lg_entry_eq]
  generalize (lg_sl ([.ref (a 0)]) ++ List.replicate (1 - (lg_sl ([.ref (a 0)])).length) Slot.unset).toArray = ls at hl ⊢
  have hl : lv_has ls 1 [(0, .ref (a 0))] := hl
  exact t_X5_startAnew X hJ B.returns B.notSynchronized z hf s.heap [] ls hP va_S.rf hl
def f_X5_duty (x1 : Int32) (x2 : Int32) (x3 : Int32) (x4 : Int32) (x5 : Int32) (z : St) : Option (Int32 × St) := (f_X5_within z x2 (1 : Int32) (3 : Int32)).bind (fun r_1 => (if r_1 = (0 : Int32) then some ((-2 : Int32), z) else (f_X5_within z x3 (1 : Int32) (40 : Int32)).bind (fun r_2 => (if r_2 = (0 : Int32) then some ((-2 : Int32), z) else (f_X5_within z x5 (0 : Int32) (1 : Int32)).bind (fun r_3 => (if r_3 = (0 : Int32) then some ((-2 : Int32), z) else (f_X5_isDay z x1).bind (fun r_4 => (if r_4 = (0 : Int32) then some ((-1 : Int32), z) else (f_X5_isDay z ((x1 + x2) - (1 : Int32))).bind (fun r_5 => (if r_5 = (0 : Int32) then some ((-1 : Int32), z) else (f_X5_within z x4 (0 : Int32) (3 : Int32)).bind (fun r_6 => (if r_6 = (0 : Int32) then some ((-1 : Int32), z) else (if (z.1 3) < (9 : Int32) then (f_X5_startAnew z).bind (fun r_7 => (if x5 = (1 : Int32) then (f_X1_enter x1 x2 x3 x4 (1 : Int32) r_7).bind (fun r_9 => some (r_9.1, r_9.2)) else (f_X1_enter x1 x2 x3 x4 (0 : Int32) r_7).bind (fun r_8 => some (r_8.1, r_8.2)))) else some ((-4 : Int32), z))))))))))))))
set_option maxHeartbeats 4000000 in
set_option maxRecDepth 100000 in
theorem t_X5_duty {RR : Int32 × St} (X : Cx p s m c cX5_duty RX5 6 d) (hJ : Inj 26 a) (hr : meth.sig.returnType = (some .int)) (hlk : meth.locks = false) : ∀ (x1 : Int32) (x2 : Int32) (x3 : Int32) (x4 : Int32) (x5 : Int32) (z : St), f_X5_duty x1 x2 x3 x4 x5 z = some RR → WWr wC 26 d a p l e { frames := 2, cells := 0, slots := 0, locals := 42 } s m args below meth c RR z 6 [(0, .ref (a 0)), (1, .int x1), (2, .int x2), (3, .int x3), (4, .int x4), (5, .int x5)] 0 [] := by
  intro x1 x2 x3 x4 x5 z hf H locs ls hP hS hl
  obtain ⟨hx, hb, hml, hown, hE⟩ := id X
  unfold f_X5_duty at hf
  refine lv_iload_n hx hb dX5_duty_0 rfl (lv_at hl 2 rfl) ?_
  refine lv_iconst (v := 1) hx hb dX5_duty_1 (by decide) ?_
  refine lv_iconst (v := 3) hx hb dX5_duty_2 (by decide) ?_
  obtain ⟨r_1, hc, hf⟩ := bnd hf
  refine rdS X (c_X5_within l d a z x2 (1 : Int32) (3 : Int32) hc) (k_X5_39 hE rfl rfl ⟨Nat.le_of_ble_eq_true rfl, Nat.le_of_ble_eq_true rfl⟩) hP rfl hl.1 rfl (Nat.le_of_ble_eq_true rfl) dX5_duty_3 ?_
  refine lv_if_eq (tgt := 29) hx hb dX5_duty_6 (by decide) (fun q => ?_) (fun q => ?_)
  · have hf := (if_pos q).symm.trans hf
    refine lv_bipush (v := -2) hx hb dX5_duty_29 (by decide) ?_
    obtain rfl := Option.some.inj hf
    exact W.iret hx hb hr (fun t ht _ => ⟨rfl, by rw [ht]; exact hP, hS.F ht⟩) hS.2.2 dX5_duty_31 hlk
  · have hf := (if_neg q).symm.trans hf
    refine lv_iload_n hx hb dX5_duty_9 rfl (lv_at hl 3 rfl) ?_
    refine lv_iconst (v := 1) hx hb dX5_duty_10 (by decide) ?_
    refine lv_bipush (v := 40) hx hb dX5_duty_11 (by decide) ?_
    obtain ⟨r_2, hc, hf⟩ := bnd hf
    refine rdS X (c_X5_within l d a z x3 (1 : Int32) (40 : Int32) hc) (k_X5_39 hE rfl rfl ⟨Nat.le_of_ble_eq_true rfl, Nat.le_of_ble_eq_true rfl⟩) hP rfl hl.1 rfl (Nat.le_of_ble_eq_true rfl) dX5_duty_13 ?_
    refine lv_if_eq (tgt := 29) hx hb dX5_duty_16 (by decide) (fun q => ?_) (fun q => ?_)
    · have hf := (if_pos q).symm.trans hf
      refine lv_bipush (v := -2) hx hb dX5_duty_29 (by decide) ?_
      obtain rfl := Option.some.inj hf
      exact W.iret hx hb hr (fun t ht _ => ⟨rfl, by rw [ht]; exact hP, hS.F ht⟩) hS.2.2 dX5_duty_31 hlk
    · have hf := (if_neg q).symm.trans hf
      refine lv_iload hx hb dX5_duty_19 (lv_at hl 5 rfl) ?_
      refine lv_iconst (v := 0) hx hb dX5_duty_21 (by decide) ?_
      refine lv_iconst (v := 1) hx hb dX5_duty_22 (by decide) ?_
      obtain ⟨r_3, hc, hf⟩ := bnd hf
      refine rdS X (c_X5_within l d a z x5 (0 : Int32) (1 : Int32) hc) (k_X5_39 hE rfl rfl ⟨Nat.le_of_ble_eq_true rfl, Nat.le_of_ble_eq_true rfl⟩) hP rfl hl.1 rfl (Nat.le_of_ble_eq_true rfl) dX5_duty_23 ?_
      refine lv_if_ne (tgt := 32) hx hb dX5_duty_26 (by decide) (fun q => ?_) (fun q => ?_)
      · have hf := (if_neg q).symm.trans hf
        refine lv_iload_n hx hb dX5_duty_32 rfl (lv_at hl 1 rfl) ?_
        obtain ⟨r_4, hc, hf⟩ := bnd hf
        refine rdS X (c_X5_isDay l d a z x1 hc) (k_X5_43 hE rfl rfl ⟨Nat.le_of_ble_eq_true rfl, Nat.le_of_ble_eq_true rfl⟩) hP rfl hl.1 rfl (Nat.le_of_ble_eq_true rfl) dX5_duty_33 ?_
        refine lv_if_eq (tgt := 60) hx hb dX5_duty_36 (by decide) (fun q => ?_) (fun q => ?_)
        · have hf := (if_pos q).symm.trans hf
          refine lv_iconst (v := -1) hx hb dX5_duty_60 (by decide) ?_
          obtain rfl := Option.some.inj hf
          exact W.iret hx hb hr (fun t ht _ => ⟨rfl, by rw [ht]; exact hP, hS.F ht⟩) hS.2.2 dX5_duty_61 hlk
        · have hf := (if_neg q).symm.trans hf
          refine lv_iload_n hx hb dX5_duty_39 rfl (lv_at hl 1 rfl) ?_
          refine lv_iload_n hx hb dX5_duty_40 rfl (lv_at hl 2 rfl) ?_
          refine lv_iadd hx hb dX5_duty_41 ?_
          refine lv_iconst (v := 1) hx hb dX5_duty_42 (by decide) ?_
          refine lv_isub hx hb dX5_duty_43 ?_
          obtain ⟨r_5, hc, hf⟩ := bnd hf
          refine rdS X (c_X5_isDay l d a z ((x1 + x2) - (1 : Int32)) hc) (k_X5_43 hE rfl rfl ⟨Nat.le_of_ble_eq_true rfl, Nat.le_of_ble_eq_true rfl⟩) hP rfl hl.1 rfl (Nat.le_of_ble_eq_true rfl) dX5_duty_44 ?_
          refine lv_if_eq (tgt := 60) hx hb dX5_duty_47 (by decide) (fun q => ?_) (fun q => ?_)
          · have hf := (if_pos q).symm.trans hf
            refine lv_iconst (v := -1) hx hb dX5_duty_60 (by decide) ?_
            obtain rfl := Option.some.inj hf
            exact W.iret hx hb hr (fun t ht _ => ⟨rfl, by rw [ht]; exact hP, hS.F ht⟩) hS.2.2 dX5_duty_61 hlk
          · have hf := (if_neg q).symm.trans hf
            refine lv_iload hx hb dX5_duty_50 (lv_at hl 4 rfl) ?_
            refine lv_iconst (v := 0) hx hb dX5_duty_52 (by decide) ?_
            refine lv_iconst (v := 3) hx hb dX5_duty_53 (by decide) ?_
            obtain ⟨r_6, hc, hf⟩ := bnd hf
            refine rdS X (c_X5_within l d a z x4 (0 : Int32) (3 : Int32) hc) (k_X5_39 hE rfl rfl ⟨Nat.le_of_ble_eq_true rfl, Nat.le_of_ble_eq_true rfl⟩) hP rfl hl.1 rfl (Nat.le_of_ble_eq_true rfl) dX5_duty_54 ?_
            refine lv_if_ne (tgt := 62) hx hb dX5_duty_57 (by decide) (fun q => ?_) (fun q => ?_)
            · have hf := (if_neg q).symm.trans hf
              refine lv_aload_n hx hb dX5_duty_62 rfl (lv_at hl 0 rfl) ?_
              refine gf_5_12 hx hb hE hown hP dX5_duty_63 ?_
              refine gf_5_47 hx hb hE hown hP dX5_duty_66 ?_
              refine lv_bipush (v := 9) hx hb dX5_duty_69 (by decide) ?_
              refine lv_icmp_lt (tgt := 77) hx hb dX5_duty_71 (by decide) (fun q => ?_) (fun q => ?_)
              · have hf := (if_pos q).symm.trans hf
                refine lv_aload_n hx hb dX5_duty_77 rfl (lv_at hl 0 rfl) ?_
                obtain ⟨r_7, hc, hf⟩ := bnd hf
                refine wrVv X (c_X5_startAnew l d a z hc) (k_X5_51 hE rfl rfl ⟨Nat.le_of_ble_eq_true rfl, Nat.le_of_ble_eq_true rfl⟩) hP hJ hS (va_recv (q := (RX5, TX5, 6)) hE.2 hP (ci := 5) (q0 := 0) rfl rfl) rfl hl.1 rfl (Nat.le_of_ble_eq_true rfl) dX5_duty_78 (fun H locs hP hS => ?_)
                refine lv_aload_n hx hb dX5_duty_81 rfl (lv_at hl 0 rfl) ?_
                refine gf_5_12 hx hb hE hown hP dX5_duty_82 ?_
                refine lv_iload_n hx hb dX5_duty_85 rfl (lv_at hl 1 rfl) ?_
                refine lv_iload_n hx hb dX5_duty_86 rfl (lv_at hl 2 rfl) ?_
                refine lv_iload_n hx hb dX5_duty_87 rfl (lv_at hl 3 rfl) ?_
                refine lv_iload hx hb dX5_duty_88 (lv_at hl 4 rfl) ?_
                refine lv_iload hx hb dX5_duty_90 (lv_at hl 5 rfl) ?_
                refine lv_iconst (v := 1) hx hb dX5_duty_92 (by decide) ?_
                refine lv_icmp_ne (tgt := 100) hx hb dX5_duty_93 (by decide) (fun q => ?_) (fun q => ?_)
                · have hf := (if_neg q).symm.trans hf
                  refine lv_iconst (v := 0) hx hb dX5_duty_100 (by decide) ?_
                  obtain ⟨r_8, hc, hf⟩ := bnd hf
                  refine wrV X (c_X1_enter l d a r_7 x1 x2 x3 x4 (0 : Int32) hc) (k_X5_54 hE rfl rfl ⟨Nat.le_of_ble_eq_true rfl, Nat.le_of_ble_eq_true rfl⟩) hP hJ hS (va_recv (q := (RX1, TX1, 7)) hE.2 hP (ci := 1) (q0 := 1) rfl rfl) rfl hl.1 rfl (Nat.le_of_ble_eq_true rfl) dX5_duty_101 (fun H locs hP hS => ?_)
                  obtain rfl := Option.some.inj hf
                  exact W.iret hx hb hr (fun t ht _ => ⟨rfl, by rw [ht]; exact hP, hS.F ht⟩) hS.2.2 dX5_duty_104 hlk
                · have hf := (if_pos q).symm.trans hf
                  refine lv_iconst (v := 1) hx hb dX5_duty_96 (by decide) ?_
                  refine lv_goto (tgt := 101) hx hb dX5_duty_97 (by decide) ?_
                  obtain ⟨r_9, hc, hf⟩ := bnd hf
                  refine wrV X (c_X1_enter l d a r_7 x1 x2 x3 x4 (1 : Int32) hc) (k_X5_54 hE rfl rfl ⟨Nat.le_of_ble_eq_true rfl, Nat.le_of_ble_eq_true rfl⟩) hP hJ hS (va_recv (q := (RX1, TX1, 7)) hE.2 hP (ci := 1) (q0 := 1) rfl rfl) rfl hl.1 rfl (Nat.le_of_ble_eq_true rfl) dX5_duty_101 (fun H locs hP hS => ?_)
                  obtain rfl := Option.some.inj hf
                  exact W.iret hx hb hr (fun t ht _ => ⟨rfl, by rw [ht]; exact hP, hS.F ht⟩) hS.2.2 dX5_duty_104 hlk
              · have hf := (if_neg q).symm.trans hf
                refine lv_bipush (v := -4) hx hb dX5_duty_74 (by decide) ?_
                obtain rfl := Option.some.inj hf
                exact W.iret hx hb hr (fun t ht _ => ⟨rfl, by rw [ht]; exact hP, hS.F ht⟩) hS.2.2 dX5_duty_76 hlk
            · have hf := (if_pos q).symm.trans hf
              refine lv_iconst (v := -1) hx hb dX5_duty_60 (by decide) ?_
              obtain rfl := Option.some.inj hf
              exact W.iret hx hb hr (fun t ht _ => ⟨rfl, by rw [ht]; exact hP, hS.F ht⟩) hS.2.2 dX5_duty_61 hlk
      · have hf := (if_pos q).symm.trans hf
        refine lv_bipush (v := -2) hx hb dX5_duty_29 (by decide) ?_
        obtain rfl := Option.some.inj hf
        exact W.iret hx hb hr (fun t ht _ => ⟨rfl, by rw [ht]; exact hP, hS.F ht⟩) hS.2.2 dX5_duty_31 hlk
set_option maxHeartbeats 4000000 in
set_option maxRecDepth 100000 in
theorem c_X5_duty (l : Launch) (d : G3) (a : Nat → Nat) (z : St) (x1 : Int32) (x2 : Int32) (x3 : Int32) (x4 : Int32) (x5 : Int32) {RR : Int32 × St} (hf : f_X5_duty x1 x2 x3 x4 x5 z = some RR) : Met l yX5_duty [Cond.code yX5_duty cX5_duty 6 (some .int)] { frames := 2, cells := 0, slots := 0, locals := 42 } (wpre wC 26 d a z [.ref (a 0), .int x1, .int x2, .int x3, .int x4, .int x5]) (QW wC 26 d a RR) 0 0 (AD 26 a) := by
  refine Met.ofW (cc := cX5_duty) (maxL := 6) (ret := (some .int)) (by decide) rfl ?_
  intro p e s m args below meth c s₁ B hml hv
  obtain ⟨rfl, hE, hP, hJ⟩ := hv
  have X : Cx p s m c cX5_duty RX5 6 d := ⟨B.exec, B.bytes, hml, findClass_of_methodNamed B.named, hE⟩
  have hl := lv_entry ([.ref (a 0), .int x1, .int x2, .int x3, .int x4, .int x5]) (n := 6) (Nat.le_of_ble_eq_true rfl)
  rw [lg_entry_eq]
  generalize (lg_sl ([.ref (a 0), .int x1, .int x2, .int x3, .int x4, .int x5]) ++ List.replicate (6 - (lg_sl ([.ref (a 0), .int x1, .int x2, .int x3, .int x4, .int x5])).length) Slot.unset).toArray = ls at hl ⊢
  have hl : lv_has ls 6 [(0, .ref (a 0)), (1, .int x1), (2, .int x2), (3, .int x3), (4, .int x4), (5, .int x5)] := hl
  exact t_X5_duty X hJ B.returns B.notSynchronized x1 x2 x3 x4 x5 z hf s.heap [] ls hP va_S.rf hl
def f_X5_person (x1 : Int32) (x2 : Int32) (z : St) : Option (Int32 × St) := (f_X5_within z x1 (0 : Int32) (15 : Int32)).bind (fun r_1 => (if r_1 = (0 : Int32) then some ((-2 : Int32), z) else (f_X5_within z x2 (0 : Int32) (200 : Int32)).bind (fun r_2 => (if r_2 = (0 : Int32) then some ((-2 : Int32), z) else (if (z.1 4) < (4 : Int32) then (f_X5_startAnew z).bind (fun r_3 => (f_X2_enter x1 x2 r_3).bind (fun r_4 => some (r_4.1, r_4.2))) else some ((-4 : Int32), z))))))
set_option maxHeartbeats 4000000 in
set_option maxRecDepth 100000 in
theorem t_X5_person {RR : Int32 × St} (X : Cx p s m c cX5_person RX5 3 d) (hJ : Inj 26 a) (hr : meth.sig.returnType = (some .int)) (hlk : meth.locks = false) : ∀ (x1 : Int32) (x2 : Int32) (z : St), f_X5_person x1 x2 z = some RR → WWr wC 26 d a p l e { frames := 2, cells := 0, slots := 0, locals := 40 } s m args below meth c RR z 3 [(0, .ref (a 0)), (1, .int x1), (2, .int x2)] 0 [] := by
  intro x1 x2 z hf H locs ls hP hS hl
  obtain ⟨hx, hb, hml, hown, hE⟩ := id X
  unfold f_X5_person at hf
  refine lv_iload_n hx hb dX5_person_0 rfl (lv_at hl 1 rfl) ?_
  refine lv_iconst (v := 0) hx hb dX5_person_1 (by decide) ?_
  refine lv_bipush (v := 15) hx hb dX5_person_2 (by decide) ?_
  obtain ⟨r_1, hc, hf⟩ := bnd hf
  refine rdS X (c_X5_within l d a z x1 (0 : Int32) (15 : Int32) hc) (k_X5_39 hE rfl rfl ⟨Nat.le_of_ble_eq_true rfl, Nat.le_of_ble_eq_true rfl⟩) hP rfl hl.1 rfl (Nat.le_of_ble_eq_true rfl) dX5_person_4 ?_
  refine lv_if_eq (tgt := 21) hx hb dX5_person_7 (by decide) (fun q => ?_) (fun q => ?_)
  · have hf := (if_pos q).symm.trans hf
    refine lv_bipush (v := -2) hx hb dX5_person_21 (by decide) ?_
    obtain rfl := Option.some.inj hf
    exact W.iret hx hb hr (fun t ht _ => ⟨rfl, by rw [ht]; exact hP, hS.F ht⟩) hS.2.2 dX5_person_23 hlk
  · have hf := (if_neg q).symm.trans hf
    refine lv_iload_n hx hb dX5_person_10 rfl (lv_at hl 2 rfl) ?_
    refine lv_iconst (v := 0) hx hb dX5_person_11 (by decide) ?_
    refine lv_sipush (v := 200) hx hb dX5_person_12 (by decide) ?_
    obtain ⟨r_2, hc, hf⟩ := bnd hf
    refine rdS X (c_X5_within l d a z x2 (0 : Int32) (200 : Int32) hc) (k_X5_39 hE rfl rfl ⟨Nat.le_of_ble_eq_true rfl, Nat.le_of_ble_eq_true rfl⟩) hP rfl hl.1 rfl (Nat.le_of_ble_eq_true rfl) dX5_person_15 ?_
    refine lv_if_ne (tgt := 24) hx hb dX5_person_18 (by decide) (fun q => ?_) (fun q => ?_)
    · have hf := (if_neg q).symm.trans hf
      refine lv_aload_n hx hb dX5_person_24 rfl (lv_at hl 0 rfl) ?_
      refine gf_5_26 hx hb hE hown hP dX5_person_25 ?_
      refine gf_5_58 hx hb hE hown hP dX5_person_28 ?_
      refine lv_iconst (v := 4) hx hb dX5_person_31 (by decide) ?_
      refine lv_icmp_lt (tgt := 38) hx hb dX5_person_32 (by decide) (fun q => ?_) (fun q => ?_)
      · have hf := (if_pos q).symm.trans hf
        refine lv_aload_n hx hb dX5_person_38 rfl (lv_at hl 0 rfl) ?_
        obtain ⟨r_3, hc, hf⟩ := bnd hf
        refine wrVv X (c_X5_startAnew l d a z hc) (k_X5_51 hE rfl rfl ⟨Nat.le_of_ble_eq_true rfl, Nat.le_of_ble_eq_true rfl⟩) hP hJ hS (va_recv (q := (RX5, TX5, 6)) hE.2 hP (ci := 5) (q0 := 0) rfl rfl) rfl hl.1 rfl (Nat.le_of_ble_eq_true rfl) dX5_person_39 (fun H locs hP hS => ?_)
        refine lv_aload_n hx hb dX5_person_42 rfl (lv_at hl 0 rfl) ?_
        refine gf_5_26 hx hb hE hown hP dX5_person_43 ?_
        refine lv_iload_n hx hb dX5_person_46 rfl (lv_at hl 1 rfl) ?_
        refine lv_iload_n hx hb dX5_person_47 rfl (lv_at hl 2 rfl) ?_
        obtain ⟨r_4, hc, hf⟩ := bnd hf
        refine wrV X (c_X2_enter l d a r_3 x1 x2 hc) (k_X5_59 hE rfl rfl ⟨Nat.le_of_ble_eq_true rfl, Nat.le_of_ble_eq_true rfl⟩) hP hJ hS (va_recv (q := (RX2, TX2, 2)) hE.2 hP (ci := 2) (q0 := 9) rfl rfl) rfl hl.1 rfl (Nat.le_of_ble_eq_true rfl) dX5_person_48 (fun H locs hP hS => ?_)
        obtain rfl := Option.some.inj hf
        exact W.iret hx hb hr (fun t ht _ => ⟨rfl, by rw [ht]; exact hP, hS.F ht⟩) hS.2.2 dX5_person_51 hlk
      · have hf := (if_neg q).symm.trans hf
        refine lv_bipush (v := -4) hx hb dX5_person_35 (by decide) ?_
        obtain rfl := Option.some.inj hf
        exact W.iret hx hb hr (fun t ht _ => ⟨rfl, by rw [ht]; exact hP, hS.F ht⟩) hS.2.2 dX5_person_37 hlk
    · have hf := (if_pos q).symm.trans hf
      refine lv_bipush (v := -2) hx hb dX5_person_21 (by decide) ?_
      obtain rfl := Option.some.inj hf
      exact W.iret hx hb hr (fun t ht _ => ⟨rfl, by rw [ht]; exact hP, hS.F ht⟩) hS.2.2 dX5_person_23 hlk
set_option maxHeartbeats 4000000 in
set_option maxRecDepth 100000 in
theorem c_X5_person (l : Launch) (d : G3) (a : Nat → Nat) (z : St) (x1 : Int32) (x2 : Int32) {RR : Int32 × St} (hf : f_X5_person x1 x2 z = some RR) : Met l yX5_person [Cond.code yX5_person cX5_person 3 (some .int)] { frames := 2, cells := 0, slots := 0, locals := 40 } (wpre wC 26 d a z [.ref (a 0), .int x1, .int x2]) (QW wC 26 d a RR) 0 0 (AD 26 a) := by
  refine Met.ofW (cc := cX5_person) (maxL := 3) (ret := (some .int)) (by decide) rfl ?_
  intro p e s m args below meth c s₁ B hml hv
  obtain ⟨rfl, hE, hP, hJ⟩ := hv
  have X : Cx p s m c cX5_person RX5 3 d := ⟨B.exec, B.bytes, hml, findClass_of_methodNamed B.named, hE⟩
  have hl := lv_entry ([.ref (a 0), .int x1, .int x2]) (n := 3) (Nat.le_of_ble_eq_true rfl)
  rw [lg_entry_eq]
  generalize (lg_sl ([.ref (a 0), .int x1, .int x2]) ++ List.replicate (3 - (lg_sl ([.ref (a 0), .int x1, .int x2])).length) Slot.unset).toArray = ls at hl ⊢
  have hl : lv_has ls 3 [(0, .ref (a 0)), (1, .int x1), (2, .int x2)] := hl
  exact t_X5_person X hJ B.returns B.notSynchronized x1 x2 z hf s.heap [] ls hP va_S.rf hl
end GEN
