section GEN
variable {p : Program} {l : Launch} {e : Env} {s : State} {m : MethodId} {args : Array Value} {below : List Frame} {meth : Method} {c : Code} {d : G3} {a : Nat → Nat}
def f_X2_enter (x1 : Int32) (x2 : Int32) (z : St) : Option (Int32 × St) := ck 4 (z.1 4) (ck 4 (z.1 4) (some ((z.1 4), (pS (pS (pS z (11 + 6 * (z.1 4).toNatClampNeg) x1) (12 + 6 * (z.1 4).toNatClampNeg) x2) 4 (((pS (pS z (11 + 6 * (z.1 4).toNatClampNeg) x1) (12 + 6 * (z.1 4).toNatClampNeg) x2).1 4) + (1 : Int32))))))
set_option maxHeartbeats 4000000 in
set_option maxRecDepth 100000 in
theorem t_X2_enter {RR : Int32 × St} (X : Cx p s m c cX2_enter RX2 4 d) (hJ : Inj 26 a) (hr : meth.sig.returnType = (some .int)) (hlk : meth.locks = false) : ∀ (x1 : Int32) (x2 : Int32) (z : St), f_X2_enter x1 x2 z = some RR → WWr wC 26 d a p l e { frames := 0, cells := 0, slots := 0, locals := 0 } s m args below meth c RR z 4 [(0, .ref (a 9)), (1, .int x1), (2, .int x2)] 0 [] := by
  intro x1 x2 z hf H locs ls hP hS hl
  obtain ⟨hx, hb, hml, hown, hE⟩ := id X
  unfold f_X2_enter at hf
  refine lv_aload_n hx hb dX2_enter_0 rfl (lv_at hl 0 rfl) ?_
  refine gf_2_18 hx hb hE hown hP dX2_enter_1 ?_
  refine lv_istore_n (lv' := [(3, .int (z.1 4)), (0, .ref (a 9)), (1, .int x1), (2, .int x2)]) hx hb dX2_enter_4 rfl hl (by decide) rfl (fun ls hl => ?_)
  refine lv_aload_n hx hb dX2_enter_5 rfl (lv_at hl 1 rfl) ?_
  refine gf_2_11 hx hb hE hown hP dX2_enter_6 ?_
  refine lv_iload_n hx hb dX2_enter_9 rfl (lv_at hl 0 rfl) ?_
  obtain ⟨hi_1, hf⟩ := ck_some hf
  refine al_rank hx hb hE hP hi_1 dX2_enter_10 ?_
  refine lv_iload_n hx hb dX2_enter_11 rfl (lv_at hl 2 rfl) ?_
  refine pf_2_22 hx hb hE hown hP hJ hS (vp_lt hi_1) dX2_enter_12 (fun H locs hP hS => ?_)
  refine lv_aload_n hx hb dX2_enter_15 rfl (lv_at hl 1 rfl) ?_
  refine gf_2_11 hx hb hE hown hP dX2_enter_16 ?_
  refine lv_iload_n hx hb dX2_enter_19 rfl (lv_at hl 0 rfl) ?_
  obtain ⟨hi_2, hf⟩ := ck_some hf
  refine al_rank hx hb hE hP hi_2 dX2_enter_20 ?_
  refine lv_iload_n hx hb dX2_enter_21 rfl (lv_at hl 3 rfl) ?_
  refine pf_2_25 hx hb hE hown hP hJ hS (vp_lt hi_2) dX2_enter_22 (fun H locs hP hS => ?_)
  refine lv_aload_n hx hb dX2_enter_25 rfl (lv_at hl 1 rfl) ?_
  refine lv_dup hx hb dX2_enter_26 rfl ?_
  refine gf_2_18 hx hb hE hown hP dX2_enter_27 ?_
  refine lv_iconst (v := 1) hx hb dX2_enter_30 (by decide) ?_
  refine lv_iadd hx hb dX2_enter_31 ?_
  refine pf_2_18 hx hb hE hown hP hJ hS dX2_enter_32 (fun H locs hP hS => ?_)
  refine lv_iload_n hx hb dX2_enter_35 rfl (lv_at hl 0 rfl) ?_
  obtain rfl := Option.some.inj hf
  exact W.iret hx hb hr (fun t ht _ => ⟨rfl, by rw [ht]; exact hP, hS.F ht⟩) hS.2.2 dX2_enter_36 hlk
set_option maxHeartbeats 4000000 in
set_option maxRecDepth 100000 in
theorem c_X2_enter (l : Launch) (d : G3) (a : Nat → Nat) (z : St) (x1 : Int32) (x2 : Int32) {RR : Int32 × St} (hf : f_X2_enter x1 x2 z = some RR) : Met l yX2_enter [Cond.code yX2_enter cX2_enter 4 (some .int)] { frames := 0, cells := 0, slots := 0, locals := 0 } (wpre wC 26 d a z [.ref (a 9), .int x1, .int x2]) (QW wC 26 d a RR) 0 0 (AD 26 a) := by
  refine Met.ofW (cc := cX2_enter) (maxL := 4) (ret := (some .int)) (by decide) rfl ?_
  intro p e s m args below meth c s₁ B hml hv
  obtain ⟨rfl, hE, hP, hJ⟩ := hv
  have X : Cx p s m c cX2_enter RX2 4 d := ⟨B.exec, B.bytes, hml, findClass_of_methodNamed B.named, hE⟩
  have hl := lv_entry ([.ref (a 9), .int x1, .int x2]) (n := 4) (Nat.le_of_ble_eq_true rfl)
  rw [lg_entry_eq]
  generalize (lg_sl ([.ref (a 9), .int x1, .int x2]) ++ List.replicate (4 - (lg_sl ([.ref (a 9), .int x1, .int x2])).length) Slot.unset).toArray = ls at hl ⊢
  have hl : lv_has ls 4 [(0, .ref (a 9)), (1, .int x1), (2, .int x2)] := hl
  exact t_X2_enter X hJ B.returns B.notSynchronized x1 x2 z hf s.heap [] ls hP va_S.rf hl
def f_X2_has (z : St) (x1 : Int32) : Option (Int32) := (f_X5_within z x1 (0 : Int32) ((z.1 4) - (1 : Int32))).bind (fun r_1 => bz r_1 (some r_1))
set_option maxHeartbeats 4000000 in
set_option maxRecDepth 100000 in
theorem t_X2_has {RR : Int32} (X : Cx p s m c cX2_has RX2 2 d) {z : St} (hP : va_P d.1 classes (wC d a z) s.heap) (hr : meth.sig.returnType = (some .boolean)) (hlk : meth.locks = false) : ∀ (x1 : Int32), f_X2_has z x1 = some RR → WRd p l e { frames := 1, cells := 0, slots := 0, locals := 22 } s m args below meth c RR 2 [(0, .ref (a 9)), (1, .int x1)] 0 [] := by
  intro x1 hf ls hl
  obtain ⟨hx, hb, hml, hown, hE⟩ := id X
  unfold f_X2_has at hf
  refine lv_iload_n hx hb dX2_has_0 rfl (lv_at hl 1 rfl) ?_
  refine lv_iconst (v := 0) hx hb dX2_has_1 (by decide) ?_
  refine lv_aload_n hx hb dX2_has_2 rfl (lv_at hl 0 rfl) ?_
  refine gf_2_18 hx hb hE hown hP dX2_has_3 ?_
  refine lv_iconst (v := 1) hx hb dX2_has_6 (by decide) ?_
  refine lv_isub hx hb dX2_has_7 ?_
  obtain ⟨r_1, hc, hf⟩ := bnd hf
  refine rdSN X (c_X5_within l d a z x1 (0 : Int32) ((z.1 4) - (1 : Int32)) hc) (k_X2_28 hE rfl rfl ⟨Nat.le_of_ble_eq_true rfl, Nat.le_of_ble_eq_true rfl⟩) hP rfl hl.1 rfl (Nat.le_of_ble_eq_true rfl) dX2_has_8 ?_
  obtain ⟨hn, hf⟩ := bz_some hf
  obtain rfl := Option.some.inj hf
  exact W.zret hx hb hr hn (fun t ht _ => ⟨rfl, ht⟩) (fun _ h => nomatch h) dX2_has_11 hlk
set_option maxHeartbeats 4000000 in
set_option maxRecDepth 100000 in
theorem c_X2_has (l : Launch) (d : G3) (a : Nat → Nat) (z : St) (x1 : Int32) {RR : Int32} (hf : f_X2_has z x1 = some RR) : Met l yX2_has [Cond.code yX2_has cX2_has 2 (some .boolean)] { frames := 1, cells := 0, slots := 0, locals := 22 } (rpre wC d a z [.ref (a 9), .int x1]) (QcRead RR) 0 0 (fun _ => False) := by
  refine Met.ofW (cc := cX2_has) (maxL := 2) (ret := (some .boolean)) (by decide) rfl ?_
  intro p e s m args below meth c s₁ B hml hv
  obtain ⟨rfl, hE, hP⟩ := hv
  have X : Cx p s m c cX2_has RX2 2 d := ⟨B.exec, B.bytes, hml, findClass_of_methodNamed B.named, hE⟩
  have hl := lv_entry ([.ref (a 9), .int x1]) (n := 2) (Nat.le_of_ble_eq_true rfl)
  rw [lg_entry_eq]
  generalize (lg_sl ([.ref (a 9), .int x1]) ++ List.replicate (2 - (lg_sl ([.ref (a 9), .int x1])).length) Slot.unset).toArray = ls at hl ⊢
  have hl : lv_has ls 2 [(0, .ref (a 9)), (1, .int x1)] := hl
  exact t_X2_has X hP B.returns B.notSynchronized x1 hf ls hl
def f_X2_allHeld_4 (z : St) (k4 : Int32 → Int32 → Option (Int32)) (x1 : Int32) (x2 : Int32) : Option (Int32) := (if (z.1 4) ≤ x2 then some x1 else ck 4 x2 (k4 (x1 ||| (z.1 (14 + 6 * x2.toNatClampNeg))) (x2 + (1 : Int32))))
def l_X2_allHeld_4 (z : St) : Int32 → Int32 → Option (Int32) := iter (fun _ _ => none) (f_X2_allHeld_4 z) FU
set_option maxHeartbeats 4000000 in
set_option maxRecDepth 100000 in
theorem t_X2_allHeld_4 {RR : Int32} (X : Cx p s m c cX2_allHeld RX2 3 d) {z : St} (hP : va_P d.1 classes (wC d a z) s.heap) (hr : meth.sig.returnType = (some .int)) (hlk : meth.locks = false) {k4 : Int32 → Int32 → Option (Int32)} (hk4 : ∀ (x1 : Int32) (x2 : Int32), k4 x1 x2 = some RR → WRd p l e { frames := 0, cells := 0, slots := 0, locals := 0 } s m args below meth c RR 3 [(0, .ref (a 9)), (1, .int x1), (2, .int x2)] 4 []) : ∀ (x1 : Int32) (x2 : Int32), f_X2_allHeld_4 z k4 x1 x2 = some RR → WRd p l e { frames := 0, cells := 0, slots := 0, locals := 0 } s m args below meth c RR 3 [(0, .ref (a 9)), (1, .int x1), (2, .int x2)] 4 [] := by
  intro x1 x2 hf ls hl
  obtain ⟨hx, hb, hml, hown, hE⟩ := id X
  unfold f_X2_allHeld_4 at hf
  refine lv_iload_n hx hb dX2_allHeld_4 rfl (lv_at hl 2 rfl) ?_
  refine lv_aload_n hx hb dX2_allHeld_5 rfl (lv_at hl 0 rfl) ?_
  refine gf_2_18 hx hb hE hown hP dX2_allHeld_6 ?_
  refine lv_icmp_ge (tgt := 30) hx hb dX2_allHeld_9 (by decide) (fun q => ?_) (fun q => ?_)
  · have hf := (if_pos q).symm.trans hf
    refine lv_iload_n hx hb dX2_allHeld_30 rfl (lv_at hl 1 rfl) ?_
    obtain rfl := Option.some.inj hf
    exact W.iret hx hb hr (fun t ht _ => ⟨rfl, ht⟩) (fun _ h => nomatch h) dX2_allHeld_31 hlk
  · have hf := (if_neg q).symm.trans hf
    refine lv_iload_n hx hb dX2_allHeld_12 rfl (lv_at hl 1 rfl) ?_
    refine lv_aload_n hx hb dX2_allHeld_13 rfl (lv_at hl 0 rfl) ?_
    refine gf_2_11 hx hb hE hown hP dX2_allHeld_14 ?_
    refine lv_iload_n hx hb dX2_allHeld_17 rfl (lv_at hl 2 rfl) ?_
    obtain ⟨hi_1, hf⟩ := ck_some hf
    refine al_rank hx hb hE hP hi_1 dX2_allHeld_18 ?_
    refine gf_2_32 hx hb hE hown hP (vp_lt hi_1) dX2_allHeld_19 ?_
    refine lv_ior hx hb dX2_allHeld_22 ?_
    refine lv_istore_n (lv' := [(1, .int (x1 ||| (z.1 (14 + 6 * x2.toNatClampNeg)))), (0, .ref (a 9)), (2, .int x2)]) hx hb dX2_allHeld_23 rfl hl (by decide) rfl (fun ls hl => ?_)
    refine lv_iinc (v := (x2 + (1 : Int32))) (lv' := [(2, .int (x2 + (1 : Int32))), (1, .int (x1 ||| (z.1 (14 + 6 * x2.toNatClampNeg)))), (0, .ref (a 9))]) hx hb dX2_allHeld_24 hl (k := 2) rfl rfl (by decide) rfl (fun ls hl => ?_)
    refine lv_goto (tgt := 4) hx hb dX2_allHeld_27 (by decide) ?_
    exact hk4 (x1 ||| (z.1 (14 + 6 * x2.toNatClampNeg))) (x2 + (1 : Int32)) hf ls (lv_sub hl [2, 1, 0] rfl)
theorem u_X2_allHeld_4 {RR : Int32} (X : Cx p s m c cX2_allHeld RX2 3 d) {z : St} (hP : va_P d.1 classes (wC d a z) s.heap) (hr : meth.sig.returnType = (some .int)) (hlk : meth.locks = false) : ∀ (x1 : Int32) (x2 : Int32), l_X2_allHeld_4 z x1 x2 = some RR → WRd p l e { frames := 0, cells := 0, slots := 0, locals := 0 } s m args below meth c RR 3 [(0, .ref (a 9)), (1, .int x1), (2, .int x2)] 4 [] := by
  unfold l_X2_allHeld_4
  generalize FU = n
  induction n with
  | zero => intro x1 x2 hf; exact absurd (show (none : Option (Int32)) = some RR from hf) (by simp)
  | succ n ih => exact t_X2_allHeld_4 X hP hr hlk ih
def f_X2_allHeld (z : St) : Option (Int32) := l_X2_allHeld_4 z (0 : Int32) (0 : Int32)
set_option maxHeartbeats 4000000 in
set_option maxRecDepth 100000 in
theorem t_X2_allHeld {RR : Int32} (X : Cx p s m c cX2_allHeld RX2 3 d) {z : St} (hP : va_P d.1 classes (wC d a z) s.heap) (hr : meth.sig.returnType = (some .int)) (hlk : meth.locks = false) : f_X2_allHeld z = some RR → WRd p l e { frames := 0, cells := 0, slots := 0, locals := 0 } s m args below meth c RR 3 [(0, .ref (a 9))] 0 [] := by
  intro hf ls hl
  obtain ⟨hx, hb, hml, hown, hE⟩ := id X
  unfold f_X2_allHeld at hf
  refine lv_iconst (v := 0) hx hb dX2_allHeld_0 (by decide) ?_
  refine lv_istore_n (lv' := [(1, .int (0 : Int32)), (0, .ref (a 9))]) hx hb dX2_allHeld_1 rfl hl (by decide) rfl (fun ls hl => ?_)
  refine lv_iconst (v := 0) hx hb dX2_allHeld_2 (by decide) ?_
  refine lv_istore_n (lv' := [(2, .int (0 : Int32)), (1, .int (0 : Int32)), (0, .ref (a 9))]) hx hb dX2_allHeld_3 rfl hl (by decide) rfl (fun ls hl => ?_)
  exact u_X2_allHeld_4 X hP hr hlk (0 : Int32) (0 : Int32) hf ls (lv_sub hl [2, 1, 0] rfl)
set_option maxHeartbeats 4000000 in
set_option maxRecDepth 100000 in
theorem c_X2_allHeld (l : Launch) (d : G3) (a : Nat → Nat) (z : St) {RR : Int32} (hf : f_X2_allHeld z = some RR) : Met l yX2_allHeld [Cond.code yX2_allHeld cX2_allHeld 3 (some .int)] { frames := 0, cells := 0, slots := 0, locals := 0 } (rpre wC d a z [.ref (a 9)]) (QcRead RR) 0 0 (fun _ => False) := by
  refine Met.ofW (cc := cX2_allHeld) (maxL := 3) (ret := (some .int)) (by decide) rfl ?_
  intro p e s m args below meth c s₁ B hml hv
  obtain ⟨rfl, hE, hP⟩ := hv
  have X : Cx p s m c cX2_allHeld RX2 3 d := ⟨B.exec, B.bytes, hml, findClass_of_methodNamed B.named, hE⟩
  have hl := lv_entry ([.ref (a 9)]) (n := 3) (Nat.le_of_ble_eq_true rfl)
  rw [lg_entry_eq]
  generalize (lg_sl ([.ref (a 9)]) ++ List.replicate (3 - (lg_sl ([.ref (a 9)])).length) Slot.unset).toArray = ls at hl ⊢
  have hl : lv_has ls 3 [(0, .ref (a 9))] := hl
  exact t_X2_allHeld X hP B.returns B.notSynchronized hf ls hl
def f_X2_allWishes_4 (z : St) (k4 : Int32 → Int32 → Option (Int32)) (x1 : Int32) (x2 : Int32) : Option (Int32) := (if (z.1 4) ≤ x2 then some x1 else ck 4 x2 (k4 (x1 + (z.1 (10 + 6 * x2.toNatClampNeg))) (x2 + (1 : Int32))))
def l_X2_allWishes_4 (z : St) : Int32 → Int32 → Option (Int32) := iter (fun _ _ => none) (f_X2_allWishes_4 z) FU
set_option maxHeartbeats 4000000 in
set_option maxRecDepth 100000 in
theorem t_X2_allWishes_4 {RR : Int32} (X : Cx p s m c cX2_allWishes RX2 3 d) {z : St} (hP : va_P d.1 classes (wC d a z) s.heap) (hr : meth.sig.returnType = (some .int)) (hlk : meth.locks = false) {k4 : Int32 → Int32 → Option (Int32)} (hk4 : ∀ (x1 : Int32) (x2 : Int32), k4 x1 x2 = some RR → WRd p l e { frames := 0, cells := 0, slots := 0, locals := 0 } s m args below meth c RR 3 [(0, .ref (a 9)), (1, .int x1), (2, .int x2)] 4 []) : ∀ (x1 : Int32) (x2 : Int32), f_X2_allWishes_4 z k4 x1 x2 = some RR → WRd p l e { frames := 0, cells := 0, slots := 0, locals := 0 } s m args below meth c RR 3 [(0, .ref (a 9)), (1, .int x1), (2, .int x2)] 4 [] := by
  intro x1 x2 hf ls hl
  obtain ⟨hx, hb, hml, hown, hE⟩ := id X
  unfold f_X2_allWishes_4 at hf
  refine lv_iload_n hx hb dX2_allWishes_4 rfl (lv_at hl 2 rfl) ?_
  refine lv_aload_n hx hb dX2_allWishes_5 rfl (lv_at hl 0 rfl) ?_
  refine gf_2_18 hx hb hE hown hP dX2_allWishes_6 ?_
  refine lv_icmp_ge (tgt := 30) hx hb dX2_allWishes_9 (by decide) (fun q => ?_) (fun q => ?_)
  · have hf := (if_pos q).symm.trans hf
    refine lv_iload_n hx hb dX2_allWishes_30 rfl (lv_at hl 1 rfl) ?_
    obtain rfl := Option.some.inj hf
    exact W.iret hx hb hr (fun t ht _ => ⟨rfl, ht⟩) (fun _ h => nomatch h) dX2_allWishes_31 hlk
  · have hf := (if_neg q).symm.trans hf
    refine lv_iload_n hx hb dX2_allWishes_12 rfl (lv_at hl 1 rfl) ?_
    refine lv_aload_n hx hb dX2_allWishes_13 rfl (lv_at hl 0 rfl) ?_
    refine gf_2_11 hx hb hE hown hP dX2_allWishes_14 ?_
    refine lv_iload_n hx hb dX2_allWishes_17 rfl (lv_at hl 2 rfl) ?_
    obtain ⟨hi_1, hf⟩ := ck_some hf
    refine al_rank hx hb hE hP hi_1 dX2_allWishes_18 ?_
    refine gf_2_35 hx hb hE hown hP (vp_lt hi_1) dX2_allWishes_19 ?_
    refine lv_iadd hx hb dX2_allWishes_22 ?_
    refine lv_istore_n (lv' := [(1, .int (x1 + (z.1 (10 + 6 * x2.toNatClampNeg)))), (0, .ref (a 9)), (2, .int x2)]) hx hb dX2_allWishes_23 rfl hl (by decide) rfl (fun ls hl => ?_)
    refine lv_iinc (v := (x2 + (1 : Int32))) (lv' := [(2, .int (x2 + (1 : Int32))), (1, .int (x1 + (z.1 (10 + 6 * x2.toNatClampNeg)))), (0, .ref (a 9))]) hx hb dX2_allWishes_24 hl (k := 2) rfl rfl (by decide) rfl (fun ls hl => ?_)
    refine lv_goto (tgt := 4) hx hb dX2_allWishes_27 (by decide) ?_
    exact hk4 (x1 + (z.1 (10 + 6 * x2.toNatClampNeg))) (x2 + (1 : Int32)) hf ls (lv_sub hl [2, 1, 0] rfl)
theorem u_X2_allWishes_4 {RR : Int32} (X : Cx p s m c cX2_allWishes RX2 3 d) {z : St} (hP : va_P d.1 classes (wC d a z) s.heap) (hr : meth.sig.returnType = (some .int)) (hlk : meth.locks = false) : ∀ (x1 : Int32) (x2 : Int32), l_X2_allWishes_4 z x1 x2 = some RR → WRd p l e { frames := 0, cells := 0, slots := 0, locals := 0 } s m args below meth c RR 3 [(0, .ref (a 9)), (1, .int x1), (2, .int x2)] 4 [] := by
  unfold l_X2_allWishes_4
  generalize FU = n
  induction n with
  | zero => intro x1 x2 hf; exact absurd (show (none : Option (Int32)) = some RR from hf) (by simp)
  | succ n ih => exact t_X2_allWishes_4 X hP hr hlk ih
def f_X2_allWishes (z : St) : Option (Int32) := l_X2_allWishes_4 z (0 : Int32) (0 : Int32)
set_option maxHeartbeats 4000000 in
set_option maxRecDepth 100000 in
theorem t_X2_allWishes {RR : Int32} (X : Cx p s m c cX2_allWishes RX2 3 d) {z : St} (hP : va_P d.1 classes (wC d a z) s.heap) (hr : meth.sig.returnType = (some .int)) (hlk : meth.locks = false) : f_X2_allWishes z = some RR → WRd p l e { frames := 0, cells := 0, slots := 0, locals := 0 } s m args below meth c RR 3 [(0, .ref (a 9))] 0 [] := by
  intro hf ls hl
  obtain ⟨hx, hb, hml, hown, hE⟩ := id X
  unfold f_X2_allWishes at hf
  refine lv_iconst (v := 0) hx hb dX2_allWishes_0 (by decide) ?_
  refine lv_istore_n (lv' := [(1, .int (0 : Int32)), (0, .ref (a 9))]) hx hb dX2_allWishes_1 rfl hl (by decide) rfl (fun ls hl => ?_)
  refine lv_iconst (v := 0) hx hb dX2_allWishes_2 (by decide) ?_
  refine lv_istore_n (lv' := [(2, .int (0 : Int32)), (1, .int (0 : Int32)), (0, .ref (a 9))]) hx hb dX2_allWishes_3 rfl hl (by decide) rfl (fun ls hl => ?_)
  exact u_X2_allWishes_4 X hP hr hlk (0 : Int32) (0 : Int32) hf ls (lv_sub hl [2, 1, 0] rfl)
set_option maxHeartbeats 4000000 in
set_option maxRecDepth 100000 in
theorem c_X2_allWishes (l : Launch) (d : G3) (a : Nat → Nat) (z : St) {RR : Int32} (hf : f_X2_allWishes z = some RR) : Met l yX2_allWishes [Cond.code yX2_allWishes cX2_allWishes 3 (some .int)] { frames := 0, cells := 0, slots := 0, locals := 0 } (rpre wC d a z [.ref (a 9)]) (QcRead RR) 0 0 (fun _ => False) := by
  refine Met.ofW (cc := cX2_allWishes) (maxL := 3) (ret := (some .int)) (by decide) rfl ?_
  intro p e s m args below meth c s₁ B hml hv
  obtain ⟨rfl, hE, hP⟩ := hv
  have X : Cx p s m c cX2_allWishes RX2 3 d := ⟨B.exec, B.bytes, hml, findClass_of_methodNamed B.named, hE⟩
  have hl := lv_entry ([.ref (a 9)]) (n := 3) (Nat.le_of_ble_eq_true rfl)
  rw [lg_entry_eq]
  generalize (lg_sl ([.ref (a 9)]) ++ List.replicate (3 - (lg_sl ([.ref (a 9)])).length) Slot.unset).toArray = ls at hl ⊢
  have hl : lv_has ls 3 [(0, .ref (a 9))] := hl
  exact t_X2_allWishes X hP B.returns B.notSynchronized hf ls hl
def f_X3_isMet (z : St) (p0 : Nat) (x2 : Int32) (x3 : Int32) : Option (Int32) := ck 5 x2 (ck 5 x2 ((if (z.2 (8 + 2 * p0) x2.toNatClampNeg) = 0 then (f_X5_isIn z (z.2 (9 + 2 * p0) x2.toNatClampNeg) x3).bind (fun r_6 => bz r_6 (some r_6)) else (if (z.2 (8 + 2 * p0) x2.toNatClampNeg) = 1 then (f_X5_isIn z (z.2 (9 + 2 * p0) x2.toNatClampNeg) x3).bind (fun r_5 => (if r_5 = (0 : Int32) then some (1 : Int32) else some (0 : Int32))) else (if (z.2 (8 + 2 * p0) x2.toNatClampNeg) = 2 then (f_X1_daysOf z x3).bind (fun r_3 => (f_X5_isIn z (z.2 (9 + 2 * p0) x2.toNatClampNeg) r_3).bind (fun r_4 => (if r_4 = (0 : Int32) then some (1 : Int32) else some (0 : Int32)))) else (if (z.2 (8 + 2 * p0) x2.toNatClampNeg) = 3 then (if (x3 &&& (z.1 2)) = (0 : Int32) then some (1 : Int32) else some (0 : Int32)) else (if (z.2 (8 + 2 * p0) x2.toNatClampNeg) = 4 then (f_X1_hoursOf z x3).bind (fun r_2 => (if (z.2 (9 + 2 * p0) x2.toNatClampNeg) < r_2 then some (0 : Int32) else some (1 : Int32))) else (f_X1_hoursOf z x3).bind (fun r_1 => (if r_1 < (z.2 (9 + 2 * p0) x2.toNatClampNeg) then some (0 : Int32) else some (1 : Int32))))))))))
set_option maxHeartbeats 4000000 in
set_option maxRecDepth 100000 in
theorem t_X3_isMet {RR : Int32} (X : Cx p s m c cX3_isMet RX3 5 d) {z : St} (hP : va_P d.1 classes (wC d a z) s.heap) (hr : meth.sig.returnType = (some .boolean)) (hlk : meth.locks = false) : ∀ (p0 : Nat) (x2 : Int32) (x3 : Int32) (hp0 : p0 < 4), f_X3_isMet z p0 x2 x3 = some RR → WRd p l e { frames := 2, cells := 0, slots := 0, locals := 44 } s m args below meth c RR 5 [(0, .ref (a (14 + 3 * p0))), (1, .ref (a 1)), (2, .int x2), (3, .int x3)] 0 [] := by
  intro p0 x2 x3 hp0 hf ls hl
  obtain ⟨hx, hb, hml, hown, hE⟩ := id X
  unfold f_X3_isMet at hf
  refine lv_aload_n hx hb dX3_isMet_0 rfl (lv_at hl 0 rfl) ?_
  refine gf_3_15 hx hb hE hown hP hp0 dX3_isMet_1 ?_
  refine lv_iload_n hx hb dX3_isMet_4 rfl (lv_at hl 2 rfl) ?_
  obtain ⟨hi, hf⟩ := ck_some hf
  refine va_iald hx hb hE.2 hP (16 + 3 * p0) 0 (wC_vl hp0) rfl hi dX3_isMet_5 ?_
  refine lv_istore (lv' := [(4, .int (z.2 (9 + 2 * p0) x2.toNatClampNeg)), (0, .ref (a (14 + 3 * p0))), (1, .ref (a 1)), (2, .int x2), (3, .int x3)]) hx hb dX3_isMet_6 hl (by decide) rfl (fun ls hl => ?_)
  refine lv_aload_n hx hb dX3_isMet_8 rfl (lv_at hl 1 rfl) ?_
  refine gf_3_9 hx hb hE hown hP hp0 dX3_isMet_9 ?_
  refine lv_iload_n hx hb dX3_isMet_12 rfl (lv_at hl 3 rfl) ?_
  obtain ⟨hi, hf⟩ := ck_some hf
  refine va_iald hx hb hE.2 hP (15 + 3 * p0) 0 (wC_kd hp0) rfl hi dX3_isMet_13 ?_
  by_cases q0 : (z.2 (8 + 2 * p0) x2.toNatClampNeg) = 0
  · have hf := (if_pos q0).symm.trans hf
    refine lv_tableIn (tgt := 48) hx hb dX3_isMet_14 (by rw [q0]; decide) (by rw [q0]; decide) (by rw [q0]; rfl) (by decide) ?_
    refine lv_iload hx hb dX3_isMet_48 (lv_at hl 0 rfl) ?_
    refine lv_iload_n hx hb dX3_isMet_50 rfl (lv_at hl 4 rfl) ?_
    obtain ⟨r_6, hc, hf⟩ := bnd hf
    refine rdSN X (c_X5_isIn l d a z (z.2 (9 + 2 * p0) x2.toNatClampNeg) x3 hc) (k_X3_41 hE rfl rfl ⟨Nat.le_of_ble_eq_true rfl, Nat.le_of_ble_eq_true rfl⟩) hP rfl hl.1 rfl (Nat.le_of_ble_eq_true rfl) dX3_isMet_51 ?_
    obtain ⟨hn, hf⟩ := bz_some hf
    obtain rfl := Option.some.inj hf
    exact W.zret hx hb hr hn (fun t ht _ => ⟨rfl, ht⟩) (fun _ h => nomatch h) dX3_isMet_54 hlk
  · have hf := (if_neg q0).symm.trans hf
    by_cases q1 : (z.2 (8 + 2 * p0) x2.toNatClampNeg) = 1
    · have hf := (if_pos q1).symm.trans hf
      refine lv_tableIn (tgt := 55) hx hb dX3_isMet_14 (by rw [q1]; decide) (by rw [q1]; decide) (by rw [q1]; rfl) (by decide) ?_
      refine lv_iload hx hb dX3_isMet_55 (lv_at hl 0 rfl) ?_
      refine lv_iload_n hx hb dX3_isMet_57 rfl (lv_at hl 4 rfl) ?_
      obtain ⟨r_5, hc, hf⟩ := bnd hf
      refine rdSN X (c_X5_isIn l d a z (z.2 (9 + 2 * p0) x2.toNatClampNeg) x3 hc) (k_X3_41 hE rfl rfl ⟨Nat.le_of_ble_eq_true rfl, Nat.le_of_ble_eq_true rfl⟩) hP rfl hl.1 rfl (Nat.le_of_ble_eq_true rfl) dX3_isMet_58 ?_
      refine lv_if_ne (tgt := 68) hx hb dX3_isMet_61 (by decide) (fun q => ?_) (fun q => ?_)
      · have hf := (if_neg q).symm.trans hf
        refine lv_iconst (v := 0) hx hb dX3_isMet_68 (by decide) ?_
        obtain rfl := Option.some.inj hf
        exact W.zret hx hb hr rfl (fun t ht _ => ⟨rfl, ht⟩) (fun _ h => nomatch h) dX3_isMet_69 hlk
      · have hf := (if_pos q).symm.trans hf
        refine lv_iconst (v := 1) hx hb dX3_isMet_64 (by decide) ?_
        refine lv_goto (tgt := 69) hx hb dX3_isMet_65 (by decide) ?_
        obtain rfl := Option.some.inj hf
        exact W.zret hx hb hr rfl (fun t ht _ => ⟨rfl, ht⟩) (fun _ h => nomatch h) dX3_isMet_69 hlk
    · have hf := (if_neg q1).symm.trans hf
      by_cases q2 : (z.2 (8 + 2 * p0) x2.toNatClampNeg) = 2
      · have hf := (if_pos q2).symm.trans hf
        refine lv_tableIn (tgt := 70) hx hb dX3_isMet_14 (by rw [q2]; decide) (by rw [q2]; decide) (by rw [q2]; rfl) (by decide) ?_
        refine lv_iload hx hb dX3_isMet_70 (lv_at hl 0 rfl) ?_
        refine lv_aload_n hx hb dX3_isMet_72 rfl (lv_at hl 2 rfl) ?_
        refine lv_iload_n hx hb dX3_isMet_73 rfl (lv_at hl 4 rfl) ?_
        obtain ⟨r_3, hc, hf⟩ := bnd hf
        refine rdV X (c_X1_daysOf l d a z x3 hc) (k_X3_45 hE rfl rfl ⟨Nat.le_of_ble_eq_true rfl, Nat.le_of_ble_eq_true rfl⟩) hP (va_recv (q := (RX1, TX1, 7)) hE.2 hP (ci := 1) (q0 := 1) rfl rfl) rfl hl.1 rfl (Nat.le_of_ble_eq_true rfl) dX3_isMet_74 ?_
        obtain ⟨r_4, hc, hf⟩ := bnd hf
        refine rdSN X (c_X5_isIn l d a z (z.2 (9 + 2 * p0) x2.toNatClampNeg) r_3 hc) (k_X3_41 hE rfl rfl ⟨Nat.le_of_ble_eq_true rfl, Nat.le_of_ble_eq_true rfl⟩) hP rfl hl.1 rfl (Nat.le_of_ble_eq_true rfl) dX3_isMet_77 ?_
        refine lv_if_ne (tgt := 87) hx hb dX3_isMet_80 (by decide) (fun q => ?_) (fun q => ?_)
        · have hf := (if_neg q).symm.trans hf
          refine lv_iconst (v := 0) hx hb dX3_isMet_87 (by decide) ?_
          obtain rfl := Option.some.inj hf
          exact W.zret hx hb hr rfl (fun t ht _ => ⟨rfl, ht⟩) (fun _ h => nomatch h) dX3_isMet_88 hlk
        · have hf := (if_pos q).symm.trans hf
          refine lv_iconst (v := 1) hx hb dX3_isMet_83 (by decide) ?_
          refine lv_goto (tgt := 88) hx hb dX3_isMet_84 (by decide) ?_
          obtain rfl := Option.some.inj hf
          exact W.zret hx hb hr rfl (fun t ht _ => ⟨rfl, ht⟩) (fun _ h => nomatch h) dX3_isMet_88 hlk
      · have hf := (if_neg q2).symm.trans hf
        by_cases q3 : (z.2 (8 + 2 * p0) x2.toNatClampNeg) = 3
        · have hf := (if_pos q3).symm.trans hf
          refine lv_tableIn (tgt := 89) hx hb dX3_isMet_14 (by rw [q3]; decide) (by rw [q3]; decide) (by rw [q3]; rfl) (by decide) ?_
          refine lv_iload_n hx hb dX3_isMet_89 rfl (lv_at hl 4 rfl) ?_
          refine lv_aload_n hx hb dX3_isMet_90 rfl (lv_at hl 2 rfl) ?_
          refine gf_3_48 hx hb hE hown hP dX3_isMet_91 ?_
          refine lv_iand hx hb dX3_isMet_94 ?_
          refine lv_if_ne (tgt := 102) hx hb dX3_isMet_95 (by decide) (fun q => ?_) (fun q => ?_)
          · have hf := (if_neg q).symm.trans hf
            refine lv_iconst (v := 0) hx hb dX3_isMet_102 (by decide) ?_
            obtain rfl := Option.some.inj hf
            exact W.zret hx hb hr rfl (fun t ht _ => ⟨rfl, ht⟩) (fun _ h => nomatch h) dX3_isMet_103 hlk
          · have hf := (if_pos q).symm.trans hf
            refine lv_iconst (v := 1) hx hb dX3_isMet_98 (by decide) ?_
            refine lv_goto (tgt := 103) hx hb dX3_isMet_99 (by decide) ?_
            obtain rfl := Option.some.inj hf
            exact W.zret hx hb hr rfl (fun t ht _ => ⟨rfl, ht⟩) (fun _ h => nomatch h) dX3_isMet_103 hlk
        · have hf := (if_neg q3).symm.trans hf
          by_cases q4 : (z.2 (8 + 2 * p0) x2.toNatClampNeg) = 4
          · have hf := (if_pos q4).symm.trans hf
            refine lv_tableIn (tgt := 104) hx hb dX3_isMet_14 (by rw [q4]; decide) (by rw [q4]; decide) (by rw [q4]; rfl) (by decide) ?_
            refine lv_aload_n hx hb dX3_isMet_104 rfl (lv_at hl 2 rfl) ?_
            refine lv_iload_n hx hb dX3_isMet_105 rfl (lv_at hl 4 rfl) ?_
            obtain ⟨r_2, hc, hf⟩ := bnd hf
            refine rdV X (c_X1_hoursOf l d a z x3 hc) (k_X3_35 hE rfl rfl ⟨Nat.le_of_ble_eq_true rfl, Nat.le_of_ble_eq_true rfl⟩) hP (va_recv (q := (RX1, TX1, 7)) hE.2 hP (ci := 1) (q0 := 1) rfl rfl) rfl hl.1 rfl (Nat.le_of_ble_eq_true rfl) dX3_isMet_106 ?_
            refine lv_iload hx hb dX3_isMet_109 (lv_at hl 0 rfl) ?_
            refine lv_icmp_gt (tgt := 118) hx hb dX3_isMet_111 (by decide) (fun q => ?_) (fun q => ?_)
            · have hf := (if_pos q).symm.trans hf
              refine lv_iconst (v := 0) hx hb dX3_isMet_118 (by decide) ?_
              obtain rfl := Option.some.inj hf
              exact W.zret hx hb hr rfl (fun t ht _ => ⟨rfl, ht⟩) (fun _ h => nomatch h) dX3_isMet_119 hlk
            · have hf := (if_neg q).symm.trans hf
              refine lv_iconst (v := 1) hx hb dX3_isMet_114 (by decide) ?_
              refine lv_goto (tgt := 119) hx hb dX3_isMet_115 (by decide) ?_
              obtain rfl := Option.some.inj hf
              exact W.zret hx hb hr rfl (fun t ht _ => ⟨rfl, ht⟩) (fun _ h => nomatch h) dX3_isMet_119 hlk
          · have hf := (if_neg q4).symm.trans hf
            refine lv_tableOut (tgt := 120) hx hb dX3_isMet_14 (sw4 q0 q1 q2 q3 q4) (by decide) ?_
            refine lv_aload_n hx hb dX3_isMet_120 rfl (lv_at hl 2 rfl) ?_
            refine lv_iload_n hx hb dX3_isMet_121 rfl (lv_at hl 4 rfl) ?_
            obtain ⟨r_1, hc, hf⟩ := bnd hf
            refine rdV X (c_X1_hoursOf l d a z x3 hc) (k_X3_35 hE rfl rfl ⟨Nat.le_of_ble_eq_true rfl, Nat.le_of_ble_eq_true rfl⟩) hP (va_recv (q := (RX1, TX1, 7)) hE.2 hP (ci := 1) (q0 := 1) rfl rfl) rfl hl.1 rfl (Nat.le_of_ble_eq_true rfl) dX3_isMet_122 ?_
            refine lv_iload hx hb dX3_isMet_125 (lv_at hl 0 rfl) ?_
            refine lv_icmp_lt (tgt := 134) hx hb dX3_isMet_127 (by decide) (fun q => ?_) (fun q => ?_)
            · have hf := (if_pos q).symm.trans hf
              refine lv_iconst (v := 0) hx hb dX3_isMet_134 (by decide) ?_
              obtain rfl := Option.some.inj hf
              exact W.zret hx hb hr rfl (fun t ht _ => ⟨rfl, ht⟩) (fun _ h => nomatch h) dX3_isMet_135 hlk
            · have hf := (if_neg q).symm.trans hf
              refine lv_iconst (v := 1) hx hb dX3_isMet_130 (by decide) ?_
              refine lv_goto (tgt := 135) hx hb dX3_isMet_131 (by decide) ?_
              obtain rfl := Option.some.inj hf
              exact W.zret hx hb hr rfl (fun t ht _ => ⟨rfl, ht⟩) (fun _ h => nomatch h) dX3_isMet_135 hlk
set_option maxHeartbeats 4000000 in
set_option maxRecDepth 100000 in
theorem c_X3_isMet (l : Launch) (d : G3) (a : Nat → Nat) (z : St) (p0 : Nat) (x2 : Int32) (x3 : Int32) (hp0 : p0 < 4) {RR : Int32} (hf : f_X3_isMet z p0 x2 x3 = some RR) : Met l yX3_isMet [Cond.code yX3_isMet cX3_isMet 5 (some .boolean)] { frames := 2, cells := 0, slots := 0, locals := 44 } (rpre wC d a z [.ref (a (14 + 3 * p0)), .ref (a 1), .int x2, .int x3]) (QcRead RR) 0 0 (fun _ => False) := by
  refine Met.ofW (cc := cX3_isMet) (maxL := 5) (ret := (some .boolean)) (by decide) rfl ?_
  intro p e s m args below meth c s₁ B hml hv
  obtain ⟨rfl, hE, hP⟩ := hv
  have X : Cx p s m c cX3_isMet RX3 5 d := ⟨B.exec, B.bytes, hml, findClass_of_methodNamed B.named, hE⟩
  have hl := lv_entry ([.ref (a (14 + 3 * p0)), .ref (a 1), .int x2, .int x3]) (n := 5) (Nat.le_of_ble_eq_true rfl)
  rw [lg_entry_eq]
  generalize (lg_sl ([.ref (a (14 + 3 * p0)), .ref (a 1), .int x2, .int x3]) ++ List.replicate (5 - (lg_sl ([.ref (a (14 + 3 * p0)), .ref (a 1), .int x2, .int x3])).length) Slot.unset).toArray = ls at hl ⊢
  have hl : lv_has ls 5 [(0, .ref (a (14 + 3 * p0))), (1, .ref (a 1)), (2, .int x2), (3, .int x3)] := hl
  exact t_X3_isMet X hP B.returns B.notSynchronized p0 x2 x3 hp0 hf ls hl
def f_X3_score_5 (z : St) (k5 : Nat → Int32 → Int32 → Int32 → Option (Int32)) (p0 : Nat) (x2 : Int32) (x3 : Int32) (x4 : Int32) : Option (Int32) := (if (z.1 (10 + 6 * p0)) ≤ x4 then some x3 else (f_X3_isMet z p0 x4 x2).bind (fun r_1 => (if r_1 = (0 : Int32) then k5 p0 x2 ((x3 <<< ((1 : Int32) &&& 31)) ||| (0 : Int32)) (x4 + (1 : Int32)) else k5 p0 x2 ((x3 <<< ((1 : Int32) &&& 31)) ||| (1 : Int32)) (x4 + (1 : Int32)))))
def l_X3_score_5 (z : St) : Nat → Int32 → Int32 → Int32 → Option (Int32) := iter (fun _ _ _ _ => none) (f_X3_score_5 z) FU
set_option maxHeartbeats 4000000 in
set_option maxRecDepth 100000 in
theorem t_X3_score_5 {RR : Int32} (X : Cx p s m c cX3_score RX3 5 d) {z : St} (hP : va_P d.1 classes (wC d a z) s.heap) (hr : meth.sig.returnType = (some .int)) (hlk : meth.locks = false) {k5 : Nat → Int32 → Int32 → Int32 → Option (Int32)} (hk5 : ∀ (p0 : Nat) (x2 : Int32) (x3 : Int32) (x4 : Int32) (hp0 : p0 < 4), k5 p0 x2 x3 x4 = some RR → WRd p l e { frames := 3, cells := 0, slots := 0, locals := 68 } s m args below meth c RR 5 [(0, .ref (a (14 + 3 * p0))), (1, .ref (a 1)), (2, .int x2), (3, .int x3), (4, .int x4)] 5 []) : ∀ (p0 : Nat) (x2 : Int32) (x3 : Int32) (x4 : Int32) (hp0 : p0 < 4), f_X3_score_5 z k5 p0 x2 x3 x4 = some RR → WRd p l e { frames := 3, cells := 0, slots := 0, locals := 68 } s m args below meth c RR 5 [(0, .ref (a (14 + 3 * p0))), (1, .ref (a 1)), (2, .int x2), (3, .int x3), (4, .int x4)] 5 [] := by
  intro p0 x2 x3 x4 hp0 hf ls hl
  obtain ⟨hx, hb, hml, hown, hE⟩ := id X
  unfold f_X3_score_5 at hf
  refine lv_iload hx hb dX3_score_5 (lv_at hl 4 rfl) ?_
  refine lv_aload_n hx hb dX3_score_7 rfl (lv_at hl 0 rfl) ?_
  refine gf_3_18 hx hb hE hown hP hp0 dX3_score_8 ?_
  refine lv_icmp_ge (tgt := 41) hx hb dX3_score_11 (by decide) (fun q => ?_) (fun q => ?_)
  · have hf := (if_pos q).symm.trans hf
    refine lv_iload_n hx hb dX3_score_41 rfl (lv_at hl 3 rfl) ?_
    obtain rfl := Option.some.inj hf
    exact W.iret hx hb hr (fun t ht _ => ⟨rfl, ht⟩) (fun _ h => nomatch h) dX3_score_42 hlk
  · have hf := (if_neg q).symm.trans hf
    refine lv_iload_n hx hb dX3_score_14 rfl (lv_at hl 3 rfl) ?_
    refine lv_iconst (v := 1) hx hb dX3_score_15 (by decide) ?_
    refine lv_ishl hx hb dX3_score_16 ?_
    refine lv_aload_n hx hb dX3_score_17 rfl (lv_at hl 0 rfl) ?_
    refine lv_aload_n hx hb dX3_score_18 rfl (lv_at hl 1 rfl) ?_
    refine lv_iload hx hb dX3_score_19 (lv_at hl 4 rfl) ?_
    refine lv_iload_n hx hb dX3_score_21 rfl (lv_at hl 2 rfl) ?_
    obtain ⟨r_1, hc, hf⟩ := bnd hf
    refine rdV X (c_X3_isMet l d a z p0 x4 x2 hp0 hc) (k_X3_51 hE rfl rfl ⟨Nat.le_of_ble_eq_true rfl, Nat.le_of_ble_eq_true rfl⟩) hP (recvP hE hP hp0) rfl hl.1 rfl (Nat.le_of_ble_eq_true rfl) dX3_score_22 ?_
    refine lv_if_eq (tgt := 32) hx hb dX3_score_25 (by decide) (fun q => ?_) (fun q => ?_)
    · have hf := (if_pos q).symm.trans hf
      refine lv_iconst (v := 0) hx hb dX3_score_32 (by decide) ?_
      refine lv_ior hx hb dX3_score_33 ?_
      refine lv_istore_n (lv' := [(3, .int ((x3 <<< ((1 : Int32) &&& 31)) ||| (0 : Int32))), (0, .ref (a (14 + 3 * p0))), (1, .ref (a 1)), (2, .int x2), (4, .int x4)]) hx hb dX3_score_34 rfl hl (by decide) rfl (fun ls hl => ?_)
      refine lv_iinc (v := (x4 + (1 : Int32))) (lv' := [(4, .int (x4 + (1 : Int32))), (3, .int ((x3 <<< ((1 : Int32) &&& 31)) ||| (0 : Int32))), (0, .ref (a (14 + 3 * p0))), (1, .ref (a 1)), (2, .int x2)]) hx hb dX3_score_35 hl (k := 4) rfl rfl (by decide) rfl (fun ls hl => ?_)
      refine lv_goto (tgt := 5) hx hb dX3_score_38 (by decide) ?_
      exact hk5 p0 x2 ((x3 <<< ((1 : Int32) &&& 31)) ||| (0 : Int32)) (x4 + (1 : Int32)) hp0 hf ls (lv_sub hl [2, 3, 4, 1, 0] rfl)
    · have hf := (if_neg q).symm.trans hf
      refine lv_iconst (v := 1) hx hb dX3_score_28 (by decide) ?_
      refine lv_goto (tgt := 33) hx hb dX3_score_29 (by decide) ?_
      refine lv_ior hx hb dX3_score_33 ?_
      refine lv_istore_n (lv' := [(3, .int ((x3 <<< ((1 : Int32) &&& 31)) ||| (1 : Int32))), (0, .ref (a (14 + 3 * p0))), (1, .ref (a 1)), (2, .int x2), (4, .int x4)]) hx hb dX3_score_34 rfl hl (by decide) rfl (fun ls hl => ?_)
      refine lv_iinc (v := (x4 + (1 : Int32))) (lv' := [(4, .int (x4 + (1 : Int32))), (3, .int ((x3 <<< ((1 : Int32) &&& 31)) ||| (1 : Int32))), (0, .ref (a (14 + 3 * p0))), (1, .ref (a 1)), (2, .int x2)]) hx hb dX3_score_35 hl (k := 4) rfl rfl (by decide) rfl (fun ls hl => ?_)
      refine lv_goto (tgt := 5) hx hb dX3_score_38 (by decide) ?_
      exact hk5 p0 x2 ((x3 <<< ((1 : Int32) &&& 31)) ||| (1 : Int32)) (x4 + (1 : Int32)) hp0 hf ls (lv_sub hl [2, 3, 4, 1, 0] rfl)
theorem u_X3_score_5 {RR : Int32} (X : Cx p s m c cX3_score RX3 5 d) {z : St} (hP : va_P d.1 classes (wC d a z) s.heap) (hr : meth.sig.returnType = (some .int)) (hlk : meth.locks = false) : ∀ (p0 : Nat) (x2 : Int32) (x3 : Int32) (x4 : Int32) (hp0 : p0 < 4), l_X3_score_5 z p0 x2 x3 x4 = some RR → WRd p l e { frames := 3, cells := 0, slots := 0, locals := 68 } s m args below meth c RR 5 [(0, .ref (a (14 + 3 * p0))), (1, .ref (a 1)), (2, .int x2), (3, .int x3), (4, .int x4)] 5 [] := by
  unfold l_X3_score_5
  generalize FU = n
  induction n with
  | zero => intro p0 x2 x3 x4 hp0 hf; exact absurd (show (none : Option (Int32)) = some RR from hf) (by simp)
  | succ n ih => exact t_X3_score_5 X hP hr hlk ih
def f_X3_score (z : St) (p0 : Nat) (x2 : Int32) : Option (Int32) := l_X3_score_5 z p0 x2 (0 : Int32) (0 : Int32)
set_option maxHeartbeats 4000000 in
set_option maxRecDepth 100000 in
theorem t_X3_score {RR : Int32} (X : Cx p s m c cX3_score RX3 5 d) {z : St} (hP : va_P d.1 classes (wC d a z) s.heap) (hr : meth.sig.returnType = (some .int)) (hlk : meth.locks = false) : ∀ (p0 : Nat) (x2 : Int32) (hp0 : p0 < 4), f_X3_score z p0 x2 = some RR → WRd p l e { frames := 3, cells := 0, slots := 0, locals := 68 } s m args below meth c RR 5 [(0, .ref (a (14 + 3 * p0))), (1, .ref (a 1)), (2, .int x2)] 0 [] := by
  intro p0 x2 hp0 hf ls hl
  obtain ⟨hx, hb, hml, hown, hE⟩ := id X
  unfold f_X3_score at hf
  refine lv_iconst (v := 0) hx hb dX3_score_0 (by decide) ?_
  refine lv_istore_n (lv' := [(3, .int (0 : Int32)), (0, .ref (a (14 + 3 * p0))), (1, .ref (a 1)), (2, .int x2)]) hx hb dX3_score_1 rfl hl (by decide) rfl (fun ls hl => ?_)
  refine lv_iconst (v := 0) hx hb dX3_score_2 (by decide) ?_
  refine lv_istore (lv' := [(4, .int (0 : Int32)), (3, .int (0 : Int32)), (0, .ref (a (14 + 3 * p0))), (1, .ref (a 1)), (2, .int x2)]) hx hb dX3_score_3 hl (by decide) rfl (fun ls hl => ?_)
  exact u_X3_score_5 X hP hr hlk p0 x2 (0 : Int32) (0 : Int32) hp0 hf ls (lv_sub hl [2, 3, 4, 1, 0] rfl)
set_option maxHeartbeats 4000000 in
set_option maxRecDepth 100000 in
theorem c_X3_score (l : Launch) (d : G3) (a : Nat → Nat) (z : St) (p0 : Nat) (x2 : Int32) (hp0 : p0 < 4) {RR : Int32} (hf : f_X3_score z p0 x2 = some RR) : Met l yX3_score [Cond.code yX3_score cX3_score 5 (some .int)] { frames := 3, cells := 0, slots := 0, locals := 68 } (rpre wC d a z [.ref (a (14 + 3 * p0)), .ref (a 1), .int x2]) (QcRead RR) 0 0 (fun _ => False) := by
  refine Met.ofW (cc := cX3_score) (maxL := 5) (ret := (some .int)) (by decide) rfl ?_
  intro p e s m args below meth c s₁ B hml hv
  obtain ⟨rfl, hE, hP⟩ := hv
  have X : Cx p s m c cX3_score RX3 5 d := ⟨B.exec, B.bytes, hml, findClass_of_methodNamed B.named, hE⟩
  have hl := lv_entry ([.ref (a (14 + 3 * p0)), .ref (a 1), .int x2]) (n := 5) (Nat.le_of_ble_eq_true rfl)
  rw [lg_entry_eq]
  generalize (lg_sl ([.ref (a (14 + 3 * p0)), .ref (a 1), .int x2]) ++ List.replicate (5 - (lg_sl ([.ref (a (14 + 3 * p0)), .ref (a 1), .int x2])).length) Slot.unset).toArray = ls at hl ⊢
  have hl : lv_has ls 5 [(0, .ref (a (14 + 3 * p0))), (1, .ref (a 1)), (2, .int x2)] := hl
  exact t_X3_score X hP B.returns B.notSynchronized p0 x2 hp0 hf ls hl
def f_X3_wishesMet (z : St) (p0 : Nat) : Option (Int32) := (f_X3_score z p0 (z.1 (14 + 6 * p0))).bind (fun r_1 => (f_J6_bitCount_0f7a4 z r_1).bind (fun r_2 => some r_2))
set_option maxHeartbeats 4000000 in
set_option maxRecDepth 100000 in
theorem t_X3_wishesMet {RR : Int32} (X : Cx p s m c cX3_wishesMet RX3 2 d) {z : St} (hP : va_P d.1 classes (wC d a z) s.heap) (hr : meth.sig.returnType = (some .int)) (hlk : meth.locks = false) : ∀ (p0 : Nat) (hp0 : p0 < 4), f_X3_wishesMet z p0 = some RR → WRd p l e { frames := 4, cells := 0, slots := 0, locals := 92 } s m args below meth c RR 2 [(0, .ref (a (14 + 3 * p0))), (1, .ref (a 1))] 0 [] := by
  intro p0 hp0 hf ls hl
  obtain ⟨hx, hb, hml, hown, hE⟩ := id X
  unfold f_X3_wishesMet at hf
  refine lv_aload_n hx hb dX3_wishesMet_0 rfl (lv_at hl 0 rfl) ?_
  refine lv_aload_n hx hb dX3_wishesMet_1 rfl (lv_at hl 1 rfl) ?_
  refine lv_aload_n hx hb dX3_wishesMet_2 rfl (lv_at hl 0 rfl) ?_
  refine gf_3_55 hx hb hE hown hP hp0 dX3_wishesMet_3 ?_
  obtain ⟨r_1, hc, hf⟩ := bnd hf
  refine rdV X (c_X3_score l d a z p0 (z.1 (14 + 6 * p0)) hp0 hc) (k_X3_58 hE rfl rfl ⟨Nat.le_of_ble_eq_true rfl, Nat.le_of_ble_eq_true rfl⟩) hP (recvP hE hP hp0) rfl hl.1 rfl (Nat.le_of_ble_eq_true rfl) dX3_wishesMet_6 ?_
  obtain ⟨r_2, hc, hf⟩ := bnd hf
  refine rdS X (c_J6_bitCount_0f7a4 l d a z r_1 hc) (k_X3_62 hE rfl rfl ⟨Nat.le_of_ble_eq_true rfl, Nat.le_of_ble_eq_true rfl⟩) hP rfl hl.1 rfl (Nat.le_of_ble_eq_true rfl) dX3_wishesMet_9 ?_
  obtain rfl := Option.some.inj hf
  exact W.iret hx hb hr (fun t ht _ => ⟨rfl, ht⟩) (fun _ h => nomatch h) dX3_wishesMet_12 hlk
set_option maxHeartbeats 4000000 in
set_option maxRecDepth 100000 in
theorem c_X3_wishesMet (l : Launch) (d : G3) (a : Nat → Nat) (z : St) (p0 : Nat) (hp0 : p0 < 4) {RR : Int32} (hf : f_X3_wishesMet z p0 = some RR) : Met l yX3_wishesMet [Cond.code yX3_wishesMet cX3_wishesMet 2 (some .int)] { frames := 4, cells := 0, slots := 0, locals := 92 } (rpre wC d a z [.ref (a (14 + 3 * p0)), .ref (a 1)]) (QcRead RR) 0 0 (fun _ => False) := by
  refine Met.ofW (cc := cX3_wishesMet) (maxL := 2) (ret := (some .int)) (by decide) rfl ?_
  intro p e s m args below meth c s₁ B hml hv
  obtain ⟨rfl, hE, hP⟩ := hv
  have X : Cx p s m c cX3_wishesMet RX3 2 d := ⟨B.exec, B.bytes, hml, findClass_of_methodNamed B.named, hE⟩
  have hl := lv_entry ([.ref (a (14 + 3 * p0)), .ref (a 1)]) (n := 2) (Nat.le_of_ble_eq_true rfl)
  rw [lg_entry_eq]
  generalize (lg_sl ([.ref (a (14 + 3 * p0)), .ref (a 1)]) ++ List.replicate (2 - (lg_sl ([.ref (a (14 + 3 * p0)), .ref (a 1)])).length) Slot.unset).toArray = ls at hl ⊢
  have hl : lv_has ls 2 [(0, .ref (a (14 + 3 * p0))), (1, .ref (a 1))] := hl
  exact t_X3_wishesMet X hP B.returns B.notSynchronized p0 hp0 hf ls hl
end GEN
