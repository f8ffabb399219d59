section GEN
variable {p : Program} {l : Launch} {e : Env} {s : State} {m : MethodId} {args : Array Value} {below : List Frame} {meth : Method} {c : Code} {d : G3} {a : Nat → Nat}
def f_X6_onDay_5 (z : St) (k5 : Int32 → Int32 → Int32 → Int32 → Option (Int32)) (x1 : Int32) (x2 : Int32) (x3 : Int32) (x4 : Int32) : Option (Int32) := (if (z.1 0) ≤ x4 then some x3 else (f_X6_has z x1 x4).bind (fun r_1 => (if r_1 = (0 : Int32) then k5 x1 x2 x3 (x4 + (1 : Int32)) else ck 9 x4 ((if x2 < (z.2 0 x4.toNatClampNeg) then k5 x1 x2 x3 (x4 + (1 : Int32)) else ck 9 x4 (ck 9 x4 ((if ((z.2 0 x4.toNatClampNeg) + (z.2 1 x4.toNatClampNeg)) ≤ x2 then k5 x1 x2 x3 (x4 + (1 : Int32)) else k5 x1 x2 (x3 + (1 : Int32)) (x4 + (1 : Int32))))))))))
def l_X6_onDay_5 (z : St) : Int32 → Int32 → Int32 → Int32 → Option (Int32) := iter (fun _ _ _ _ => none) (f_X6_onDay_5 z) FU
set_option maxHeartbeats 4000000 in
set_option maxRecDepth 100000 in
theorem t_X6_onDay_5 {RR : Int32} (X : Cx p s m c cX6_onDay RX6 5 d) {z : St} (hP : va_P d.1 classes (wM d a z) s.heap) (hr : meth.sig.returnType = (some .int)) (hlk : meth.locks = false) {k5 : Int32 → Int32 → Int32 → Int32 → Option (Int32)} (hk5 : ∀ (x1 : Int32) (x2 : Int32) (x3 : Int32) (x4 : Int32), k5 x1 x2 x3 x4 = some RR → WRd p l e { frames := 1, cells := 0, slots := 0, locals := 21 } s m args below meth c RR 5 [(0, .ref (a 0)), (1, .int x1), (2, .int x2), (3, .int x3), (4, .int x4)] 5 []) : ∀ (x1 : Int32) (x2 : Int32) (x3 : Int32) (x4 : Int32), f_X6_onDay_5 z k5 x1 x2 x3 x4 = some RR → WRd p l e { frames := 1, cells := 0, slots := 0, locals := 21 } s m args below meth c RR 5 [(0, .ref (a 0)), (1, .int x1), (2, .int x2), (3, .int x3), (4, .int x4)] 5 [] := by
  intro x1 x2 x3 x4 hf ls hl
  obtain ⟨hx, hb, hml, hown, hE⟩ := id X
  unfold f_X6_onDay_5 at hf
  refine lv_iload hx hb dX6_onDay_5 (lv_at hl 4 rfl) ?_
  refine lv_aload_n hx hb dX6_onDay_7 rfl (lv_at hl 0 rfl) ?_
  refine gf_6_84 hx hb hE hown hP dX6_onDay_8 ?_
  refine lv_icmp_ge (tgt := 62) hx hb dX6_onDay_11 (by decide) (fun q => ?_) (fun q => ?_)
  · have hf := (if_pos q).symm.trans hf
    refine lv_iload_n hx hb dX6_onDay_62 rfl (lv_at hl 3 rfl) ?_
    obtain rfl := Option.some.inj hf
    exact W.iret hx hb hr (fun t ht _ => ⟨rfl, ht⟩) (fun _ h => nomatch h) dX6_onDay_63 hlk
  · have hf := (if_neg q).symm.trans hf
    refine lv_iload_n hx hb dX6_onDay_14 rfl (lv_at hl 1 rfl) ?_
    refine lv_iload hx hb dX6_onDay_15 (lv_at hl 4 rfl) ?_
    obtain ⟨r_1, hc, hf⟩ := bnd hf
    refine rdS X (c_X6_has l d a z x1 x4 hc) (k_X6_87 hE rfl rfl ⟨Nat.le_of_ble_eq_true rfl, Nat.le_of_ble_eq_true rfl⟩) hP rfl hl.1 rfl (Nat.le_of_ble_eq_true rfl) dX6_onDay_17 ?_
    refine lv_if_eq (tgt := 56) hx hb dX6_onDay_20 (by decide) (fun q => ?_) (fun q => ?_)
    · have hf := (if_pos q).symm.trans hf
      refine lv_iinc (v := (x4 + (1 : Int32))) (lv' := [(4, .int (x4 + (1 : Int32))), (0, .ref (a 0)), (1, .int x1), (2, .int x2), (3, .int x3)]) hx hb dX6_onDay_56 hl (k := 4) rfl rfl (by decide) rfl (fun ls hl => ?_)
      refine lv_goto (tgt := 5) hx hb dX6_onDay_59 (by decide) ?_
      exact hk5 x1 x2 x3 (x4 + (1 : Int32)) hf ls (lv_sub hl [1, 2, 3, 4, 0] rfl)
    · have hf := (if_neg q).symm.trans hf
      refine lv_aload_n hx hb dX6_onDay_23 rfl (lv_at hl 0 rfl) ?_
      refine gf_6_9 hx hb hE hown hP dX6_onDay_24 ?_
      refine lv_iload hx hb dX6_onDay_27 (lv_at hl 4 rfl) ?_
      obtain ⟨hi, hf⟩ := ck_some hf
      refine ld_M_1 hx hb hE hP hi dX6_onDay_29 ?_
      refine lv_iload_n hx hb dX6_onDay_30 rfl (lv_at hl 2 rfl) ?_
      refine lv_icmp_gt (tgt := 56) hx hb dX6_onDay_31 (by decide) (fun q => ?_) (fun q => ?_)
      · have hf := (if_pos q).symm.trans hf
        refine lv_iinc (v := (x4 + (1 : Int32))) (lv' := [(4, .int (x4 + (1 : Int32))), (0, .ref (a 0)), (1, .int x1), (2, .int x2), (3, .int x3)]) hx hb dX6_onDay_56 hl (k := 4) rfl rfl (by decide) rfl (fun ls hl => ?_)
        refine lv_goto (tgt := 5) hx hb dX6_onDay_59 (by decide) ?_
        exact hk5 x1 x2 x3 (x4 + (1 : Int32)) hf ls (lv_sub hl [1, 2, 3, 4, 0] rfl)
      · have hf := (if_neg q).symm.trans hf
        refine lv_iload_n hx hb dX6_onDay_34 rfl (lv_at hl 2 rfl) ?_
        refine lv_aload_n hx hb dX6_onDay_35 rfl (lv_at hl 0 rfl) ?_
        refine gf_6_9 hx hb hE hown hP dX6_onDay_36 ?_
        refine lv_iload hx hb dX6_onDay_39 (lv_at hl 4 rfl) ?_
        obtain ⟨hi, hf⟩ := ck_some hf
        refine ld_M_1 hx hb hE hP hi dX6_onDay_41 ?_
        refine lv_aload_n hx hb dX6_onDay_42 rfl (lv_at hl 0 rfl) ?_
        refine gf_6_13 hx hb hE hown hP dX6_onDay_43 ?_
        refine lv_iload hx hb dX6_onDay_46 (lv_at hl 4 rfl) ?_
        obtain ⟨hi, hf⟩ := ck_some hf
        refine ld_M_2 hx hb hE hP hi dX6_onDay_48 ?_
        refine lv_iadd hx hb dX6_onDay_49 ?_
        refine lv_icmp_ge (tgt := 56) hx hb dX6_onDay_50 (by decide) (fun q => ?_) (fun q => ?_)
        · have hf := (if_pos q).symm.trans hf
          refine lv_iinc (v := (x4 + (1 : Int32))) (lv' := [(4, .int (x4 + (1 : Int32))), (0, .ref (a 0)), (1, .int x1), (2, .int x2), (3, .int x3)]) hx hb dX6_onDay_56 hl (k := 4) rfl rfl (by decide) rfl (fun ls hl => ?_)
          refine lv_goto (tgt := 5) hx hb dX6_onDay_59 (by decide) ?_
          exact hk5 x1 x2 x3 (x4 + (1 : Int32)) hf ls (lv_sub hl [1, 2, 3, 4, 0] rfl)
        · have hf := (if_neg q).symm.trans hf
          refine lv_iinc (v := (x3 + (1 : Int32))) (lv' := [(3, .int (x3 + (1 : Int32))), (0, .ref (a 0)), (1, .int x1), (2, .int x2), (4, .int x4)]) hx hb dX6_onDay_53 hl (k := 3) rfl rfl (by decide) rfl (fun ls hl => ?_)
          refine lv_iinc (v := (x4 + (1 : Int32))) (lv' := [(4, .int (x4 + (1 : Int32))), (3, .int (x3 + (1 : Int32))), (0, .ref (a 0)), (1, .int x1), (2, .int x2)]) hx hb dX6_onDay_56 hl (k := 4) rfl rfl (by decide) rfl (fun ls hl => ?_)
          refine lv_goto (tgt := 5) hx hb dX6_onDay_59 (by decide) ?_
          exact hk5 x1 x2 (x3 + (1 : Int32)) (x4 + (1 : Int32)) hf ls (lv_sub hl [2, 3, 4, 1, 0] rfl)
theorem u_X6_onDay_5 {RR : Int32} (X : Cx p s m c cX6_onDay RX6 5 d) {z : St} (hP : va_P d.1 classes (wM d a z) s.heap) (hr : meth.sig.returnType = (some .int)) (hlk : meth.locks = false) : ∀ (x1 : Int32) (x2 : Int32) (x3 : Int32) (x4 : Int32), l_X6_onDay_5 z x1 x2 x3 x4 = some RR → WRd p l e { frames := 1, cells := 0, slots := 0, locals := 21 } s m args below meth c RR 5 [(0, .ref (a 0)), (1, .int x1), (2, .int x2), (3, .int x3), (4, .int x4)] 5 [] := by
  unfold l_X6_onDay_5
  generalize FU = n
  induction n with
  | zero => intro x1 x2 x3 x4 hf; exact absurd (show (none : Option (Int32)) = some RR from hf) (by simp)
  | succ n ih => exact t_X6_onDay_5 X hP hr hlk ih
def f_X6_onDay (z : St) (x1 : Int32) (x2 : Int32) : Option (Int32) := l_X6_onDay_5 z x1 x2 (0 : Int32) (0 : Int32)
set_option maxHeartbeats 4000000 in
set_option maxRecDepth 100000 in
theorem t_X6_onDay {RR : Int32} (X : Cx p s m c cX6_onDay RX6 5 d) {z : St} (hP : va_P d.1 classes (wM d a z) s.heap) (hr : meth.sig.returnType = (some .int)) (hlk : meth.locks = false) : ∀ (x1 : Int32) (x2 : Int32), f_X6_onDay z x1 x2 = some RR → WRd p l e { frames := 1, cells := 0, slots := 0, locals := 21 } s m args below meth c RR 5 [(0, .ref (a 0)), (1, .int x1), (2, .int x2)] 0 [] := by
  intro x1 x2 hf ls hl
  obtain ⟨hx, hb, hml, hown, hE⟩ := id X
  unfold f_X6_onDay at hf
  refine lv_iconst (v := 0) hx hb dX6_onDay_0 (by decide) ?_
  refine lv_istore_n (lv' := [(3, .int (0 : Int32)), (0, .ref (a 0)), (1, .int x1), (2, .int x2)]) hx hb dX6_onDay_1 rfl hl (by decide) rfl (fun ls hl => ?_)
  refine lv_iconst (v := 0) hx hb dX6_onDay_2 (by decide) ?_
  refine lv_istore (lv' := [(4, .int (0 : Int32)), (3, .int (0 : Int32)), (0, .ref (a 0)), (1, .int x1), (2, .int x2)]) hx hb dX6_onDay_3 hl (by decide) rfl (fun ls hl => ?_)
  exact u_X6_onDay_5 X hP hr hlk x1 x2 (0 : Int32) (0 : Int32) hf ls (lv_sub hl [2, 3, 4, 1, 0] rfl)
set_option maxHeartbeats 4000000 in
set_option maxRecDepth 100000 in
theorem c_X6_onDay (l : Launch) (d : G3) (a : Nat → Nat) (z : St) (x1 : Int32) (x2 : Int32) {RR : Int32} (hf : f_X6_onDay z x1 x2 = some RR) : Met l yX6_onDay [Cond.code yX6_onDay cX6_onDay 5 (some .int)] { frames := 1, cells := 0, slots := 0, locals := 21 } (rpre wM d a z [.ref (a 0), .int x1, .int x2]) (QcRead RR) 0 0 (fun _ => False) := by
  refine Met.ofW (cc := cX6_onDay) (maxL := 5) (ret := (some .int)) (by decide) rfl ?_
  intro p e s m args below meth c s₁ B hml hv
  obtain ⟨rfl, hE, hP⟩ := hv
  have X : Cx p s m c cX6_onDay RX6 5 d := ⟨B.exec, B.bytes, hml, findClass_of_methodNamed B.named, hE⟩
  have hl := lv_entry ([.ref (a 0), .int x1, .int x2]) (n := 5) (Nat.le_of_ble_eq_true rfl)
  rw [lg_entry_eq]
  generalize (lg_sl ([.ref (a 0), .int x1, .int x2]) ++ List.replicate (5 - (lg_sl ([.ref (a 0), .int x1, .int x2])).length) Slot.unset).toArray = ls at hl ⊢
  have hl : lv_has ls 5 [(0, .ref (a 0)), (1, .int x1), (2, .int x2)] := hl
  exact t_X6_onDay X hP B.returns B.notSynchronized x1 x2 hf ls hl
def f_X6_hoursOf_4 (z : St) (k4 : Int32 → Int32 → Int32 → Option (Int32)) (x1 : Int32) (x2 : Int32) (x3 : Int32) : Option (Int32) := (if (z.1 0) ≤ x3 then some x2 else (f_X6_has z x1 x3).bind (fun r_1 => (if r_1 = (0 : Int32) then k4 x1 x2 (x3 + (1 : Int32)) else ck 9 x3 (k4 x1 (x2 + (z.2 2 x3.toNatClampNeg)) (x3 + (1 : Int32))))))
def l_X6_hoursOf_4 (z : St) : Int32 → Int32 → Int32 → Option (Int32) := iter (fun _ _ _ => none) (f_X6_hoursOf_4 z) FU
set_option maxHeartbeats 4000000 in
set_option maxRecDepth 100000 in
theorem t_X6_hoursOf_4 {RR : Int32} (X : Cx p s m c cX6_hoursOf RX6 4 d) {z : St} (hP : va_P d.1 classes (wM d a z) s.heap) (hr : meth.sig.returnType = (some .int)) (hlk : meth.locks = false) {k4 : Int32 → Int32 → Int32 → Option (Int32)} (hk4 : ∀ (x1 : Int32) (x2 : Int32) (x3 : Int32), k4 x1 x2 x3 = some RR → WRd p l e { frames := 1, cells := 0, slots := 0, locals := 21 } s m args below meth c RR 4 [(0, .ref (a 0)), (1, .int x1), (2, .int x2), (3, .int x3)] 4 []) : ∀ (x1 : Int32) (x2 : Int32) (x3 : Int32), f_X6_hoursOf_4 z k4 x1 x2 x3 = some RR → WRd p l e { frames := 1, cells := 0, slots := 0, locals := 21 } s m args below meth c RR 4 [(0, .ref (a 0)), (1, .int x1), (2, .int x2), (3, .int x3)] 4 [] := by
  intro x1 x2 x3 hf ls hl
  obtain ⟨hx, hb, hml, hown, hE⟩ := id X
  unfold f_X6_hoursOf_4 at hf
  refine lv_iload_n hx hb dX6_hoursOf_4 rfl (lv_at hl 3 rfl) ?_
  refine lv_aload_n hx hb dX6_hoursOf_5 rfl (lv_at hl 0 rfl) ?_
  refine gf_6_84 hx hb hE hown hP dX6_hoursOf_6 ?_
  refine lv_icmp_ge (tgt := 35) hx hb dX6_hoursOf_9 (by decide) (fun q => ?_) (fun q => ?_)
  · have hf := (if_pos q).symm.trans hf
    refine lv_iload_n hx hb dX6_hoursOf_35 rfl (lv_at hl 2 rfl) ?_
    obtain rfl := Option.some.inj hf
    exact W.iret hx hb hr (fun t ht _ => ⟨rfl, ht⟩) (fun _ h => nomatch h) dX6_hoursOf_36 hlk
  · have hf := (if_neg q).symm.trans hf
    refine lv_iload_n hx hb dX6_hoursOf_12 rfl (lv_at hl 1 rfl) ?_
    refine lv_iload_n hx hb dX6_hoursOf_13 rfl (lv_at hl 3 rfl) ?_
    obtain ⟨r_1, hc, hf⟩ := bnd hf
    refine rdS X (c_X6_has l d a z x1 x3 hc) (k_X6_87 hE rfl rfl ⟨Nat.le_of_ble_eq_true rfl, Nat.le_of_ble_eq_true rfl⟩) hP rfl hl.1 rfl (Nat.le_of_ble_eq_true rfl) dX6_hoursOf_14 ?_
    refine lv_if_eq (tgt := 29) hx hb dX6_hoursOf_17 (by decide) (fun q => ?_) (fun q => ?_)
    · have hf := (if_pos q).symm.trans hf
      refine lv_iinc (v := (x3 + (1 : Int32))) (lv' := [(3, .int (x3 + (1 : Int32))), (0, .ref (a 0)), (1, .int x1), (2, .int x2)]) hx hb dX6_hoursOf_29 hl (k := 3) rfl rfl (by decide) rfl (fun ls hl => ?_)
      refine lv_goto (tgt := 4) hx hb dX6_hoursOf_32 (by decide) ?_
      exact hk4 x1 x2 (x3 + (1 : Int32)) hf ls (lv_sub hl [1, 2, 3, 0] rfl)
    · have hf := (if_neg q).symm.trans hf
      refine lv_iload_n hx hb dX6_hoursOf_20 rfl (lv_at hl 2 rfl) ?_
      refine lv_aload_n hx hb dX6_hoursOf_21 rfl (lv_at hl 0 rfl) ?_
      refine gf_6_16 hx hb hE hown hP dX6_hoursOf_22 ?_
      refine lv_iload_n hx hb dX6_hoursOf_25 rfl (lv_at hl 3 rfl) ?_
      obtain ⟨hi, hf⟩ := ck_some hf
      refine ld_M_3 hx hb hE hP hi dX6_hoursOf_26 ?_
      refine lv_iadd hx hb dX6_hoursOf_27 ?_
      refine lv_istore_n (lv' := [(2, .int (x2 + (z.2 2 x3.toNatClampNeg))), (0, .ref (a 0)), (1, .int x1), (3, .int x3)]) hx hb dX6_hoursOf_28 rfl hl (by decide) rfl (fun ls hl => ?_)
      refine lv_iinc (v := (x3 + (1 : Int32))) (lv' := [(3, .int (x3 + (1 : Int32))), (2, .int (x2 + (z.2 2 x3.toNatClampNeg))), (0, .ref (a 0)), (1, .int x1)]) hx hb dX6_hoursOf_29 hl (k := 3) rfl rfl (by decide) rfl (fun ls hl => ?_)
      refine lv_goto (tgt := 4) hx hb dX6_hoursOf_32 (by decide) ?_
      exact hk4 x1 (x2 + (z.2 2 x3.toNatClampNeg)) (x3 + (1 : Int32)) hf ls (lv_sub hl [2, 3, 1, 0] rfl)
theorem u_X6_hoursOf_4 {RR : Int32} (X : Cx p s m c cX6_hoursOf RX6 4 d) {z : St} (hP : va_P d.1 classes (wM d a z) s.heap) (hr : meth.sig.returnType = (some .int)) (hlk : meth.locks = false) : ∀ (x1 : Int32) (x2 : Int32) (x3 : Int32), l_X6_hoursOf_4 z x1 x2 x3 = some RR → WRd p l e { frames := 1, cells := 0, slots := 0, locals := 21 } s m args below meth c RR 4 [(0, .ref (a 0)), (1, .int x1), (2, .int x2), (3, .int x3)] 4 [] := by
  unfold l_X6_hoursOf_4
  generalize FU = n
  induction n with
  | zero => intro x1 x2 x3 hf; exact absurd (show (none : Option (Int32)) = some RR from hf) (by simp)
  | succ n ih => exact t_X6_hoursOf_4 X hP hr hlk ih
def f_X6_hoursOf (z : St) (x1 : Int32) : Option (Int32) := l_X6_hoursOf_4 z x1 (0 : Int32) (0 : Int32)
set_option maxHeartbeats 4000000 in
set_option maxRecDepth 100000 in
theorem t_X6_hoursOf {RR : Int32} (X : Cx p s m c cX6_hoursOf RX6 4 d) {z : St} (hP : va_P d.1 classes (wM d a z) s.heap) (hr : meth.sig.returnType = (some .int)) (hlk : meth.locks = false) : ∀ (x1 : Int32), f_X6_hoursOf z x1 = some RR → WRd p l e { frames := 1, cells := 0, slots := 0, locals := 21 } s m args below meth c RR 4 [(0, .ref (a 0)), (1, .int x1)] 0 [] := by
  intro x1 hf ls hl
  obtain ⟨hx, hb, hml, hown, hE⟩ := id X
  unfold f_X6_hoursOf at hf
  refine lv_iconst (v := 0) hx hb dX6_hoursOf_0 (by decide) ?_
  refine lv_istore_n (lv' := [(2, .int (0 : Int32)), (0, .ref (a 0)), (1, .int x1)]) hx hb dX6_hoursOf_1 rfl hl (by decide) rfl (fun ls hl => ?_)
  refine lv_iconst (v := 0) hx hb dX6_hoursOf_2 (by decide) ?_
  refine lv_istore_n (lv' := [(3, .int (0 : Int32)), (2, .int (0 : Int32)), (0, .ref (a 0)), (1, .int x1)]) hx hb dX6_hoursOf_3 rfl hl (by decide) rfl (fun ls hl => ?_)
  exact u_X6_hoursOf_4 X hP hr hlk x1 (0 : Int32) (0 : Int32) hf ls (lv_sub hl [2, 3, 1, 0] rfl)
set_option maxHeartbeats 4000000 in
set_option maxRecDepth 100000 in
theorem c_X6_hoursOf (l : Launch) (d : G3) (a : Nat → Nat) (z : St) (x1 : Int32) {RR : Int32} (hf : f_X6_hoursOf z x1 = some RR) : Met l yX6_hoursOf [Cond.code yX6_hoursOf cX6_hoursOf 4 (some .int)] { frames := 1, cells := 0, slots := 0, locals := 21 } (rpre wM d a z [.ref (a 0), .int x1]) (QcRead RR) 0 0 (fun _ => False) := by
  refine Met.ofW (cc := cX6_hoursOf) (maxL := 4) (ret := (some .int)) (by decide) rfl ?_
  intro p e s m args below meth c s₁ B hml hv
  obtain ⟨rfl, hE, hP⟩ := hv
  have X : Cx p s m c cX6_hoursOf RX6 4 d := ⟨B.exec, B.bytes, hml, findClass_of_methodNamed B.named, hE⟩
  have hl := lv_entry ([.ref (a 0), .int x1]) (n := 4) (Nat.le_of_ble_eq_true rfl)
  rw [lg_entry_eq]
  generalize (lg_sl ([.ref (a 0), .int x1]) ++ List.replicate (4 - (lg_sl ([.ref (a 0), .int x1])).length) Slot.unset).toArray = ls at hl ⊢
  have hl : lv_has ls 4 [(0, .ref (a 0)), (1, .int x1)] := hl
  exact t_X6_hoursOf X hP B.returns B.notSynchronized x1 hf ls hl
def f_X6_restOf_37 (z : St) (x2 : Int32) (s0 : Int32) : Option (Int32) := (if x2 ≤ s0 then some s0 else some x2)
set_option maxHeartbeats 4000000 in
set_option maxRecDepth 100000 in
theorem t_X6_restOf_37 {RR : Int32} (X : Cx p s m c cX6_restOf RX6 4 d) {z : St} (hP : va_P d.1 classes (wM d a z) s.heap) (hr : meth.sig.returnType = (some .int)) (hlk : meth.locks = false) : ∀ (x2 : Int32) (s0 : Int32), f_X6_restOf_37 z x2 s0 = some RR → WRd p l e { frames := 0, cells := 0, slots := 0, locals := 0 } s m args below meth c RR 4 [(2, .int x2)] 37 [.int s0] := by
  intro x2 s0 hf ls hl
  obtain ⟨hx, hb, hml, hown, hE⟩ := id X
  unfold f_X6_restOf_37 at hf
  refine lv_istore_n (lv' := [(3, .int s0), (2, .int x2)]) hx hb dX6_restOf_37 rfl hl (by decide) rfl (fun ls hl => ?_)
  refine lv_iload_n hx hb dX6_restOf_38 rfl (lv_at hl 1 rfl) ?_
  refine lv_iload_n hx hb dX6_restOf_39 rfl (lv_at hl 0 rfl) ?_
  refine lv_icmp_le (tgt := 47) hx hb dX6_restOf_40 (by decide) (fun q => ?_) (fun q => ?_)
  · have hf := (if_pos q).symm.trans hf
    refine lv_iload_n hx hb dX6_restOf_47 rfl (lv_at hl 0 rfl) ?_
    obtain rfl := Option.some.inj hf
    exact W.iret hx hb hr (fun t ht _ => ⟨rfl, ht⟩) (fun _ h => nomatch h) dX6_restOf_48 hlk
  · have hf := (if_neg q).symm.trans hf
    refine lv_iload_n hx hb dX6_restOf_43 rfl (lv_at hl 1 rfl) ?_
    refine lv_goto (tgt := 48) hx hb dX6_restOf_44 (by decide) ?_
    obtain rfl := Option.some.inj hf
    exact W.iret hx hb hr (fun t ht _ => ⟨rfl, ht⟩) (fun _ h => nomatch h) dX6_restOf_48 hlk
def f_X6_restOf_18 (z : St) (x1 : Int32) (s0 : Int32) : Option (Int32) := ck 9 x1 ((if (z.2 1 x1.toNatClampNeg) ≤ (1 : Int32) then f_X6_restOf_37 z s0 (0 : Int32) else f_X6_restOf_37 z s0 (z.1 3)))
set_option maxHeartbeats 4000000 in
set_option maxRecDepth 100000 in
theorem t_X6_restOf_18 {RR : Int32} (X : Cx p s m c cX6_restOf RX6 4 d) {z : St} (hP : va_P d.1 classes (wM d a z) s.heap) (hr : meth.sig.returnType = (some .int)) (hlk : meth.locks = false) : ∀ (x1 : Int32) (s0 : Int32), f_X6_restOf_18 z x1 s0 = some RR → WRd p l e { frames := 0, cells := 0, slots := 0, locals := 0 } s m args below meth c RR 4 [(0, .ref (a 0)), (1, .int x1)] 18 [.int s0] := by
  intro x1 s0 hf ls hl
  obtain ⟨hx, hb, hml, hown, hE⟩ := id X
  unfold f_X6_restOf_18 at hf
  refine lv_istore_n (lv' := [(2, .int s0), (0, .ref (a 0)), (1, .int x1)]) hx hb dX6_restOf_18 rfl hl (by decide) rfl (fun ls hl => ?_)
  refine lv_aload_n hx hb dX6_restOf_19 rfl (lv_at hl 1 rfl) ?_
  refine gf_6_13 hx hb hE hown hP dX6_restOf_20 ?_
  refine lv_iload_n hx hb dX6_restOf_23 rfl (lv_at hl 2 rfl) ?_
  obtain ⟨hi, hf⟩ := ck_some hf
  refine ld_M_2 hx hb hE hP hi dX6_restOf_24 ?_
  refine lv_iconst (v := 1) hx hb dX6_restOf_25 (by decide) ?_
  refine lv_icmp_le (tgt := 36) hx hb dX6_restOf_26 (by decide) (fun q => ?_) (fun q => ?_)
  · have hf := (if_pos q).symm.trans hf
    refine lv_iconst (v := 0) hx hb dX6_restOf_36 (by decide) ?_
    exact t_X6_restOf_37 X hP hr hlk s0 (0 : Int32) hf ls (lv_sub hl [0] rfl)
  · have hf := (if_neg q).symm.trans hf
    refine lv_aload_n hx hb dX6_restOf_29 rfl (lv_at hl 1 rfl) ?_
    refine gf_6_44 hx hb hE hown hP dX6_restOf_30 ?_
    refine lv_goto (tgt := 37) hx hb dX6_restOf_33 (by decide) ?_
    exact t_X6_restOf_37 X hP hr hlk s0 (z.1 3) hf ls (lv_sub hl [0] rfl)
def f_X6_restOf (z : St) (x1 : Int32) : Option (Int32) := ck 9 x1 ((if (z.2 4 x1.toNatClampNeg) = (1 : Int32) then f_X6_restOf_18 z x1 (z.1 2) else f_X6_restOf_18 z x1 (0 : Int32)))
set_option maxHeartbeats 4000000 in
set_option maxRecDepth 100000 in
theorem t_X6_restOf {RR : Int32} (X : Cx p s m c cX6_restOf RX6 4 d) {z : St} (hP : va_P d.1 classes (wM d a z) s.heap) (hr : meth.sig.returnType = (some .int)) (hlk : meth.locks = false) : ∀ (x1 : Int32), f_X6_restOf z x1 = some RR → WRd p l e { frames := 0, cells := 0, slots := 0, locals := 0 } s m args below meth c RR 4 [(0, .ref (a 0)), (1, .int x1)] 0 [] := by
  intro x1 hf ls hl
  obtain ⟨hx, hb, hml, hown, hE⟩ := id X
  unfold f_X6_restOf at hf
  refine lv_aload_n hx hb dX6_restOf_0 rfl (lv_at hl 0 rfl) ?_
  refine gf_6_22 hx hb hE hown hP dX6_restOf_1 ?_
  refine lv_iload_n hx hb dX6_restOf_4 rfl (lv_at hl 1 rfl) ?_
  obtain ⟨hi, hf⟩ := ck_some hf
  refine ld_M_5 hx hb hE hP hi dX6_restOf_5 ?_
  refine lv_iconst (v := 1) hx hb dX6_restOf_6 (by decide) ?_
  refine lv_icmp_ne (tgt := 17) hx hb dX6_restOf_7 (by decide) (fun q => ?_) (fun q => ?_)
  · have hf := (if_neg q).symm.trans hf
    refine lv_iconst (v := 0) hx hb dX6_restOf_17 (by decide) ?_
    exact t_X6_restOf_18 X hP hr hlk x1 (0 : Int32) hf ls (lv_sub hl [0, 1] rfl)
  · have hf := (if_pos q).symm.trans hf
    refine lv_aload_n hx hb dX6_restOf_10 rfl (lv_at hl 0 rfl) ?_
    refine gf_6_40 hx hb hE hown hP dX6_restOf_11 ?_
    refine lv_goto (tgt := 18) hx hb dX6_restOf_14 (by decide) ?_
    exact t_X6_restOf_18 X hP hr hlk x1 (z.1 2) hf ls (lv_sub hl [0, 1] rfl)
set_option maxHeartbeats 4000000 in
set_option maxRecDepth 100000 in
theorem c_X6_restOf (l : Launch) (d : G3) (a : Nat → Nat) (z : St) (x1 : Int32) {RR : Int32} (hf : f_X6_restOf z x1 = some RR) : Met l yX6_restOf [Cond.code yX6_restOf cX6_restOf 4 (some .int)] { frames := 0, cells := 0, slots := 0, locals := 0 } (rpre wM d a z [.ref (a 0), .int x1]) (QcRead RR) 0 0 (fun _ => False) := by
  refine Met.ofW (cc := cX6_restOf) (maxL := 4) (ret := (some .int)) (by decide) rfl ?_
  intro p e s m args below meth c s₁ B hml hv
  obtain ⟨rfl, hE, hP⟩ := hv
  have X : Cx p s m c cX6_restOf RX6 4 d := ⟨B.exec, B.bytes, hml, findClass_of_methodNamed B.named, hE⟩
  have hl := lv_entry ([.ref (a 0), .int x1]) (n := 4) (Nat.le_of_ble_eq_true rfl)
  rw [lg_entry_eq]
  generalize (lg_sl ([.ref (a 0), .int x1]) ++ List.replicate (4 - (lg_sl ([.ref (a 0), .int x1])).length) Slot.unset).toArray = ls at hl ⊢
  have hl : lv_has ls 4 [(0, .ref (a 0)), (1, .int x1)] := hl
  exact t_X6_restOf X hP B.returns B.notSynchronized x1 hf ls hl
end GEN
