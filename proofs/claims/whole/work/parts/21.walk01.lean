section GEN
variable {p : Program} {l : Launch} {e : Env} {s : State} {m : MethodId} {args : Array Value} {below : List Frame} {meth : Method} {c : Code} {d : G3} {a : Nat → Nat}
def f_X4_breaksRow_25 (z : St) (k4 : Int32 → Int32 → Int32 → Option (Int32)) (x1 : Int32) (x3 : Int32) (s0 : Int32) : Option (Int32) := ck 4 (2 : Int32) ((if s0 ≤ (z.2 5 (2 : Int32).toNatClampNeg) then k4 x1 s0 (x3 + (1 : Int32)) else some (1 : Int32)))
set_option maxHeartbeats 4000000 in
set_option maxRecDepth 100000 in
theorem t_X4_breaksRow_25 {RR : Int32} (X : Cx p s m c cX4_breaksRow RX4 4 d) {z : St} (hP : va_P d.1 classes (wC d a z) s.heap) (hr : meth.sig.returnType = (some .boolean)) (hlk : meth.locks = false) {k4 : Int32 → Int32 → Int32 → Option (Int32)} (hk4 : ∀ (x1 : Int32) (x2 : Int32) (x3 : Int32), k4 x1 x2 x3 = some RR → WRd p l e { frames := 1, cells := 0, slots := 0, locals := 21 } s m args below meth c RR 4 [(0, .ref (a 7)), (1, .int x1), (2, .int x2), (3, .int x3)] 4 []) : ∀ (x1 : Int32) (x3 : Int32) (s0 : Int32), f_X4_breaksRow_25 z k4 x1 x3 s0 = some RR → WRd p l e { frames := 1, cells := 0, slots := 0, locals := 21 } s m args below meth c RR 4 [(0, .ref (a 7)), (1, .int x1), (3, .int x3)] 25 [.int s0] := by
  intro x1 x3 s0 hf ls hl
  obtain ⟨hx, hb, hml, hown, hE⟩ := id X
  unfold f_X4_breaksRow_25 at hf
  refine lv_istore_n (lv' := [(2, .int s0), (0, .ref (a 7)), (1, .int x1), (3, .int x3)]) hx hb dX4_breaksRow_25 rfl hl (by decide) rfl (fun ls hl => ?_)
  refine lv_iload_n hx hb dX4_breaksRow_26 rfl (lv_at hl 0 rfl) ?_
  refine lv_aload_n hx hb dX4_breaksRow_27 rfl (lv_at hl 1 rfl) ?_
  refine gf_4_18 hx hb hE hown hP dX4_breaksRow_28 ?_
  refine lv_iconst (v := 2) hx hb dX4_breaksRow_31 (by decide) ?_
  obtain ⟨hi, hf⟩ := ck_some hf
  refine ld_C_8 hx hb hE hP hi dX4_breaksRow_32 ?_
  refine lv_icmp_le (tgt := 38) hx hb dX4_breaksRow_33 (by decide) (fun q => ?_) (fun q => ?_)
  · have hf := (if_pos q).symm.trans hf
    refine lv_iinc (v := (x3 + (1 : Int32))) (lv' := [(3, .int (x3 + (1 : Int32))), (2, .int s0), (0, .ref (a 7)), (1, .int x1)]) hx hb dX4_breaksRow_38 hl (k := 3) rfl rfl (by decide) rfl (fun ls hl => ?_)
    refine lv_goto (tgt := 4) hx hb dX4_breaksRow_41 (by decide) ?_
    exact hk4 x1 s0 (x3 + (1 : Int32)) hf ls (lv_sub hl [2, 3, 1, 0] rfl)
  · have hf := (if_neg q).symm.trans hf
    refine lv_iconst (v := 1) hx hb dX4_breaksRow_36 (by decide) ?_
    obtain rfl := Option.some.inj hf
    exact W.zret hx hb hr rfl (fun t ht _ => ⟨rfl, ht⟩) (fun _ h => nomatch h) dX4_breaksRow_37 hlk
def f_X4_breaksRow_4 (z : St) (k4 : Int32 → Int32 → Int32 → Option (Int32)) (x1 : Int32) (x2 : Int32) (x3 : Int32) : Option (Int32) := (if (14 : Int32) ≤ x3 then some (0 : Int32) else (f_X5_isIn z x3 x1).bind (fun r_1 => (if r_1 = (0 : Int32) then f_X4_breaksRow_25 z k4 x1 x3 (0 : Int32) else f_X4_breaksRow_25 z k4 x1 x3 (x2 + (1 : Int32)))))
def l_X4_breaksRow_4 (z : St) : Int32 → Int32 → Int32 → Option (Int32) := iter (fun _ _ _ => none) (f_X4_breaksRow_4 z) FU
set_option maxHeartbeats 4000000 in
set_option maxRecDepth 100000 in
theorem t_X4_breaksRow_4 {RR : Int32} (X : Cx p s m c cX4_breaksRow RX4 4 d) {z : St} (hP : va_P d.1 classes (wC d a z) s.heap) (hr : meth.sig.returnType = (some .boolean)) (hlk : meth.locks = false) {k4 : Int32 → Int32 → Int32 → Option (Int32)} (hk4 : ∀ (x1 : Int32) (x2 : Int32) (x3 : Int32), k4 x1 x2 x3 = some RR → WRd p l e { frames := 1, cells := 0, slots := 0, locals := 21 } s m args below meth c RR 4 [(0, .ref (a 7)), (1, .int x1), (2, .int x2), (3, .int x3)] 4 []) : ∀ (x1 : Int32) (x2 : Int32) (x3 : Int32), f_X4_breaksRow_4 z k4 x1 x2 x3 = some RR → WRd p l e { frames := 1, cells := 0, slots := 0, locals := 21 } s m args below meth c RR 4 [(0, .ref (a 7)), (1, .int x1), (2, .int x2), (3, .int x3)] 4 [] := by
  intro x1 x2 x3 hf ls hl
  obtain ⟨hx, hb, hml, hown, hE⟩ := id X
  unfold f_X4_breaksRow_4 at hf
  refine lv_iload_n hx hb dX4_breaksRow_4 rfl (lv_at hl 3 rfl) ?_
  refine lv_bipush (v := 14) hx hb dX4_breaksRow_5 (by decide) ?_
  refine lv_icmp_ge (tgt := 44) hx hb dX4_breaksRow_7 (by decide) (fun q => ?_) (fun q => ?_)
  · have hf := (if_pos q).symm.trans hf
    refine lv_iconst (v := 0) hx hb dX4_breaksRow_44 (by decide) ?_
    obtain rfl := Option.some.inj hf
    exact W.zret hx hb hr rfl (fun t ht _ => ⟨rfl, ht⟩) (fun _ h => nomatch h) dX4_breaksRow_45 hlk
  · have hf := (if_neg q).symm.trans hf
    refine lv_iload_n hx hb dX4_breaksRow_10 rfl (lv_at hl 3 rfl) ?_
    refine lv_iload_n hx hb dX4_breaksRow_11 rfl (lv_at hl 1 rfl) ?_
    obtain ⟨r_1, hc, hf⟩ := bnd hf
    refine rdSN X (c_X5_isIn l d a z x3 x1 hc) (k_X4_48 hE rfl rfl ⟨Nat.le_of_ble_eq_true rfl, Nat.le_of_ble_eq_true rfl⟩) hP rfl hl.1 rfl (Nat.le_of_ble_eq_true rfl) dX4_breaksRow_12 ?_
    refine lv_if_eq (tgt := 24) hx hb dX4_breaksRow_15 (by decide) (fun q => ?_) (fun q => ?_)
    · have hf := (if_pos q).symm.trans hf
      refine lv_iconst (v := 0) hx hb dX4_breaksRow_24 (by decide) ?_
      exact t_X4_breaksRow_25 X hP hr hlk hk4 x1 x3 (0 : Int32) hf ls (lv_sub hl [0, 1, 3] rfl)
    · have hf := (if_neg q).symm.trans hf
      refine lv_iload_n hx hb dX4_breaksRow_18 rfl (lv_at hl 2 rfl) ?_
      refine lv_iconst (v := 1) hx hb dX4_breaksRow_19 (by decide) ?_
      refine lv_iadd hx hb dX4_breaksRow_20 ?_
      refine lv_goto (tgt := 25) hx hb dX4_breaksRow_21 (by decide) ?_
      exact t_X4_breaksRow_25 X hP hr hlk hk4 x1 x3 (x2 + (1 : Int32)) hf ls (lv_sub hl [0, 1, 3] rfl)
theorem u_X4_breaksRow_4 {RR : Int32} (X : Cx p s m c cX4_breaksRow RX4 4 d) {z : St} (hP : va_P d.1 classes (wC d a z) s.heap) (hr : meth.sig.returnType = (some .boolean)) (hlk : meth.locks = false) : ∀ (x1 : Int32) (x2 : Int32) (x3 : Int32), l_X4_breaksRow_4 z x1 x2 x3 = some RR → WRd p l e { frames := 1, cells := 0, slots := 0, locals := 21 } s m args below meth c RR 4 [(0, .ref (a 7)), (1, .int x1), (2, .int x2), (3, .int x3)] 4 [] := by
  unfold l_X4_breaksRow_4
  generalize FU = n
  induction n with
  | zero => intro x1 x2 x3 hf; exact absurd (show (none : Option (Int32)) = some RR from hf) (by simp)
  | succ n ih => exact t_X4_breaksRow_4 X hP hr hlk ih
def f_X4_breaksRow (z : St) (x1 : Int32) : Option (Int32) := l_X4_breaksRow_4 z x1 (0 : Int32) (0 : Int32)
set_option maxHeartbeats 4000000 in
set_option maxRecDepth 100000 in
theorem t_X4_breaksRow {RR : Int32} (X : Cx p s m c cX4_breaksRow RX4 4 d) {z : St} (hP : va_P d.1 classes (wC d a z) s.heap) (hr : meth.sig.returnType = (some .boolean)) (hlk : meth.locks = false) : ∀ (x1 : Int32), f_X4_breaksRow z x1 = some RR → WRd p l e { frames := 1, cells := 0, slots := 0, locals := 21 } s m args below meth c RR 4 [(0, .ref (a 7)), (1, .int x1)] 0 [] := by
  intro x1 hf ls hl
  obtain ⟨hx, hb, hml, hown, hE⟩ := id X
  unfold f_X4_breaksRow at hf
  refine lv_iconst (v := 0) hx hb dX4_breaksRow_0 (by decide) ?_
  refine lv_istore_n (lv' := [(2, .int (0 : Int32)), (0, .ref (a 7)), (1, .int x1)]) hx hb dX4_breaksRow_1 rfl hl (by decide) rfl (fun ls hl => ?_)
  refine lv_iconst (v := 0) hx hb dX4_breaksRow_2 (by decide) ?_
  refine lv_istore_n (lv' := [(3, .int (0 : Int32)), (2, .int (0 : Int32)), (0, .ref (a 7)), (1, .int x1)]) hx hb dX4_breaksRow_3 rfl hl (by decide) rfl (fun ls hl => ?_)
  exact u_X4_breaksRow_4 X hP hr hlk x1 (0 : Int32) (0 : Int32) hf ls (lv_sub hl [2, 3, 1, 0] rfl)
set_option maxHeartbeats 4000000 in
set_option maxRecDepth 100000 in
theorem c_X4_breaksRow (l : Launch) (d : G3) (a : Nat → Nat) (z : St) (x1 : Int32) {RR : Int32} (hf : f_X4_breaksRow z x1 = some RR) : Met l yX4_breaksRow [Cond.code yX4_breaksRow cX4_breaksRow 4 (some .boolean)] { frames := 1, cells := 0, slots := 0, locals := 21 } (rpre wC d a z [.ref (a 7), .int x1]) (QcRead RR) 0 0 (fun _ => False) := by
  refine Met.ofW (cc := cX4_breaksRow) (maxL := 4) (ret := (some .boolean)) (by decide) rfl ?_
  intro p e s m args below meth c s₁ B hml hv
  obtain ⟨rfl, hE, hP⟩ := hv
  have X : Cx p s m c cX4_breaksRow RX4 4 d := ⟨B.exec, B.bytes, hml, findClass_of_methodNamed B.named, hE⟩
  have hl := lv_entry ([.ref (a 7), .int x1]) (n := 4) (Nat.le_of_ble_eq_true rfl)
  rw [lg_entry_eq]
  generalize (lg_sl ([.ref (a 7), .int x1]) ++ List.replicate (4 - (lg_sl ([.ref (a 7), .int x1])).length) Slot.unset).toArray = ls at hl ⊢
  have hl : lv_has ls 4 [(0, .ref (a 7)), (1, .int x1)] := hl
  exact t_X4_breaksRow X hP B.returns B.notSynchronized x1 hf ls hl
def f_X1_beginning_5 (z : St) (k5 : Int32 → Int32 → Int32 → Int32 → Option (Int32)) (x1 : Int32) (x2 : Int32) (x3 : Int32) (x4 : Int32) : Option (Int32) := (if (z.1 3) ≤ x4 then some x3 else ck 9 x4 ((if (z.2 0 x4.toNatClampNeg) < x1 then k5 x1 x2 x3 (x4 + (1 : Int32)) else ck 9 x4 ((if x2 ≤ (z.2 0 x4.toNatClampNeg) then k5 x1 x2 x3 (x4 + (1 : Int32)) else k5 x1 x2 (x3 ||| ((1 : Int32) <<< (x4 &&& 31))) (x4 + (1 : Int32)))))))
def l_X1_beginning_5 (z : St) : Int32 → Int32 → Int32 → Int32 → Option (Int32) := iter (fun _ _ _ _ => none) (f_X1_beginning_5 z) FU
set_option maxHeartbeats 4000000 in
set_option maxRecDepth 100000 in
theorem t_X1_beginning_5 {RR : Int32} (X : Cx p s m c cX1_beginning RX1 5 d) {z : St} (hP : va_P d.1 classes (wC d a z) s.heap) (hr : meth.sig.returnType = (some .int)) (hlk : meth.locks = false) {k5 : Int32 → Int32 → Int32 → Int32 → Option (Int32)} (hk5 : ∀ (x1 : Int32) (x2 : Int32) (x3 : Int32) (x4 : Int32), k5 x1 x2 x3 x4 = some RR → WRd p l e { frames := 0, cells := 0, slots := 0, locals := 0 } s m args below meth c RR 5 [(0, .ref (a 1)), (1, .int x1), (2, .int x2), (3, .int x3), (4, .int x4)] 5 []) : ∀ (x1 : Int32) (x2 : Int32) (x3 : Int32) (x4 : Int32), f_X1_beginning_5 z k5 x1 x2 x3 x4 = some RR → WRd p l e { frames := 0, cells := 0, slots := 0, locals := 0 } s m args below meth c RR 5 [(0, .ref (a 1)), (1, .int x1), (2, .int x2), (3, .int x3), (4, .int x4)] 5 [] := by
  intro x1 x2 x3 x4 hf ls hl
  obtain ⟨hx, hb, hml, hown, hE⟩ := id X
  unfold f_X1_beginning_5 at hf
  refine lv_iload hx hb dX1_beginning_5 (lv_at hl 4 rfl) ?_
  refine lv_aload_n hx hb dX1_beginning_7 rfl (lv_at hl 0 rfl) ?_
  refine gf_1_27 hx hb hE hown hP dX1_beginning_8 ?_
  refine lv_icmp_ge (tgt := 49) hx hb dX1_beginning_11 (by decide) (fun q => ?_) (fun q => ?_)
  · have hf := (if_pos q).symm.trans hf
    refine lv_iload_n hx hb dX1_beginning_49 rfl (lv_at hl 3 rfl) ?_
    obtain rfl := Option.some.inj hf
    exact W.iret hx hb hr (fun t ht _ => ⟨rfl, ht⟩) (fun _ h => nomatch h) dX1_beginning_50 hlk
  · have hf := (if_neg q).symm.trans hf
    refine lv_aload_n hx hb dX1_beginning_14 rfl (lv_at hl 0 rfl) ?_
    refine gf_1_9 hx hb hE hown hP dX1_beginning_15 ?_
    refine lv_iload hx hb dX1_beginning_18 (lv_at hl 4 rfl) ?_
    obtain ⟨hi, hf⟩ := ck_some hf
    refine ld_C_2 hx hb hE hP hi dX1_beginning_20 ?_
    refine lv_iload_n hx hb dX1_beginning_21 rfl (lv_at hl 1 rfl) ?_
    refine lv_icmp_lt (tgt := 43) hx hb dX1_beginning_22 (by decide) (fun q => ?_) (fun q => ?_)
    · have hf := (if_pos q).symm.trans hf
      refine lv_iinc (v := (x4 + (1 : Int32))) (lv' := [(4, .int (x4 + (1 : Int32))), (0, .ref (a 1)), (1, .int x1), (2, .int x2), (3, .int x3)]) hx hb dX1_beginning_43 hl (k := 4) rfl rfl (by decide) rfl (fun ls hl => ?_)
      refine lv_goto (tgt := 5) hx hb dX1_beginning_46 (by decide) ?_
      exact hk5 x1 x2 x3 (x4 + (1 : Int32)) hf ls (lv_sub hl [1, 2, 3, 4, 0] rfl)
    · have hf := (if_neg q).symm.trans hf
      refine lv_aload_n hx hb dX1_beginning_25 rfl (lv_at hl 0 rfl) ?_
      refine gf_1_9 hx hb hE hown hP dX1_beginning_26 ?_
      refine lv_iload hx hb dX1_beginning_29 (lv_at hl 4 rfl) ?_
      obtain ⟨hi, hf⟩ := ck_some hf
      refine ld_C_2 hx hb hE hP hi dX1_beginning_31 ?_
      refine lv_iload_n hx hb dX1_beginning_32 rfl (lv_at hl 2 rfl) ?_
      refine lv_icmp_ge (tgt := 43) hx hb dX1_beginning_33 (by decide) (fun q => ?_) (fun q => ?_)
      · have hf := (if_pos q).symm.trans hf
        refine lv_iinc (v := (x4 + (1 : Int32))) (lv' := [(4, .int (x4 + (1 : Int32))), (0, .ref (a 1)), (1, .int x1), (2, .int x2), (3, .int x3)]) hx hb dX1_beginning_43 hl (k := 4) rfl rfl (by decide) rfl (fun ls hl => ?_)
        refine lv_goto (tgt := 5) hx hb dX1_beginning_46 (by decide) ?_
        exact hk5 x1 x2 x3 (x4 + (1 : Int32)) hf ls (lv_sub hl [1, 2, 3, 4, 0] rfl)
      · have hf := (if_neg q).symm.trans hf
        refine lv_iload_n hx hb dX1_beginning_36 rfl (lv_at hl 3 rfl) ?_
        refine lv_iconst (v := 1) hx hb dX1_beginning_37 (by decide) ?_
        refine lv_iload hx hb dX1_beginning_38 (lv_at hl 4 rfl) ?_
        refine lv_ishl hx hb dX1_beginning_40 ?_
        refine lv_ior hx hb dX1_beginning_41 ?_
        refine lv_istore_n (lv' := [(3, .int (x3 ||| ((1 : Int32) <<< (x4 &&& 31)))), (0, .ref (a 1)), (1, .int x1), (2, .int x2), (4, .int x4)]) hx hb dX1_beginning_42 rfl hl (by decide) rfl (fun ls hl => ?_)
        refine lv_iinc (v := (x4 + (1 : Int32))) (lv' := [(4, .int (x4 + (1 : Int32))), (3, .int (x3 ||| ((1 : Int32) <<< (x4 &&& 31)))), (0, .ref (a 1)), (1, .int x1), (2, .int x2)]) hx hb dX1_beginning_43 hl (k := 4) rfl rfl (by decide) rfl (fun ls hl => ?_)
        refine lv_goto (tgt := 5) hx hb dX1_beginning_46 (by decide) ?_
        exact hk5 x1 x2 (x3 ||| ((1 : Int32) <<< (x4 &&& 31))) (x4 + (1 : Int32)) hf ls (lv_sub hl [2, 3, 4, 1, 0] rfl)
theorem u_X1_beginning_5 {RR : Int32} (X : Cx p s m c cX1_beginning RX1 5 d) {z : St} (hP : va_P d.1 classes (wC d a z) s.heap) (hr : meth.sig.returnType = (some .int)) (hlk : meth.locks = false) : ∀ (x1 : Int32) (x2 : Int32) (x3 : Int32) (x4 : Int32), l_X1_beginning_5 z x1 x2 x3 x4 = some RR → WRd p l e { frames := 0, cells := 0, slots := 0, locals := 0 } s m args below meth c RR 5 [(0, .ref (a 1)), (1, .int x1), (2, .int x2), (3, .int x3), (4, .int x4)] 5 [] := by
  unfold l_X1_beginning_5
  generalize FU = n
  induction n with
  | zero => intro x1 x2 x3 x4 hf; exact absurd (show (none : Option (Int32)) = some RR from hf) (by simp)
  | succ n ih => exact t_X1_beginning_5 X hP hr hlk ih
def f_X1_beginning (z : St) (x1 : Int32) (x2 : Int32) : Option (Int32) := l_X1_beginning_5 z x1 x2 (0 : Int32) (0 : Int32)
set_option maxHeartbeats 4000000 in
set_option maxRecDepth 100000 in
theorem t_X1_beginning {RR : Int32} (X : Cx p s m c cX1_beginning RX1 5 d) {z : St} (hP : va_P d.1 classes (wC d a z) s.heap) (hr : meth.sig.returnType = (some .int)) (hlk : meth.locks = false) : ∀ (x1 : Int32) (x2 : Int32), f_X1_beginning z x1 x2 = some RR → WRd p l e { frames := 0, cells := 0, slots := 0, locals := 0 } s m args below meth c RR 5 [(0, .ref (a 1)), (1, .int x1), (2, .int x2)] 0 [] := by
  intro x1 x2 hf ls hl
  obtain ⟨hx, hb, hml, hown, hE⟩ := id X
  unfold f_X1_beginning at hf
  refine lv_iconst (v := 0) hx hb dX1_beginning_0 (by decide) ?_
  refine lv_istore_n (lv' := [(3, .int (0 : Int32)), (0, .ref (a 1)), (1, .int x1), (2, .int x2)]) hx hb dX1_beginning_1 rfl hl (by decide) rfl (fun ls hl => ?_)
  refine lv_iconst (v := 0) hx hb dX1_beginning_2 (by decide) ?_
  refine lv_istore (lv' := [(4, .int (0 : Int32)), (3, .int (0 : Int32)), (0, .ref (a 1)), (1, .int x1), (2, .int x2)]) hx hb dX1_beginning_3 hl (by decide) rfl (fun ls hl => ?_)
  exact u_X1_beginning_5 X hP hr hlk x1 x2 (0 : Int32) (0 : Int32) hf ls (lv_sub hl [2, 3, 4, 1, 0] rfl)
set_option maxHeartbeats 4000000 in
set_option maxRecDepth 100000 in
theorem c_X1_beginning (l : Launch) (d : G3) (a : Nat → Nat) (z : St) (x1 : Int32) (x2 : Int32) {RR : Int32} (hf : f_X1_beginning z x1 x2 = some RR) : Met l yX1_beginning [Cond.code yX1_beginning cX1_beginning 5 (some .int)] { frames := 0, cells := 0, slots := 0, locals := 0 } (rpre wC d a z [.ref (a 1), .int x1, .int x2]) (QcRead RR) 0 0 (fun _ => False) := by
  refine Met.ofW (cc := cX1_beginning) (maxL := 5) (ret := (some .int)) (by decide) rfl ?_
  intro p e s m args below meth c s₁ B hml hv
  obtain ⟨rfl, hE, hP⟩ := hv
  have X : Cx p s m c cX1_beginning RX1 5 d := ⟨B.exec, B.bytes, hml, findClass_of_methodNamed B.named, hE⟩
  have hl := lv_entry ([.ref (a 1), .int x1, .int x2]) (n := 5) (Nat.le_of_ble_eq_true rfl)
  rw [lg_entry_eq]
  generalize (lg_sl ([.ref (a 1), .int x1, .int x2]) ++ List.replicate (5 - (lg_sl ([.ref (a 1), .int x1, .int x2])).length) Slot.unset).toArray = ls at hl ⊢
  have hl : lv_has ls 5 [(0, .ref (a 1)), (1, .int x1), (2, .int x2)] := hl
  exact t_X1_beginning X hP B.returns B.notSynchronized x1 x2 hf ls hl
def f_X1_hoursOf_4 (z : St) (k4 : Int32 → Int32 → Int32 → Option (Int32)) (x1 : Int32) (x2 : Int32) (x3 : Int32) : Option (Int32) := (if (z.1 3) ≤ x3 then some x2 else (f_X5_isIn z x3 x1).bind (fun r_1 => (if r_1 = (0 : Int32) then k4 x1 x2 (x3 + (1 : Int32)) else ck 9 x3 (k4 x1 (x2 + (z.2 3 x3.toNatClampNeg)) (x3 + (1 : Int32))))))
def l_X1_hoursOf_4 (z : St) : Int32 → Int32 → Int32 → Option (Int32) := iter (fun _ _ _ => none) (f_X1_hoursOf_4 z) FU
set_option maxHeartbeats 4000000 in
set_option maxRecDepth 100000 in
theorem t_X1_hoursOf_4 {RR : Int32} (X : Cx p s m c cX1_hoursOf RX1 4 d) {z : St} (hP : va_P d.1 classes (wC d a z) s.heap) (hr : meth.sig.returnType = (some .int)) (hlk : meth.locks = false) {k4 : Int32 → Int32 → Int32 → Option (Int32)} (hk4 : ∀ (x1 : Int32) (x2 : Int32) (x3 : Int32), k4 x1 x2 x3 = some RR → WRd p l e { frames := 1, cells := 0, slots := 0, locals := 21 } s m args below meth c RR 4 [(0, .ref (a 1)), (1, .int x1), (2, .int x2), (3, .int x3)] 4 []) : ∀ (x1 : Int32) (x2 : Int32) (x3 : Int32), f_X1_hoursOf_4 z k4 x1 x2 x3 = some RR → WRd p l e { frames := 1, cells := 0, slots := 0, locals := 21 } s m args below meth c RR 4 [(0, .ref (a 1)), (1, .int x1), (2, .int x2), (3, .int x3)] 4 [] := by
  intro x1 x2 x3 hf ls hl
  obtain ⟨hx, hb, hml, hown, hE⟩ := id X
  unfold f_X1_hoursOf_4 at hf
  refine lv_iload_n hx hb dX1_hoursOf_4 rfl (lv_at hl 3 rfl) ?_
  refine lv_aload_n hx hb dX1_hoursOf_5 rfl (lv_at hl 0 rfl) ?_
  refine gf_1_27 hx hb hE hown hP dX1_hoursOf_6 ?_
  refine lv_icmp_ge (tgt := 35) hx hb dX1_hoursOf_9 (by decide) (fun q => ?_) (fun q => ?_)
  · have hf := (if_pos q).symm.trans hf
    refine lv_iload_n hx hb dX1_hoursOf_35 rfl (lv_at hl 2 rfl) ?_
    obtain rfl := Option.some.inj hf
    exact W.iret hx hb hr (fun t ht _ => ⟨rfl, ht⟩) (fun _ h => nomatch h) dX1_hoursOf_36 hlk
  · have hf := (if_neg q).symm.trans hf
    refine lv_iload_n hx hb dX1_hoursOf_12 rfl (lv_at hl 3 rfl) ?_
    refine lv_iload_n hx hb dX1_hoursOf_13 rfl (lv_at hl 1 rfl) ?_
    obtain ⟨r_1, hc, hf⟩ := bnd hf
    refine rdSN X (c_X5_isIn l d a z x3 x1 hc) (k_X1_42 hE rfl rfl ⟨Nat.le_of_ble_eq_true rfl, Nat.le_of_ble_eq_true rfl⟩) hP rfl hl.1 rfl (Nat.le_of_ble_eq_true rfl) dX1_hoursOf_14 ?_
    refine lv_if_eq (tgt := 29) hx hb dX1_hoursOf_17 (by decide) (fun q => ?_) (fun q => ?_)
    · have hf := (if_pos q).symm.trans hf
      refine lv_iinc (v := (x3 + (1 : Int32))) (lv' := [(3, .int (x3 + (1 : Int32))), (0, .ref (a 1)), (1, .int x1), (2, .int x2)]) hx hb dX1_hoursOf_29 hl (k := 3) rfl rfl (by decide) rfl (fun ls hl => ?_)
      refine lv_goto (tgt := 4) hx hb dX1_hoursOf_32 (by decide) ?_
      exact hk4 x1 x2 (x3 + (1 : Int32)) hf ls (lv_sub hl [1, 2, 3, 0] rfl)
    · have hf := (if_neg q).symm.trans hf
      refine lv_iload_n hx hb dX1_hoursOf_20 rfl (lv_at hl 2 rfl) ?_
      refine lv_aload_n hx hb dX1_hoursOf_21 rfl (lv_at hl 0 rfl) ?_
      refine gf_1_21 hx hb hE hown hP dX1_hoursOf_22 ?_
      refine lv_iload_n hx hb dX1_hoursOf_25 rfl (lv_at hl 3 rfl) ?_
      obtain ⟨hi, hf⟩ := ck_some hf
      refine ld_C_5 hx hb hE hP hi dX1_hoursOf_26 ?_
      refine lv_iadd hx hb dX1_hoursOf_27 ?_
      refine lv_istore_n (lv' := [(2, .int (x2 + (z.2 3 x3.toNatClampNeg))), (0, .ref (a 1)), (1, .int x1), (3, .int x3)]) hx hb dX1_hoursOf_28 rfl hl (by decide) rfl (fun ls hl => ?_)
      refine lv_iinc (v := (x3 + (1 : Int32))) (lv' := [(3, .int (x3 + (1 : Int32))), (2, .int (x2 + (z.2 3 x3.toNatClampNeg))), (0, .ref (a 1)), (1, .int x1)]) hx hb dX1_hoursOf_29 hl (k := 3) rfl rfl (by decide) rfl (fun ls hl => ?_)
      refine lv_goto (tgt := 4) hx hb dX1_hoursOf_32 (by decide) ?_
      exact hk4 x1 (x2 + (z.2 3 x3.toNatClampNeg)) (x3 + (1 : Int32)) hf ls (lv_sub hl [2, 3, 1, 0] rfl)
theorem u_X1_hoursOf_4 {RR : Int32} (X : Cx p s m c cX1_hoursOf RX1 4 d) {z : St} (hP : va_P d.1 classes (wC d a z) s.heap) (hr : meth.sig.returnType = (some .int)) (hlk : meth.locks = false) : ∀ (x1 : Int32) (x2 : Int32) (x3 : Int32), l_X1_hoursOf_4 z x1 x2 x3 = some RR → WRd p l e { frames := 1, cells := 0, slots := 0, locals := 21 } s m args below meth c RR 4 [(0, .ref (a 1)), (1, .int x1), (2, .int x2), (3, .int x3)] 4 [] := by
  unfold l_X1_hoursOf_4
  generalize FU = n
  induction n with
  | zero => intro x1 x2 x3 hf; exact absurd (show (none : Option (Int32)) = some RR from hf) (by simp)
  | succ n ih => exact t_X1_hoursOf_4 X hP hr hlk ih
def f_X1_hoursOf (z : St) (x1 : Int32) : Option (Int32) := l_X1_hoursOf_4 z x1 (0 : Int32) (0 : Int32)
set_option maxHeartbeats 4000000 in
set_option maxRecDepth 100000 in
theorem t_X1_hoursOf {RR : Int32} (X : Cx p s m c cX1_hoursOf RX1 4 d) {z : St} (hP : va_P d.1 classes (wC d a z) s.heap) (hr : meth.sig.returnType = (some .int)) (hlk : meth.locks = false) : ∀ (x1 : Int32), f_X1_hoursOf z x1 = some RR → WRd p l e { frames := 1, cells := 0, slots := 0, locals := 21 } s m args below meth c RR 4 [(0, .ref (a 1)), (1, .int x1)] 0 [] := by
  intro x1 hf ls hl
  obtain ⟨hx, hb, hml, hown, hE⟩ := id X
  unfold f_X1_hoursOf at hf
  refine lv_iconst (v := 0) hx hb dX1_hoursOf_0 (by decide) ?_
  refine lv_istore_n (lv' := [(2, .int (0 : Int32)), (0, .ref (a 1)), (1, .int x1)]) hx hb dX1_hoursOf_1 rfl hl (by decide) rfl (fun ls hl => ?_)
  refine lv_iconst (v := 0) hx hb dX1_hoursOf_2 (by decide) ?_
  refine lv_istore_n (lv' := [(3, .int (0 : Int32)), (2, .int (0 : Int32)), (0, .ref (a 1)), (1, .int x1)]) hx hb dX1_hoursOf_3 rfl hl (by decide) rfl (fun ls hl => ?_)
  exact u_X1_hoursOf_4 X hP hr hlk x1 (0 : Int32) (0 : Int32) hf ls (lv_sub hl [2, 3, 1, 0] rfl)
set_option maxHeartbeats 4000000 in
set_option maxRecDepth 100000 in
theorem c_X1_hoursOf (l : Launch) (d : G3) (a : Nat → Nat) (z : St) (x1 : Int32) {RR : Int32} (hf : f_X1_hoursOf z x1 = some RR) : Met l yX1_hoursOf [Cond.code yX1_hoursOf cX1_hoursOf 4 (some .int)] { frames := 1, cells := 0, slots := 0, locals := 21 } (rpre wC d a z [.ref (a 1), .int x1]) (QcRead RR) 0 0 (fun _ => False) := by
  refine Met.ofW (cc := cX1_hoursOf) (maxL := 4) (ret := (some .int)) (by decide) rfl ?_
  intro p e s m args below meth c s₁ B hml hv
  obtain ⟨rfl, hE, hP⟩ := hv
  have X : Cx p s m c cX1_hoursOf RX1 4 d := ⟨B.exec, B.bytes, hml, findClass_of_methodNamed B.named, hE⟩
  have hl := lv_entry ([.ref (a 1), .int x1]) (n := 4) (Nat.le_of_ble_eq_true rfl)
  rw [lg_entry_eq]
  generalize (lg_sl ([.ref (a 1), .int x1]) ++ List.replicate (4 - (lg_sl ([.ref (a 1), .int x1])).length) Slot.unset).toArray = ls at hl ⊢
  have hl : lv_has ls 4 [(0, .ref (a 1)), (1, .int x1)] := hl
  exact t_X1_hoursOf X hP B.returns B.notSynchronized x1 hf ls hl
def f_X4_breaksWeek_2 (z : St) (k2 : Int32 → Int32 → Option (Int32)) (x2 : Int32) (x3 : Int32) : Option (Int32) := (if (z.1 3) ≤ x3 then some (0 : Int32) else (f_X5_isIn z x3 x2).bind (fun r_1 => (if r_1 = (0 : Int32) then k2 x2 (x3 + (1 : Int32)) else ck 9 x3 ((f_X1_beginning z (z.2 0 x3.toNatClampNeg) ((z.2 0 x3.toNatClampNeg) + (7 : Int32))).bind (fun r_2 => (f_X1_hoursOf z (x2 &&& r_2)).bind (fun r_3 => ck 4 (3 : Int32) ((if r_3 ≤ (z.2 5 (3 : Int32).toNatClampNeg) then k2 x2 (x3 + (1 : Int32)) else some (1 : Int32)))))))))
def l_X4_breaksWeek_2 (z : St) : Int32 → Int32 → Option (Int32) := iter (fun _ _ => none) (f_X4_breaksWeek_2 z) FU
set_option maxHeartbeats 4000000 in
set_option maxRecDepth 100000 in
theorem t_X4_breaksWeek_2 {RR : Int32} (X : Cx p s m c cX4_breaksWeek RX4 6 d) {z : St} (hP : va_P d.1 classes (wC d a z) s.heap) (hr : meth.sig.returnType = (some .boolean)) (hlk : meth.locks = false) {k2 : Int32 → Int32 → Option (Int32)} (hk2 : ∀ (x2 : Int32) (x3 : Int32), k2 x2 x3 = some RR → WRd p l e { frames := 2, cells := 0, slots := 0, locals := 44 } s m args below meth c RR 6 [(0, .ref (a 7)), (1, .ref (a 1)), (2, .int x2), (3, .int x3)] 2 []) : ∀ (x2 : Int32) (x3 : Int32), f_X4_breaksWeek_2 z k2 x2 x3 = some RR → WRd p l e { frames := 2, cells := 0, slots := 0, locals := 44 } s m args below meth c RR 6 [(0, .ref (a 7)), (1, .ref (a 1)), (2, .int x2), (3, .int x3)] 2 [] := by
  intro x2 x3 hf ls hl
  obtain ⟨hx, hb, hml, hown, hE⟩ := id X
  unfold f_X4_breaksWeek_2 at hf
  refine lv_iload_n hx hb dX4_breaksWeek_2 rfl (lv_at hl 3 rfl) ?_
  refine lv_aload_n hx hb dX4_breaksWeek_3 rfl (lv_at hl 1 rfl) ?_
  refine gf_4_44 hx hb hE hown hP dX4_breaksWeek_4 ?_
  refine lv_icmp_ge (tgt := 64) hx hb dX4_breaksWeek_7 (by decide) (fun q => ?_) (fun q => ?_)
  · have hf := (if_pos q).symm.trans hf
    refine lv_iconst (v := 0) hx hb dX4_breaksWeek_64 (by decide) ?_
    obtain rfl := Option.some.inj hf
    exact W.zret hx hb hr rfl (fun t ht _ => ⟨rfl, ht⟩) (fun _ h => nomatch h) dX4_breaksWeek_65 hlk
  · have hf := (if_neg q).symm.trans hf
    refine lv_iload_n hx hb dX4_breaksWeek_10 rfl (lv_at hl 3 rfl) ?_
    refine lv_iload_n hx hb dX4_breaksWeek_11 rfl (lv_at hl 2 rfl) ?_
    obtain ⟨r_1, hc, hf⟩ := bnd hf
    refine rdSN X (c_X5_isIn l d a z x3 x2 hc) (k_X4_48 hE rfl rfl ⟨Nat.le_of_ble_eq_true rfl, Nat.le_of_ble_eq_true rfl⟩) hP rfl hl.1 rfl (Nat.le_of_ble_eq_true rfl) dX4_breaksWeek_12 ?_
    refine lv_if_eq (tgt := 58) hx hb dX4_breaksWeek_15 (by decide) (fun q => ?_) (fun q => ?_)
    · have hf := (if_pos q).symm.trans hf
      refine lv_iinc (v := (x3 + (1 : Int32))) (lv' := [(3, .int (x3 + (1 : Int32))), (0, .ref (a 7)), (1, .ref (a 1)), (2, .int x2)]) hx hb dX4_breaksWeek_58 hl (k := 3) rfl rfl (by decide) rfl (fun ls hl => ?_)
      refine lv_goto (tgt := 2) hx hb dX4_breaksWeek_61 (by decide) ?_
      exact hk2 x2 (x3 + (1 : Int32)) hf ls (lv_sub hl [1, 2, 3, 0] rfl)
    · have hf := (if_neg q).symm.trans hf
      refine lv_aload_n hx hb dX4_breaksWeek_18 rfl (lv_at hl 1 rfl) ?_
      refine gf_4_55 hx hb hE hown hP dX4_breaksWeek_19 ?_
      refine lv_iload_n hx hb dX4_breaksWeek_22 rfl (lv_at hl 3 rfl) ?_
      obtain ⟨hi, hf⟩ := ck_some hf
      refine ld_C_2 hx hb hE hP hi dX4_breaksWeek_23 ?_
      refine lv_istore (lv' := [(4, .int (z.2 0 x3.toNatClampNeg)), (0, .ref (a 7)), (1, .ref (a 1)), (2, .int x2), (3, .int x3)]) hx hb dX4_breaksWeek_24 hl (by decide) rfl (fun ls hl => ?_)
      refine lv_iload_n hx hb dX4_breaksWeek_26 rfl (lv_at hl 3 rfl) ?_
      refine lv_aload_n hx hb dX4_breaksWeek_27 rfl (lv_at hl 2 rfl) ?_
      refine lv_iload hx hb dX4_breaksWeek_28 (lv_at hl 0 rfl) ?_
      refine lv_iload hx hb dX4_breaksWeek_30 (lv_at hl 0 rfl) ?_
      refine lv_bipush (v := 7) hx hb dX4_breaksWeek_32 (by decide) ?_
      refine lv_iadd hx hb dX4_breaksWeek_34 ?_
      obtain ⟨r_2, hc, hf⟩ := bnd hf
      refine rdV X (c_X1_beginning l d a z (z.2 0 x3.toNatClampNeg) ((z.2 0 x3.toNatClampNeg) + (7 : Int32)) hc) (k_X4_74 hE rfl rfl ⟨Nat.le_of_ble_eq_true rfl, Nat.le_of_ble_eq_true rfl⟩) hP (va_recv (q := (RX1, TX1, 7)) hE.2 hP (ci := 1) (q0 := 1) rfl rfl) rfl hl.1 rfl (Nat.le_of_ble_eq_true rfl) dX4_breaksWeek_35 ?_
      refine lv_iand hx hb dX4_breaksWeek_38 ?_
      refine lv_istore (lv' := [(5, .int (x2 &&& r_2)), (4, .int (z.2 0 x3.toNatClampNeg)), (0, .ref (a 7)), (1, .ref (a 1)), (2, .int x2), (3, .int x3)]) hx hb dX4_breaksWeek_39 hl (by decide) rfl (fun ls hl => ?_)
      refine lv_aload_n hx hb dX4_breaksWeek_41 rfl (lv_at hl 3 rfl) ?_
      refine lv_iload hx hb dX4_breaksWeek_42 (lv_at hl 0 rfl) ?_
      obtain ⟨r_3, hc, hf⟩ := bnd hf
      refine rdV X (c_X1_hoursOf l d a z (x2 &&& r_2) hc) (k_X4_77 hE rfl rfl ⟨Nat.le_of_ble_eq_true rfl, Nat.le_of_ble_eq_true rfl⟩) hP (va_recv (q := (RX1, TX1, 7)) hE.2 hP (ci := 1) (q0 := 1) rfl rfl) rfl hl.1 rfl (Nat.le_of_ble_eq_true rfl) dX4_breaksWeek_44 ?_
      refine lv_aload_n hx hb dX4_breaksWeek_47 rfl (lv_at hl 2 rfl) ?_
      refine gf_4_18 hx hb hE hown hP dX4_breaksWeek_48 ?_
      refine lv_iconst (v := 3) hx hb dX4_breaksWeek_51 (by decide) ?_
      obtain ⟨hi, hf⟩ := ck_some hf
      refine ld_C_8 hx hb hE hP hi dX4_breaksWeek_52 ?_
      refine lv_icmp_le (tgt := 58) hx hb dX4_breaksWeek_53 (by decide) (fun q => ?_) (fun q => ?_)
      · have hf := (if_pos q).symm.trans hf
        refine lv_iinc (v := (x3 + (1 : Int32))) (lv' := [(3, .int (x3 + (1 : Int32))), (5, .int (x2 &&& r_2)), (4, .int (z.2 0 x3.toNatClampNeg)), (0, .ref (a 7)), (1, .ref (a 1)), (2, .int x2)]) hx hb dX4_breaksWeek_58 hl (k := 5) rfl rfl (by decide) rfl (fun ls hl => ?_)
        refine lv_goto (tgt := 2) hx hb dX4_breaksWeek_61 (by decide) ?_
        exact hk2 x2 (x3 + (1 : Int32)) hf ls (lv_sub hl [3, 4, 5, 0] rfl)
      · have hf := (if_neg q).symm.trans hf
        refine lv_iconst (v := 1) hx hb dX4_breaksWeek_56 (by decide) ?_
        obtain rfl := Option.some.inj hf
        exact W.zret hx hb hr rfl (fun t ht _ => ⟨rfl, ht⟩) (fun _ h => nomatch h) dX4_breaksWeek_57 hlk
theorem u_X4_breaksWeek_2 {RR : Int32} (X : Cx p s m c cX4_breaksWeek RX4 6 d) {z : St} (hP : va_P d.1 classes (wC d a z) s.heap) (hr : meth.sig.returnType = (some .boolean)) (hlk : meth.locks = false) : ∀ (x2 : Int32) (x3 : Int32), l_X4_breaksWeek_2 z x2 x3 = some RR → WRd p l e { frames := 2, cells := 0, slots := 0, locals := 44 } s m args below meth c RR 6 [(0, .ref (a 7)), (1, .ref (a 1)), (2, .int x2), (3, .int x3)] 2 [] := by
  unfold l_X4_breaksWeek_2
  generalize FU = n
  induction n with
  | zero => intro x2 x3 hf; exact absurd (show (none : Option (Int32)) = some RR from hf) (by simp)
  | succ n ih => exact t_X4_breaksWeek_2 X hP hr hlk ih
def f_X4_breaksWeek (z : St) (x2 : Int32) : Option (Int32) := l_X4_breaksWeek_2 z x2 (0 : Int32)
set_option maxHeartbeats 4000000 in
set_option maxRecDepth 100000 in
theorem t_X4_breaksWeek {RR : Int32} (X : Cx p s m c cX4_breaksWeek RX4 6 d) {z : St} (hP : va_P d.1 classes (wC d a z) s.heap) (hr : meth.sig.returnType = (some .boolean)) (hlk : meth.locks = false) : ∀ (x2 : Int32), f_X4_breaksWeek z x2 = some RR → WRd p l e { frames := 2, cells := 0, slots := 0, locals := 44 } s m args below meth c RR 6 [(0, .ref (a 7)), (1, .ref (a 1)), (2, .int x2)] 0 [] := by
  intro x2 hf ls hl
  obtain ⟨hx, hb, hml, hown, hE⟩ := id X
  unfold f_X4_breaksWeek at hf
  refine lv_iconst (v := 0) hx hb dX4_breaksWeek_0 (by decide) ?_
  refine lv_istore_n (lv' := [(3, .int (0 : Int32)), (0, .ref (a 7)), (1, .ref (a 1)), (2, .int x2)]) hx hb dX4_breaksWeek_1 rfl hl (by decide) rfl (fun ls hl => ?_)
  exact u_X4_breaksWeek_2 X hP hr hlk x2 (0 : Int32) hf ls (lv_sub hl [1, 2, 3, 0] rfl)
set_option maxHeartbeats 4000000 in
set_option maxRecDepth 100000 in
theorem c_X4_breaksWeek (l : Launch) (d : G3) (a : Nat → Nat) (z : St) (x2 : Int32) {RR : Int32} (hf : f_X4_breaksWeek z x2 = some RR) : Met l yX4_breaksWeek [Cond.code yX4_breaksWeek cX4_breaksWeek 6 (some .boolean)] { frames := 2, cells := 0, slots := 0, locals := 44 } (rpre wC d a z [.ref (a 7), .ref (a 1), .int x2]) (QcRead RR) 0 0 (fun _ => False) := by
  refine Met.ofW (cc := cX4_breaksWeek) (maxL := 6) (ret := (some .boolean)) (by decide) rfl ?_
  intro p e s m args below meth c s₁ B hml hv
  obtain ⟨rfl, hE, hP⟩ := hv
  have X : Cx p s m c cX4_breaksWeek RX4 6 d := ⟨B.exec, B.bytes, hml, findClass_of_methodNamed B.named, hE⟩
  have hl := lv_entry ([.ref (a 7), .ref (a 1), .int x2]) (n := 6) (Nat.le_of_ble_eq_true rfl)
  rw [lg_entry_eq]
  generalize (lg_sl ([.ref (a 7), .ref (a 1), .int x2]) ++ List.replicate (6 - (lg_sl ([.ref (a 7), .ref (a 1), .int x2])).length) Slot.unset).toArray = ls at hl ⊢
  have hl : lv_has ls 6 [(0, .ref (a 7)), (1, .ref (a 1)), (2, .int x2)] := hl
  exact t_X4_breaksWeek X hP B.returns B.notSynchronized x2 hf ls hl
def f_X4_firstBroken (z : St) (x2 : Int32) : Option (Int32) := (f_X4_breaksDays z x2).bind (fun r_1 => (if r_1 = (0 : Int32) then (f_X1_daysOf z x2).bind (fun r_2 => (f_X4_breaksRest z x2 r_2).bind (fun r_3 => (if r_3 = (0 : Int32) then (f_X4_breaksRow z r_2).bind (fun r_4 => (if r_4 = (0 : Int32) then (f_X4_breaksWeek z x2).bind (fun r_5 => (if r_5 = (0 : Int32) then some (0 : Int32) else some (5 : Int32))) else some (4 : Int32))) else some (3 : Int32)))) else some (2 : Int32)))
set_option maxHeartbeats 4000000 in
set_option maxRecDepth 100000 in
theorem t_X4_firstBroken {RR : Int32} (X : Cx p s m c cX4_firstBroken RX4 4 d) {z : St} (hP : va_P d.1 classes (wC d a z) s.heap) (hr : meth.sig.returnType = (some .int)) (hlk : meth.locks = false) : ∀ (x2 : Int32), f_X4_firstBroken z x2 = some RR → WRd p l e { frames := 3, cells := 0, slots := 0, locals := 71 } s m args below meth c RR 4 [(0, .ref (a 7)), (1, .ref (a 1)), (2, .int x2)] 0 [] := by
  intro x2 hf ls hl
  obtain ⟨hx, hb, hml, hown, hE⟩ := id X
  unfold f_X4_firstBroken at hf
  refine lv_aload_n hx hb dX4_firstBroken_0 rfl (lv_at hl 0 rfl) ?_
  refine lv_aload_n hx hb dX4_firstBroken_1 rfl (lv_at hl 1 rfl) ?_
  refine lv_iload_n hx hb dX4_firstBroken_2 rfl (lv_at hl 2 rfl) ?_
  obtain ⟨r_1, hc, hf⟩ := bnd hf
  refine rdV X (c_X4_breaksDays l d a z x2 hc) (k_X4_23 hE rfl rfl ⟨Nat.le_of_ble_eq_true rfl, Nat.le_of_ble_eq_true rfl⟩) hP (va_recv (q := (RX4, TX4, 1)) hE.2 hP (ci := 4) (q0 := 7) rfl rfl) rfl hl.1 rfl (Nat.le_of_ble_eq_true rfl) dX4_firstBroken_3 ?_
  refine lv_if_eq (tgt := 11) hx hb dX4_firstBroken_6 (by decide) (fun q => ?_) (fun q => ?_)
  · have hf := (if_pos q).symm.trans hf
    refine lv_aload_n hx hb dX4_firstBroken_11 rfl (lv_at hl 1 rfl) ?_
    refine lv_iload_n hx hb dX4_firstBroken_12 rfl (lv_at hl 2 rfl) ?_
    obtain ⟨r_2, hc, hf⟩ := bnd hf
    refine rdV X (c_X1_daysOf l d a z x2 hc) (k_X4_27 hE rfl rfl ⟨Nat.le_of_ble_eq_true rfl, Nat.le_of_ble_eq_true rfl⟩) hP (va_recv (q := (RX1, TX1, 7)) hE.2 hP (ci := 1) (q0 := 1) rfl rfl) rfl hl.1 rfl (Nat.le_of_ble_eq_true rfl) dX4_firstBroken_13 ?_
    refine lv_istore_n (lv' := [(3, .int r_2), (0, .ref (a 7)), (1, .ref (a 1)), (2, .int x2)]) hx hb dX4_firstBroken_16 rfl hl (by decide) rfl (fun ls hl => ?_)
    refine lv_aload_n hx hb dX4_firstBroken_17 rfl (lv_at hl 1 rfl) ?_
    refine lv_aload_n hx hb dX4_firstBroken_18 rfl (lv_at hl 2 rfl) ?_
    refine lv_iload_n hx hb dX4_firstBroken_19 rfl (lv_at hl 3 rfl) ?_
    refine lv_iload_n hx hb dX4_firstBroken_20 rfl (lv_at hl 0 rfl) ?_
    obtain ⟨r_3, hc, hf⟩ := bnd hf
    refine rdV X (c_X4_breaksRest l d a z x2 r_2 hc) (k_X4_33 hE rfl rfl ⟨Nat.le_of_ble_eq_true rfl, Nat.le_of_ble_eq_true rfl⟩) hP (va_recv (q := (RX4, TX4, 1)) hE.2 hP (ci := 4) (q0 := 7) rfl rfl) rfl hl.1 rfl (Nat.le_of_ble_eq_true rfl) dX4_firstBroken_21 ?_
    refine lv_if_eq (tgt := 29) hx hb dX4_firstBroken_24 (by decide) (fun q => ?_) (fun q => ?_)
    · have hf := (if_pos q).symm.trans hf
      refine lv_aload_n hx hb dX4_firstBroken_29 rfl (lv_at hl 1 rfl) ?_
      refine lv_iload_n hx hb dX4_firstBroken_30 rfl (lv_at hl 0 rfl) ?_
      obtain ⟨r_4, hc, hf⟩ := bnd hf
      refine rdV X (c_X4_breaksRow l d a z r_2 hc) (k_X4_37 hE rfl rfl ⟨Nat.le_of_ble_eq_true rfl, Nat.le_of_ble_eq_true rfl⟩) hP (va_recv (q := (RX4, TX4, 1)) hE.2 hP (ci := 4) (q0 := 7) rfl rfl) rfl hl.1 rfl (Nat.le_of_ble_eq_true rfl) dX4_firstBroken_31 ?_
      refine lv_if_eq (tgt := 39) hx hb dX4_firstBroken_34 (by decide) (fun q => ?_) (fun q => ?_)
      · have hf := (if_pos q).symm.trans hf
        refine lv_aload_n hx hb dX4_firstBroken_39 rfl (lv_at hl 1 rfl) ?_
        refine lv_aload_n hx hb dX4_firstBroken_40 rfl (lv_at hl 2 rfl) ?_
        refine lv_iload_n hx hb dX4_firstBroken_41 rfl (lv_at hl 3 rfl) ?_
        obtain ⟨r_5, hc, hf⟩ := bnd hf
        refine rdV X (c_X4_breaksWeek l d a z x2 hc) (k_X4_41 hE rfl rfl ⟨Nat.le_of_ble_eq_true rfl, Nat.le_of_ble_eq_true rfl⟩) hP (va_recv (q := (RX4, TX4, 1)) hE.2 hP (ci := 4) (q0 := 7) rfl rfl) rfl hl.1 rfl (Nat.le_of_ble_eq_true rfl) dX4_firstBroken_42 ?_
        refine lv_if_eq (tgt := 52) hx hb dX4_firstBroken_45 (by decide) (fun q => ?_) (fun q => ?_)
        · have hf := (if_pos q).symm.trans hf
          refine lv_iconst (v := 0) hx hb dX4_firstBroken_52 (by decide) ?_
          obtain rfl := Option.some.inj hf
          exact W.iret hx hb hr (fun t ht _ => ⟨rfl, ht⟩) (fun _ h => nomatch h) dX4_firstBroken_53 hlk
        · have hf := (if_neg q).symm.trans hf
          refine lv_iconst (v := 5) hx hb dX4_firstBroken_48 (by decide) ?_
          refine lv_goto (tgt := 53) hx hb dX4_firstBroken_49 (by decide) ?_
          obtain rfl := Option.some.inj hf
          exact W.iret hx hb hr (fun t ht _ => ⟨rfl, ht⟩) (fun _ h => nomatch h) dX4_firstBroken_53 hlk
      · have hf := (if_neg q).symm.trans hf
        refine lv_iconst (v := 4) hx hb dX4_firstBroken_37 (by decide) ?_
        obtain rfl := Option.some.inj hf
        exact W.iret hx hb hr (fun t ht _ => ⟨rfl, ht⟩) (fun _ h => nomatch h) dX4_firstBroken_38 hlk
    · have hf := (if_neg q).symm.trans hf
      refine lv_iconst (v := 3) hx hb dX4_firstBroken_27 (by decide) ?_
      obtain rfl := Option.some.inj hf
      exact W.iret hx hb hr (fun t ht _ => ⟨rfl, ht⟩) (fun _ h => nomatch h) dX4_firstBroken_28 hlk
  · have hf := (if_neg q).symm.trans hf
    refine lv_iconst (v := 2) hx hb dX4_firstBroken_9 (by decide) ?_
    obtain rfl := Option.some.inj hf
    exact W.iret hx hb hr (fun t ht _ => ⟨rfl, ht⟩) (fun _ h => nomatch h) dX4_firstBroken_10 hlk
set_option maxHeartbeats 4000000 in
set_option maxRecDepth 100000 in
theorem c_X4_firstBroken (l : Launch) (d : G3) (a : Nat → Nat) (z : St) (x2 : Int32) {RR : Int32} (hf : f_X4_firstBroken z x2 = some RR) : Met l yX4_firstBroken [Cond.code yX4_firstBroken cX4_firstBroken 4 (some .int)] { frames := 3, cells := 0, slots := 0, locals := 71 } (rpre wC d a z [.ref (a 7), .ref (a 1), .int x2]) (QcRead RR) 0 0 (fun _ => False) := by
  refine Met.ofW (cc := cX4_firstBroken) (maxL := 4) (ret := (some .int)) (by decide) rfl ?_
  intro p e s m args below meth c s₁ B hml hv
  obtain ⟨rfl, hE, hP⟩ := hv
  have X : Cx p s m c cX4_firstBroken RX4 4 d := ⟨B.exec, B.bytes, hml, findClass_of_methodNamed B.named, hE⟩
  have hl := lv_entry ([.ref (a 7), .ref (a 1), .int x2]) (n := 4) (Nat.le_of_ble_eq_true rfl)
  rw [lg_entry_eq]
  generalize (lg_sl ([.ref (a 7), .ref (a 1), .int x2]) ++ List.replicate (4 - (lg_sl ([.ref (a 7), .ref (a 1), .int x2])).length) Slot.unset).toArray = ls at hl ⊢
  have hl : lv_has ls 4 [(0, .ref (a 7)), (1, .ref (a 1)), (2, .int x2)] := hl
  exact t_X4_firstBroken X hP B.returns B.notSynchronized x2 hf ls hl
end GEN
