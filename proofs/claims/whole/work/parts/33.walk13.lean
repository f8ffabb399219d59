section GEN
variable {p : Program} {l : Launch} {e : Env} {s : State} {m : MethodId} {args : Array Value} {below : List Frame} {meth : Method} {c : Code} {d : G3} {a : Nat → Nat}
def f_X6_isPerson (z : St) (x1 : Int32) : Option (Int32) := (if x1 < (0 : Int32) then some (0 : Int32) else (if (z.1 1) ≤ x1 then some (0 : Int32) else some (1 : Int32)))
set_option maxHeartbeats 4000000 in
set_option maxRecDepth 100000 in
theorem t_X6_isPerson {RR : Int32} (X : Cx p s m c cX6_isPerson RX6 2 d) {z : St} (hP : va_P d.1 classes (wM d a z) s.heap) (hr : meth.sig.returnType = (some .boolean)) (hlk : meth.locks = false) : ∀ (x1 : Int32), f_X6_isPerson z x1 = some RR → WRd p l e { frames := 0, cells := 0, slots := 0, locals := 0 } s m args below meth c RR 2 [(0, .ref (a 0)), (1, .int x1)] 0 [] := by
  intro x1 hf ls hl
  obtain ⟨hx, hb, hml, hown, hE⟩ := id X
  unfold f_X6_isPerson at hf
  refine lv_iload_n hx hb dX6_isPerson_0 rfl (lv_at hl 1 rfl) ?_
  refine lv_if_lt (tgt := 16) hx hb dX6_isPerson_1 (by decide) (fun q => ?_) (fun q => ?_)
  · have hf := (if_pos q).symm.trans hf
    refine lv_iconst (v := 0) hx hb dX6_isPerson_16 (by decide) ?_
    obtain rfl := Option.some.inj hf
    exact W.zret hx hb hr rfl (fun t ht _ => ⟨rfl, ht⟩) (fun _ h => nomatch h) dX6_isPerson_17 hlk
  · have hf := (if_neg q).symm.trans hf
    refine lv_iload_n hx hb dX6_isPerson_4 rfl (lv_at hl 1 rfl) ?_
    refine lv_aload_n hx hb dX6_isPerson_5 rfl (lv_at hl 0 rfl) ?_
    refine gf_6_81 hx hb hE hown hP dX6_isPerson_6 ?_
    refine lv_icmp_ge (tgt := 16) hx hb dX6_isPerson_9 (by decide) (fun q => ?_) (fun q => ?_)
    · have hf := (if_pos q).symm.trans hf
      refine lv_iconst (v := 0) hx hb dX6_isPerson_16 (by decide) ?_
      obtain rfl := Option.some.inj hf
      exact W.zret hx hb hr rfl (fun t ht _ => ⟨rfl, ht⟩) (fun _ h => nomatch h) dX6_isPerson_17 hlk
    · have hf := (if_neg q).symm.trans hf
      refine lv_iconst (v := 1) hx hb dX6_isPerson_12 (by decide) ?_
      refine lv_goto (tgt := 17) hx hb dX6_isPerson_13 (by decide) ?_
      obtain rfl := Option.some.inj hf
      exact W.zret hx hb hr rfl (fun t ht _ => ⟨rfl, ht⟩) (fun _ h => nomatch h) dX6_isPerson_17 hlk
set_option maxHeartbeats 4000000 in
set_option maxRecDepth 100000 in
theorem c_X6_isPerson (l : Launch) (d : G3) (a : Nat → Nat) (z : St) (x1 : Int32) {RR : Int32} (hf : f_X6_isPerson z x1 = some RR) : Met l yX6_isPerson [Cond.code yX6_isPerson cX6_isPerson 2 (some .boolean)] { frames := 0, cells := 0, slots := 0, locals := 0 } (rpre wM d a z [.ref (a 0), .int x1]) (QcRead RR) 0 0 (fun _ => False) := by
  refine Met.ofW (cc := cX6_isPerson) (maxL := 2) (ret := (some .boolean)) (by decide) rfl ?_
  intro p e s m args below meth c s₁ B hml hv
  obtain ⟨rfl, hE, hP⟩ := hv
  have X : Cx p s m c cX6_isPerson RX6 2 d := ⟨B.exec, B.bytes, hml, findClass_of_methodNamed B.named, hE⟩
  have hl := lv_entry ([.ref (a 0), .int x1]) (n := 2) (Nat.le_of_ble_eq_true rfl)
  rw [lg_entry_eq]
  generalize (lg_sl ([.ref (a 0), .int x1]) ++ List.replicate (2 - (lg_sl ([.ref (a 0), .int x1])).length) Slot.unset).toArray = ls at hl ⊢
  have hl : lv_has ls 2 [(0, .ref (a 0)), (1, .int x1)] := hl
  exact t_X6_isPerson X hP B.returns B.notSynchronized x1 hf ls hl
def f_X6_isDuty (z : St) (x1 : Int32) : Option (Int32) := (if x1 < (0 : Int32) then some (0 : Int32) else (if (z.1 0) ≤ x1 then some (0 : Int32) else some (1 : Int32)))
set_option maxHeartbeats 4000000 in
set_option maxRecDepth 100000 in
theorem t_X6_isDuty {RR : Int32} (X : Cx p s m c cX6_isDuty RX6 2 d) {z : St} (hP : va_P d.1 classes (wM d a z) s.heap) (hr : meth.sig.returnType = (some .boolean)) (hlk : meth.locks = false) : ∀ (x1 : Int32), f_X6_isDuty z x1 = some RR → WRd p l e { frames := 0, cells := 0, slots := 0, locals := 0 } s m args below meth c RR 2 [(0, .ref (a 0)), (1, .int x1)] 0 [] := by
  intro x1 hf ls hl
  obtain ⟨hx, hb, hml, hown, hE⟩ := id X
  unfold f_X6_isDuty at hf
  refine lv_iload_n hx hb dX6_isDuty_0 rfl (lv_at hl 1 rfl) ?_
  refine lv_if_lt (tgt := 16) hx hb dX6_isDuty_1 (by decide) (fun q => ?_) (fun q => ?_)
  · have hf := (if_pos q).symm.trans hf
    refine lv_iconst (v := 0) hx hb dX6_isDuty_16 (by decide) ?_
    obtain rfl := Option.some.inj hf
    exact W.zret hx hb hr rfl (fun t ht _ => ⟨rfl, ht⟩) (fun _ h => nomatch h) dX6_isDuty_17 hlk
  · have hf := (if_neg q).symm.trans hf
    refine lv_iload_n hx hb dX6_isDuty_4 rfl (lv_at hl 1 rfl) ?_
    refine lv_aload_n hx hb dX6_isDuty_5 rfl (lv_at hl 0 rfl) ?_
    refine gf_6_84 hx hb hE hown hP dX6_isDuty_6 ?_
    refine lv_icmp_ge (tgt := 16) hx hb dX6_isDuty_9 (by decide) (fun q => ?_) (fun q => ?_)
    · have hf := (if_pos q).symm.trans hf
      refine lv_iconst (v := 0) hx hb dX6_isDuty_16 (by decide) ?_
      obtain rfl := Option.some.inj hf
      exact W.zret hx hb hr rfl (fun t ht _ => ⟨rfl, ht⟩) (fun _ h => nomatch h) dX6_isDuty_17 hlk
    · have hf := (if_neg q).symm.trans hf
      refine lv_iconst (v := 1) hx hb dX6_isDuty_12 (by decide) ?_
      refine lv_goto (tgt := 17) hx hb dX6_isDuty_13 (by decide) ?_
      obtain rfl := Option.some.inj hf
      exact W.zret hx hb hr rfl (fun t ht _ => ⟨rfl, ht⟩) (fun _ h => nomatch h) dX6_isDuty_17 hlk
set_option maxHeartbeats 4000000 in
set_option maxRecDepth 100000 in
theorem c_X6_isDuty (l : Launch) (d : G3) (a : Nat → Nat) (z : St) (x1 : Int32) {RR : Int32} (hf : f_X6_isDuty z x1 = some RR) : Met l yX6_isDuty [Cond.code yX6_isDuty cX6_isDuty 2 (some .boolean)] { frames := 0, cells := 0, slots := 0, locals := 0 } (rpre wM d a z [.ref (a 0), .int x1]) (QcRead RR) 0 0 (fun _ => False) := by
  refine Met.ofW (cc := cX6_isDuty) (maxL := 2) (ret := (some .boolean)) (by decide) rfl ?_
  intro p e s m args below meth c s₁ B hml hv
  obtain ⟨rfl, hE, hP⟩ := hv
  have X : Cx p s m c cX6_isDuty RX6 2 d := ⟨B.exec, B.bytes, hml, findClass_of_methodNamed B.named, hE⟩
  have hl := lv_entry ([.ref (a 0), .int x1]) (n := 2) (Nat.le_of_ble_eq_true rfl)
  rw [lg_entry_eq]
  generalize (lg_sl ([.ref (a 0), .int x1]) ++ List.replicate (2 - (lg_sl ([.ref (a 0), .int x1])).length) Slot.unset).toArray = ls at hl ⊢
  have hl : lv_has ls 2 [(0, .ref (a 0)), (1, .int x1)] := hl
  exact t_X6_isDuty X hP B.returns B.notSynchronized x1 hf ls hl
def f_X6_isSet (z : St) (x1 : Int32) : Option (Int32) := (if x1 < (0 : Int32) then some (0 : Int32) else (if ((1 : Int32) <<< ((z.1 0) &&& 31)) ≤ x1 then some (0 : Int32) else some (1 : Int32)))
set_option maxHeartbeats 4000000 in
set_option maxRecDepth 100000 in
theorem t_X6_isSet {RR : Int32} (X : Cx p s m c cX6_isSet RX6 2 d) {z : St} (hP : va_P d.1 classes (wM d a z) s.heap) (hr : meth.sig.returnType = (some .boolean)) (hlk : meth.locks = false) : ∀ (x1 : Int32), f_X6_isSet z x1 = some RR → WRd p l e { frames := 0, cells := 0, slots := 0, locals := 0 } s m args below meth c RR 2 [(0, .ref (a 0)), (1, .int x1)] 0 [] := by
  intro x1 hf ls hl
  obtain ⟨hx, hb, hml, hown, hE⟩ := id X
  unfold f_X6_isSet at hf
  refine lv_iload_n hx hb dX6_isSet_0 rfl (lv_at hl 1 rfl) ?_
  refine lv_if_lt (tgt := 18) hx hb dX6_isSet_1 (by decide) (fun q => ?_) (fun q => ?_)
  · have hf := (if_pos q).symm.trans hf
    refine lv_iconst (v := 0) hx hb dX6_isSet_18 (by decide) ?_
    obtain rfl := Option.some.inj hf
    exact W.zret hx hb hr rfl (fun t ht _ => ⟨rfl, ht⟩) (fun _ h => nomatch h) dX6_isSet_19 hlk
  · have hf := (if_neg q).symm.trans hf
    refine lv_iload_n hx hb dX6_isSet_4 rfl (lv_at hl 1 rfl) ?_
    refine lv_iconst (v := 1) hx hb dX6_isSet_5 (by decide) ?_
    refine lv_aload_n hx hb dX6_isSet_6 rfl (lv_at hl 0 rfl) ?_
    refine gf_6_84 hx hb hE hown hP dX6_isSet_7 ?_
    refine lv_ishl hx hb dX6_isSet_10 ?_
    refine lv_icmp_ge (tgt := 18) hx hb dX6_isSet_11 (by decide) (fun q => ?_) (fun q => ?_)
    · have hf := (if_pos q).symm.trans hf
      refine lv_iconst (v := 0) hx hb dX6_isSet_18 (by decide) ?_
      obtain rfl := Option.some.inj hf
      exact W.zret hx hb hr rfl (fun t ht _ => ⟨rfl, ht⟩) (fun _ h => nomatch h) dX6_isSet_19 hlk
    · have hf := (if_neg q).symm.trans hf
      refine lv_iconst (v := 1) hx hb dX6_isSet_14 (by decide) ?_
      refine lv_goto (tgt := 19) hx hb dX6_isSet_15 (by decide) ?_
      obtain rfl := Option.some.inj hf
      exact W.zret hx hb hr rfl (fun t ht _ => ⟨rfl, ht⟩) (fun _ h => nomatch h) dX6_isSet_19 hlk
set_option maxHeartbeats 4000000 in
set_option maxRecDepth 100000 in
theorem c_X6_isSet (l : Launch) (d : G3) (a : Nat → Nat) (z : St) (x1 : Int32) {RR : Int32} (hf : f_X6_isSet z x1 = some RR) : Met l yX6_isSet [Cond.code yX6_isSet cX6_isSet 2 (some .boolean)] { frames := 0, cells := 0, slots := 0, locals := 0 } (rpre wM d a z [.ref (a 0), .int x1]) (QcRead RR) 0 0 (fun _ => False) := by
  refine Met.ofW (cc := cX6_isSet) (maxL := 2) (ret := (some .boolean)) (by decide) rfl ?_
  intro p e s m args below meth c s₁ B hml hv
  obtain ⟨rfl, hE, hP⟩ := hv
  have X : Cx p s m c cX6_isSet RX6 2 d := ⟨B.exec, B.bytes, hml, findClass_of_methodNamed B.named, hE⟩
  have hl := lv_entry ([.ref (a 0), .int x1]) (n := 2) (Nat.le_of_ble_eq_true rfl)
  rw [lg_entry_eq]
  generalize (lg_sl ([.ref (a 0), .int x1]) ++ List.replicate (2 - (lg_sl ([.ref (a 0), .int x1])).length) Slot.unset).toArray = ls at hl ⊢
  have hl : lv_has ls 2 [(0, .ref (a 0)), (1, .int x1)] := hl
  exact t_X6_isSet X hP B.returns B.notSynchronized x1 hf ls hl
def f_X6_has (z : St) (x0 : Int32) (x1 : Int32) : Option (Int32) := (if ((x0 >>> (x1 &&& 31)) &&& (1 : Int32)) = (1 : Int32) then some (1 : Int32) else some (0 : Int32))
set_option maxHeartbeats 4000000 in
set_option maxRecDepth 100000 in
theorem t_X6_has {RR : Int32} (X : Cx p s m c cX6_has RX6 2 d) {z : St} (hP : va_P d.1 classes (wM d a z) s.heap) (hr : meth.sig.returnType = (some .boolean)) (hlk : meth.locks = false) : ∀ (x0 : Int32) (x1 : Int32), f_X6_has z x0 x1 = some RR → WRd p l e { frames := 0, cells := 0, slots := 0, locals := 0 } s m args below meth c RR 2 [(0, .int x0), (1, .int x1)] 0 [] := by
  intro x0 x1 hf ls hl
  obtain ⟨hx, hb, hml, hown, hE⟩ := id X
  unfold f_X6_has at hf
  refine lv_iload_n hx hb dX6_has_0 rfl (lv_at hl 0 rfl) ?_
  refine lv_iload_n hx hb dX6_has_1 rfl (lv_at hl 1 rfl) ?_
  refine lv_ishr hx hb dX6_has_2 ?_
  refine lv_iconst (v := 1) hx hb dX6_has_3 (by decide) ?_
  refine lv_iand hx hb dX6_has_4 ?_
  refine lv_iconst (v := 1) hx hb dX6_has_5 (by decide) ?_
  refine lv_icmp_ne (tgt := 13) hx hb dX6_has_6 (by decide) (fun q => ?_) (fun q => ?_)
  · have hf := (if_neg q).symm.trans hf
    refine lv_iconst (v := 0) hx hb dX6_has_13 (by decide) ?_
    obtain rfl := Option.some.inj hf
    exact W.zret hx hb hr rfl (fun t ht _ => ⟨rfl, ht⟩) (fun _ h => nomatch h) dX6_has_14 hlk
  · have hf := (if_pos q).symm.trans hf
    refine lv_iconst (v := 1) hx hb dX6_has_9 (by decide) ?_
    refine lv_goto (tgt := 14) hx hb dX6_has_10 (by decide) ?_
    obtain rfl := Option.some.inj hf
    exact W.zret hx hb hr rfl (fun t ht _ => ⟨rfl, ht⟩) (fun _ h => nomatch h) dX6_has_14 hlk
set_option maxHeartbeats 4000000 in
set_option maxRecDepth 100000 in
theorem c_X6_has (l : Launch) (d : G3) (a : Nat → Nat) (z : St) (x0 : Int32) (x1 : Int32) {RR : Int32} (hf : f_X6_has z x0 x1 = some RR) : Met l yX6_has [Cond.code yX6_has cX6_has 2 (some .boolean)] { frames := 0, cells := 0, slots := 0, locals := 0 } (rpre wM d a z [.int x0, .int x1]) (QcRead RR) 0 0 (fun _ => False) := by
  refine Met.ofW (cc := cX6_has) (maxL := 2) (ret := (some .boolean)) (by decide) rfl ?_
  intro p e s m args below meth c s₁ B hml hv
  obtain ⟨rfl, hE, hP⟩ := hv
  have X : Cx p s m c cX6_has RX6 2 d := ⟨B.exec, B.bytes, hml, findClass_of_methodNamed B.named, hE⟩
  have hl := lv_entry ([.int x0, .int x1]) (n := 2) (Nat.le_of_ble_eq_true rfl)
  rw [lg_entry_eq]
  generalize (lg_sl ([.int x0, .int x1]) ++ List.replicate (2 - (lg_sl ([.int x0, .int x1])).length) Slot.unset).toArray = ls at hl ⊢
  have hl : lv_has ls 2 [(0, .int x0), (1, .int x1)] := hl
  exact t_X6_has X hP B.returns B.notSynchronized x0 x1 hf ls hl
def f_X6_size_4 (z : St) (k4 : Int32 → Int32 → Int32 → Option (Int32)) (x0 : Int32) (x1 : Int32) (x2 : Int32) : Option (Int32) := (if (9 : Int32) ≤ x2 then some x1 else (f_X6_has z x0 x2).bind (fun r_1 => (if r_1 = (0 : Int32) then k4 x0 x1 (x2 + (1 : Int32)) else k4 x0 (x1 + (1 : Int32)) (x2 + (1 : Int32)))))
def l_X6_size_4 (z : St) : Int32 → Int32 → Int32 → Option (Int32) := iter (fun _ _ _ => none) (f_X6_size_4 z) FU
set_option maxHeartbeats 4000000 in
set_option maxRecDepth 100000 in
theorem t_X6_size_4 {RR : Int32} (X : Cx p s m c cX6_size RX6 3 d) {z : St} (hP : va_P d.1 classes (wM d a z) s.heap) (hr : meth.sig.returnType = (some .int)) (hlk : meth.locks = false) {k4 : Int32 → Int32 → Int32 → Option (Int32)} (hk4 : ∀ (x0 : Int32) (x1 : Int32) (x2 : Int32), k4 x0 x1 x2 = some RR → WRd p l e { frames := 1, cells := 0, slots := 0, locals := 21 } s m args below meth c RR 3 [(0, .int x0), (1, .int x1), (2, .int x2)] 4 []) : ∀ (x0 : Int32) (x1 : Int32) (x2 : Int32), f_X6_size_4 z k4 x0 x1 x2 = some RR → WRd p l e { frames := 1, cells := 0, slots := 0, locals := 21 } s m args below meth c RR 3 [(0, .int x0), (1, .int x1), (2, .int x2)] 4 [] := by
  intro x0 x1 x2 hf ls hl
  obtain ⟨hx, hb, hml, hown, hE⟩ := id X
  unfold f_X6_size_4 at hf
  refine lv_iload_n hx hb dX6_size_4 rfl (lv_at hl 2 rfl) ?_
  refine lv_bipush (v := 9) hx hb dX6_size_5 (by decide) ?_
  refine lv_icmp_ge (tgt := 27) hx hb dX6_size_7 (by decide) (fun q => ?_) (fun q => ?_)
  · have hf := (if_pos q).symm.trans hf
    refine lv_iload_n hx hb dX6_size_27 rfl (lv_at hl 1 rfl) ?_
    obtain rfl := Option.some.inj hf
    exact W.iret hx hb hr (fun t ht _ => ⟨rfl, ht⟩) (fun _ h => nomatch h) dX6_size_28 hlk
  · have hf := (if_neg q).symm.trans hf
    refine lv_iload_n hx hb dX6_size_10 rfl (lv_at hl 0 rfl) ?_
    refine lv_iload_n hx hb dX6_size_11 rfl (lv_at hl 2 rfl) ?_
    obtain ⟨r_1, hc, hf⟩ := bnd hf
    refine rdS X (c_X6_has l d a z x0 x2 hc) (k_X6_87 hE rfl rfl ⟨Nat.le_of_ble_eq_true rfl, Nat.le_of_ble_eq_true rfl⟩) hP rfl hl.1 rfl (Nat.le_of_ble_eq_true rfl) dX6_size_12 ?_
    refine lv_if_eq (tgt := 21) hx hb dX6_size_15 (by decide) (fun q => ?_) (fun q => ?_)
    · have hf := (if_pos q).symm.trans hf
      refine lv_iinc (v := (x2 + (1 : Int32))) (lv' := [(2, .int (x2 + (1 : Int32))), (0, .int x0), (1, .int x1)]) hx hb dX6_size_21 hl (k := 2) rfl rfl (by decide) rfl (fun ls hl => ?_)
      refine lv_goto (tgt := 4) hx hb dX6_size_24 (by decide) ?_
      exact hk4 x0 x1 (x2 + (1 : Int32)) hf ls (lv_sub hl [1, 2, 0] rfl)
    · have hf := (if_neg q).symm.trans hf
      refine lv_iinc (v := (x1 + (1 : Int32))) (lv' := [(1, .int (x1 + (1 : Int32))), (0, .int x0), (2, .int x2)]) hx hb dX6_size_18 hl (k := 1) rfl rfl (by decide) rfl (fun ls hl => ?_)
      refine lv_iinc (v := (x2 + (1 : Int32))) (lv' := [(2, .int (x2 + (1 : Int32))), (1, .int (x1 + (1 : Int32))), (0, .int x0)]) hx hb dX6_size_21 hl (k := 2) rfl rfl (by decide) rfl (fun ls hl => ?_)
      refine lv_goto (tgt := 4) hx hb dX6_size_24 (by decide) ?_
      exact hk4 x0 (x1 + (1 : Int32)) (x2 + (1 : Int32)) hf ls (lv_sub hl [2, 1, 0] rfl)
theorem u_X6_size_4 {RR : Int32} (X : Cx p s m c cX6_size RX6 3 d) {z : St} (hP : va_P d.1 classes (wM d a z) s.heap) (hr : meth.sig.returnType = (some .int)) (hlk : meth.locks = false) : ∀ (x0 : Int32) (x1 : Int32) (x2 : Int32), l_X6_size_4 z x0 x1 x2 = some RR → WRd p l e { frames := 1, cells := 0, slots := 0, locals := 21 } s m args below meth c RR 3 [(0, .int x0), (1, .int x1), (2, .int x2)] 4 [] := by
  unfold l_X6_size_4
  generalize FU = n
  induction n with
  | zero => intro x0 x1 x2 hf; exact absurd (show (none : Option (Int32)) = some RR from hf) (by simp)
  | succ n ih => exact t_X6_size_4 X hP hr hlk ih
def f_X6_size (z : St) (x0 : Int32) : Option (Int32) := l_X6_size_4 z x0 (0 : Int32) (0 : Int32)
set_option maxHeartbeats 4000000 in
set_option maxRecDepth 100000 in
theorem t_X6_size {RR : Int32} (X : Cx p s m c cX6_size RX6 3 d) {z : St} (hP : va_P d.1 classes (wM d a z) s.heap) (hr : meth.sig.returnType = (some .int)) (hlk : meth.locks = false) : ∀ (x0 : Int32), f_X6_size z x0 = some RR → WRd p l e { frames := 1, cells := 0, slots := 0, locals := 21 } s m args below meth c RR 3 [(0, .int x0)] 0 [] := by
  intro x0 hf ls hl
  obtain ⟨hx, hb, hml, hown, hE⟩ := id X
  unfold f_X6_size at hf
  refine lv_iconst (v := 0) hx hb dX6_size_0 (by decide) ?_
  refine lv_istore_n (lv' := [(1, .int (0 : Int32)), (0, .int x0)]) hx hb dX6_size_1 rfl hl (by decide) rfl (fun ls hl => ?_)
  refine lv_iconst (v := 0) hx hb dX6_size_2 (by decide) ?_
  refine lv_istore_n (lv' := [(2, .int (0 : Int32)), (1, .int (0 : Int32)), (0, .int x0)]) hx hb dX6_size_3 rfl hl (by decide) rfl (fun ls hl => ?_)
  exact u_X6_size_4 X hP hr hlk x0 (0 : Int32) (0 : Int32) hf ls (lv_sub hl [2, 1, 0] rfl)
set_option maxHeartbeats 4000000 in
set_option maxRecDepth 100000 in
theorem c_X6_size (l : Launch) (d : G3) (a : Nat → Nat) (z : St) (x0 : Int32) {RR : Int32} (hf : f_X6_size z x0 = some RR) : Met l yX6_size [Cond.code yX6_size cX6_size 3 (some .int)] { frames := 1, cells := 0, slots := 0, locals := 21 } (rpre wM d a z [.int x0]) (QcRead RR) 0 0 (fun _ => False) := by
  refine Met.ofW (cc := cX6_size) (maxL := 3) (ret := (some .int)) (by decide) rfl ?_
  intro p e s m args below meth c s₁ B hml hv
  obtain ⟨rfl, hE, hP⟩ := hv
  have X : Cx p s m c cX6_size RX6 3 d := ⟨B.exec, B.bytes, hml, findClass_of_methodNamed B.named, hE⟩
  have hl := lv_entry ([.int x0]) (n := 3) (Nat.le_of_ble_eq_true rfl)
  rw [lg_entry_eq]
  generalize (lg_sl ([.int x0]) ++ List.replicate (3 - (lg_sl ([.int x0])).length) Slot.unset).toArray = ls at hl ⊢
  have hl : lv_has ls 3 [(0, .int x0)] := hl
  exact t_X6_size X hP B.returns B.notSynchronized x0 hf ls hl
def f_X6_changed (z : St) : Option (St) := some (pS (pS z 6 (0 : Int32)) 7 (0 : Int32))
set_option maxHeartbeats 4000000 in
set_option maxRecDepth 100000 in
theorem t_X6_changed {RR : St} (X : Cx p s m c cX6_changed RX6 1 d) (hJ : Inj 20 a) (hr : meth.sig.returnType = none) (hlk : meth.locks = false) : ∀ (z : St), f_X6_changed z = some RR → WWv wM 20 d a p l e { frames := 0, cells := 0, slots := 0, locals := 0 } s m args below meth c RR z 1 [(0, .ref (a 0))] 0 [] := by
  intro z hf H locs ls hP hS hl
  obtain ⟨hx, hb, hml, hown, hE⟩ := id X
  unfold f_X6_changed at hf
  refine lv_aload_n hx hb dX6_changed_0 rfl (lv_at hl 0 rfl) ?_
  refine lv_iconst (v := 0) hx hb dX6_changed_1 (by decide) ?_
  refine pf_6_91 hx hb hE hown hP hJ hS rfl rfl dX6_changed_2 (fun H locs hP hS => ?_)
  refine lv_aload_n hx hb dX6_changed_5 rfl (lv_at hl 0 rfl) ?_
  refine lv_iconst (v := 0) hx hb dX6_changed_6 (by decide) ?_
  refine pf_6_95 hx hb hE hown hP hJ hS rfl rfl dX6_changed_7 (fun H locs hP hS => ?_)
  obtain rfl := Option.some.inj hf
  exact W.vret hx hb hr (fun t ht _ => ⟨rfl, by rw [ht]; exact hP, hS.F ht⟩) hS.2.2 dX6_changed_10 hlk
set_option maxHeartbeats 4000000 in
set_option maxRecDepth 100000 in
theorem c_X6_changed (l : Launch) (d : G3) (a : Nat → Nat) (z : St) {RR : St} (hf : f_X6_changed z = some RR) : Met l yX6_changed [Cond.code yX6_changed cX6_changed 1 none] { frames := 0, cells := 0, slots := 0, locals := 0 } (wpre wM 20 d a z [.ref (a 0)]) (QV wM 20 d a RR) 0 0 (AD 20 a) := by
  refine Met.ofW (cc := cX6_changed) (maxL := 1) (ret := none) (by decide) rfl ?_
  intro p e s m args below meth c s₁ B hml hv
  obtain ⟨rfl, hE, hP, hJ⟩ := hv
  have X : Cx p s m c cX6_changed RX6 1 d := ⟨B.exec, B.bytes, hml, findClass_of_methodNamed B.named, hE⟩
  have hl := lv_entry ([.ref (a 0)]) (n := 1) (Nat.le_of_ble_eq_true rfl)
  rw [lg_entry_eq]
  generalize (lg_sl ([.ref (a 0)]) ++ List.replicate (1 - (lg_sl ([.ref (a 0)])).length) Slot.unset).toArray = ls at hl ⊢
  have hl : lv_has ls 1 [(0, .ref (a 0))] := hl
  exact t_X6_changed X hJ B.returns B.notSynchronized z hf s.heap [] ls hP va_S.rf hl
def f_X6_duty (x1 : Int32) (x2 : Int32) (x3 : Int32) (x4 : Int32) (x5 : Int32) (z : St) : Option (Int32 × St) := (if x2 < (1 : Int32) then some ((-2 : Int32), z) else (if (3 : Int32) < x2 then some ((-2 : Int32), z) else (if x3 < (1 : Int32) then some ((-2 : Int32), z) else (if (40 : Int32) < x3 then some ((-2 : Int32), z) else (if x5 < (0 : Int32) then some ((-2 : Int32), z) else (if x5 ≤ (1 : Int32) then (if x1 < (0 : Int32) then some ((-1 : Int32), z) else (if ((14 : Int32) - x2) < x1 then some ((-1 : Int32), z) else (if x4 < (0 : Int32) then some ((-1 : Int32), z) else (if x4 ≤ (3 : Int32) then (if (z.1 0) = (9 : Int32) then some ((-4 : Int32), z) else ck 9 (z.1 0) (ck 9 ((pA z 0 (z.1 0).toNatClampNeg x1).1 0) (ck 9 ((pA (pA z 0 (z.1 0).toNatClampNeg x1) 1 ((pA z 0 (z.1 0).toNatClampNeg x1).1 0).toNatClampNeg x2).1 0) (ck 9 ((pA (pA (pA z 0 (z.1 0).toNatClampNeg x1) 1 ((pA z 0 (z.1 0).toNatClampNeg x1).1 0).toNatClampNeg x2) 2 ((pA (pA z 0 (z.1 0).toNatClampNeg x1) 1 ((pA z 0 (z.1 0).toNatClampNeg x1).1 0).toNatClampNeg x2).1 0).toNatClampNeg x3).1 0) (ck 9 ((pA (pA (pA (pA z 0 (z.1 0).toNatClampNeg x1) 1 ((pA z 0 (z.1 0).toNatClampNeg x1).1 0).toNatClampNeg x2) 2 ((pA (pA z 0 (z.1 0).toNatClampNeg x1) 1 ((pA z 0 (z.1 0).toNatClampNeg x1).1 0).toNatClampNeg x2).1 0).toNatClampNeg x3) 3 ((pA (pA (pA z 0 (z.1 0).toNatClampNeg x1) 1 ((pA z 0 (z.1 0).toNatClampNeg x1).1 0).toNatClampNeg x2) 2 ((pA (pA z 0 (z.1 0).toNatClampNeg x1) 1 ((pA z 0 (z.1 0).toNatClampNeg x1).1 0).toNatClampNeg x2).1 0).toNatClampNeg x3).1 0).toNatClampNeg x4).1 0) ((f_X6_changed (pA (pA (pA (pA (pA z 0 (z.1 0).toNatClampNeg x1) 1 ((pA z 0 (z.1 0).toNatClampNeg x1).1 0).toNatClampNeg x2) 2 ((pA (pA z 0 (z.1 0).toNatClampNeg x1) 1 ((pA z 0 (z.1 0).toNatClampNeg x1).1 0).toNatClampNeg x2).1 0).toNatClampNeg x3) 3 ((pA (pA (pA z 0 (z.1 0).toNatClampNeg x1) 1 ((pA z 0 (z.1 0).toNatClampNeg x1).1 0).toNatClampNeg x2) 2 ((pA (pA z 0 (z.1 0).toNatClampNeg x1) 1 ((pA z 0 (z.1 0).toNatClampNeg x1).1 0).toNatClampNeg x2).1 0).toNatClampNeg x3).1 0).toNatClampNeg x4) 4 ((pA (pA (pA (pA z 0 (z.1 0).toNatClampNeg x1) 1 ((pA z 0 (z.1 0).toNatClampNeg x1).1 0).toNatClampNeg x2) 2 ((pA (pA z 0 (z.1 0).toNatClampNeg x1) 1 ((pA z 0 (z.1 0).toNatClampNeg x1).1 0).toNatClampNeg x2).1 0).toNatClampNeg x3) 3 ((pA (pA (pA z 0 (z.1 0).toNatClampNeg x1) 1 ((pA z 0 (z.1 0).toNatClampNeg x1).1 0).toNatClampNeg x2) 2 ((pA (pA z 0 (z.1 0).toNatClampNeg x1) 1 ((pA z 0 (z.1 0).toNatClampNeg x1).1 0).toNatClampNeg x2).1 0).toNatClampNeg x3).1 0).toNatClampNeg x4).1 0).toNatClampNeg x5)).bind (fun r_1 => some ((r_1.1 0), (pS r_1 0 ((r_1.1 0) + (1 : Int32))))))))))) else some ((-1 : Int32), z))))) else some ((-2 : Int32), z)))))))
set_option maxHeartbeats 4000000 in
set_option maxRecDepth 100000 in
theorem t_X6_duty {RR : Int32 × St} (X : Cx p s m c cX6_duty RX6 6 d) (hJ : Inj 20 a) (hr : meth.sig.returnType = (some .int)) (hlk : meth.locks = false) : ∀ (x1 : Int32) (x2 : Int32) (x3 : Int32) (x4 : Int32) (x5 : Int32) (z : St), f_X6_duty x1 x2 x3 x4 x5 z = some RR → WWr wM 20 d a p l e { frames := 1, cells := 0, slots := 0, locals := 20 } s m args below meth c RR z 6 [(0, .ref (a 0)), (1, .int x1), (2, .int x2), (3, .int x3), (4, .int x4), (5, .int x5)] 0 [] := by
  intro x1 x2 x3 x4 x5 z hf H locs ls hP hS hl
  obtain ⟨hx, hb, hml, hown, hE⟩ := id X
  unfold f_X6_duty at hf
  refine lv_iload_n hx hb dX6_duty_0 rfl (lv_at hl 2 rfl) ?_
  refine lv_iconst (v := 1) hx hb dX6_duty_1 (by decide) ?_
  refine lv_icmp_lt (tgt := 32) hx hb dX6_duty_2 (by decide) (fun q => ?_) (fun q => ?_)
  · have hf := (if_pos q).symm.trans hf
    refine lv_bipush (v := -2) hx hb dX6_duty_32 (by decide) ?_
    obtain rfl := Option.some.inj hf
    exact W.iret hx hb hr (fun t ht _ => ⟨rfl, by rw [ht]; exact hP, hS.F ht⟩) hS.2.2 dX6_duty_34 hlk
  · have hf := (if_neg q).symm.trans hf
    refine lv_iload_n hx hb dX6_duty_5 rfl (lv_at hl 2 rfl) ?_
    refine lv_iconst (v := 3) hx hb dX6_duty_6 (by decide) ?_
    refine lv_icmp_gt (tgt := 32) hx hb dX6_duty_7 (by decide) (fun q => ?_) (fun q => ?_)
    · have hf := (if_pos q).symm.trans hf
      refine lv_bipush (v := -2) hx hb dX6_duty_32 (by decide) ?_
      obtain rfl := Option.some.inj hf
      exact W.iret hx hb hr (fun t ht _ => ⟨rfl, by rw [ht]; exact hP, hS.F ht⟩) hS.2.2 dX6_duty_34 hlk
    · have hf := (if_neg q).symm.trans hf
      refine lv_iload_n hx hb dX6_duty_10 rfl (lv_at hl 3 rfl) ?_
      refine lv_iconst (v := 1) hx hb dX6_duty_11 (by decide) ?_
      refine lv_icmp_lt (tgt := 32) hx hb dX6_duty_12 (by decide) (fun q => ?_) (fun q => ?_)
      · have hf := (if_pos q).symm.trans hf
        refine lv_bipush (v := -2) hx hb dX6_duty_32 (by decide) ?_
        obtain rfl := Option.some.inj hf
        exact W.iret hx hb hr (fun t ht _ => ⟨rfl, by rw [ht]; exact hP, hS.F ht⟩) hS.2.2 dX6_duty_34 hlk
      · have hf := (if_neg q).symm.trans hf
        refine lv_iload_n hx hb dX6_duty_15 rfl (lv_at hl 3 rfl) ?_
        refine lv_bipush (v := 40) hx hb dX6_duty_16 (by decide) ?_
        refine lv_icmp_gt (tgt := 32) hx hb dX6_duty_18 (by decide) (fun q => ?_) (fun q => ?_)
        · have hf := (if_pos q).symm.trans hf
          refine lv_bipush (v := -2) hx hb dX6_duty_32 (by decide) ?_
          obtain rfl := Option.some.inj hf
          exact W.iret hx hb hr (fun t ht _ => ⟨rfl, by rw [ht]; exact hP, hS.F ht⟩) hS.2.2 dX6_duty_34 hlk
        · have hf := (if_neg q).symm.trans hf
          refine lv_iload hx hb dX6_duty_21 (lv_at hl 5 rfl) ?_
          refine lv_if_lt (tgt := 32) hx hb dX6_duty_23 (by decide) (fun q => ?_) (fun q => ?_)
          · have hf := (if_pos q).symm.trans hf
            refine lv_bipush (v := -2) hx hb dX6_duty_32 (by decide) ?_
            obtain rfl := Option.some.inj hf
            exact W.iret hx hb hr (fun t ht _ => ⟨rfl, by rw [ht]; exact hP, hS.F ht⟩) hS.2.2 dX6_duty_34 hlk
          · have hf := (if_neg q).symm.trans hf
            refine lv_iload hx hb dX6_duty_26 (lv_at hl 5 rfl) ?_
            refine lv_iconst (v := 1) hx hb dX6_duty_28 (by decide) ?_
            refine lv_icmp_le (tgt := 35) hx hb dX6_duty_29 (by decide) (fun q => ?_) (fun q => ?_)
            · have hf := (if_pos q).symm.trans hf
              refine lv_iload_n hx hb dX6_duty_35 rfl (lv_at hl 1 rfl) ?_
              refine lv_if_lt (tgt := 58) hx hb dX6_duty_36 (by decide) (fun q => ?_) (fun q => ?_)
              · have hf := (if_pos q).symm.trans hf
                refine lv_iconst (v := -1) hx hb dX6_duty_58 (by decide) ?_
                obtain rfl := Option.some.inj hf
                exact W.iret hx hb hr (fun t ht _ => ⟨rfl, by rw [ht]; exact hP, hS.F ht⟩) hS.2.2 dX6_duty_59 hlk
              · have hf := (if_neg q).symm.trans hf
                refine lv_iload_n hx hb dX6_duty_39 rfl (lv_at hl 1 rfl) ?_
                refine lv_bipush (v := 14) hx hb dX6_duty_40 (by decide) ?_
                refine lv_iload_n hx hb dX6_duty_42 rfl (lv_at hl 2 rfl) ?_
                refine lv_isub hx hb dX6_duty_43 ?_
                refine lv_icmp_gt (tgt := 58) hx hb dX6_duty_44 (by decide) (fun q => ?_) (fun q => ?_)
                · have hf := (if_pos q).symm.trans hf
                  refine lv_iconst (v := -1) hx hb dX6_duty_58 (by decide) ?_
                  obtain rfl := Option.some.inj hf
                  exact W.iret hx hb hr (fun t ht _ => ⟨rfl, by rw [ht]; exact hP, hS.F ht⟩) hS.2.2 dX6_duty_59 hlk
                · have hf := (if_neg q).symm.trans hf
                  refine lv_iload hx hb dX6_duty_47 (lv_at hl 4 rfl) ?_
                  refine lv_if_lt (tgt := 58) hx hb dX6_duty_49 (by decide) (fun q => ?_) (fun q => ?_)
                  · have hf := (if_pos q).symm.trans hf
                    refine lv_iconst (v := -1) hx hb dX6_duty_58 (by decide) ?_
                    obtain rfl := Option.some.inj hf
                    exact W.iret hx hb hr (fun t ht _ => ⟨rfl, by rw [ht]; exact hP, hS.F ht⟩) hS.2.2 dX6_duty_59 hlk
                  · have hf := (if_neg q).symm.trans hf
                    refine lv_iload hx hb dX6_duty_52 (lv_at hl 4 rfl) ?_
                    refine lv_iconst (v := 3) hx hb dX6_duty_54 (by decide) ?_
                    refine lv_icmp_le (tgt := 60) hx hb dX6_duty_55 (by decide) (fun q => ?_) (fun q => ?_)
                    · have hf := (if_pos q).symm.trans hf
                      refine lv_aload_n hx hb dX6_duty_60 rfl (lv_at hl 0 rfl) ?_
                      refine gf_6_84 hx hb hE hown hP dX6_duty_61 ?_
                      refine lv_bipush (v := 9) hx hb dX6_duty_64 (by decide) ?_
                      refine lv_icmp_ne (tgt := 72) hx hb dX6_duty_66 (by decide) (fun q => ?_) (fun q => ?_)
                      · have hf := (if_neg q).symm.trans hf
                        refine lv_aload_n hx hb dX6_duty_72 rfl (lv_at hl 0 rfl) ?_
                        refine gf_6_9 hx hb hE hown hP dX6_duty_73 ?_
                        refine lv_aload_n hx hb dX6_duty_76 rfl (lv_at hl 0 rfl) ?_
                        refine gf_6_84 hx hb hE hown hP dX6_duty_77 ?_
                        refine lv_iload_n hx hb dX6_duty_80 rfl (lv_at hl 1 rfl) ?_
                        obtain ⟨hi, hf⟩ := ck_some hf
                        refine st_M_1 hx hb hE hP hJ hS hi dX6_duty_81 (fun H locs hP hS => ?_)
                        refine lv_aload_n hx hb dX6_duty_82 rfl (lv_at hl 0 rfl) ?_
                        refine gf_6_13 hx hb hE hown hP dX6_duty_83 ?_
                        refine lv_aload_n hx hb dX6_duty_86 rfl (lv_at hl 0 rfl) ?_
                        refine gf_6_84 hx hb hE hown hP dX6_duty_87 ?_
                        refine lv_iload_n hx hb dX6_duty_90 rfl (lv_at hl 2 rfl) ?_
                        obtain ⟨hi, hf⟩ := ck_some hf
                        refine st_M_2 hx hb hE hP hJ hS hi dX6_duty_91 (fun H locs hP hS => ?_)
                        refine lv_aload_n hx hb dX6_duty_92 rfl (lv_at hl 0 rfl) ?_
                        refine gf_6_16 hx hb hE hown hP dX6_duty_93 ?_
                        refine lv_aload_n hx hb dX6_duty_96 rfl (lv_at hl 0 rfl) ?_
                        refine gf_6_84 hx hb hE hown hP dX6_duty_97 ?_
                        refine lv_iload_n hx hb dX6_duty_100 rfl (lv_at hl 3 rfl) ?_
                        obtain ⟨hi, hf⟩ := ck_some hf
                        refine st_M_3 hx hb hE hP hJ hS hi dX6_duty_101 (fun H locs hP hS => ?_)
                        refine lv_aload_n hx hb dX6_duty_102 rfl (lv_at hl 0 rfl) ?_
                        refine gf_6_19 hx hb hE hown hP dX6_duty_103 ?_
                        refine lv_aload_n hx hb dX6_duty_106 rfl (lv_at hl 0 rfl) ?_
                        refine gf_6_84 hx hb hE hown hP dX6_duty_107 ?_
                        refine lv_iload hx hb dX6_duty_110 (lv_at hl 4 rfl) ?_
                        obtain ⟨hi, hf⟩ := ck_some hf
                        refine st_M_4 hx hb hE hP hJ hS hi dX6_duty_112 (fun H locs hP hS => ?_)
                        refine lv_aload_n hx hb dX6_duty_113 rfl (lv_at hl 0 rfl) ?_
                        refine gf_6_22 hx hb hE hown hP dX6_duty_114 ?_
                        refine lv_aload_n hx hb dX6_duty_117 rfl (lv_at hl 0 rfl) ?_
                        refine gf_6_84 hx hb hE hown hP dX6_duty_118 ?_
                        refine lv_iload hx hb dX6_duty_121 (lv_at hl 5 rfl) ?_
                        obtain ⟨hi, hf⟩ := ck_some hf
                        refine st_M_5 hx hb hE hP hJ hS hi dX6_duty_123 (fun H locs hP hS => ?_)
                        refine lv_aload_n hx hb dX6_duty_124 rfl (lv_at hl 0 rfl) ?_
                        obtain ⟨r_1, hc, hf⟩ := bnd hf
                        refine wrVv X (c_X6_changed l d a (pA (pA (pA (pA (pA z 0 (z.1 0).toNatClampNeg x1) 1 ((pA z 0 (z.1 0).toNatClampNeg x1).1 0).toNatClampNeg x2) 2 ((pA (pA z 0 (z.1 0).toNatClampNeg x1) 1 ((pA z 0 (z.1 0).toNatClampNeg x1).1 0).toNatClampNeg x2).1 0).toNatClampNeg x3) 3 ((pA (pA (pA z 0 (z.1 0).toNatClampNeg x1) 1 ((pA z 0 (z.1 0).toNatClampNeg x1).1 0).toNatClampNeg x2) 2 ((pA (pA z 0 (z.1 0).toNatClampNeg x1) 1 ((pA z 0 (z.1 0).toNatClampNeg x1).1 0).toNatClampNeg x2).1 0).toNatClampNeg x3).1 0).toNatClampNeg x4) 4 ((pA (pA (pA (pA z 0 (z.1 0).toNatClampNeg x1) 1 ((pA z 0 (z.1 0).toNatClampNeg x1).1 0).toNatClampNeg x2) 2 ((pA (pA z 0 (z.1 0).toNatClampNeg x1) 1 ((pA z 0 (z.1 0).toNatClampNeg x1).1 0).toNatClampNeg x2).1 0).toNatClampNeg x3) 3 ((pA (pA (pA z 0 (z.1 0).toNatClampNeg x1) 1 ((pA z 0 (z.1 0).toNatClampNeg x1).1 0).toNatClampNeg x2) 2 ((pA (pA z 0 (z.1 0).toNatClampNeg x1) 1 ((pA z 0 (z.1 0).toNatClampNeg x1).1 0).toNatClampNeg x2).1 0).toNatClampNeg x3).1 0).toNatClampNeg x4).1 0).toNatClampNeg x5) hc) (k_X6_98 hE rfl rfl ⟨Nat.le_of_ble_eq_true rfl, Nat.le_of_ble_eq_true rfl⟩) hP hJ hS (va_recv (q := (RX6, TX6, 28)) hE.2 hP (ci := 6) (q0 := 0) rfl rfl) rfl hl.1 rfl (Nat.le_of_ble_eq_true rfl) dX6_duty_125 (fun H locs hP hS => ?_)
                        refine lv_aload_n hx hb dX6_duty_128 rfl (lv_at hl 0 rfl) ?_
                        refine lv_dup hx hb dX6_duty_129 rfl ?_
                        refine gf_6_84 hx hb hE hown hP dX6_duty_130 ?_
                        refine lv_dup_x1 hx hb dX6_duty_133 rfl rfl ?_
                        refine lv_iconst (v := 1) hx hb dX6_duty_134 (by decide) ?_
                        refine lv_iadd hx hb dX6_duty_135 ?_
                        refine pf_6_84 hx hb hE hown hP hJ hS dX6_duty_136 (fun H locs hP hS => ?_)
                        obtain rfl := Option.some.inj hf
                        exact W.iret hx hb hr (fun t ht _ => ⟨rfl, by rw [ht]; exact hP, hS.F ht⟩) hS.2.2 dX6_duty_139 hlk
                      · have hf := (if_pos q).symm.trans hf
                        refine lv_bipush (v := -4) hx hb dX6_duty_69 (by decide) ?_
                        obtain rfl := Option.some.inj hf
                        exact W.iret hx hb hr (fun t ht _ => ⟨rfl, by rw [ht]; exact hP, hS.F ht⟩) hS.2.2 dX6_duty_71 hlk
                    · have hf := (if_neg q).symm.trans hf
                      refine lv_iconst (v := -1) hx hb dX6_duty_58 (by decide) ?_
                      obtain rfl := Option.some.inj hf
                      exact W.iret hx hb hr (fun t ht _ => ⟨rfl, by rw [ht]; exact hP, hS.F ht⟩) hS.2.2 dX6_duty_59 hlk
            · have hf := (if_neg q).symm.trans hf
              refine lv_bipush (v := -2) hx hb dX6_duty_32 (by decide) ?_
              obtain rfl := Option.some.inj hf
              exact W.iret hx hb hr (fun t ht _ => ⟨rfl, by rw [ht]; exact hP, hS.F ht⟩) hS.2.2 dX6_duty_34 hlk
set_option maxHeartbeats 4000000 in
set_option maxRecDepth 100000 in
theorem c_X6_duty (l : Launch) (d : G3) (a : Nat → Nat) (z : St) (x1 : Int32) (x2 : Int32) (x3 : Int32) (x4 : Int32) (x5 : Int32) {RR : Int32 × St} (hf : f_X6_duty x1 x2 x3 x4 x5 z = some RR) : Met l yX6_duty [Cond.code yX6_duty cX6_duty 6 (some .int)] { frames := 1, cells := 0, slots := 0, locals := 20 } (wpre wM 20 d a z [.ref (a 0), .int x1, .int x2, .int x3, .int x4, .int x5]) (QW wM 20 d a RR) 0 0 (AD 20 a) := by
  refine Met.ofW (cc := cX6_duty) (maxL := 6) (ret := (some .int)) (by decide) rfl ?_
  intro p e s m args below meth c s₁ B hml hv
  obtain ⟨rfl, hE, hP, hJ⟩ := hv
  have X : Cx p s m c cX6_duty RX6 6 d := ⟨B.exec, B.bytes, hml, findClass_of_methodNamed B.named, hE⟩
  have hl := lv_entry ([.ref (a 0), .int x1, .int x2, .int x3, .int x4, .int x5]) (n := 6) (Nat.le_of_ble_eq_true rfl)
  rw [lg_entry_eq]
  generalize (lg_sl ([.ref (a 0), .int x1, .int x2, .int x3, .int x4, .int x5]) ++ List.replicate (6 - (lg_sl ([.ref (a 0), .int x1, .int x2, .int x3, .int x4, .int x5])).length) Slot.unset).toArray = ls at hl ⊢
  have hl : lv_has ls 6 [(0, .ref (a 0)), (1, .int x1), (2, .int x2), (3, .int x3), (4, .int x4), (5, .int x5)] := hl
  exact t_X6_duty X hJ B.returns B.notSynchronized x1 x2 x3 x4 x5 z hf s.heap [] ls hP va_S.rf hl
end GEN
