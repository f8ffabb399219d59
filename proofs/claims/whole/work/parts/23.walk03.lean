section GEN
variable {p : Program} {l : Launch} {e : Env} {s : State} {m : MethodId} {args : Array Value} {below : List Frame} {meth : Method} {c : Code} {d : G3} {a : Nat → Nat}
def f_J6_bitCount_0f7a4 (z : St) (x0 : Int32) : Option (Int32) := some ((((((((x0 - ((((x0).toUInt32 >>> (((1 : Int32)).toUInt32 &&& Int32.toUInt32 31)).toInt32) &&& (1431655765 : Int32))) &&& (858993459 : Int32)) + (((((x0 - ((((x0).toUInt32 >>> (((1 : Int32)).toUInt32 &&& Int32.toUInt32 31)).toInt32) &&& (1431655765 : Int32)))).toUInt32 >>> (((2 : Int32)).toUInt32 &&& Int32.toUInt32 31)).toInt32) &&& (858993459 : Int32))) + ((((((x0 - ((((x0).toUInt32 >>> (((1 : Int32)).toUInt32 &&& Int32.toUInt32 31)).toInt32) &&& (1431655765 : Int32))) &&& (858993459 : Int32)) + (((((x0 - ((((x0).toUInt32 >>> (((1 : Int32)).toUInt32 &&& Int32.toUInt32 31)).toInt32) &&& (1431655765 : Int32)))).toUInt32 >>> (((2 : Int32)).toUInt32 &&& Int32.toUInt32 31)).toInt32) &&& (858993459 : Int32)))).toUInt32 >>> (((4 : Int32)).toUInt32 &&& Int32.toUInt32 31)).toInt32)) &&& (252645135 : Int32)) + ((((((((x0 - ((((x0).toUInt32 >>> (((1 : Int32)).toUInt32 &&& Int32.toUInt32 31)).toInt32) &&& (1431655765 : Int32))) &&& (858993459 : Int32)) + (((((x0 - ((((x0).toUInt32 >>> (((1 : Int32)).toUInt32 &&& Int32.toUInt32 31)).toInt32) &&& (1431655765 : Int32)))).toUInt32 >>> (((2 : Int32)).toUInt32 &&& Int32.toUInt32 31)).toInt32) &&& (858993459 : Int32))) + ((((((x0 - ((((x0).toUInt32 >>> (((1 : Int32)).toUInt32 &&& Int32.toUInt32 31)).toInt32) &&& (1431655765 : Int32))) &&& (858993459 : Int32)) + (((((x0 - ((((x0).toUInt32 >>> (((1 : Int32)).toUInt32 &&& Int32.toUInt32 31)).toInt32) &&& (1431655765 : Int32)))).toUInt32 >>> (((2 : Int32)).toUInt32 &&& Int32.toUInt32 31)).toInt32) &&& (858993459 : Int32)))).toUInt32 >>> (((4 : Int32)).toUInt32 &&& Int32.toUInt32 31)).toInt32)) &&& (252645135 : Int32))).toUInt32 >>> (((8 : Int32)).toUInt32 &&& Int32.toUInt32 31)).toInt32)) + (((((((((x0 - ((((x0).toUInt32 >>> (((1 : Int32)).toUInt32 &&& Int32.toUInt32 31)).toInt32) &&& (1431655765 : Int32))) &&& (858993459 : Int32)) + (((((x0 - ((((x0).toUInt32 >>> (((1 : Int32)).toUInt32 &&& Int32.toUInt32 31)).toInt32) &&& (1431655765 : Int32)))).toUInt32 >>> (((2 : Int32)).toUInt32 &&& Int32.toUInt32 31)).toInt32) &&& (858993459 : Int32))) + ((((((x0 - ((((x0).toUInt32 >>> (((1 : Int32)).toUInt32 &&& Int32.toUInt32 31)).toInt32) &&& (1431655765 : Int32))) &&& (858993459 : Int32)) + (((((x0 - ((((x0).toUInt32 >>> (((1 : Int32)).toUInt32 &&& Int32.toUInt32 31)).toInt32) &&& (1431655765 : Int32)))).toUInt32 >>> (((2 : Int32)).toUInt32 &&& Int32.toUInt32 31)).toInt32) &&& (858993459 : Int32)))).toUInt32 >>> (((4 : Int32)).toUInt32 &&& Int32.toUInt32 31)).toInt32)) &&& (252645135 : Int32)) + ((((((((x0 - ((((x0).toUInt32 >>> (((1 : Int32)).toUInt32 &&& Int32.toUInt32 31)).toInt32) &&& (1431655765 : Int32))) &&& (858993459 : Int32)) + (((((x0 - ((((x0).toUInt32 >>> (((1 : Int32)).toUInt32 &&& Int32.toUInt32 31)).toInt32) &&& (1431655765 : Int32)))).toUInt32 >>> (((2 : Int32)).toUInt32 &&& Int32.toUInt32 31)).toInt32) &&& (858993459 : Int32))) + ((((((x0 - ((((x0).toUInt32 >>> (((1 : Int32)).toUInt32 &&& Int32.toUInt32 31)).toInt32) &&& (1431655765 : Int32))) &&& (858993459 : Int32)) + (((((x0 - ((((x0).toUInt32 >>> (((1 : Int32)).toUInt32 &&& Int32.toUInt32 31)).toInt32) &&& (1431655765 : Int32)))).toUInt32 >>> (((2 : Int32)).toUInt32 &&& Int32.toUInt32 31)).toInt32) &&& (858993459 : Int32)))).toUInt32 >>> (((4 : Int32)).toUInt32 &&& Int32.toUInt32 31)).toInt32)) &&& (252645135 : Int32))).toUInt32 >>> (((8 : Int32)).toUInt32 &&& Int32.toUInt32 31)).toInt32))).toUInt32 >>> (((16 : Int32)).toUInt32 &&& Int32.toUInt32 31)).toInt32)) &&& (63 : Int32))
set_option maxHeartbeats 4000000 in
set_option maxRecDepth 100000 in
theorem t_J6_bitCount_0f7a4 {RR : Int32} (X : Cx p s m c cJ6_bitCount_0f7a4 RJ6 1 d) {z : St} (hP : va_P d.1 classes (wC d a z) s.heap) (hr : meth.sig.returnType = (some .int)) (hlk : meth.locks = false) : ∀ (x0 : Int32), f_J6_bitCount_0f7a4 z x0 = some RR → WRd p l e { frames := 0, cells := 0, slots := 0, locals := 0 } s m args below meth c RR 1 [(0, .int x0)] 0 [] := by
  intro x0 hf ls hl
  obtain ⟨hx, hb, hml, hown, hE⟩ := id X
  unfold f_J6_bitCount_0f7a4 at hf
  refine lv_iload_n hx hb dJ6_bitCount_0f7a4_0 rfl (lv_at hl 0 rfl) ?_
  refine lv_iload_n hx hb dJ6_bitCount_0f7a4_1 rfl (lv_at hl 0 rfl) ?_
  refine lv_iconst (v := 1) hx hb dJ6_bitCount_0f7a4_2 (by decide) ?_
  refine lv_iushr hx hb dJ6_bitCount_0f7a4_3 rfl ?_
  refine lv_ldcw hx hb hown (hE.1 _ q369 _) dJ6_bitCount_0f7a4_4 ?_
  refine lv_iand hx hb dJ6_bitCount_0f7a4_7 ?_
  refine lv_isub hx hb dJ6_bitCount_0f7a4_8 ?_
  refine lv_istore_n (lv' := [(0, .int (x0 - ((((x0).toUInt32 >>> (((1 : Int32)).toUInt32 &&& Int32.toUInt32 31)).toInt32) &&& (1431655765 : Int32))))]) hx hb dJ6_bitCount_0f7a4_9 rfl hl (by decide) rfl (fun ls hl => ?_)
  refine lv_iload_n hx hb dJ6_bitCount_0f7a4_10 rfl (lv_at hl 0 rfl) ?_
  refine lv_ldcw hx hb hown (hE.1 _ q370 _) dJ6_bitCount_0f7a4_11 ?_
  refine lv_iand hx hb dJ6_bitCount_0f7a4_14 ?_
  refine lv_iload_n hx hb dJ6_bitCount_0f7a4_15 rfl (lv_at hl 0 rfl) ?_
  refine lv_iconst (v := 2) hx hb dJ6_bitCount_0f7a4_16 (by decide) ?_
  refine lv_iushr hx hb dJ6_bitCount_0f7a4_17 rfl ?_
  refine lv_ldcw hx hb hown (hE.1 _ q370 _) dJ6_bitCount_0f7a4_18 ?_
  refine lv_iand hx hb dJ6_bitCount_0f7a4_21 ?_
  refine lv_iadd hx hb dJ6_bitCount_0f7a4_22 ?_
  refine lv_istore_n (lv' := [(0, .int (((x0 - ((((x0).toUInt32 >>> (((1 : Int32)).toUInt32 &&& Int32.toUInt32 31)).toInt32) &&& (1431655765 : Int32))) &&& (858993459 : Int32)) + (((((x0 - ((((x0).toUInt32 >>> (((1 : Int32)).toUInt32 &&& Int32.toUInt32 31)).toInt32) &&& (1431655765 : Int32)))).toUInt32 >>> (((2 : Int32)).toUInt32 &&& Int32.toUInt32 31)).toInt32) &&& (858993459 : Int32))))]) hx hb dJ6_bitCount_0f7a4_23 rfl hl (by decide) rfl (fun ls hl => ?_)
  refine lv_iload_n hx hb dJ6_bitCount_0f7a4_24 rfl (lv_at hl 0 rfl) ?_
  refine lv_iload_n hx hb dJ6_bitCount_0f7a4_25 rfl (lv_at hl 0 rfl) ?_
  refine lv_iconst (v := 4) hx hb dJ6_bitCount_0f7a4_26 (by decide) ?_
  refine lv_iushr hx hb dJ6_bitCount_0f7a4_27 rfl ?_
  refine lv_iadd hx hb dJ6_bitCount_0f7a4_28 ?_
  refine lv_ldcw hx hb hown (hE.1 _ q371 _) dJ6_bitCount_0f7a4_29 ?_
  refine lv_iand hx hb dJ6_bitCount_0f7a4_32 ?_
  refine lv_istore_n (lv' := [(0, .int (((((x0 - ((((x0).toUInt32 >>> (((1 : Int32)).toUInt32 &&& Int32.toUInt32 31)).toInt32) &&& (1431655765 : Int32))) &&& (858993459 : Int32)) + (((((x0 - ((((x0).toUInt32 >>> (((1 : Int32)).toUInt32 &&& Int32.toUInt32 31)).toInt32) &&& (1431655765 : Int32)))).toUInt32 >>> (((2 : Int32)).toUInt32 &&& Int32.toUInt32 31)).toInt32) &&& (858993459 : Int32))) + ((((((x0 - ((((x0).toUInt32 >>> (((1 : Int32)).toUInt32 &&& Int32.toUInt32 31)).toInt32) &&& (1431655765 : Int32))) &&& (858993459 : Int32)) + (((((x0 - ((((x0).toUInt32 >>> (((1 : Int32)).toUInt32 &&& Int32.toUInt32 31)).toInt32) &&& (1431655765 : Int32)))).toUInt32 >>> (((2 : Int32)).toUInt32 &&& Int32.toUInt32 31)).toInt32) &&& (858993459 : Int32)))).toUInt32 >>> (((4 : Int32)).toUInt32 &&& Int32.toUInt32 31)).toInt32)) &&& (252645135 : Int32)))]) hx hb dJ6_bitCount_0f7a4_33 rfl hl (by decide) rfl (fun ls hl => ?_)
  refine lv_iload_n hx hb dJ6_bitCount_0f7a4_34 rfl (lv_at hl 0 rfl) ?_
  refine lv_iload_n hx hb dJ6_bitCount_0f7a4_35 rfl (lv_at hl 0 rfl) ?_
  refine lv_bipush (v := 8) hx hb dJ6_bitCount_0f7a4_36 (by decide) ?_
  refine lv_iushr hx hb dJ6_bitCount_0f7a4_38 rfl ?_
  refine lv_iadd hx hb dJ6_bitCount_0f7a4_39 ?_
  refine lv_istore_n (lv' := [(0, .int ((((((x0 - ((((x0).toUInt32 >>> (((1 : Int32)).toUInt32 &&& Int32.toUInt32 31)).toInt32) &&& (1431655765 : Int32))) &&& (858993459 : Int32)) + (((((x0 - ((((x0).toUInt32 >>> (((1 : Int32)).toUInt32 &&& Int32.toUInt32 31)).toInt32) &&& (1431655765 : Int32)))).toUInt32 >>> (((2 : Int32)).toUInt32 &&& Int32.toUInt32 31)).toInt32) &&& (858993459 : Int32))) + ((((((x0 - ((((x0).toUInt32 >>> (((1 : Int32)).toUInt32 &&& Int32.toUInt32 31)).toInt32) &&& (1431655765 : Int32))) &&& (858993459 : Int32)) + (((((x0 - ((((x0).toUInt32 >>> (((1 : Int32)).toUInt32 &&& Int32.toUInt32 31)).toInt32) &&& (1431655765 : Int32)))).toUInt32 >>> (((2 : Int32)).toUInt32 &&& Int32.toUInt32 31)).toInt32) &&& (858993459 : Int32)))).toUInt32 >>> (((4 : Int32)).toUInt32 &&& Int32.toUInt32 31)).toInt32)) &&& (252645135 : Int32)) + ((((((((x0 - ((((x0).toUInt32 >>> (((1 : Int32)).toUInt32 &&& Int32.toUInt32 31)).toInt32) &&& (1431655765 : Int32))) &&& (858993459 : Int32)) + (((((x0 - ((((x0).toUInt32 >>> (((1 : Int32)).toUInt32 &&& Int32.toUInt32 31)).toInt32) &&& (1431655765 : Int32)))).toUInt32 >>> (((2 : Int32)).toUInt32 &&& Int32.toUInt32 31)).toInt32) &&& (858993459 : Int32))) + ((((((x0 - ((((x0).toUInt32 >>> (((1 : Int32)).toUInt32 &&& Int32.toUInt32 31)).toInt32) &&& (1431655765 : Int32))) &&& (858993459 : Int32)) + (((((x0 - ((((x0).toUInt32 >>> (((1 : Int32)).toUInt32 &&& Int32.toUInt32 31)).toInt32) &&& (1431655765 : Int32)))).toUInt32 >>> (((2 : Int32)).toUInt32 &&& Int32.toUInt32 31)).toInt32) &&& (858993459 : Int32)))).toUInt32 >>> (((4 : Int32)).toUInt32 &&& Int32.toUInt32 31)).toInt32)) &&& (252645135 : Int32))).toUInt32 >>> (((8 : Int32)).toUInt32 &&& Int32.toUInt32 31)).toInt32)))]) hx hb dJ6_bitCount_0f7a4_40 rfl hl (by decide) rfl (fun ls hl => ?_)
  refine lv_iload_n hx hb dJ6_bitCount_0f7a4_41 rfl (lv_at hl 0 rfl) ?_
  refine lv_iload_n hx hb dJ6_bitCount_0f7a4_42 rfl (lv_at hl 0 rfl) ?_
  refine lv_bipush (v := 16) hx hb dJ6_bitCount_0f7a4_43 (by decide) ?_
  refine lv_iushr hx hb dJ6_bitCount_0f7a4_45 rfl ?_
  refine lv_iadd hx hb dJ6_bitCount_0f7a4_46 ?_
  refine lv_istore_n (lv' := [(0, .int (((((((x0 - ((((x0).toUInt32 >>> (((1 : Int32)).toUInt32 &&& Int32.toUInt32 31)).toInt32) &&& (1431655765 : Int32))) &&& (858993459 : Int32)) + (((((x0 - ((((x0).toUInt32 >>> (((1 : Int32)).toUInt32 &&& Int32.toUInt32 31)).toInt32) &&& (1431655765 : Int32)))).toUInt32 >>> (((2 : Int32)).toUInt32 &&& Int32.toUInt32 31)).toInt32) &&& (858993459 : Int32))) + ((((((x0 - ((((x0).toUInt32 >>> (((1 : Int32)).toUInt32 &&& Int32.toUInt32 31)).toInt32) &&& (1431655765 : Int32))) &&& (858993459 : Int32)) + (((((x0 - ((((x0).toUInt32 >>> (((1 : Int32)).toUInt32 &&& Int32.toUInt32 31)).toInt32) &&& (1431655765 : Int32)))).toUInt32 >>> (((2 : Int32)).toUInt32 &&& Int32.toUInt32 31)).toInt32) &&& (858993459 : Int32)))).toUInt32 >>> (((4 : Int32)).toUInt32 &&& Int32.toUInt32 31)).toInt32)) &&& (252645135 : Int32)) + ((((((((x0 - ((((x0).toUInt32 >>> (((1 : Int32)).toUInt32 &&& Int32.toUInt32 31)).toInt32) &&& (1431655765 : Int32))) &&& (858993459 : Int32)) + (((((x0 - ((((x0).toUInt32 >>> (((1 : Int32)).toUInt32 &&& Int32.toUInt32 31)).toInt32) &&& (1431655765 : Int32)))).toUInt32 >>> (((2 : Int32)).toUInt32 &&& Int32.toUInt32 31)).toInt32) &&& (858993459 : Int32))) + ((((((x0 - ((((x0).toUInt32 >>> (((1 : Int32)).toUInt32 &&& Int32.toUInt32 31)).toInt32) &&& (1431655765 : Int32))) &&& (858993459 : Int32)) + (((((x0 - ((((x0).toUInt32 >>> (((1 : Int32)).toUInt32 &&& Int32.toUInt32 31)).toInt32) &&& (1431655765 : Int32)))).toUInt32 >>> (((2 : Int32)).toUInt32 &&& Int32.toUInt32 31)).toInt32) &&& (858993459 : Int32)))).toUInt32 >>> (((4 : Int32)).toUInt32 &&& Int32.toUInt32 31)).toInt32)) &&& (252645135 : Int32))).toUInt32 >>> (((8 : Int32)).toUInt32 &&& Int32.toUInt32 31)).toInt32)) + (((((((((x0 - ((((x0).toUInt32 >>> (((1 : Int32)).toUInt32 &&& Int32.toUInt32 31)).toInt32) &&& (1431655765 : Int32))) &&& (858993459 : Int32)) + (((((x0 - ((((x0).toUInt32 >>> (((1 : Int32)).toUInt32 &&& Int32.toUInt32 31)).toInt32) &&& (1431655765 : Int32)))).toUInt32 >>> (((2 : Int32)).toUInt32 &&& Int32.toUInt32 31)).toInt32) &&& (858993459 : Int32))) + ((((((x0 - ((((x0).toUInt32 >>> (((1 : Int32)).toUInt32 &&& Int32.toUInt32 31)).toInt32) &&& (1431655765 : Int32))) &&& (858993459 : Int32)) + (((((x0 - ((((x0).toUInt32 >>> (((1 : Int32)).toUInt32 &&& Int32.toUInt32 31)).toInt32) &&& (1431655765 : Int32)))).toUInt32 >>> (((2 : Int32)).toUInt32 &&& Int32.toUInt32 31)).toInt32) &&& (858993459 : Int32)))).toUInt32 >>> (((4 : Int32)).toUInt32 &&& Int32.toUInt32 31)).toInt32)) &&& (252645135 : Int32)) + ((((((((x0 - ((((x0).toUInt32 >>> (((1 : Int32)).toUInt32 &&& Int32.toUInt32 31)).toInt32) &&& (1431655765 : Int32))) &&& (858993459 : Int32)) + (((((x0 - ((((x0).toUInt32 >>> (((1 : Int32)).toUInt32 &&& Int32.toUInt32 31)).toInt32) &&& (1431655765 : Int32)))).toUInt32 >>> (((2 : Int32)).toUInt32 &&& Int32.toUInt32 31)).toInt32) &&& (858993459 : Int32))) + ((((((x0 - ((((x0).toUInt32 >>> (((1 : Int32)).toUInt32 &&& Int32.toUInt32 31)).toInt32) &&& (1431655765 : Int32))) &&& (858993459 : Int32)) + (((((x0 - ((((x0).toUInt32 >>> (((1 : Int32)).toUInt32 &&& Int32.toUInt32 31)).toInt32) &&& (1431655765 : Int32)))).toUInt32 >>> (((2 : Int32)).toUInt32 &&& Int32.toUInt32 31)).toInt32) &&& (858993459 : Int32)))).toUInt32 >>> (((4 : Int32)).toUInt32 &&& Int32.toUInt32 31)).toInt32)) &&& (252645135 : Int32))).toUInt32 >>> (((8 : Int32)).toUInt32 &&& Int32.toUInt32 31)).toInt32))).toUInt32 >>> (((16 : Int32)).toUInt32 &&& Int32.toUInt32 31)).toInt32)))]) hx hb dJ6_bitCount_0f7a4_47 rfl hl (by decide) rfl (fun ls hl => ?_)
  refine lv_iload_n hx hb dJ6_bitCount_0f7a4_48 rfl (lv_at hl 0 rfl) ?_
  refine lv_bipush (v := 63) hx hb dJ6_bitCount_0f7a4_49 (by decide) ?_
  refine lv_iand hx hb dJ6_bitCount_0f7a4_51 ?_
  obtain rfl := Option.some.inj hf
  exact W.iret hx hb hr (fun t ht _ => ⟨rfl, ht⟩) (fun _ h => nomatch h) dJ6_bitCount_0f7a4_52 hlk
set_option maxHeartbeats 4000000 in
set_option maxRecDepth 100000 in
theorem c_J6_bitCount_0f7a4 (l : Launch) (d : G3) (a : Nat → Nat) (z : St) (x0 : Int32) {RR : Int32} (hf : f_J6_bitCount_0f7a4 z x0 = some RR) : Met l yJ6_bitCount_0f7a4 [Cond.code yJ6_bitCount_0f7a4 cJ6_bitCount_0f7a4 1 (some .int)] { frames := 0, cells := 0, slots := 0, locals := 0 } (rpre wC d a z [.int x0]) (QcRead RR) 0 0 (fun _ => False) := by
  refine Met.ofW (cc := cJ6_bitCount_0f7a4) (maxL := 1) (ret := (some .int)) (by decide) rfl ?_
  intro p e s m args below meth c s₁ B hml hv
  obtain ⟨rfl, hE, hP⟩ := hv
  have X : Cx p s m c cJ6_bitCount_0f7a4 RJ6 1 d := ⟨B.exec, B.bytes, hml, findClass_of_methodNamed B.named, hE⟩
  have hl := lv_entry ([.int x0]) (n := 1) (Nat.le_of_ble_eq_true rfl)
  rw [lg_entry_eq]
  generalize (lg_sl ([.int x0]) ++ List.replicate (1 - (lg_sl ([.int x0])).length) Slot.unset).toArray = ls at hl ⊢
  have hl : lv_has ls 1 [(0, .int x0)] := hl
  exact t_J6_bitCount_0f7a4 X hP B.returns B.notSynchronized x0 hf ls hl
def f_X0_bestWithOneLess_5 (z : St) (k5 : Int32 → Int32 → Int32 → Int32 → Option (Int32)) (x1 : Int32) (x2 : Int32) (x3 : Int32) (x4 : Int32) : Option (Int32) := (if (z.1 3) ≤ x4 then some x3 else (f_X5_isIn z x4 x2).bind (fun r_1 => (if r_1 = (0 : Int32) then k5 x1 x2 x3 (x4 + (1 : Int32)) else ck 8192 (x1 + (x2 &&& (((1 : Int32) <<< (x4 &&& 31)) ^^^ (-1 : Int32)))) (k5 x1 x2 (if x3 < (z.2 7 (x1 + (x2 &&& (((1 : Int32) <<< (x4 &&& 31)) ^^^ (-1 : Int32)))).toNatClampNeg) then (z.2 7 (x1 + (x2 &&& (((1 : Int32) <<< (x4 &&& 31)) ^^^ (-1 : Int32)))).toNatClampNeg) else x3) (x4 + (1 : Int32))))))
def l_X0_bestWithOneLess_5 (z : St) : Int32 → Int32 → Int32 → Int32 → Option (Int32) := iter (fun _ _ _ _ => none) (f_X0_bestWithOneLess_5 z) FU
set_option maxHeartbeats 4000000 in
set_option maxRecDepth 100000 in
theorem t_X0_bestWithOneLess_5 {RR : Int32} (X : Cx p s m c cX0_bestWithOneLess RX0 5 d) {z : St} (hP : va_P d.1 classes (wC d a z) s.heap) (hr : meth.sig.returnType = (some .int)) (hlk : meth.locks = false) {k5 : Int32 → Int32 → Int32 → Int32 → Option (Int32)} (hk5 : ∀ (x1 : Int32) (x2 : Int32) (x3 : Int32) (x4 : Int32), k5 x1 x2 x3 x4 = some RR → WRd p l e { frames := 1, cells := 0, slots := 0, locals := 21 } s m args below meth c RR 5 [(0, .ref (a 11)), (1, .int x1), (2, .int x2), (3, .int x3), (4, .int x4)] 5 []) : ∀ (x1 : Int32) (x2 : Int32) (x3 : Int32) (x4 : Int32), f_X0_bestWithOneLess_5 z k5 x1 x2 x3 x4 = some RR → WRd p l e { frames := 1, cells := 0, slots := 0, locals := 21 } s m args below meth c RR 5 [(0, .ref (a 11)), (1, .int x1), (2, .int x2), (3, .int x3), (4, .int x4)] 5 [] := by
  intro x1 x2 x3 x4 hf ls hl
  obtain ⟨hx, hb, hml, hown, hE⟩ := id X
  unfold f_X0_bestWithOneLess_5 at hf
  refine lv_iload hx hb dX0_bestWithOneLess_5 (lv_at hl 4 rfl) ?_
  refine lv_aload_n hx hb dX0_bestWithOneLess_7 rfl (lv_at hl 0 rfl) ?_
  refine gf_0_22 hx hb hE hown hP dX0_bestWithOneLess_8 ?_
  refine gf_0_103 hx hb hE hown hP dX0_bestWithOneLess_11 ?_
  refine lv_icmp_ge (tgt := 52) hx hb dX0_bestWithOneLess_14 (by decide) (fun q => ?_) (fun q => ?_)
  · have hf := (if_pos q).symm.trans hf
    refine lv_iload_n hx hb dX0_bestWithOneLess_52 rfl (lv_at hl 3 rfl) ?_
    obtain rfl := Option.some.inj hf
    exact W.iret hx hb hr (fun t ht _ => ⟨rfl, ht⟩) (fun _ h => nomatch h) dX0_bestWithOneLess_53 hlk
  · have hf := (if_neg q).symm.trans hf
    refine lv_iload hx hb dX0_bestWithOneLess_17 (lv_at hl 4 rfl) ?_
    refine lv_iload_n hx hb dX0_bestWithOneLess_19 rfl (lv_at hl 2 rfl) ?_
    obtain ⟨r_1, hc, hf⟩ := bnd hf
    refine rdSN X (c_X5_isIn l d a z x4 x2 hc) (k_X0_41 hE rfl rfl ⟨Nat.le_of_ble_eq_true rfl, Nat.le_of_ble_eq_true rfl⟩) hP rfl hl.1 rfl (Nat.le_of_ble_eq_true rfl) dX0_bestWithOneLess_20 ?_
    refine lv_if_eq (tgt := 46) hx hb dX0_bestWithOneLess_23 (by decide) (fun q => ?_) (fun q => ?_)
    · have hf := (if_pos q).symm.trans hf
      refine lv_iinc (v := (x4 + (1 : Int32))) (lv' := [(4, .int (x4 + (1 : Int32))), (0, .ref (a 11)), (1, .int x1), (2, .int x2), (3, .int x3)]) hx hb dX0_bestWithOneLess_46 hl (k := 4) rfl rfl (by decide) rfl (fun ls hl => ?_)
      refine lv_goto (tgt := 5) hx hb dX0_bestWithOneLess_49 (by decide) ?_
      exact hk5 x1 x2 x3 (x4 + (1 : Int32)) hf ls (lv_sub hl [1, 2, 3, 4, 0] rfl)
    · have hf := (if_neg q).symm.trans hf
      refine lv_iload_n hx hb dX0_bestWithOneLess_26 rfl (lv_at hl 3 rfl) ?_
      refine lv_aload_n hx hb dX0_bestWithOneLess_27 rfl (lv_at hl 0 rfl) ?_
      refine gf_0_15 hx hb hE hown hP dX0_bestWithOneLess_28 ?_
      refine lv_iload_n hx hb dX0_bestWithOneLess_31 rfl (lv_at hl 1 rfl) ?_
      refine lv_iload_n hx hb dX0_bestWithOneLess_32 rfl (lv_at hl 2 rfl) ?_
      refine lv_iconst (v := 1) hx hb dX0_bestWithOneLess_33 (by decide) ?_
      refine lv_iload hx hb dX0_bestWithOneLess_34 (lv_at hl 4 rfl) ?_
      refine lv_ishl hx hb dX0_bestWithOneLess_36 ?_
      refine lv_iconst (v := -1) hx hb dX0_bestWithOneLess_37 (by decide) ?_
      refine lv_ixor hx hb dX0_bestWithOneLess_38 ?_
      refine lv_iand hx hb dX0_bestWithOneLess_39 ?_
      refine lv_iadd hx hb dX0_bestWithOneLess_40 ?_
      obtain ⟨hi, hf⟩ := ck_some hf
      refine ld_C_13 hx hb hE hP hi dX0_bestWithOneLess_41 ?_
      refine va_mmax hx hb (by rw [hml]; exact hl.1.symm) hown (hE.1 _ q376 _) (hE.1 _ q281 _) (hE.1 _ q8 _) (hE.1 _ q282 _) (Nat.le_of_ble_eq_true rfl) (Nat.le_of_ble_eq_true rfl) (Nat.zero_le _) (Nat.zero_le _) dX0_bestWithOneLess_42 ?_
      refine lv_istore_n (lv' := [(3, .int (if x3 < (z.2 7 (x1 + (x2 &&& (((1 : Int32) <<< (x4 &&& 31)) ^^^ (-1 : Int32)))).toNatClampNeg) then (z.2 7 (x1 + (x2 &&& (((1 : Int32) <<< (x4 &&& 31)) ^^^ (-1 : Int32)))).toNatClampNeg) else x3)), (0, .ref (a 11)), (1, .int x1), (2, .int x2), (4, .int x4)]) hx hb dX0_bestWithOneLess_45 rfl hl (by decide) rfl (fun ls hl => ?_)
      refine lv_iinc (v := (x4 + (1 : Int32))) (lv' := [(4, .int (x4 + (1 : Int32))), (3, .int (if x3 < (z.2 7 (x1 + (x2 &&& (((1 : Int32) <<< (x4 &&& 31)) ^^^ (-1 : Int32)))).toNatClampNeg) then (z.2 7 (x1 + (x2 &&& (((1 : Int32) <<< (x4 &&& 31)) ^^^ (-1 : Int32)))).toNatClampNeg) else x3)), (0, .ref (a 11)), (1, .int x1), (2, .int x2)]) hx hb dX0_bestWithOneLess_46 hl (k := 4) rfl rfl (by decide) rfl (fun ls hl => ?_)
      refine lv_goto (tgt := 5) hx hb dX0_bestWithOneLess_49 (by decide) ?_
      exact hk5 x1 x2 (if x3 < (z.2 7 (x1 + (x2 &&& (((1 : Int32) <<< (x4 &&& 31)) ^^^ (-1 : Int32)))).toNatClampNeg) then (z.2 7 (x1 + (x2 &&& (((1 : Int32) <<< (x4 &&& 31)) ^^^ (-1 : Int32)))).toNatClampNeg) else x3) (x4 + (1 : Int32)) hf ls (lv_sub hl [2, 3, 4, 1, 0] rfl)
theorem u_X0_bestWithOneLess_5 {RR : Int32} (X : Cx p s m c cX0_bestWithOneLess RX0 5 d) {z : St} (hP : va_P d.1 classes (wC d a z) s.heap) (hr : meth.sig.returnType = (some .int)) (hlk : meth.locks = false) : ∀ (x1 : Int32) (x2 : Int32) (x3 : Int32) (x4 : Int32), l_X0_bestWithOneLess_5 z x1 x2 x3 x4 = some RR → WRd p l e { frames := 1, cells := 0, slots := 0, locals := 21 } s m args below meth c RR 5 [(0, .ref (a 11)), (1, .int x1), (2, .int x2), (3, .int x3), (4, .int x4)] 5 [] := by
  unfold l_X0_bestWithOneLess_5
  generalize FU = n
  induction n with
  | zero => intro x1 x2 x3 x4 hf; exact absurd (show (none : Option (Int32)) = some RR from hf) (by simp)
  | succ n ih => exact t_X0_bestWithOneLess_5 X hP hr hlk ih
def f_X0_bestWithOneLess (z : St) (x1 : Int32) (x2 : Int32) : Option (Int32) := l_X0_bestWithOneLess_5 z x1 x2 (0 : Int32) (0 : Int32)
set_option maxHeartbeats 4000000 in
set_option maxRecDepth 100000 in
theorem t_X0_bestWithOneLess {RR : Int32} (X : Cx p s m c cX0_bestWithOneLess RX0 5 d) {z : St} (hP : va_P d.1 classes (wC d a z) s.heap) (hr : meth.sig.returnType = (some .int)) (hlk : meth.locks = false) : ∀ (x1 : Int32) (x2 : Int32), f_X0_bestWithOneLess z x1 x2 = some RR → WRd p l e { frames := 1, cells := 0, slots := 0, locals := 21 } s m args below meth c RR 5 [(0, .ref (a 11)), (1, .int x1), (2, .int x2)] 0 [] := by
  intro x1 x2 hf ls hl
  obtain ⟨hx, hb, hml, hown, hE⟩ := id X
  unfold f_X0_bestWithOneLess at hf
  refine lv_iconst (v := 0) hx hb dX0_bestWithOneLess_0 (by decide) ?_
  refine lv_istore_n (lv' := [(3, .int (0 : Int32)), (0, .ref (a 11)), (1, .int x1), (2, .int x2)]) hx hb dX0_bestWithOneLess_1 rfl hl (by decide) rfl (fun ls hl => ?_)
  refine lv_iconst (v := 0) hx hb dX0_bestWithOneLess_2 (by decide) ?_
  refine lv_istore (lv' := [(4, .int (0 : Int32)), (3, .int (0 : Int32)), (0, .ref (a 11)), (1, .int x1), (2, .int x2)]) hx hb dX0_bestWithOneLess_3 hl (by decide) rfl (fun ls hl => ?_)
  exact u_X0_bestWithOneLess_5 X hP hr hlk x1 x2 (0 : Int32) (0 : Int32) hf ls (lv_sub hl [2, 3, 4, 1, 0] rfl)
set_option maxHeartbeats 4000000 in
set_option maxRecDepth 100000 in
theorem c_X0_bestWithOneLess (l : Launch) (d : G3) (a : Nat → Nat) (z : St) (x1 : Int32) (x2 : Int32) {RR : Int32} (hf : f_X0_bestWithOneLess z x1 x2 = some RR) : Met l yX0_bestWithOneLess [Cond.code yX0_bestWithOneLess cX0_bestWithOneLess 5 (some .int)] { frames := 1, cells := 0, slots := 0, locals := 21 } (rpre wC d a z [.ref (a 11), .int x1, .int x2]) (QcRead RR) 0 0 (fun _ => False) := by
  refine Met.ofW (cc := cX0_bestWithOneLess) (maxL := 5) (ret := (some .int)) (by decide) rfl ?_
  intro p e s m args below meth c s₁ B hml hv
  obtain ⟨rfl, hE, hP⟩ := hv
  have X : Cx p s m c cX0_bestWithOneLess RX0 5 d := ⟨B.exec, B.bytes, hml, findClass_of_methodNamed B.named, hE⟩
  have hl := lv_entry ([.ref (a 11), .int x1, .int x2]) (n := 5) (Nat.le_of_ble_eq_true rfl)
  rw [lg_entry_eq]
  generalize (lg_sl ([.ref (a 11), .int x1, .int x2]) ++ List.replicate (5 - (lg_sl ([.ref (a 11), .int x1, .int x2])).length) Slot.unset).toArray = ls at hl ⊢
  have hl : lv_has ls 5 [(0, .ref (a 11)), (1, .int x1), (2, .int x2)] := hl
  exact t_X0_bestWithOneLess X hP B.returns B.notSynchronized x1 x2 hf ls hl
def f_X0_isCoveredWhole_55 (z : St) (k16 : Int32 → Int32 → Int32 → Int32 → Option (Int32)) (x2 : Int32) (x3 : Int32) (x4 : Int32) (x5 : Int32) : Option (Int32) := k16 x2 x3 x4 ((x5 - (1 : Int32)) &&& x3)
set_option maxHeartbeats 4000000 in
set_option maxRecDepth 100000 in
theorem t_X0_isCoveredWhole_55 {RR : Int32} (X : Cx p s m c cX0_isCoveredWhole RX0 6 d) {z : St} (hP : va_P d.1 classes (wC d a z) s.heap) (hr : meth.sig.returnType = (some .boolean)) (hlk : meth.locks = false) {k16 : Int32 → Int32 → Int32 → Int32 → Option (Int32)} (hk16 : ∀ (x2 : Int32) (x3 : Int32) (x4 : Int32) (x5 : Int32), k16 x2 x3 x4 x5 = some RR → WRd p l e { frames := 1, cells := 0, slots := 0, locals := 22 } s m args below meth c RR 6 [(0, .ref (a 11)), (2, .int x2), (3, .int x3), (4, .int x4), (5, .int x5)] 16 []) : ∀ (x2 : Int32) (x3 : Int32) (x4 : Int32) (x5 : Int32), f_X0_isCoveredWhole_55 z k16 x2 x3 x4 x5 = some RR → WRd p l e { frames := 1, cells := 0, slots := 0, locals := 22 } s m args below meth c RR 6 [(0, .ref (a 11)), (2, .int x2), (3, .int x3), (4, .int x4), (5, .int x5)] 55 [] := by
  intro x2 x3 x4 x5 hf ls hl
  obtain ⟨hx, hb, hml, hown, hE⟩ := id X
  unfold f_X0_isCoveredWhole_55 at hf
  refine lv_iload hx hb dX0_isCoveredWhole_55 (lv_at hl 4 rfl) ?_
  refine lv_iconst (v := 1) hx hb dX0_isCoveredWhole_57 (by decide) ?_
  refine lv_isub hx hb dX0_isCoveredWhole_58 ?_
  refine lv_iload_n hx hb dX0_isCoveredWhole_59 rfl (lv_at hl 2 rfl) ?_
  refine lv_iand hx hb dX0_isCoveredWhole_60 ?_
  refine lv_istore (lv' := [(5, .int ((x5 - (1 : Int32)) &&& x3)), (0, .ref (a 11)), (2, .int x2), (3, .int x3), (4, .int x4)]) hx hb dX0_isCoveredWhole_61 hl (by decide) rfl (fun ls hl => ?_)
  refine lv_goto (tgt := 16) hx hb dX0_isCoveredWhole_63 (by decide) ?_
  exact hk16 x2 x3 x4 ((x5 - (1 : Int32)) &&& x3) hf ls (lv_sub hl [1, 2, 3, 4, 0] rfl)
def f_X0_isCoveredWhole_16 (z : St) (k16 : Int32 → Int32 → Int32 → Int32 → Option (Int32)) (x2 : Int32) (x3 : Int32) (x4 : Int32) (x5 : Int32) : Option (Int32) := (if x5 ≤ (0 : Int32) then (f_X0_isLegal z x2 x3).bind (fun r_1 => bz r_1 (some r_1)) else (f_X0_isLegal z x2 (x3 &&& (x5 ^^^ (-1 : Int32)))).bind (fun r_2 => (if r_2 = (0 : Int32) then f_X0_isCoveredWhole_55 z k16 x2 x3 x4 x5 else ck 8192 (x4 + x5) ((f_J6_bitCount_0f7a4 z x5).bind (fun r_3 => (if (z.2 7 (x4 + x5).toNatClampNeg) = r_3 then some (1 : Int32) else f_X0_isCoveredWhole_55 z k16 x2 x3 x4 x5))))))
def l_X0_isCoveredWhole_16 (z : St) : Int32 → Int32 → Int32 → Int32 → Option (Int32) := iter (fun _ _ _ _ => none) (f_X0_isCoveredWhole_16 z) FU
set_option maxHeartbeats 4000000 in
set_option maxRecDepth 100000 in
theorem t_X0_isCoveredWhole_16 {RR : Int32} (X : Cx p s m c cX0_isCoveredWhole RX0 6 d) {z : St} (hP : va_P d.1 classes (wC d a z) s.heap) (hr : meth.sig.returnType = (some .boolean)) (hlk : meth.locks = false) {k16 : Int32 → Int32 → Int32 → Int32 → Option (Int32)} (hk16 : ∀ (x2 : Int32) (x3 : Int32) (x4 : Int32) (x5 : Int32), k16 x2 x3 x4 x5 = some RR → WRd p l e { frames := 1, cells := 0, slots := 0, locals := 22 } s m args below meth c RR 6 [(0, .ref (a 11)), (2, .int x2), (3, .int x3), (4, .int x4), (5, .int x5)] 16 []) : ∀ (x2 : Int32) (x3 : Int32) (x4 : Int32) (x5 : Int32), f_X0_isCoveredWhole_16 z k16 x2 x3 x4 x5 = some RR → WRd p l e { frames := 1, cells := 0, slots := 0, locals := 22 } s m args below meth c RR 6 [(0, .ref (a 11)), (2, .int x2), (3, .int x3), (4, .int x4), (5, .int x5)] 16 [] := by
  intro x2 x3 x4 x5 hf ls hl
  obtain ⟨hx, hb, hml, hown, hE⟩ := id X
  unfold f_X0_isCoveredWhole_16 at hf
  refine lv_iload hx hb dX0_isCoveredWhole_16 (lv_at hl 4 rfl) ?_
  refine lv_if_le (tgt := 66) hx hb dX0_isCoveredWhole_18 (by decide) (fun q => ?_) (fun q => ?_)
  · have hf := (if_pos q).symm.trans hf
    refine lv_aload_n hx hb dX0_isCoveredWhole_66 rfl (lv_at hl 0 rfl) ?_
    refine lv_iload_n hx hb dX0_isCoveredWhole_67 rfl (lv_at hl 1 rfl) ?_
    refine lv_iload_n hx hb dX0_isCoveredWhole_68 rfl (lv_at hl 2 rfl) ?_
    obtain ⟨r_1, hc, hf⟩ := bnd hf
    refine rdV X (c_X0_isLegal l d a z x2 x3 hc) (k_X0_109 hE rfl rfl ⟨Nat.le_of_ble_eq_true rfl, Nat.le_of_ble_eq_true rfl⟩) hP (va_recv (q := (RX0, TX0, 7)) hE.2 hP (ci := 0) (q0 := 11) rfl rfl) rfl hl.1 rfl (Nat.le_of_ble_eq_true rfl) dX0_isCoveredWhole_69 ?_
    obtain ⟨hn, hf⟩ := bz_some hf
    obtain rfl := Option.some.inj hf
    exact W.zret hx hb hr hn (fun t ht _ => ⟨rfl, ht⟩) (fun _ h => nomatch h) dX0_isCoveredWhole_72 hlk
  · have hf := (if_neg q).symm.trans hf
    refine lv_aload_n hx hb dX0_isCoveredWhole_21 rfl (lv_at hl 0 rfl) ?_
    refine lv_iload_n hx hb dX0_isCoveredWhole_22 rfl (lv_at hl 1 rfl) ?_
    refine lv_iload_n hx hb dX0_isCoveredWhole_23 rfl (lv_at hl 2 rfl) ?_
    refine lv_iload hx hb dX0_isCoveredWhole_24 (lv_at hl 4 rfl) ?_
    refine lv_iconst (v := -1) hx hb dX0_isCoveredWhole_26 (by decide) ?_
    refine lv_ixor hx hb dX0_isCoveredWhole_27 ?_
    refine lv_iand hx hb dX0_isCoveredWhole_28 ?_
    obtain ⟨r_2, hc, hf⟩ := bnd hf
    refine rdV X (c_X0_isLegal l d a z x2 (x3 &&& (x5 ^^^ (-1 : Int32))) hc) (k_X0_109 hE rfl rfl ⟨Nat.le_of_ble_eq_true rfl, Nat.le_of_ble_eq_true rfl⟩) hP (va_recv (q := (RX0, TX0, 7)) hE.2 hP (ci := 0) (q0 := 11) rfl rfl) rfl hl.1 rfl (Nat.le_of_ble_eq_true rfl) dX0_isCoveredWhole_29 ?_
    refine lv_if_eq (tgt := 55) hx hb dX0_isCoveredWhole_32 (by decide) (fun q => ?_) (fun q => ?_)
    · have hf := (if_pos q).symm.trans hf
      exact t_X0_isCoveredWhole_55 X hP hr hlk hk16 x2 x3 x4 x5 hf ls (lv_sub hl [0, 1, 2, 3, 4] rfl)
    · have hf := (if_neg q).symm.trans hf
      refine lv_aload_n hx hb dX0_isCoveredWhole_35 rfl (lv_at hl 0 rfl) ?_
      refine gf_0_15 hx hb hE hown hP dX0_isCoveredWhole_36 ?_
      refine lv_iload hx hb dX0_isCoveredWhole_39 (lv_at hl 3 rfl) ?_
      refine lv_iload hx hb dX0_isCoveredWhole_41 (lv_at hl 4 rfl) ?_
      refine lv_iadd hx hb dX0_isCoveredWhole_43 ?_
      obtain ⟨hi, hf⟩ := ck_some hf
      refine ld_C_13 hx hb hE hP hi dX0_isCoveredWhole_44 ?_
      refine lv_iload hx hb dX0_isCoveredWhole_45 (lv_at hl 4 rfl) ?_
      obtain ⟨r_3, hc, hf⟩ := bnd hf
      refine rdS X (c_J6_bitCount_0f7a4 l d a z x5 hc) (k_X0_91 hE rfl rfl ⟨Nat.le_of_ble_eq_true rfl, Nat.le_of_ble_eq_true rfl⟩) hP rfl hl.1 rfl (Nat.le_of_ble_eq_true rfl) dX0_isCoveredWhole_47 ?_
      refine lv_icmp_ne (tgt := 55) hx hb dX0_isCoveredWhole_50 (by decide) (fun q => ?_) (fun q => ?_)
      · have hf := (if_neg q).symm.trans hf
        exact t_X0_isCoveredWhole_55 X hP hr hlk hk16 x2 x3 x4 x5 hf ls (lv_sub hl [0, 1, 2, 3, 4] rfl)
      · have hf := (if_pos q).symm.trans hf
        refine lv_iconst (v := 1) hx hb dX0_isCoveredWhole_53 (by decide) ?_
        obtain rfl := Option.some.inj hf
        exact W.zret hx hb hr rfl (fun t ht _ => ⟨rfl, ht⟩) (fun _ h => nomatch h) dX0_isCoveredWhole_54 hlk
theorem u_X0_isCoveredWhole_16 {RR : Int32} (X : Cx p s m c cX0_isCoveredWhole RX0 6 d) {z : St} (hP : va_P d.1 classes (wC d a z) s.heap) (hr : meth.sig.returnType = (some .boolean)) (hlk : meth.locks = false) : ∀ (x2 : Int32) (x3 : Int32) (x4 : Int32) (x5 : Int32), l_X0_isCoveredWhole_16 z x2 x3 x4 x5 = some RR → WRd p l e { frames := 1, cells := 0, slots := 0, locals := 22 } s m args below meth c RR 6 [(0, .ref (a 11)), (2, .int x2), (3, .int x3), (4, .int x4), (5, .int x5)] 16 [] := by
  unfold l_X0_isCoveredWhole_16
  generalize FU = n
  induction n with
  | zero => intro x2 x3 x4 x5 hf; exact absurd (show (none : Option (Int32)) = some RR from hf) (by simp)
  | succ n ih => exact t_X0_isCoveredWhole_16 X hP hr hlk ih
def f_X0_isCoveredWhole (z : St) (x1 : Int32) (x2 : Int32) (x3 : Int32) : Option (Int32) := l_X0_isCoveredWhole_16 z x2 x3 ((x1 &&& (((1 : Int32) <<< (x2 &&& 31)) ^^^ (-1 : Int32))) * (512 : Int32)) x3
set_option maxHeartbeats 4000000 in
set_option maxRecDepth 100000 in
theorem t_X0_isCoveredWhole {RR : Int32} (X : Cx p s m c cX0_isCoveredWhole RX0 6 d) {z : St} (hP : va_P d.1 classes (wC d a z) s.heap) (hr : meth.sig.returnType = (some .boolean)) (hlk : meth.locks = false) : ∀ (x1 : Int32) (x2 : Int32) (x3 : Int32), f_X0_isCoveredWhole z x1 x2 x3 = some RR → WRd p l e { frames := 1, cells := 0, slots := 0, locals := 22 } s m args below meth c RR 6 [(0, .ref (a 11)), (1, .int x1), (2, .int x2), (3, .int x3)] 0 [] := by
  intro x1 x2 x3 hf ls hl
  obtain ⟨hx, hb, hml, hown, hE⟩ := id X
  unfold f_X0_isCoveredWhole at hf
  refine lv_iload_n hx hb dX0_isCoveredWhole_0 rfl (lv_at hl 1 rfl) ?_
  refine lv_iconst (v := 1) hx hb dX0_isCoveredWhole_1 (by decide) ?_
  refine lv_iload_n hx hb dX0_isCoveredWhole_2 rfl (lv_at hl 2 rfl) ?_
  refine lv_ishl hx hb dX0_isCoveredWhole_3 ?_
  refine lv_iconst (v := -1) hx hb dX0_isCoveredWhole_4 (by decide) ?_
  refine lv_ixor hx hb dX0_isCoveredWhole_5 ?_
  refine lv_iand hx hb dX0_isCoveredWhole_6 ?_
  refine lv_sipush (v := 512) hx hb dX0_isCoveredWhole_7 (by decide) ?_
  refine lv_imul hx hb dX0_isCoveredWhole_10 ?_
  refine lv_istore (lv' := [(4, .int ((x1 &&& (((1 : Int32) <<< (x2 &&& 31)) ^^^ (-1 : Int32))) * (512 : Int32))), (0, .ref (a 11)), (1, .int x1), (2, .int x2), (3, .int x3)]) hx hb dX0_isCoveredWhole_11 hl (by decide) rfl (fun ls hl => ?_)
  refine lv_iload_n hx hb dX0_isCoveredWhole_13 rfl (lv_at hl 4 rfl) ?_
  refine lv_istore (lv' := [(5, .int x3), (4, .int ((x1 &&& (((1 : Int32) <<< (x2 &&& 31)) ^^^ (-1 : Int32))) * (512 : Int32))), (0, .ref (a 11)), (1, .int x1), (2, .int x2), (3, .int x3)]) hx hb dX0_isCoveredWhole_14 hl (by decide) rfl (fun ls hl => ?_)
  exact u_X0_isCoveredWhole_16 X hP hr hlk x2 x3 ((x1 &&& (((1 : Int32) <<< (x2 &&& 31)) ^^^ (-1 : Int32))) * (512 : Int32)) x3 hf ls (lv_sub hl [2, 4, 5, 1, 0] rfl)
set_option maxHeartbeats 4000000 in
set_option maxRecDepth 100000 in
theorem c_X0_isCoveredWhole (l : Launch) (d : G3) (a : Nat → Nat) (z : St) (x1 : Int32) (x2 : Int32) (x3 : Int32) {RR : Int32} (hf : f_X0_isCoveredWhole z x1 x2 x3 = some RR) : Met l yX0_isCoveredWhole [Cond.code yX0_isCoveredWhole cX0_isCoveredWhole 6 (some .boolean)] { frames := 1, cells := 0, slots := 0, locals := 22 } (rpre wC d a z [.ref (a 11), .int x1, .int x2, .int x3]) (QcRead RR) 0 0 (fun _ => False) := by
  refine Met.ofW (cc := cX0_isCoveredWhole) (maxL := 6) (ret := (some .boolean)) (by decide) rfl ?_
  intro p e s m args below meth c s₁ B hml hv
  obtain ⟨rfl, hE, hP⟩ := hv
  have X : Cx p s m c cX0_isCoveredWhole RX0 6 d := ⟨B.exec, B.bytes, hml, findClass_of_methodNamed B.named, hE⟩
  have hl := lv_entry ([.ref (a 11), .int x1, .int x2, .int x3]) (n := 6) (Nat.le_of_ble_eq_true rfl)
  rw [lg_entry_eq]
  generalize (lg_sl ([.ref (a 11), .int x1, .int x2, .int x3]) ++ List.replicate (6 - (lg_sl ([.ref (a 11), .int x1, .int x2, .int x3])).length) Slot.unset).toArray = ls at hl ⊢
  have hl : lv_has ls 6 [(0, .ref (a 11)), (1, .int x1), (2, .int x2), (3, .int x3)] := hl
  exact t_X0_isCoveredWhole X hP B.returns B.notSynchronized x1 x2 x3 hf ls hl
end GEN
