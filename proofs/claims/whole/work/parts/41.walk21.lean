section GEN
variable {p : Program} {l : Launch} {e : Env} {s : State} {m : MethodId} {args : Array Value} {below : List Frame} {meth : Method} {c : Code} {d : G3} {a : Nat → Nat}
def f_X6_metOf_4 (z : St) (k4 : Int32 → Int32 → Int32 → Option (Int32)) (x1 : Int32) (x2 : Int32) (x3 : Int32) : Option (Int32) := ck 4 x1 ((if (z.2 7 x1.toNatClampNeg) ≤ x3 then some x2 else ck 4 x1 ((f_X6_isMet z x1 x3 (z.2 16 x1.toNatClampNeg)).bind (fun r_1 => (if r_1 = (0 : Int32) then k4 x1 x2 (x3 + (1 : Int32)) else k4 x1 (x2 + (1 : Int32)) (x3 + (1 : Int32)))))))
def l_X6_metOf_4 (z : St) : Int32 → Int32 → Int32 → Option (Int32) := iter (fun _ _ _ => none) (f_X6_metOf_4 z) FU
set_option maxHeartbeats 4000000 in
set_option maxRecDepth 100000 in
theorem t_X6_metOf_4 {RR : Int32} (X : Cx p s m c cX6_metOf RX6 4 d) {z : St} (hP : va_P d.1 classes (wM d a z) s.heap) (hr : meth.sig.returnType = (some .int)) (hlk : meth.locks = false) {k4 : Int32 → Int32 → Int32 → Option (Int32)} (hk4 : ∀ (x1 : Int32) (x2 : Int32) (x3 : Int32), k4 x1 x2 x3 = some RR → WRd p l e { frames := 3, cells := 0, slots := 0, locals := 70 } s m args below meth c RR 4 [(0, .ref (a 0)), (1, .int x1), (2, .int x2), (3, .int x3)] 4 []) : ∀ (x1 : Int32) (x2 : Int32) (x3 : Int32), f_X6_metOf_4 z k4 x1 x2 x3 = some RR → WRd p l e { frames := 3, cells := 0, slots := 0, locals := 70 } s m args below meth c RR 4 [(0, .ref (a 0)), (1, .int x1), (2, .int x2), (3, .int x3)] 4 [] := by
  intro x1 x2 x3 hf ls hl
  obtain ⟨hx, hb, hml, hown, hE⟩ := id X
  unfold f_X6_metOf_4 at hf
  refine lv_iload_n hx hb dX6_metOf_4 rfl (lv_at hl 3 rfl) ?_
  refine lv_aload_n hx hb dX6_metOf_5 rfl (lv_at hl 0 rfl) ?_
  refine gf_6_31 hx hb hE hown hP dX6_metOf_6 ?_
  refine lv_iload_n hx hb dX6_metOf_9 rfl (lv_at hl 1 rfl) ?_
  obtain ⟨hi, hf⟩ := ck_some hf
  refine ld_M_8 hx hb hE hP hi dX6_metOf_10 ?_
  refine lv_icmp_ge (tgt := 38) hx hb dX6_metOf_11 (by decide) (fun q => ?_) (fun q => ?_)
  · have hf := (if_pos q).symm.trans hf
    refine lv_iload_n hx hb dX6_metOf_38 rfl (lv_at hl 2 rfl) ?_
    obtain rfl := Option.some.inj hf
    exact W.iret hx hb hr (fun t ht _ => ⟨rfl, ht⟩) (fun _ h => nomatch h) dX6_metOf_39 hlk
  · have hf := (if_neg q).symm.trans hf
    refine lv_aload_n hx hb dX6_metOf_14 rfl (lv_at hl 0 rfl) ?_
    refine lv_iload_n hx hb dX6_metOf_15 rfl (lv_at hl 1 rfl) ?_
    refine lv_iload_n hx hb dX6_metOf_16 rfl (lv_at hl 3 rfl) ?_
    refine lv_aload_n hx hb dX6_metOf_17 rfl (lv_at hl 0 rfl) ?_
    refine gf_6_72 hx hb hE hown hP dX6_metOf_18 ?_
    refine lv_iload_n hx hb dX6_metOf_21 rfl (lv_at hl 1 rfl) ?_
    obtain ⟨hi, hf⟩ := ck_some hf
    refine ld_M_17 hx hb hE hP hi dX6_metOf_22 ?_
    obtain ⟨r_1, hc, hf⟩ := bnd hf
    refine rdV X (c_X6_isMet l d a z x1 x3 (z.2 16 x1.toNatClampNeg) hc) (k_X6_119 hE rfl rfl ⟨Nat.le_of_ble_eq_true rfl, Nat.le_of_ble_eq_true rfl⟩) hP (va_recv (q := (RX6, TX6, 28)) hE.2 hP (ci := 6) (q0 := 0) rfl rfl) rfl hl.1 rfl (Nat.le_of_ble_eq_true rfl) dX6_metOf_23 ?_
    refine lv_if_eq (tgt := 32) hx hb dX6_metOf_26 (by decide) (fun q => ?_) (fun q => ?_)
    · have hf := (if_pos q).symm.trans hf
      refine lv_iinc (v := (x3 + (1 : Int32))) (lv' := [(3, .int (x3 + (1 : Int32))), (0, .ref (a 0)), (1, .int x1), (2, .int x2)]) hx hb dX6_metOf_32 hl (k := 3) rfl rfl (by decide) rfl (fun ls hl => ?_)
      refine lv_goto (tgt := 4) hx hb dX6_metOf_35 (by decide) ?_
      exact hk4 x1 x2 (x3 + (1 : Int32)) hf ls (lv_sub hl [1, 2, 3, 0] rfl)
    · have hf := (if_neg q).symm.trans hf
      refine lv_iinc (v := (x2 + (1 : Int32))) (lv' := [(2, .int (x2 + (1 : Int32))), (0, .ref (a 0)), (1, .int x1), (3, .int x3)]) hx hb dX6_metOf_29 hl (k := 2) rfl rfl (by decide) rfl (fun ls hl => ?_)
      refine lv_iinc (v := (x3 + (1 : Int32))) (lv' := [(3, .int (x3 + (1 : Int32))), (2, .int (x2 + (1 : Int32))), (0, .ref (a 0)), (1, .int x1)]) hx hb dX6_metOf_32 hl (k := 3) rfl rfl (by decide) rfl (fun ls hl => ?_)
      refine lv_goto (tgt := 4) hx hb dX6_metOf_35 (by decide) ?_
      exact hk4 x1 (x2 + (1 : Int32)) (x3 + (1 : Int32)) hf ls (lv_sub hl [2, 3, 1, 0] rfl)
theorem u_X6_metOf_4 {RR : Int32} (X : Cx p s m c cX6_metOf RX6 4 d) {z : St} (hP : va_P d.1 classes (wM d a z) s.heap) (hr : meth.sig.returnType = (some .int)) (hlk : meth.locks = false) : ∀ (x1 : Int32) (x2 : Int32) (x3 : Int32), l_X6_metOf_4 z x1 x2 x3 = some RR → WRd p l e { frames := 3, cells := 0, slots := 0, locals := 70 } s m args below meth c RR 4 [(0, .ref (a 0)), (1, .int x1), (2, .int x2), (3, .int x3)] 4 [] := by
  unfold l_X6_metOf_4
  generalize FU = n
  induction n with
  | zero => intro x1 x2 x3 hf; exact absurd (show (none : Option (Int32)) = some RR from hf) (by simp)
  | succ n ih => exact t_X6_metOf_4 X hP hr hlk ih
def f_X6_metOf (z : St) (x1 : Int32) : Option (Int32) := l_X6_metOf_4 z x1 (0 : Int32) (0 : Int32)
set_option maxHeartbeats 4000000 in
set_option maxRecDepth 100000 in
theorem t_X6_metOf {RR : Int32} (X : Cx p s m c cX6_metOf RX6 4 d) {z : St} (hP : va_P d.1 classes (wM d a z) s.heap) (hr : meth.sig.returnType = (some .int)) (hlk : meth.locks = false) : ∀ (x1 : Int32), f_X6_metOf z x1 = some RR → WRd p l e { frames := 3, cells := 0, slots := 0, locals := 70 } s m args below meth c RR 4 [(0, .ref (a 0)), (1, .int x1)] 0 [] := by
  intro x1 hf ls hl
  obtain ⟨hx, hb, hml, hown, hE⟩ := id X
  unfold f_X6_metOf at hf
  refine lv_iconst (v := 0) hx hb dX6_metOf_0 (by decide) ?_
  refine lv_istore_n (lv' := [(2, .int (0 : Int32)), (0, .ref (a 0)), (1, .int x1)]) hx hb dX6_metOf_1 rfl hl (by decide) rfl (fun ls hl => ?_)
  refine lv_iconst (v := 0) hx hb dX6_metOf_2 (by decide) ?_
  refine lv_istore_n (lv' := [(3, .int (0 : Int32)), (2, .int (0 : Int32)), (0, .ref (a 0)), (1, .int x1)]) hx hb dX6_metOf_3 rfl hl (by decide) rfl (fun ls hl => ?_)
  exact u_X6_metOf_4 X hP hr hlk x1 (0 : Int32) (0 : Int32) hf ls (lv_sub hl [2, 3, 1, 0] rfl)
set_option maxHeartbeats 4000000 in
set_option maxRecDepth 100000 in
theorem c_X6_metOf (l : Launch) (d : G3) (a : Nat → Nat) (z : St) (x1 : Int32) {RR : Int32} (hf : f_X6_metOf z x1 = some RR) : Met l yX6_metOf [Cond.code yX6_metOf cX6_metOf 4 (some .int)] { frames := 3, cells := 0, slots := 0, locals := 70 } (rpre wM d a z [.ref (a 0), .int x1]) (QcRead RR) 0 0 (fun _ => False) := by
  refine Met.ofW (cc := cX6_metOf) (maxL := 4) (ret := (some .int)) (by decide) rfl ?_
  intro p e s m args below meth c s₁ B hml hv
  obtain ⟨rfl, hE, hP⟩ := hv
  have X : Cx p s m c cX6_metOf RX6 4 d := ⟨B.exec, B.bytes, hml, findClass_of_methodNamed B.named, hE⟩
  have hl := lv_entry ([.ref (a 0), .int x1]) (n := 4) (Nat.le_of_ble_eq_true rfl)
  rw [lg_entry_eq]
  generalize (lg_sl ([.ref (a 0), .int x1]) ++ List.replicate (4 - (lg_sl ([.ref (a 0), .int x1])).length) Slot.unset).toArray = ls at hl ⊢
  have hl : lv_has ls 4 [(0, .ref (a 0)), (1, .int x1)] := hl
  exact t_X6_metOf X hP B.returns B.notSynchronized x1 hf ls hl
def f_X6_about_86 (z : St) (k86 : Int32 → Int32 → Int32 → Option (Int32)) (x1 : Int32) (x3 : Int32) (x4 : Int32) : Option (Int32) := (if (14 : Int32) ≤ x4 then some x3 else ck 4 x1 ((f_X6_onDay z (z.2 16 x1.toNatClampNeg) x4).bind (fun r_1 => (if r_1 ≤ (0 : Int32) then k86 x1 x3 (x4 + (1 : Int32)) else k86 x1 (x3 + (1 : Int32)) (x4 + (1 : Int32))))))
def l_X6_about_86 (z : St) : Int32 → Int32 → Int32 → Option (Int32) := iter (fun _ _ _ => none) (f_X6_about_86 z) FU
set_option maxHeartbeats 4000000 in
set_option maxRecDepth 100000 in
theorem t_X6_about_86 {RR : Int32} (X : Cx p s m c cX6_about RX6 5 d) {z : St} (hP : va_P d.1 classes (wM d a z) s.heap) (hr : meth.sig.returnType = (some .int)) (hlk : meth.locks = false) {k86 : Int32 → Int32 → Int32 → Option (Int32)} (hk86 : ∀ (x1 : Int32) (x3 : Int32) (x4 : Int32), k86 x1 x3 x4 = some RR → WRd p l e { frames := 4, cells := 0, slots := 0, locals := 93 } s m args below meth c RR 5 [(0, .ref (a 0)), (1, .int x1), (3, .int x3), (4, .int x4)] 86 []) : ∀ (x1 : Int32) (x3 : Int32) (x4 : Int32), f_X6_about_86 z k86 x1 x3 x4 = some RR → WRd p l e { frames := 4, cells := 0, slots := 0, locals := 93 } s m args below meth c RR 5 [(0, .ref (a 0)), (1, .int x1), (3, .int x3), (4, .int x4)] 86 [] := by
  intro x1 x3 x4 hf ls hl
  obtain ⟨hx, hb, hml, hown, hE⟩ := id X
  unfold f_X6_about_86 at hf
  refine lv_iload hx hb dX6_about_86 (lv_at hl 3 rfl) ?_
  refine lv_bipush (v := 14) hx hb dX6_about_88 (by decide) ?_
  refine lv_icmp_ge (tgt := 117) hx hb dX6_about_90 (by decide) (fun q => ?_) (fun q => ?_)
  · have hf := (if_pos q).symm.trans hf
    refine lv_iload_n hx hb dX6_about_117 rfl (lv_at hl 2 rfl) ?_
    obtain rfl := Option.some.inj hf
    exact W.iret hx hb hr (fun t ht _ => ⟨rfl, ht⟩) (fun _ h => nomatch h) dX6_about_118 hlk
  · have hf := (if_neg q).symm.trans hf
    refine lv_aload_n hx hb dX6_about_93 rfl (lv_at hl 0 rfl) ?_
    refine lv_aload_n hx hb dX6_about_94 rfl (lv_at hl 0 rfl) ?_
    refine gf_6_72 hx hb hE hown hP dX6_about_95 ?_
    refine lv_iload_n hx hb dX6_about_98 rfl (lv_at hl 1 rfl) ?_
    obtain ⟨hi, hf⟩ := ck_some hf
    refine ld_M_17 hx hb hE hP hi dX6_about_99 ?_
    refine lv_iload hx hb dX6_about_100 (lv_at hl 3 rfl) ?_
    obtain ⟨r_1, hc, hf⟩ := bnd hf
    refine rdV X (c_X6_onDay l d a z (z.2 16 x1.toNatClampNeg) x4 hc) (k_X6_108 hE rfl rfl ⟨Nat.le_of_ble_eq_true rfl, Nat.le_of_ble_eq_true rfl⟩) hP (va_recv (q := (RX6, TX6, 28)) hE.2 hP (ci := 6) (q0 := 0) rfl rfl) rfl hl.1 rfl (Nat.le_of_ble_eq_true rfl) dX6_about_102 ?_
    refine lv_if_le (tgt := 111) hx hb dX6_about_105 (by decide) (fun q => ?_) (fun q => ?_)
    · have hf := (if_pos q).symm.trans hf
      refine lv_iinc (v := (x4 + (1 : Int32))) (lv' := [(4, .int (x4 + (1 : Int32))), (0, .ref (a 0)), (1, .int x1), (3, .int x3)]) hx hb dX6_about_111 hl (k := 3) rfl rfl (by decide) rfl (fun ls hl => ?_)
      refine lv_goto (tgt := 86) hx hb dX6_about_114 (by decide) ?_
      exact hk86 x1 x3 (x4 + (1 : Int32)) hf ls (lv_sub hl [1, 2, 3, 0] rfl)
    · have hf := (if_neg q).symm.trans hf
      refine lv_iinc (v := (x3 + (1 : Int32))) (lv' := [(3, .int (x3 + (1 : Int32))), (0, .ref (a 0)), (1, .int x1), (4, .int x4)]) hx hb dX6_about_108 hl (k := 2) rfl rfl (by decide) rfl (fun ls hl => ?_)
      refine lv_iinc (v := (x4 + (1 : Int32))) (lv' := [(4, .int (x4 + (1 : Int32))), (3, .int (x3 + (1 : Int32))), (0, .ref (a 0)), (1, .int x1)]) hx hb dX6_about_111 hl (k := 3) rfl rfl (by decide) rfl (fun ls hl => ?_)
      refine lv_goto (tgt := 86) hx hb dX6_about_114 (by decide) ?_
      exact hk86 x1 (x3 + (1 : Int32)) (x4 + (1 : Int32)) hf ls (lv_sub hl [2, 3, 1, 0] rfl)
theorem u_X6_about_86 {RR : Int32} (X : Cx p s m c cX6_about RX6 5 d) {z : St} (hP : va_P d.1 classes (wM d a z) s.heap) (hr : meth.sig.returnType = (some .int)) (hlk : meth.locks = false) : ∀ (x1 : Int32) (x3 : Int32) (x4 : Int32), l_X6_about_86 z x1 x3 x4 = some RR → WRd p l e { frames := 4, cells := 0, slots := 0, locals := 93 } s m args below meth c RR 5 [(0, .ref (a 0)), (1, .int x1), (3, .int x3), (4, .int x4)] 86 [] := by
  unfold l_X6_about_86
  generalize FU = n
  induction n with
  | zero => intro x1 x3 x4 hf; exact absurd (show (none : Option (Int32)) = some RR from hf) (by simp)
  | succ n ih => exact t_X6_about_86 X hP hr hlk ih
def f_X6_about (z : St) (x1 : Int32) (x2 : Int32) : Option (Int32) := (f_X6_isPerson z x1).bind (fun r_1 => (if r_1 = (0 : Int32) then some (-1 : Int32) else (if x2 < (0 : Int32) then some (-1 : Int32) else (if x2 ≤ (4 : Int32) then (if (z.1 7) = (0 : Int32) then some (-3 : Int32) else (if x2 = 0 then ck 4 x1 ((f_X6_hoursOf z (z.2 16 x1.toNatClampNeg)).bind (fun r_4 => some r_4)) else (if x2 = 1 then ck 4 x1 ((f_X6_size z (z.2 16 x1.toNatClampNeg)).bind (fun r_3 => some r_3)) else (if x2 = 2 then l_X6_about_86 z x1 (0 : Int32) (0 : Int32) else (if x2 = 3 then (f_X6_metOf z x1).bind (fun r_2 => some r_2) else ck 4 x1 ((if (z.2 18 x1.toNatClampNeg) = (0 : Int32) then some (0 : Int32) else some (1 : Int32)))))))) else some (-1 : Int32)))))
set_option maxHeartbeats 4000000 in
set_option maxRecDepth 100000 in
theorem t_X6_about {RR : Int32} (X : Cx p s m c cX6_about RX6 5 d) {z : St} (hP : va_P d.1 classes (wM d a z) s.heap) (hr : meth.sig.returnType = (some .int)) (hlk : meth.locks = false) : ∀ (x1 : Int32) (x2 : Int32), f_X6_about z x1 x2 = some RR → WRd p l e { frames := 4, cells := 0, slots := 0, locals := 93 } s m args below meth c RR 5 [(0, .ref (a 0)), (1, .int x1), (2, .int x2)] 0 [] := by
  intro x1 x2 hf ls hl
  obtain ⟨hx, hb, hml, hown, hE⟩ := id X
  unfold f_X6_about at hf
  refine lv_aload_n hx hb dX6_about_0 rfl (lv_at hl 0 rfl) ?_
  refine lv_iload_n hx hb dX6_about_1 rfl (lv_at hl 1 rfl) ?_
  obtain ⟨r_1, hc, hf⟩ := bnd hf
  refine rdV X (c_X6_isPerson l d a z x1 hc) (k_X6_101 hE rfl rfl ⟨Nat.le_of_ble_eq_true rfl, Nat.le_of_ble_eq_true rfl⟩) hP (va_recv (q := (RX6, TX6, 28)) hE.2 hP (ci := 6) (q0 := 0) rfl rfl) rfl hl.1 rfl (Nat.le_of_ble_eq_true rfl) dX6_about_2 ?_
  refine lv_if_eq (tgt := 17) hx hb dX6_about_5 (by decide) (fun q => ?_) (fun q => ?_)
  · have hf := (if_pos q).symm.trans hf
    refine lv_iconst (v := -1) hx hb dX6_about_17 (by decide) ?_
    obtain rfl := Option.some.inj hf
    exact W.iret hx hb hr (fun t ht _ => ⟨rfl, ht⟩) (fun _ h => nomatch h) dX6_about_18 hlk
  · have hf := (if_neg q).symm.trans hf
    refine lv_iload_n hx hb dX6_about_8 rfl (lv_at hl 2 rfl) ?_
    refine lv_if_lt (tgt := 17) hx hb dX6_about_9 (by decide) (fun q => ?_) (fun q => ?_)
    · have hf := (if_pos q).symm.trans hf
      refine lv_iconst (v := -1) hx hb dX6_about_17 (by decide) ?_
      obtain rfl := Option.some.inj hf
      exact W.iret hx hb hr (fun t ht _ => ⟨rfl, ht⟩) (fun _ h => nomatch h) dX6_about_18 hlk
    · have hf := (if_neg q).symm.trans hf
      refine lv_iload_n hx hb dX6_about_12 rfl (lv_at hl 2 rfl) ?_
      refine lv_iconst (v := 4) hx hb dX6_about_13 (by decide) ?_
      refine lv_icmp_le (tgt := 19) hx hb dX6_about_14 (by decide) (fun q => ?_) (fun q => ?_)
      · have hf := (if_pos q).symm.trans hf
        refine lv_aload_n hx hb dX6_about_19 rfl (lv_at hl 0 rfl) ?_
        refine gf_6_95 hx hb hE hown hP dX6_about_20 ?_
        refine lv_if_ne (tgt := 29) hx hb dX6_about_23 (by decide) (fun q => ?_) (fun q => ?_)
        · have hf := (if_neg q).symm.trans hf
          refine lv_iload_n hx hb dX6_about_29 rfl (lv_at hl 2 rfl) ?_
          by_cases q0 : x2 = 0
          · have hf := (if_pos q0).symm.trans hf
            refine lv_tableIn (tgt := 60) hx hb dX6_about_30 (by rw [q0]; decide) (by rw [q0]; decide) (by rw [q0]; rfl) (by decide) ?_
            refine lv_aload_n hx hb dX6_about_60 rfl (lv_at hl 0 rfl) ?_
            refine lv_aload_n hx hb dX6_about_61 rfl (lv_at hl 0 rfl) ?_
            refine gf_6_72 hx hb hE hown hP dX6_about_62 ?_
            refine lv_iload_n hx hb dX6_about_65 rfl (lv_at hl 1 rfl) ?_
            obtain ⟨hi, hf⟩ := ck_some hf
            refine ld_M_17 hx hb hE hP hi dX6_about_66 ?_
            obtain ⟨r_4, hc, hf⟩ := bnd hf
            refine rdV X (c_X6_hoursOf l d a z (z.2 16 x1.toNatClampNeg) hc) (k_X6_116 hE rfl rfl ⟨Nat.le_of_ble_eq_true rfl, Nat.le_of_ble_eq_true rfl⟩) hP (va_recv (q := (RX6, TX6, 28)) hE.2 hP (ci := 6) (q0 := 0) rfl rfl) rfl hl.1 rfl (Nat.le_of_ble_eq_true rfl) dX6_about_67 ?_
            obtain rfl := Option.some.inj hf
            exact W.iret hx hb hr (fun t ht _ => ⟨rfl, ht⟩) (fun _ h => nomatch h) dX6_about_70 hlk
          · have hf := (if_neg q0).symm.trans hf
            by_cases q1 : x2 = 1
            · have hf := (if_pos q1).symm.trans hf
              refine lv_tableIn (tgt := 71) hx hb dX6_about_30 (by rw [q1]; decide) (by rw [q1]; decide) (by rw [q1]; rfl) (by decide) ?_
              refine lv_aload_n hx hb dX6_about_71 rfl (lv_at hl 0 rfl) ?_
              refine gf_6_72 hx hb hE hown hP dX6_about_72 ?_
              refine lv_iload_n hx hb dX6_about_75 rfl (lv_at hl 1 rfl) ?_
              obtain ⟨hi, hf⟩ := ck_some hf
              refine ld_M_17 hx hb hE hP hi dX6_about_76 ?_
              obtain ⟨r_3, hc, hf⟩ := bnd hf
              refine rdS X (c_X6_size l d a z (z.2 16 x1.toNatClampNeg) hc) (k_X6_129 hE rfl rfl ⟨Nat.le_of_ble_eq_true rfl, Nat.le_of_ble_eq_true rfl⟩) hP rfl hl.1 rfl (Nat.le_of_ble_eq_true rfl) dX6_about_77 ?_
              obtain rfl := Option.some.inj hf
              exact W.iret hx hb hr (fun t ht _ => ⟨rfl, ht⟩) (fun _ h => nomatch h) dX6_about_80 hlk
            · have hf := (if_neg q1).symm.trans hf
              by_cases q2 : x2 = 2
              · have hf := (if_pos q2).symm.trans hf
                refine lv_tableIn (tgt := 81) hx hb dX6_about_30 (by rw [q2]; decide) (by rw [q2]; decide) (by rw [q2]; rfl) (by decide) ?_
                refine lv_iconst (v := 0) hx hb dX6_about_81 (by decide) ?_
                refine lv_istore_n (lv' := [(3, .int (0 : Int32)), (0, .ref (a 0)), (1, .int x1), (2, .int x2)]) hx hb dX6_about_82 rfl hl (by decide) rfl (fun ls hl => ?_)
                refine lv_iconst (v := 0) hx hb dX6_about_83 (by decide) ?_
                refine lv_istore (lv' := [(4, .int (0 : Int32)), (3, .int (0 : Int32)), (0, .ref (a 0)), (1, .int x1), (2, .int x2)]) hx hb dX6_about_84 hl (by decide) rfl (fun ls hl => ?_)
                exact u_X6_about_86 X hP hr hlk x1 (0 : Int32) (0 : Int32) hf ls (lv_sub hl [2, 3, 1, 0] rfl)
              · have hf := (if_neg q2).symm.trans hf
                by_cases q3 : x2 = 3
                · have hf := (if_pos q3).symm.trans hf
                  refine lv_tableIn (tgt := 119) hx hb dX6_about_30 (by rw [q3]; decide) (by rw [q3]; decide) (by rw [q3]; rfl) (by decide) ?_
                  refine lv_aload_n hx hb dX6_about_119 rfl (lv_at hl 0 rfl) ?_
                  refine lv_iload_n hx hb dX6_about_120 rfl (lv_at hl 1 rfl) ?_
                  obtain ⟨r_2, hc, hf⟩ := bnd hf
                  refine rdV X (c_X6_metOf l d a z x1 hc) (k_X6_155 hE rfl rfl ⟨Nat.le_of_ble_eq_true rfl, Nat.le_of_ble_eq_true rfl⟩) hP (va_recv (q := (RX6, TX6, 28)) hE.2 hP (ci := 6) (q0 := 0) rfl rfl) rfl hl.1 rfl (Nat.le_of_ble_eq_true rfl) dX6_about_121 ?_
                  obtain rfl := Option.some.inj hf
                  exact W.iret hx hb hr (fun t ht _ => ⟨rfl, ht⟩) (fun _ h => nomatch h) dX6_about_124 hlk
                · have hf := (if_neg q3).symm.trans hf
                  refine lv_tableOut (tgt := 125) hx hb dX6_about_30 (sw3 q0 q1 q2 q3) (by decide) ?_
                  refine lv_aload_n hx hb dX6_about_125 rfl (lv_at hl 0 rfl) ?_
                  refine gf_6_78 hx hb hE hown hP dX6_about_126 ?_
                  refine lv_iload_n hx hb dX6_about_129 rfl (lv_at hl 1 rfl) ?_
                  obtain ⟨hi, hf⟩ := ck_some hf
                  refine ld_M_19 hx hb hE hP hi dX6_about_130 ?_
                  refine lv_if_eq (tgt := 138) hx hb dX6_about_131 (by decide) (fun q => ?_) (fun q => ?_)
                  · have hf := (if_pos q).symm.trans hf
                    refine lv_iconst (v := 0) hx hb dX6_about_138 (by decide) ?_
                    obtain rfl := Option.some.inj hf
                    exact W.iret hx hb hr (fun t ht _ => ⟨rfl, ht⟩) (fun _ h => nomatch h) dX6_about_139 hlk
                  · have hf := (if_neg q).symm.trans hf
                    refine lv_iconst (v := 1) hx hb dX6_about_134 (by decide) ?_
                    refine lv_goto (tgt := 139) hx hb dX6_about_135 (by decide) ?_
                    obtain rfl := Option.some.inj hf
                    exact W.iret hx hb hr (fun t ht _ => ⟨rfl, ht⟩) (fun _ h => nomatch h) dX6_about_139 hlk
        · have hf := (if_pos q).symm.trans hf
          refine lv_bipush (v := -3) hx hb dX6_about_26 (by decide) ?_
          obtain rfl := Option.some.inj hf
          exact W.iret hx hb hr (fun t ht _ => ⟨rfl, ht⟩) (fun _ h => nomatch h) dX6_about_28 hlk
      · have hf := (if_neg q).symm.trans hf
        refine lv_iconst (v := -1) hx hb dX6_about_17 (by decide) ?_
        obtain rfl := Option.some.inj hf
        exact W.iret hx hb hr (fun t ht _ => ⟨rfl, ht⟩) (fun _ h => nomatch h) dX6_about_18 hlk
set_option maxHeartbeats 4000000 in
set_option maxRecDepth 100000 in
theorem c_X6_about (l : Launch) (d : G3) (a : Nat → Nat) (z : St) (x1 : Int32) (x2 : Int32) {RR : Int32} (hf : f_X6_about z x1 x2 = some RR) : Met l yX6_about [Cond.code yX6_about cX6_about 5 (some .int)] { frames := 4, cells := 0, slots := 0, locals := 93 } (rpre wM d a z [.ref (a 0), .int x1, .int x2]) (QcRead RR) 0 0 (fun _ => False) := by
  refine Met.ofW (cc := cX6_about) (maxL := 5) (ret := (some .int)) (by decide) rfl ?_
  intro p e s m args below meth c s₁ B hml hv
  obtain ⟨rfl, hE, hP⟩ := hv
  have X : Cx p s m c cX6_about RX6 5 d := ⟨B.exec, B.bytes, hml, findClass_of_methodNamed B.named, hE⟩
  have hl := lv_entry ([.ref (a 0), .int x1, .int x2]) (n := 5) (Nat.le_of_ble_eq_true rfl)
  rw [lg_entry_eq]
  generalize (lg_sl ([.ref (a 0), .int x1, .int x2]) ++ List.replicate (5 - (lg_sl ([.ref (a 0), .int x1, .int x2])).length) Slot.unset).toArray = ls at hl ⊢
  have hl : lv_has ls 5 [(0, .ref (a 0)), (1, .int x1), (2, .int x2)] := hl
  exact t_X6_about X hP B.returns B.notSynchronized x1 x2 hf ls hl
def f_X6_open (z : St) : Option (Int32) := (if (z.1 7) = (0 : Int32) then some (-3 : Int32) else (f_X6_openNow z).bind (fun r_1 => some r_1))
set_option maxHeartbeats 4000000 in
set_option maxRecDepth 100000 in
theorem t_X6_open {RR : Int32} (X : Cx p s m c cX6_open RX6 1 d) {z : St} (hP : va_P d.1 classes (wM d a z) s.heap) (hr : meth.sig.returnType = (some .int)) (hlk : meth.locks = false) : f_X6_open z = some RR → WRd p l e { frames := 1, cells := 0, slots := 0, locals := 22 } s m args below meth c RR 1 [(0, .ref (a 0))] 0 [] := by
  intro hf ls hl
  obtain ⟨hx, hb, hml, hown, hE⟩ := id X
  unfold f_X6_open at hf
  refine lv_aload_n hx hb dX6_open_0 rfl (lv_at hl 0 rfl) ?_
  refine gf_6_95 hx hb hE hown hP dX6_open_1 ?_
  refine lv_if_eq (tgt := 14) hx hb dX6_open_4 (by decide) (fun q => ?_) (fun q => ?_)
  · have hf := (if_pos q).symm.trans hf
    refine lv_bipush (v := -3) hx hb dX6_open_14 (by decide) ?_
    obtain rfl := Option.some.inj hf
    exact W.iret hx hb hr (fun t ht _ => ⟨rfl, ht⟩) (fun _ h => nomatch h) dX6_open_16 hlk
  · have hf := (if_neg q).symm.trans hf
    refine lv_aload_n hx hb dX6_open_7 rfl (lv_at hl 0 rfl) ?_
    obtain ⟨r_1, hc, hf⟩ := bnd hf
    refine rdV X (c_X6_openNow l d a z hc) (k_X6_151 hE rfl rfl ⟨Nat.le_of_ble_eq_true rfl, Nat.le_of_ble_eq_true rfl⟩) hP (va_recv (q := (RX6, TX6, 28)) hE.2 hP (ci := 6) (q0 := 0) rfl rfl) rfl hl.1 rfl (Nat.le_of_ble_eq_true rfl) dX6_open_8 ?_
    refine lv_goto (tgt := 16) hx hb dX6_open_11 (by decide) ?_
    obtain rfl := Option.some.inj hf
    exact W.iret hx hb hr (fun t ht _ => ⟨rfl, ht⟩) (fun _ h => nomatch h) dX6_open_16 hlk
set_option maxHeartbeats 4000000 in
set_option maxRecDepth 100000 in
theorem c_X6_open (l : Launch) (d : G3) (a : Nat → Nat) (z : St) {RR : Int32} (hf : f_X6_open z = some RR) : Met l yX6_open [Cond.code yX6_open cX6_open 1 (some .int)] { frames := 1, cells := 0, slots := 0, locals := 22 } (rpre wM d a z [.ref (a 0)]) (QcRead RR) 0 0 (fun _ => False) := by
  refine Met.ofW (cc := cX6_open) (maxL := 1) (ret := (some .int)) (by decide) rfl ?_
  intro p e s m args below meth c s₁ B hml hv
  obtain ⟨rfl, hE, hP⟩ := hv
  have X : Cx p s m c cX6_open RX6 1 d := ⟨B.exec, B.bytes, hml, findClass_of_methodNamed B.named, hE⟩
  have hl := lv_entry ([.ref (a 0)]) (n := 1) (Nat.le_of_ble_eq_true rfl)
  rw [lg_entry_eq]
  generalize (lg_sl ([.ref (a 0)]) ++ List.replicate (1 - (lg_sl ([.ref (a 0)])).length) Slot.unset).toArray = ls at hl ⊢
  have hl : lv_has ls 1 [(0, .ref (a 0))] := hl
  exact t_X6_open X hP B.returns B.notSynchronized hf ls hl
def f_X6_serves_3 (z : St) (k3 : Int32 → Int32 → Int32 → Int32 → Option (Int32)) (x1 : Int32) (x2 : Int32) (x3 : Int32) (x4 : Int32) : Option (Int32) := (if x2 ≤ x4 then (f_X6_isMet z x1 x2 x3).bind (fun r_1 => bz r_1 (some r_1)) else ck 4 x1 ((f_X6_isMet z x1 x4 (z.2 16 x1.toNatClampNeg)).bind (fun r_2 => (if r_2 = (0 : Int32) then k3 x1 x2 x3 (x4 + (1 : Int32)) else (f_X6_isMet z x1 x4 x3).bind (fun r_3 => (if r_3 = (0 : Int32) then some (0 : Int32) else k3 x1 x2 x3 (x4 + (1 : Int32))))))))
def l_X6_serves_3 (z : St) : Int32 → Int32 → Int32 → Int32 → Option (Int32) := iter (fun _ _ _ _ => none) (f_X6_serves_3 z) FU
set_option maxHeartbeats 4000000 in
set_option maxRecDepth 100000 in
theorem t_X6_serves_3 {RR : Int32} (X : Cx p s m c cX6_serves RX6 5 d) {z : St} (hP : va_P d.1 classes (wM d a z) s.heap) (hr : meth.sig.returnType = (some .boolean)) (hlk : meth.locks = false) {k3 : Int32 → Int32 → Int32 → Int32 → Option (Int32)} (hk3 : ∀ (x1 : Int32) (x2 : Int32) (x3 : Int32) (x4 : Int32), k3 x1 x2 x3 x4 = some RR → WRd p l e { frames := 3, cells := 0, slots := 0, locals := 70 } s m args below meth c RR 5 [(0, .ref (a 0)), (1, .int x1), (2, .int x2), (3, .int x3), (4, .int x4)] 3 []) : ∀ (x1 : Int32) (x2 : Int32) (x3 : Int32) (x4 : Int32), f_X6_serves_3 z k3 x1 x2 x3 x4 = some RR → WRd p l e { frames := 3, cells := 0, slots := 0, locals := 70 } s m args below meth c RR 5 [(0, .ref (a 0)), (1, .int x1), (2, .int x2), (3, .int x3), (4, .int x4)] 3 [] := by
  intro x1 x2 x3 x4 hf ls hl
  obtain ⟨hx, hb, hml, hown, hE⟩ := id X
  unfold f_X6_serves_3 at hf
  refine lv_iload hx hb dX6_serves_3 (lv_at hl 4 rfl) ?_
  refine lv_iload_n hx hb dX6_serves_5 rfl (lv_at hl 2 rfl) ?_
  refine lv_icmp_ge (tgt := 44) hx hb dX6_serves_6 (by decide) (fun q => ?_) (fun q => ?_)
  · have hf := (if_pos q).symm.trans hf
    refine lv_aload_n hx hb dX6_serves_44 rfl (lv_at hl 0 rfl) ?_
    refine lv_iload_n hx hb dX6_serves_45 rfl (lv_at hl 1 rfl) ?_
    refine lv_iload_n hx hb dX6_serves_46 rfl (lv_at hl 2 rfl) ?_
    refine lv_iload_n hx hb dX6_serves_47 rfl (lv_at hl 3 rfl) ?_
    obtain ⟨r_1, hc, hf⟩ := bnd hf
    refine rdV X (c_X6_isMet l d a z x1 x2 x3 hc) (k_X6_119 hE rfl rfl ⟨Nat.le_of_ble_eq_true rfl, Nat.le_of_ble_eq_true rfl⟩) hP (va_recv (q := (RX6, TX6, 28)) hE.2 hP (ci := 6) (q0 := 0) rfl rfl) rfl hl.1 rfl (Nat.le_of_ble_eq_true rfl) dX6_serves_48 ?_
    obtain ⟨hn, hf⟩ := bz_some hf
    obtain rfl := Option.some.inj hf
    exact W.zret hx hb hr hn (fun t ht _ => ⟨rfl, ht⟩) (fun _ h => nomatch h) dX6_serves_51 hlk
  · have hf := (if_neg q).symm.trans hf
    refine lv_aload_n hx hb dX6_serves_9 rfl (lv_at hl 0 rfl) ?_
    refine lv_iload_n hx hb dX6_serves_10 rfl (lv_at hl 1 rfl) ?_
    refine lv_iload hx hb dX6_serves_11 (lv_at hl 4 rfl) ?_
    refine lv_aload_n hx hb dX6_serves_13 rfl (lv_at hl 0 rfl) ?_
    refine gf_6_72 hx hb hE hown hP dX6_serves_14 ?_
    refine lv_iload_n hx hb dX6_serves_17 rfl (lv_at hl 1 rfl) ?_
    obtain ⟨hi, hf⟩ := ck_some hf
    refine ld_M_17 hx hb hE hP hi dX6_serves_18 ?_
    obtain ⟨r_2, hc, hf⟩ := bnd hf
    refine rdV X (c_X6_isMet l d a z x1 x4 (z.2 16 x1.toNatClampNeg) hc) (k_X6_119 hE rfl rfl ⟨Nat.le_of_ble_eq_true rfl, Nat.le_of_ble_eq_true rfl⟩) hP (va_recv (q := (RX6, TX6, 28)) hE.2 hP (ci := 6) (q0 := 0) rfl rfl) rfl hl.1 rfl (Nat.le_of_ble_eq_true rfl) dX6_serves_19 ?_
    refine lv_if_eq (tgt := 38) hx hb dX6_serves_22 (by decide) (fun q => ?_) (fun q => ?_)
    · have hf := (if_pos q).symm.trans hf
      refine lv_iinc (v := (x4 + (1 : Int32))) (lv' := [(4, .int (x4 + (1 : Int32))), (0, .ref (a 0)), (1, .int x1), (2, .int x2), (3, .int x3)]) hx hb dX6_serves_38 hl (k := 4) rfl rfl (by decide) rfl (fun ls hl => ?_)
      refine lv_goto (tgt := 3) hx hb dX6_serves_41 (by decide) ?_
      exact hk3 x1 x2 x3 (x4 + (1 : Int32)) hf ls (lv_sub hl [1, 2, 3, 4, 0] rfl)
    · have hf := (if_neg q).symm.trans hf
      refine lv_aload_n hx hb dX6_serves_25 rfl (lv_at hl 0 rfl) ?_
      refine lv_iload_n hx hb dX6_serves_26 rfl (lv_at hl 1 rfl) ?_
      refine lv_iload hx hb dX6_serves_27 (lv_at hl 4 rfl) ?_
      refine lv_iload_n hx hb dX6_serves_29 rfl (lv_at hl 3 rfl) ?_
      obtain ⟨r_3, hc, hf⟩ := bnd hf
      refine rdV X (c_X6_isMet l d a z x1 x4 x3 hc) (k_X6_119 hE rfl rfl ⟨Nat.le_of_ble_eq_true rfl, Nat.le_of_ble_eq_true rfl⟩) hP (va_recv (q := (RX6, TX6, 28)) hE.2 hP (ci := 6) (q0 := 0) rfl rfl) rfl hl.1 rfl (Nat.le_of_ble_eq_true rfl) dX6_serves_30 ?_
      refine lv_if_ne (tgt := 38) hx hb dX6_serves_33 (by decide) (fun q => ?_) (fun q => ?_)
      · have hf := (if_neg q).symm.trans hf
        refine lv_iinc (v := (x4 + (1 : Int32))) (lv' := [(4, .int (x4 + (1 : Int32))), (0, .ref (a 0)), (1, .int x1), (2, .int x2), (3, .int x3)]) hx hb dX6_serves_38 hl (k := 4) rfl rfl (by decide) rfl (fun ls hl => ?_)
        refine lv_goto (tgt := 3) hx hb dX6_serves_41 (by decide) ?_
        exact hk3 x1 x2 x3 (x4 + (1 : Int32)) hf ls (lv_sub hl [1, 2, 3, 4, 0] rfl)
      · have hf := (if_pos q).symm.trans hf
        refine lv_iconst (v := 0) hx hb dX6_serves_36 (by decide) ?_
        obtain rfl := Option.some.inj hf
        exact W.zret hx hb hr rfl (fun t ht _ => ⟨rfl, ht⟩) (fun _ h => nomatch h) dX6_serves_37 hlk
theorem u_X6_serves_3 {RR : Int32} (X : Cx p s m c cX6_serves RX6 5 d) {z : St} (hP : va_P d.1 classes (wM d a z) s.heap) (hr : meth.sig.returnType = (some .boolean)) (hlk : meth.locks = false) : ∀ (x1 : Int32) (x2 : Int32) (x3 : Int32) (x4 : Int32), l_X6_serves_3 z x1 x2 x3 x4 = some RR → WRd p l e { frames := 3, cells := 0, slots := 0, locals := 70 } s m args below meth c RR 5 [(0, .ref (a 0)), (1, .int x1), (2, .int x2), (3, .int x3), (4, .int x4)] 3 [] := by
  unfold l_X6_serves_3
  generalize FU = n
  induction n with
  | zero => intro x1 x2 x3 x4 hf; exact absurd (show (none : Option (Int32)) = some RR from hf) (by simp)
  | succ n ih => exact t_X6_serves_3 X hP hr hlk ih
def f_X6_serves (z : St) (x1 : Int32) (x2 : Int32) (x3 : Int32) : Option (Int32) := l_X6_serves_3 z x1 x2 x3 (0 : Int32)
set_option maxHeartbeats 4000000 in
set_option maxRecDepth 100000 in
theorem t_X6_serves {RR : Int32} (X : Cx p s m c cX6_serves RX6 5 d) {z : St} (hP : va_P d.1 classes (wM d a z) s.heap) (hr : meth.sig.returnType = (some .boolean)) (hlk : meth.locks = false) : ∀ (x1 : Int32) (x2 : Int32) (x3 : Int32), f_X6_serves z x1 x2 x3 = some RR → WRd p l e { frames := 3, cells := 0, slots := 0, locals := 70 } s m args below meth c RR 5 [(0, .ref (a 0)), (1, .int x1), (2, .int x2), (3, .int x3)] 0 [] := by
  intro x1 x2 x3 hf ls hl
  obtain ⟨hx, hb, hml, hown, hE⟩ := id X
  unfold f_X6_serves at hf
  refine lv_iconst (v := 0) hx hb dX6_serves_0 (by decide) ?_
  refine lv_istore (lv' := [(4, .int (0 : Int32)), (0, .ref (a 0)), (1, .int x1), (2, .int x2), (3, .int x3)]) hx hb dX6_serves_1 hl (by decide) rfl (fun ls hl => ?_)
  exact u_X6_serves_3 X hP hr hlk x1 x2 x3 (0 : Int32) hf ls (lv_sub hl [1, 2, 3, 4, 0] rfl)
set_option maxHeartbeats 4000000 in
set_option maxRecDepth 100000 in
theorem c_X6_serves (l : Launch) (d : G3) (a : Nat → Nat) (z : St) (x1 : Int32) (x2 : Int32) (x3 : Int32) {RR : Int32} (hf : f_X6_serves z x1 x2 x3 = some RR) : Met l yX6_serves [Cond.code yX6_serves cX6_serves 5 (some .boolean)] { frames := 3, cells := 0, slots := 0, locals := 70 } (rpre wM d a z [.ref (a 0), .int x1, .int x2, .int x3]) (QcRead RR) 0 0 (fun _ => False) := by
  refine Met.ofW (cc := cX6_serves) (maxL := 5) (ret := (some .boolean)) (by decide) rfl ?_
  intro p e s m args below meth c s₁ B hml hv
  obtain ⟨rfl, hE, hP⟩ := hv
  have X : Cx p s m c cX6_serves RX6 5 d := ⟨B.exec, B.bytes, hml, findClass_of_methodNamed B.named, hE⟩
  have hl := lv_entry ([.ref (a 0), .int x1, .int x2, .int x3]) (n := 5) (Nat.le_of_ble_eq_true rfl)
  rw [lg_entry_eq]
  generalize (lg_sl ([.ref (a 0), .int x1, .int x2, .int x3]) ++ List.replicate (5 - (lg_sl ([.ref (a 0), .int x1, .int x2, .int x3])).length) Slot.unset).toArray = ls at hl ⊢
  have hl : lv_has ls 5 [(0, .ref (a 0)), (1, .int x1), (2, .int x2), (3, .int x3)] := hl
  exact t_X6_serves X hP B.returns B.notSynchronized x1 x2 x3 hf ls hl
end GEN
