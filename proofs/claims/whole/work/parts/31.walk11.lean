section GEN
variable {p : Program} {l : Launch} {e : Env} {s : State} {m : MethodId} {args : Array Value} {below : List Frame} {meth : Method} {c : Code} {d : G3} {a : Nat → Nat}
def f_X5_ahead_52 (k52 : Int32 → Int32 → Int32 → Int32 → Int32 → St → Option (Int32 × St)) (x1 : Int32) (x2 : Int32) (x3 : Int32) (x4 : Int32) (x5 : Int32) (z : St) : Option (Int32 × St) := (if x2 ≤ x5 then (f_X5_bestLine x1 x3 (x4 &&& (((1 : Int32) <<< (x1 &&& 31)) ^^^ (-1 : Int32))) z).bind (fun r_1 => some (r_1.1, r_1.2)) else (f_X5_otherAt z x5 x1).bind (fun r_2 => (f_X5_bestLine r_2 x3 (x4 &&& (((1 : Int32) <<< (r_2 &&& 31)) ^^^ (-1 : Int32))) z).bind (fun r_3 => k52 x1 x2 (x3 &&& (r_3.1 ^^^ (-1 : Int32))) (x4 &&& (((1 : Int32) <<< (r_2 &&& 31)) ^^^ (-1 : Int32))) (x5 + (1 : Int32)) r_3.2)))
def l_X5_ahead_52 : Int32 → Int32 → Int32 → Int32 → Int32 → St → Option (Int32 × St) := iter (fun _ _ _ _ _ _ => none) (f_X5_ahead_52) FU
set_option maxHeartbeats 4000000 in
set_option maxRecDepth 100000 in
theorem t_X5_ahead_52 {RR : Int32 × St} (X : Cx p s m c cX5_ahead RX5 7 d) (hJ : Inj 26 a) (hr : meth.sig.returnType = (some .int)) (hlk : meth.locks = false) {k52 : Int32 → Int32 → Int32 → Int32 → Int32 → St → Option (Int32 × St)} (hk52 : ∀ (x1 : Int32) (x2 : Int32) (x3 : Int32) (x4 : Int32) (x5 : Int32) (z : St), k52 x1 x2 x3 x4 x5 z = some RR → WWr wC 26 d a p l e { frames := 6, cells := 0, slots := 0, locals := 148 } s m args below meth c RR z 7 [(0, .ref (a 0)), (1, .int x1), (2, .int x2), (3, .int x3), (4, .int x4), (5, .int x5)] 52 []) : ∀ (x1 : Int32) (x2 : Int32) (x3 : Int32) (x4 : Int32) (x5 : Int32) (z : St), f_X5_ahead_52 k52 x1 x2 x3 x4 x5 z = some RR → WWr wC 26 d a p l e { frames := 6, cells := 0, slots := 0, locals := 148 } s m args below meth c RR z 7 [(0, .ref (a 0)), (1, .int x1), (2, .int x2), (3, .int x3), (4, .int x4), (5, .int x5)] 52 [] := by
  intro x1 x2 x3 x4 x5 z hf H locs ls hP hS hl
  obtain ⟨hx, hb, hml, hown, hE⟩ := id X
  unfold f_X5_ahead_52 at hf
  refine lv_iload hx hb dX5_ahead_52 (lv_at hl 5 rfl) ?_
  refine lv_iload_n hx hb dX5_ahead_54 rfl (lv_at hl 2 rfl) ?_
  refine lv_icmp_ge (tgt := 97) hx hb dX5_ahead_55 (by decide) (fun q => ?_) (fun q => ?_)
  · have hf := (if_pos q).symm.trans hf
    refine lv_aload_n hx hb dX5_ahead_97 rfl (lv_at hl 0 rfl) ?_
    refine lv_iload_n hx hb dX5_ahead_98 rfl (lv_at hl 1 rfl) ?_
    refine lv_iload_n hx hb dX5_ahead_99 rfl (lv_at hl 3 rfl) ?_
    refine lv_iload hx hb dX5_ahead_100 (lv_at hl 4 rfl) ?_
    refine lv_iconst (v := 1) hx hb dX5_ahead_102 (by decide) ?_
    refine lv_iload_n hx hb dX5_ahead_103 rfl (lv_at hl 1 rfl) ?_
    refine lv_ishl hx hb dX5_ahead_104 ?_
    refine lv_iconst (v := -1) hx hb dX5_ahead_105 (by decide) ?_
    refine lv_ixor hx hb dX5_ahead_106 ?_
    refine lv_iand hx hb dX5_ahead_107 ?_
    obtain ⟨r_1, hc, hf⟩ := bnd hf
    refine wrV X (c_X5_bestLine l d a z x1 x3 (x4 &&& (((1 : Int32) <<< (x1 &&& 31)) ^^^ (-1 : Int32))) hc) (k_X5_140 hE rfl rfl ⟨Nat.le_of_ble_eq_true rfl, Nat.le_of_ble_eq_true rfl⟩) hP hJ hS (va_recv (q := (RX5, TX5, 6)) hE.2 hP (ci := 5) (q0 := 0) rfl rfl) rfl hl.1 rfl (Nat.le_of_ble_eq_true rfl) dX5_ahead_108 (fun H locs hP hS => ?_)
    obtain rfl := Option.some.inj hf
    exact W.iret hx hb hr (fun t ht _ => ⟨rfl, by rw [ht]; exact hP, hS.F ht⟩) hS.2.2 dX5_ahead_111 hlk
  · have hf := (if_neg q).symm.trans hf
    refine lv_iload hx hb dX5_ahead_58 (lv_at hl 5 rfl) ?_
    refine lv_iload_n hx hb dX5_ahead_60 rfl (lv_at hl 1 rfl) ?_
    obtain ⟨r_2, hc, hf⟩ := bnd hf
    refine rdS X (c_X5_otherAt l d a z x5 x1 hc) (k_X5_174 hE rfl rfl ⟨Nat.le_of_ble_eq_true rfl, Nat.le_of_ble_eq_true rfl⟩) hP rfl hl.1 rfl (Nat.le_of_ble_eq_true rfl) dX5_ahead_61 ?_
    refine lv_istore (lv' := [(6, .int r_2), (0, .ref (a 0)), (1, .int x1), (2, .int x2), (3, .int x3), (4, .int x4), (5, .int x5)]) hx hb dX5_ahead_64 hl (by decide) rfl (fun ls hl => ?_)
    refine lv_iload hx hb dX5_ahead_66 (lv_at hl 5 rfl) ?_
    refine lv_iconst (v := 1) hx hb dX5_ahead_68 (by decide) ?_
    refine lv_iload hx hb dX5_ahead_69 (lv_at hl 0 rfl) ?_
    refine lv_ishl hx hb dX5_ahead_71 ?_
    refine lv_iconst (v := -1) hx hb dX5_ahead_72 (by decide) ?_
    refine lv_ixor hx hb dX5_ahead_73 ?_
    refine lv_iand hx hb dX5_ahead_74 ?_
    refine lv_istore (lv' := [(4, .int (x4 &&& (((1 : Int32) <<< (r_2 &&& 31)) ^^^ (-1 : Int32)))), (6, .int r_2), (0, .ref (a 0)), (1, .int x1), (2, .int x2), (3, .int x3), (5, .int x5)]) hx hb dX5_ahead_75 hl (by decide) rfl (fun ls hl => ?_)
    refine lv_iload_n hx hb dX5_ahead_77 rfl (lv_at hl 5 rfl) ?_
    refine lv_aload_n hx hb dX5_ahead_78 rfl (lv_at hl 2 rfl) ?_
    refine lv_iload hx hb dX5_ahead_79 (lv_at hl 1 rfl) ?_
    refine lv_iload_n hx hb dX5_ahead_81 rfl (lv_at hl 5 rfl) ?_
    refine lv_iload hx hb dX5_ahead_82 (lv_at hl 0 rfl) ?_
    obtain ⟨r_3, hc, hf⟩ := bnd hf
    refine wrV X (c_X5_bestLine l d a z r_2 x3 (x4 &&& (((1 : Int32) <<< (r_2 &&& 31)) ^^^ (-1 : Int32))) hc) (k_X5_140 hE rfl rfl ⟨Nat.le_of_ble_eq_true rfl, Nat.le_of_ble_eq_true rfl⟩) hP hJ hS (va_recv (q := (RX5, TX5, 6)) hE.2 hP (ci := 5) (q0 := 0) rfl rfl) rfl hl.1 rfl (Nat.le_of_ble_eq_true rfl) dX5_ahead_84 (fun H locs hP hS => ?_)
    refine lv_iconst (v := -1) hx hb dX5_ahead_87 (by decide) ?_
    refine lv_ixor hx hb dX5_ahead_88 ?_
    refine lv_iand hx hb dX5_ahead_89 ?_
    refine lv_istore_n (lv' := [(3, .int (x3 &&& (r_3.1 ^^^ (-1 : Int32)))), (4, .int (x4 &&& (((1 : Int32) <<< (r_2 &&& 31)) ^^^ (-1 : Int32)))), (6, .int r_2), (0, .ref (a 0)), (1, .int x1), (2, .int x2), (5, .int x5)]) hx hb dX5_ahead_90 rfl hl (by decide) rfl (fun ls hl => ?_)
    refine lv_iinc (v := (x5 + (1 : Int32))) (lv' := [(5, .int (x5 + (1 : Int32))), (3, .int (x3 &&& (r_3.1 ^^^ (-1 : Int32)))), (4, .int (x4 &&& (((1 : Int32) <<< (r_2 &&& 31)) ^^^ (-1 : Int32)))), (6, .int r_2), (0, .ref (a 0)), (1, .int x1), (2, .int x2)]) hx hb dX5_ahead_91 hl (k := 6) rfl rfl (by decide) rfl (fun ls hl => ?_)
    refine lv_goto (tgt := 52) hx hb dX5_ahead_94 (by decide) ?_
    exact hk52 x1 x2 (x3 &&& (r_3.1 ^^^ (-1 : Int32))) (x4 &&& (((1 : Int32) <<< (r_2 &&& 31)) ^^^ (-1 : Int32))) (x5 + (1 : Int32)) r_3.2 hf H locs ls hP hS (lv_sub hl [4, 5, 6, 1, 2, 0] rfl)
theorem u_X5_ahead_52 {RR : Int32 × St} (X : Cx p s m c cX5_ahead RX5 7 d) (hJ : Inj 26 a) (hr : meth.sig.returnType = (some .int)) (hlk : meth.locks = false) : ∀ (x1 : Int32) (x2 : Int32) (x3 : Int32) (x4 : Int32) (x5 : Int32) (z : St), l_X5_ahead_52 x1 x2 x3 x4 x5 z = some RR → WWr wC 26 d a p l e { frames := 6, cells := 0, slots := 0, locals := 148 } s m args below meth c RR z 7 [(0, .ref (a 0)), (1, .int x1), (2, .int x2), (3, .int x3), (4, .int x4), (5, .int x5)] 52 [] := by
  unfold l_X5_ahead_52
  generalize FU = n
  induction n with
  | zero => intro x1 x2 x3 x4 x5 z hf; exact absurd (show (none : Option (Int32 × St)) = some RR from hf) (by simp)
  | succ n ih => exact t_X5_ahead_52 X hJ hr hlk ih
def f_X5_ahead (x1 : Int32) (x2 : Int32) (z : St) : Option (Int32 × St) := (f_X2_has z x1).bind (fun r_1 => (if r_1 = (0 : Int32) then some ((-1 : Int32), z) else (f_X2_has z x2).bind (fun r_2 => (if r_2 = (0 : Int32) then some ((-1 : Int32), z) else (f_X0_refresh z).bind (fun r_3 => (f_X1_all r_3).bind (fun r_4 => (f_X2_from r_3 (0 : Int32)).bind (fun r_5 => l_X5_ahead_52 x1 x2 r_4 r_5 (0 : Int32) r_3)))))))
set_option maxHeartbeats 4000000 in
set_option maxRecDepth 100000 in
theorem t_X5_ahead {RR : Int32 × St} (X : Cx p s m c cX5_ahead RX5 7 d) (hJ : Inj 26 a) (hr : meth.sig.returnType = (some .int)) (hlk : meth.locks = false) : ∀ (x1 : Int32) (x2 : Int32) (z : St), f_X5_ahead x1 x2 z = some RR → WWr wC 26 d a p l e { frames := 6, cells := 0, slots := 0, locals := 148 } s m args below meth c RR z 7 [(0, .ref (a 0)), (1, .int x1), (2, .int x2)] 0 [] := by
  intro x1 x2 z hf H locs ls hP hS hl
  obtain ⟨hx, hb, hml, hown, hE⟩ := id X
  unfold f_X5_ahead at hf
  refine lv_aload_n hx hb dX5_ahead_0 rfl (lv_at hl 0 rfl) ?_
  refine gf_5_26 hx hb hE hown hP dX5_ahead_1 ?_
  refine lv_iload_n hx hb dX5_ahead_4 rfl (lv_at hl 1 rfl) ?_
  obtain ⟨r_1, hc, hf⟩ := bnd hf
  refine rdV X (c_X2_has l d a z x1 hc) (k_X5_72 hE rfl rfl ⟨Nat.le_of_ble_eq_true rfl, Nat.le_of_ble_eq_true rfl⟩) hP (va_recv (q := (RX2, TX2, 2)) hE.2 hP (ci := 2) (q0 := 9) rfl rfl) rfl hl.1 rfl (Nat.le_of_ble_eq_true rfl) dX5_ahead_5 ?_
  refine lv_if_eq (tgt := 22) hx hb dX5_ahead_8 (by decide) (fun q => ?_) (fun q => ?_)
  · have hf := (if_pos q).symm.trans hf
    refine lv_iconst (v := -1) hx hb dX5_ahead_22 (by decide) ?_
    obtain rfl := Option.some.inj hf
    exact W.iret hx hb hr (fun t ht _ => ⟨rfl, by rw [ht]; exact hP, hS.F ht⟩) hS.2.2 dX5_ahead_23 hlk
  · have hf := (if_neg q).symm.trans hf
    refine lv_aload_n hx hb dX5_ahead_11 rfl (lv_at hl 0 rfl) ?_
    refine gf_5_26 hx hb hE hown hP dX5_ahead_12 ?_
    refine lv_iload_n hx hb dX5_ahead_15 rfl (lv_at hl 2 rfl) ?_
    obtain ⟨r_2, hc, hf⟩ := bnd hf
    refine rdV X (c_X2_has l d a z x2 hc) (k_X5_72 hE rfl rfl ⟨Nat.le_of_ble_eq_true rfl, Nat.le_of_ble_eq_true rfl⟩) hP (va_recv (q := (RX2, TX2, 2)) hE.2 hP (ci := 2) (q0 := 9) rfl rfl) rfl hl.1 rfl (Nat.le_of_ble_eq_true rfl) dX5_ahead_16 ?_
    refine lv_if_ne (tgt := 24) hx hb dX5_ahead_19 (by decide) (fun q => ?_) (fun q => ?_)
    · have hf := (if_neg q).symm.trans hf
      refine lv_aload_n hx hb dX5_ahead_24 rfl (lv_at hl 0 rfl) ?_
      refine gf_5_35 hx hb hE hown hP dX5_ahead_25 ?_
      obtain ⟨r_3, hc, hf⟩ := bnd hf
      refine wrVv X (c_X0_refresh l d a z hc) (k_X5_113 hE rfl rfl ⟨Nat.le_of_ble_eq_true rfl, Nat.le_of_ble_eq_true rfl⟩) hP hJ hS (va_recv (q := (RX0, TX0, 7)) hE.2 hP (ci := 0) (q0 := 11) rfl rfl) rfl hl.1 rfl (Nat.le_of_ble_eq_true rfl) dX5_ahead_28 (fun H locs hP hS => ?_)
      refine lv_aload_n hx hb dX5_ahead_31 rfl (lv_at hl 0 rfl) ?_
      refine gf_5_12 hx hb hE hown hP dX5_ahead_32 ?_
      obtain ⟨r_4, hc, hf⟩ := bnd hf
      refine rdV X (c_X1_all l d a r_3 hc) (k_X5_116 hE rfl rfl ⟨Nat.le_of_ble_eq_true rfl, Nat.le_of_ble_eq_true rfl⟩) hP (va_recv (q := (RX1, TX1, 7)) hE.2 hP (ci := 1) (q0 := 1) rfl rfl) rfl hl.1 rfl (Nat.le_of_ble_eq_true rfl) dX5_ahead_35 ?_
      refine lv_istore_n (lv' := [(3, .int r_4), (0, .ref (a 0)), (1, .int x1), (2, .int x2)]) hx hb dX5_ahead_38 rfl hl (by decide) rfl (fun ls hl => ?_)
      refine lv_aload_n hx hb dX5_ahead_39 rfl (lv_at hl 1 rfl) ?_
      refine gf_5_26 hx hb hE hown hP dX5_ahead_40 ?_
      refine lv_iconst (v := 0) hx hb dX5_ahead_43 (by decide) ?_
      obtain ⟨r_5, hc, hf⟩ := bnd hf
      refine rdV X (c_X2_from l d a r_3 (0 : Int32) hc) (k_X5_124 hE rfl rfl ⟨Nat.le_of_ble_eq_true rfl, Nat.le_of_ble_eq_true rfl⟩) hP (va_recv (q := (RX2, TX2, 2)) hE.2 hP (ci := 2) (q0 := 9) rfl rfl) rfl hl.1 rfl (Nat.le_of_ble_eq_true rfl) dX5_ahead_44 ?_
      refine lv_istore (lv' := [(4, .int r_5), (3, .int r_4), (0, .ref (a 0)), (1, .int x1), (2, .int x2)]) hx hb dX5_ahead_47 hl (by decide) rfl (fun ls hl => ?_)
      refine lv_iconst (v := 0) hx hb dX5_ahead_49 (by decide) ?_
      refine lv_istore (lv' := [(5, .int (0 : Int32)), (4, .int r_5), (3, .int r_4), (0, .ref (a 0)), (1, .int x1), (2, .int x2)]) hx hb dX5_ahead_50 hl (by decide) rfl (fun ls hl => ?_)
      exact u_X5_ahead_52 X hJ hr hlk x1 x2 r_4 r_5 (0 : Int32) r_3 hf H locs ls hP hS (lv_sub hl [3, 4, 5, 2, 1, 0] rfl)
    · have hf := (if_pos q).symm.trans hf
      refine lv_iconst (v := -1) hx hb dX5_ahead_22 (by decide) ?_
      obtain rfl := Option.some.inj hf
      exact W.iret hx hb hr (fun t ht _ => ⟨rfl, by rw [ht]; exact hP, hS.F ht⟩) hS.2.2 dX5_ahead_23 hlk
set_option maxHeartbeats 4000000 in
set_option maxRecDepth 100000 in
theorem c_X5_ahead (l : Launch) (d : G3) (a : Nat → Nat) (z : St) (x1 : Int32) (x2 : Int32) {RR : Int32 × St} (hf : f_X5_ahead x1 x2 z = some RR) : Met l yX5_ahead [Cond.code yX5_ahead cX5_ahead 7 (some .int)] { frames := 6, cells := 0, slots := 0, locals := 148 } (wpre wC 26 d a z [.ref (a 0), .int x1, .int x2]) (QW wC 26 d a RR) 0 0 (AD 26 a) := by
  refine Met.ofW (cc := cX5_ahead) (maxL := 7) (ret := (some .int)) (by decide) rfl ?_
  intro p e s m args below meth c s₁ B hml hv
  obtain ⟨rfl, hE, hP, hJ⟩ := hv
  have X : Cx p s m c cX5_ahead RX5 7 d := ⟨B.exec, B.bytes, hml, findClass_of_methodNamed B.named, hE⟩
  have hl := lv_entry ([.ref (a 0), .int x1, .int x2]) (n := 7) (Nat.le_of_ble_eq_true rfl)
  rw [lg_entry_eq]
  generalize (lg_sl ([.ref (a 0), .int x1, .int x2]) ++ List.replicate (7 - (lg_sl ([.ref (a 0), .int x1, .int x2])).length) Slot.unset).toArray = ls at hl ⊢
  have hl : lv_has ls 7 [(0, .ref (a 0)), (1, .int x1), (2, .int x2)] := hl
  exact t_X5_ahead X hJ B.returns B.notSynchronized x1 x2 z hf s.heap [] ls hP va_S.rf hl
def f_X5_isDutyOrNo (z : St) (x1 : Int32) : Option (Int32) := (if x1 = (-1 : Int32) then some (1 : Int32) else (f_X1_has z x1).bind (fun r_1 => (if r_1 = (0 : Int32) then some (0 : Int32) else some (1 : Int32))))
set_option maxHeartbeats 4000000 in
set_option maxRecDepth 100000 in
theorem t_X5_isDutyOrNo {RR : Int32} (X : Cx p s m c cX5_isDutyOrNo RX5 2 d) {z : St} (hP : va_P d.1 classes (wC d a z) s.heap) (hr : meth.sig.returnType = (some .boolean)) (hlk : meth.locks = false) : ∀ (x1 : Int32), f_X5_isDutyOrNo z x1 = some RR → WRd p l e { frames := 2, cells := 0, slots := 0, locals := 43 } s m args below meth c RR 2 [(0, .ref (a 0)), (1, .int x1)] 0 [] := by
  intro x1 hf ls hl
  obtain ⟨hx, hb, hml, hown, hE⟩ := id X
  unfold f_X5_isDutyOrNo at hf
  refine lv_iload_n hx hb dX5_isDutyOrNo_0 rfl (lv_at hl 1 rfl) ?_
  refine lv_iconst (v := -1) hx hb dX5_isDutyOrNo_1 (by decide) ?_
  refine lv_icmp_eq (tgt := 16) hx hb dX5_isDutyOrNo_2 (by decide) (fun q => ?_) (fun q => ?_)
  · have hf := (if_pos q).symm.trans hf
    refine lv_iconst (v := 1) hx hb dX5_isDutyOrNo_16 (by decide) ?_
    refine lv_goto (tgt := 21) hx hb dX5_isDutyOrNo_17 (by decide) ?_
    obtain rfl := Option.some.inj hf
    exact W.zret hx hb hr rfl (fun t ht _ => ⟨rfl, ht⟩) (fun _ h => nomatch h) dX5_isDutyOrNo_21 hlk
  · have hf := (if_neg q).symm.trans hf
    refine lv_aload_n hx hb dX5_isDutyOrNo_5 rfl (lv_at hl 0 rfl) ?_
    refine gf_5_12 hx hb hE hown hP dX5_isDutyOrNo_6 ?_
    refine lv_iload_n hx hb dX5_isDutyOrNo_9 rfl (lv_at hl 1 rfl) ?_
    obtain ⟨r_1, hc, hf⟩ := bnd hf
    refine rdV X (c_X1_has l d a z x1 hc) (k_X5_75 hE rfl rfl ⟨Nat.le_of_ble_eq_true rfl, Nat.le_of_ble_eq_true rfl⟩) hP (va_recv (q := (RX1, TX1, 7)) hE.2 hP (ci := 1) (q0 := 1) rfl rfl) rfl hl.1 rfl (Nat.le_of_ble_eq_true rfl) dX5_isDutyOrNo_10 ?_
    refine lv_if_eq (tgt := 20) hx hb dX5_isDutyOrNo_13 (by decide) (fun q => ?_) (fun q => ?_)
    · have hf := (if_pos q).symm.trans hf
      refine lv_iconst (v := 0) hx hb dX5_isDutyOrNo_20 (by decide) ?_
      obtain rfl := Option.some.inj hf
      exact W.zret hx hb hr rfl (fun t ht _ => ⟨rfl, ht⟩) (fun _ h => nomatch h) dX5_isDutyOrNo_21 hlk
    · have hf := (if_neg q).symm.trans hf
      refine lv_iconst (v := 1) hx hb dX5_isDutyOrNo_16 (by decide) ?_
      refine lv_goto (tgt := 21) hx hb dX5_isDutyOrNo_17 (by decide) ?_
      obtain rfl := Option.some.inj hf
      exact W.zret hx hb hr rfl (fun t ht _ => ⟨rfl, ht⟩) (fun _ h => nomatch h) dX5_isDutyOrNo_21 hlk
set_option maxHeartbeats 4000000 in
set_option maxRecDepth 100000 in
theorem c_X5_isDutyOrNo (l : Launch) (d : G3) (a : Nat → Nat) (z : St) (x1 : Int32) {RR : Int32} (hf : f_X5_isDutyOrNo z x1 = some RR) : Met l yX5_isDutyOrNo [Cond.code yX5_isDutyOrNo cX5_isDutyOrNo 2 (some .boolean)] { frames := 2, cells := 0, slots := 0, locals := 43 } (rpre wC d a z [.ref (a 0), .int x1]) (QcRead RR) 0 0 (fun _ => False) := by
  refine Met.ofW (cc := cX5_isDutyOrNo) (maxL := 2) (ret := (some .boolean)) (by decide) rfl ?_
  intro p e s m args below meth c s₁ B hml hv
  obtain ⟨rfl, hE, hP⟩ := hv
  have X : Cx p s m c cX5_isDutyOrNo RX5 2 d := ⟨B.exec, B.bytes, hml, findClass_of_methodNamed B.named, hE⟩
  have hl := lv_entry ([.ref (a 0), .int x1]) (n := 2) (Nat.le_of_ble_eq_true rfl)
  rw [lg_entry_eq]
  generalize (lg_sl ([.ref (a 0), .int x1]) ++ List.replicate (2 - (lg_sl ([.ref (a 0), .int x1])).length) Slot.unset).toArray = ls at hl ⊢
  have hl : lv_has ls 2 [(0, .ref (a 0)), (1, .int x1)] := hl
  exact t_X5_isDutyOrNo X hP B.returns B.notSynchronized x1 hf ls hl
def f_X5_lineOf (z : St) (x0 : Int32) : Option (Int32) := (if x0 = (-1 : Int32) then some (0 : Int32) else some ((1 : Int32) <<< (x0 &&& 31)))
set_option maxHeartbeats 4000000 in
set_option maxRecDepth 100000 in
theorem t_X5_lineOf {RR : Int32} (X : Cx p s m c cX5_lineOf RX5 1 d) {z : St} (hP : va_P d.1 classes (wC d a z) s.heap) (hr : meth.sig.returnType = (some .int)) (hlk : meth.locks = false) : ∀ (x0 : Int32), f_X5_lineOf z x0 = some RR → WRd p l e { frames := 0, cells := 0, slots := 0, locals := 0 } s m args below meth c RR 1 [(0, .int x0)] 0 [] := by
  intro x0 hf ls hl
  obtain ⟨hx, hb, hml, hown, hE⟩ := id X
  unfold f_X5_lineOf at hf
  refine lv_iload_n hx hb dX5_lineOf_0 rfl (lv_at hl 0 rfl) ?_
  refine lv_iconst (v := -1) hx hb dX5_lineOf_1 (by decide) ?_
  refine lv_icmp_ne (tgt := 9) hx hb dX5_lineOf_2 (by decide) (fun q => ?_) (fun q => ?_)
  · have hf := (if_neg q).symm.trans hf
    refine lv_iconst (v := 1) hx hb dX5_lineOf_9 (by decide) ?_
    refine lv_iload_n hx hb dX5_lineOf_10 rfl (lv_at hl 0 rfl) ?_
    refine lv_ishl hx hb dX5_lineOf_11 ?_
    obtain rfl := Option.some.inj hf
    exact W.iret hx hb hr (fun t ht _ => ⟨rfl, ht⟩) (fun _ h => nomatch h) dX5_lineOf_12 hlk
  · have hf := (if_pos q).symm.trans hf
    refine lv_iconst (v := 0) hx hb dX5_lineOf_5 (by decide) ?_
    refine lv_goto (tgt := 12) hx hb dX5_lineOf_6 (by decide) ?_
    obtain rfl := Option.some.inj hf
    exact W.iret hx hb hr (fun t ht _ => ⟨rfl, ht⟩) (fun _ h => nomatch h) dX5_lineOf_12 hlk
set_option maxHeartbeats 4000000 in
set_option maxRecDepth 100000 in
theorem c_X5_lineOf (l : Launch) (d : G3) (a : Nat → Nat) (z : St) (x0 : Int32) {RR : Int32} (hf : f_X5_lineOf z x0 = some RR) : Met l yX5_lineOf [Cond.code yX5_lineOf cX5_lineOf 1 (some .int)] { frames := 0, cells := 0, slots := 0, locals := 0 } (rpre wC d a z [.int x0]) (QcRead RR) 0 0 (fun _ => False) := by
  refine Met.ofW (cc := cX5_lineOf) (maxL := 1) (ret := (some .int)) (by decide) rfl ?_
  intro p e s m args below meth c s₁ B hml hv
  obtain ⟨rfl, hE, hP⟩ := hv
  have X : Cx p s m c cX5_lineOf RX5 1 d := ⟨B.exec, B.bytes, hml, findClass_of_methodNamed B.named, hE⟩
  have hl := lv_entry ([.int x0]) (n := 1) (Nat.le_of_ble_eq_true rfl)
  rw [lg_entry_eq]
  generalize (lg_sl ([.int x0]) ++ List.replicate (1 - (lg_sl ([.int x0])).length) Slot.unset).toArray = ls at hl ⊢
  have hl : lv_has ls 1 [(0, .int x0)] := hl
  exact t_X5_lineOf X hP B.returns B.notSynchronized x0 hf ls hl
def f_X5_swap_226 (p5 : Nat) (p6 : Nat) (x9 : Int32) (x10 : Int32) (s0 : Int32) (z : St) : Option (Int32 × St) := (if s0 = (0 : Int32) then some ((0 : Int32), (pS (pS (pS z (14 + 6 * p5) x9) (14 + 6 * p6) x10) 1 (1 : Int32))) else some ((1 : Int32), (pS (pS (pS z (14 + 6 * p5) x9) (14 + 6 * p6) x10) 1 (1 : Int32))))
set_option maxHeartbeats 4000000 in
set_option maxRecDepth 100000 in
theorem t_X5_swap_226 {RR : Int32 × St} (X : Cx p s m c cX5_swap RX5 12 d) (hJ : Inj 26 a) (hr : meth.sig.returnType = (some .int)) (hlk : meth.locks = false) : ∀ (p5 : Nat) (p6 : Nat) (x9 : Int32) (x10 : Int32) (s0 : Int32) (z : St) (hp5 : p5 < 4) (hp6 : p6 < 4), f_X5_swap_226 p5 p6 x9 x10 s0 z = some RR → WWr wC 26 d a p l e { frames := 5, cells := 0, slots := 0, locals := 114 } s m args below meth c RR z 12 [(0, .ref (a 0)), (5, .ref (a (14 + 3 * p5))), (6, .ref (a (14 + 3 * p6))), (9, .int x9), (10, .int x10)] 226 [.int s0] := by
  intro p5 p6 x9 x10 s0 z hp5 hp6 hf H locs ls hP hS hl
  obtain ⟨hx, hb, hml, hown, hE⟩ := id X
  unfold f_X5_swap_226 at hf
  refine lv_istore (lv' := [(11, .int s0), (0, .ref (a 0)), (5, .ref (a (14 + 3 * p5))), (6, .ref (a (14 + 3 * p6))), (9, .int x9), (10, .int x10)]) hx hb dX5_swap_226 hl (by decide) rfl (fun ls hl => ?_)
  refine lv_aload hx hb dX5_swap_228 (lv_at hl 2 rfl) ?_
  refine lv_iload hx hb dX5_swap_230 (lv_at hl 4 rfl) ?_
  refine pf_5_144 hx hb hE hown hP hJ hS hp5 dX5_swap_232 (fun H locs hP hS => ?_)
  refine lv_aload hx hb dX5_swap_235 (lv_at hl 3 rfl) ?_
  refine lv_iload hx hb dX5_swap_237 (lv_at hl 5 rfl) ?_
  refine pf_5_144 hx hb hE hown hP hJ hS hp6 dX5_swap_239 (fun H locs hP hS => ?_)
  refine lv_aload_n hx hb dX5_swap_242 rfl (lv_at hl 1 rfl) ?_
  refine lv_iconst (v := 1) hx hb dX5_swap_243 (by decide) ?_
  refine pf_5_150 hx hb hE hown hP hJ hS rfl rfl dX5_swap_244 (fun H locs hP hS => ?_)
  refine lv_iload hx hb dX5_swap_247 (lv_at hl 0 rfl) ?_
  refine lv_if_eq (tgt := 256) hx hb dX5_swap_249 (by decide) (fun q => ?_) (fun q => ?_)
  · have hf := (if_pos q).symm.trans hf
    refine lv_iconst (v := 0) hx hb dX5_swap_256 (by decide) ?_
    obtain rfl := Option.some.inj hf
    exact W.iret hx hb hr (fun t ht _ => ⟨rfl, by rw [ht]; exact hP, hS.F ht⟩) hS.2.2 dX5_swap_257 hlk
  · have hf := (if_neg q).symm.trans hf
    refine lv_iconst (v := 1) hx hb dX5_swap_252 (by decide) ?_
    refine lv_goto (tgt := 257) hx hb dX5_swap_253 (by decide) ?_
    obtain rfl := Option.some.inj hf
    exact W.iret hx hb hr (fun t ht _ => ⟨rfl, by rw [ht]; exact hP, hS.F ht⟩) hS.2.2 dX5_swap_257 hlk
def f_X5_swap_60 (x1 : Int32) (x2 : Int32) (x3 : Int32) (x4 : Int32) (z : St) : Option (Int32 × St) := (if (z.1 0) = (0 : Int32) then some ((-3 : Int32), z) else ck 4 x1 (ck 4 x3 ((f_X5_lineOf z x2).bind (fun r_3 => (f_X5_lineOf z x4).bind (fun r_4 => (if ((z.1 (14 + 6 * x1.toNatClampNeg)) &&& r_3) = r_3 then (if ((z.1 (14 + 6 * x3.toNatClampNeg)) &&& r_4) = r_4 then (f_X0_isLegal z x1 (((z.1 (14 + 6 * x1.toNatClampNeg)) &&& (r_3 ^^^ (-1 : Int32))) ||| r_4)).bind (fun r_5 => (if r_5 = (0 : Int32) then some ((-3 : Int32), z) else (f_X0_isLegal z x3 (((z.1 (14 + 6 * x3.toNatClampNeg)) &&& (r_4 ^^^ (-1 : Int32))) ||| r_3)).bind (fun r_6 => (if r_6 = (0 : Int32) then some ((-3 : Int32), z) else (f_X3_loses z x1.toNatClampNeg (((z.1 (14 + 6 * x1.toNatClampNeg)) &&& (r_3 ^^^ (-1 : Int32))) ||| r_4)).bind (fun r_7 => (if r_7 = (0 : Int32) then (f_X3_loses z x3.toNatClampNeg (((z.1 (14 + 6 * x3.toNatClampNeg)) &&& (r_4 ^^^ (-1 : Int32))) ||| r_3)).bind (fun r_8 => (if r_8 = (0 : Int32) then f_X5_swap_226 x1.toNatClampNeg x3.toNatClampNeg (((z.1 (14 + 6 * x1.toNatClampNeg)) &&& (r_3 ^^^ (-1 : Int32))) ||| r_4) (((z.1 (14 + 6 * x3.toNatClampNeg)) &&& (r_4 ^^^ (-1 : Int32))) ||| r_3) (1 : Int32) z else f_X5_swap_226 x1.toNatClampNeg x3.toNatClampNeg (((z.1 (14 + 6 * x1.toNatClampNeg)) &&& (r_3 ^^^ (-1 : Int32))) ||| r_4) (((z.1 (14 + 6 * x3.toNatClampNeg)) &&& (r_4 ^^^ (-1 : Int32))) ||| r_3) (0 : Int32) z)) else f_X5_swap_226 x1.toNatClampNeg x3.toNatClampNeg (((z.1 (14 + 6 * x1.toNatClampNeg)) &&& (r_3 ^^^ (-1 : Int32))) ||| r_4) (((z.1 (14 + 6 * x3.toNatClampNeg)) &&& (r_4 ^^^ (-1 : Int32))) ||| r_3) (0 : Int32) z)))))) else some ((-3 : Int32), z)) else some ((-3 : Int32), z)))))))
set_option maxHeartbeats 4000000 in
set_option maxRecDepth 100000 in
theorem t_X5_swap_60 {RR : Int32 × St} (X : Cx p s m c cX5_swap RX5 12 d) (hJ : Inj 26 a) (hr : meth.sig.returnType = (some .int)) (hlk : meth.locks = false) : ∀ (x1 : Int32) (x2 : Int32) (x3 : Int32) (x4 : Int32) (z : St), f_X5_swap_60 x1 x2 x3 x4 z = some RR → WWr wC 26 d a p l e { frames := 5, cells := 0, slots := 0, locals := 114 } s m args below meth c RR z 12 [(0, .ref (a 0)), (1, .int x1), (2, .int x2), (3, .int x3), (4, .int x4)] 60 [] := by
  intro x1 x2 x3 x4 z hf H locs ls hP hS hl
  obtain ⟨hx, hb, hml, hown, hE⟩ := id X
  unfold f_X5_swap_60 at hf
  refine lv_aload_n hx hb dX5_swap_60 rfl (lv_at hl 0 rfl) ?_
  refine gf_5_85 hx hb hE hown hP dX5_swap_61 ?_
  refine lv_if_ne (tgt := 70) hx hb dX5_swap_64 (by decide) (fun q => ?_) (fun q => ?_)
  · have hf := (if_neg q).symm.trans hf
    refine lv_aload_n hx hb dX5_swap_70 rfl (lv_at hl 0 rfl) ?_
    refine gf_5_26 hx hb hE hown hP dX5_swap_71 ?_
    refine gf_5_76 hx hb hE hown hP dX5_swap_74 ?_
    refine lv_iload_n hx hb dX5_swap_77 rfl (lv_at hl 1 rfl) ?_
    obtain ⟨hi_1, hf⟩ := ck_some hf
    refine al_rank hx hb hE hP hi_1 dX5_swap_78 ?_
    refine lv_astore (lv' := [(5, .ref (a (14 + 3 * x1.toNatClampNeg))), (0, .ref (a 0)), (1, .int x1), (2, .int x2), (3, .int x3), (4, .int x4)]) hx hb dX5_swap_79 hl (by decide) rfl (fun ls hl => ?_)
    refine lv_aload_n hx hb dX5_swap_81 rfl (lv_at hl 1 rfl) ?_
    refine gf_5_26 hx hb hE hown hP dX5_swap_82 ?_
    refine gf_5_76 hx hb hE hown hP dX5_swap_85 ?_
    refine lv_iload_n hx hb dX5_swap_88 rfl (lv_at hl 4 rfl) ?_
    obtain ⟨hi_2, hf⟩ := ck_some hf
    refine al_rank hx hb hE hP hi_2 dX5_swap_89 ?_
    refine lv_astore (lv' := [(6, .ref (a (14 + 3 * x3.toNatClampNeg))), (5, .ref (a (14 + 3 * x1.toNatClampNeg))), (0, .ref (a 0)), (1, .int x1), (2, .int x2), (3, .int x3), (4, .int x4)]) hx hb dX5_swap_90 hl (by decide) rfl (fun ls hl => ?_)
    refine lv_iload_n hx hb dX5_swap_92 rfl (lv_at hl 4 rfl) ?_
    obtain ⟨r_3, hc, hf⟩ := bnd hf
    refine rdS X (c_X5_lineOf l d a z x2 hc) (k_X5_180 hE rfl rfl ⟨Nat.le_of_ble_eq_true rfl, Nat.le_of_ble_eq_true rfl⟩) hP rfl hl.1 rfl (Nat.le_of_ble_eq_true rfl) dX5_swap_93 ?_
    refine lv_istore (lv' := [(7, .int r_3), (6, .ref (a (14 + 3 * x3.toNatClampNeg))), (5, .ref (a (14 + 3 * x1.toNatClampNeg))), (0, .ref (a 0)), (1, .int x1), (2, .int x2), (3, .int x3), (4, .int x4)]) hx hb dX5_swap_96 hl (by decide) rfl (fun ls hl => ?_)
    refine lv_iload hx hb dX5_swap_98 (lv_at hl 7 rfl) ?_
    obtain ⟨r_4, hc, hf⟩ := bnd hf
    refine rdS X (c_X5_lineOf l d a z x4 hc) (k_X5_180 hE rfl rfl ⟨Nat.le_of_ble_eq_true rfl, Nat.le_of_ble_eq_true rfl⟩) hP rfl hl.1 rfl (Nat.le_of_ble_eq_true rfl) dX5_swap_100 ?_
    refine lv_istore (lv' := [(8, .int r_4), (7, .int r_3), (6, .ref (a (14 + 3 * x3.toNatClampNeg))), (5, .ref (a (14 + 3 * x1.toNatClampNeg))), (0, .ref (a 0)), (1, .int x1), (2, .int x2), (3, .int x3), (4, .int x4)]) hx hb dX5_swap_103 hl (by decide) rfl (fun ls hl => ?_)
    refine lv_aload hx hb dX5_swap_105 (lv_at hl 3 rfl) ?_
    refine gf_5_144 hx hb hE hown hP (vp_lt hi_1) dX5_swap_107 ?_
    refine lv_iload hx hb dX5_swap_110 (lv_at hl 1 rfl) ?_
    refine lv_iand hx hb dX5_swap_112 ?_
    refine lv_iload hx hb dX5_swap_113 (lv_at hl 1 rfl) ?_
    refine lv_icmp_ne (tgt := 131) hx hb dX5_swap_115 (by decide) (fun q => ?_) (fun q => ?_)
    · have hf := (if_neg q).symm.trans hf
      refine lv_bipush (v := -3) hx hb dX5_swap_131 (by decide) ?_
      obtain rfl := Option.some.inj hf
      exact W.iret hx hb hr (fun t ht _ => ⟨rfl, by rw [ht]; exact hP, hS.F ht⟩) hS.2.2 dX5_swap_133 hlk
    · have hf := (if_pos q).symm.trans hf
      refine lv_aload hx hb dX5_swap_118 (lv_at hl 2 rfl) ?_
      refine gf_5_144 hx hb hE hown hP (vp_lt hi_2) dX5_swap_120 ?_
      refine lv_iload hx hb dX5_swap_123 (lv_at hl 0 rfl) ?_
      refine lv_iand hx hb dX5_swap_125 ?_
      refine lv_iload hx hb dX5_swap_126 (lv_at hl 0 rfl) ?_
      refine lv_icmp_eq (tgt := 134) hx hb dX5_swap_128 (by decide) (fun q => ?_) (fun q => ?_)
      · have hf := (if_pos q).symm.trans hf
        refine lv_aload hx hb dX5_swap_134 (lv_at hl 3 rfl) ?_
        refine gf_5_144 hx hb hE hown hP (vp_lt hi_1) dX5_swap_136 ?_
        refine lv_iload hx hb dX5_swap_139 (lv_at hl 1 rfl) ?_
        refine lv_iconst (v := -1) hx hb dX5_swap_141 (by decide) ?_
        refine lv_ixor hx hb dX5_swap_142 ?_
        refine lv_iand hx hb dX5_swap_143 ?_
        refine lv_iload hx hb dX5_swap_144 (lv_at hl 0 rfl) ?_
        refine lv_ior hx hb dX5_swap_146 ?_
        refine lv_istore (lv' := [(9, .int (((z.1 (14 + 6 * x1.toNatClampNeg)) &&& (r_3 ^^^ (-1 : Int32))) ||| r_4)), (8, .int r_4), (7, .int r_3), (6, .ref (a (14 + 3 * x3.toNatClampNeg))), (5, .ref (a (14 + 3 * x1.toNatClampNeg))), (0, .ref (a 0)), (1, .int x1), (2, .int x2), (3, .int x3), (4, .int x4)]) hx hb dX5_swap_147 hl (by decide) rfl (fun ls hl => ?_)
        refine lv_aload hx hb dX5_swap_149 (lv_at hl 3 rfl) ?_
        refine gf_5_144 hx hb hE hown hP (vp_lt hi_2) dX5_swap_151 ?_
        refine lv_iload hx hb dX5_swap_154 (lv_at hl 1 rfl) ?_
        refine lv_iconst (v := -1) hx hb dX5_swap_156 (by decide) ?_
        refine lv_ixor hx hb dX5_swap_157 ?_
        refine lv_iand hx hb dX5_swap_158 ?_
        refine lv_iload hx hb dX5_swap_159 (lv_at hl 2 rfl) ?_
        refine lv_ior hx hb dX5_swap_161 ?_
        refine lv_istore (lv' := [(10, .int (((z.1 (14 + 6 * x3.toNatClampNeg)) &&& (r_4 ^^^ (-1 : Int32))) ||| r_3)), (9, .int (((z.1 (14 + 6 * x1.toNatClampNeg)) &&& (r_3 ^^^ (-1 : Int32))) ||| r_4)), (8, .int r_4), (7, .int r_3), (6, .ref (a (14 + 3 * x3.toNatClampNeg))), (5, .ref (a (14 + 3 * x1.toNatClampNeg))), (0, .ref (a 0)), (1, .int x1), (2, .int x2), (3, .int x3), (4, .int x4)]) hx hb dX5_swap_162 hl (by decide) rfl (fun ls hl => ?_)
        refine lv_aload_n hx hb dX5_swap_164 rfl (lv_at hl 6 rfl) ?_
        refine gf_5_35 hx hb hE hown hP dX5_swap_165 ?_
        refine lv_iload_n hx hb dX5_swap_168 rfl (lv_at hl 7 rfl) ?_
        refine lv_iload hx hb dX5_swap_169 (lv_at hl 1 rfl) ?_
        obtain ⟨r_5, hc, hf⟩ := bnd hf
        refine rdV X (c_X0_isLegal l d a z x1 (((z.1 (14 + 6 * x1.toNatClampNeg)) &&& (r_3 ^^^ (-1 : Int32))) ||| r_4) hc) (k_X5_120 hE rfl rfl ⟨Nat.le_of_ble_eq_true rfl, Nat.le_of_ble_eq_true rfl⟩) hP (va_recv (q := (RX0, TX0, 7)) hE.2 hP (ci := 0) (q0 := 11) rfl rfl) rfl hl.1 rfl (Nat.le_of_ble_eq_true rfl) dX5_swap_171 ?_
        refine lv_if_eq (tgt := 190) hx hb dX5_swap_174 (by decide) (fun q => ?_) (fun q => ?_)
        · have hf := (if_pos q).symm.trans hf
          refine lv_bipush (v := -3) hx hb dX5_swap_190 (by decide) ?_
          obtain rfl := Option.some.inj hf
          exact W.iret hx hb hr (fun t ht _ => ⟨rfl, by rw [ht]; exact hP, hS.F ht⟩) hS.2.2 dX5_swap_192 hlk
        · have hf := (if_neg q).symm.trans hf
          refine lv_aload_n hx hb dX5_swap_177 rfl (lv_at hl 6 rfl) ?_
          refine gf_5_35 hx hb hE hown hP dX5_swap_178 ?_
          refine lv_iload_n hx hb dX5_swap_181 rfl (lv_at hl 9 rfl) ?_
          refine lv_iload hx hb dX5_swap_182 (lv_at hl 0 rfl) ?_
          obtain ⟨r_6, hc, hf⟩ := bnd hf
          refine rdV X (c_X0_isLegal l d a z x3 (((z.1 (14 + 6 * x3.toNatClampNeg)) &&& (r_4 ^^^ (-1 : Int32))) ||| r_3) hc) (k_X5_120 hE rfl rfl ⟨Nat.le_of_ble_eq_true rfl, Nat.le_of_ble_eq_true rfl⟩) hP (va_recv (q := (RX0, TX0, 7)) hE.2 hP (ci := 0) (q0 := 11) rfl rfl) rfl hl.1 rfl (Nat.le_of_ble_eq_true rfl) dX5_swap_184 ?_
          refine lv_if_ne (tgt := 193) hx hb dX5_swap_187 (by decide) (fun q => ?_) (fun q => ?_)
          · have hf := (if_neg q).symm.trans hf
            refine lv_aload hx hb dX5_swap_193 (lv_at hl 5 rfl) ?_
            refine lv_aload_n hx hb dX5_swap_195 rfl (lv_at hl 6 rfl) ?_
            refine gf_5_12 hx hb hE hown hP dX5_swap_196 ?_
            refine lv_iload hx hb dX5_swap_199 (lv_at hl 1 rfl) ?_
            obtain ⟨r_7, hc, hf⟩ := bnd hf
            refine rdV X (c_X3_loses l d a z x1.toNatClampNeg (((z.1 (14 + 6 * x1.toNatClampNeg)) &&& (r_3 ^^^ (-1 : Int32))) ||| r_4) (vp_lt hi_1) hc) (k_X5_183 hE rfl rfl ⟨Nat.le_of_ble_eq_true rfl, Nat.le_of_ble_eq_true rfl⟩) hP (recvP hE hP (vp_lt hi_1)) rfl hl.1 rfl (Nat.le_of_ble_eq_true rfl) dX5_swap_201 ?_
            refine lv_if_ne (tgt := 225) hx hb dX5_swap_204 (by decide) (fun q => ?_) (fun q => ?_)
            · have hf := (if_neg q).symm.trans hf
              refine lv_iconst (v := 0) hx hb dX5_swap_225 (by decide) ?_
              exact t_X5_swap_226 X hJ hr hlk x1.toNatClampNeg x3.toNatClampNeg (((z.1 (14 + 6 * x1.toNatClampNeg)) &&& (r_3 ^^^ (-1 : Int32))) ||| r_4) (((z.1 (14 + 6 * x3.toNatClampNeg)) &&& (r_4 ^^^ (-1 : Int32))) ||| r_3) (0 : Int32) z (vp_lt hi_1) (vp_lt hi_2) hf H locs ls hP hS (lv_sub hl [6, 5, 4, 1, 0] rfl)
            · have hf := (if_pos q).symm.trans hf
              refine lv_aload hx hb dX5_swap_207 (lv_at hl 4 rfl) ?_
              refine lv_aload_n hx hb dX5_swap_209 rfl (lv_at hl 6 rfl) ?_
              refine gf_5_12 hx hb hE hown hP dX5_swap_210 ?_
              refine lv_iload hx hb dX5_swap_213 (lv_at hl 0 rfl) ?_
              obtain ⟨r_8, hc, hf⟩ := bnd hf
              refine rdV X (c_X3_loses l d a z x3.toNatClampNeg (((z.1 (14 + 6 * x3.toNatClampNeg)) &&& (r_4 ^^^ (-1 : Int32))) ||| r_3) (vp_lt hi_2) hc) (k_X5_183 hE rfl rfl ⟨Nat.le_of_ble_eq_true rfl, Nat.le_of_ble_eq_true rfl⟩) hP (recvP hE hP (vp_lt hi_2)) rfl hl.1 rfl (Nat.le_of_ble_eq_true rfl) dX5_swap_215 ?_
              refine lv_if_ne (tgt := 225) hx hb dX5_swap_218 (by decide) (fun q => ?_) (fun q => ?_)
              · have hf := (if_neg q).symm.trans hf
                refine lv_iconst (v := 0) hx hb dX5_swap_225 (by decide) ?_
                exact t_X5_swap_226 X hJ hr hlk x1.toNatClampNeg x3.toNatClampNeg (((z.1 (14 + 6 * x1.toNatClampNeg)) &&& (r_3 ^^^ (-1 : Int32))) ||| r_4) (((z.1 (14 + 6 * x3.toNatClampNeg)) &&& (r_4 ^^^ (-1 : Int32))) ||| r_3) (0 : Int32) z (vp_lt hi_1) (vp_lt hi_2) hf H locs ls hP hS (lv_sub hl [6, 5, 4, 1, 0] rfl)
              · have hf := (if_pos q).symm.trans hf
                refine lv_iconst (v := 1) hx hb dX5_swap_221 (by decide) ?_
                refine lv_goto (tgt := 226) hx hb dX5_swap_222 (by decide) ?_
                exact t_X5_swap_226 X hJ hr hlk x1.toNatClampNeg x3.toNatClampNeg (((z.1 (14 + 6 * x1.toNatClampNeg)) &&& (r_3 ^^^ (-1 : Int32))) ||| r_4) (((z.1 (14 + 6 * x3.toNatClampNeg)) &&& (r_4 ^^^ (-1 : Int32))) ||| r_3) (1 : Int32) z (vp_lt hi_1) (vp_lt hi_2) hf H locs ls hP hS (lv_sub hl [6, 5, 4, 1, 0] rfl)
          · have hf := (if_pos q).symm.trans hf
            refine lv_bipush (v := -3) hx hb dX5_swap_190 (by decide) ?_
            obtain rfl := Option.some.inj hf
            exact W.iret hx hb hr (fun t ht _ => ⟨rfl, by rw [ht]; exact hP, hS.F ht⟩) hS.2.2 dX5_swap_192 hlk
      · have hf := (if_neg q).symm.trans hf
        refine lv_bipush (v := -3) hx hb dX5_swap_131 (by decide) ?_
        obtain rfl := Option.some.inj hf
        exact W.iret hx hb hr (fun t ht _ => ⟨rfl, by rw [ht]; exact hP, hS.F ht⟩) hS.2.2 dX5_swap_133 hlk
  · have hf := (if_pos q).symm.trans hf
    refine lv_bipush (v := -3) hx hb dX5_swap_67 (by decide) ?_
    obtain rfl := Option.some.inj hf
    exact W.iret hx hb hr (fun t ht _ => ⟨rfl, by rw [ht]; exact hP, hS.F ht⟩) hS.2.2 dX5_swap_69 hlk
def f_X5_swap (x1 : Int32) (x2 : Int32) (x3 : Int32) (x4 : Int32) (z : St) : Option (Int32 × St) := (f_X2_has z x1).bind (fun r_1 => (if r_1 = (0 : Int32) then some ((-1 : Int32), z) else (f_X5_isDutyOrNo z x2).bind (fun r_2 => (if r_2 = (0 : Int32) then some ((-1 : Int32), z) else (f_X2_has z x3).bind (fun r_3 => (if r_3 = (0 : Int32) then some ((-1 : Int32), z) else (f_X5_isDutyOrNo z x4).bind (fun r_4 => (if r_4 = (0 : Int32) then some ((-1 : Int32), z) else (if x1 = x3 then some ((-2 : Int32), z) else (if x2 = (-1 : Int32) then (if x4 = (-1 : Int32) then some ((-2 : Int32), z) else f_X5_swap_60 x1 x2 x3 x4 z) else f_X5_swap_60 x1 x2 x3 x4 z))))))))))
set_option maxHeartbeats 4000000 in
set_option maxRecDepth 100000 in
theorem t_X5_swap {RR : Int32 × St} (X : Cx p s m c cX5_swap RX5 12 d) (hJ : Inj 26 a) (hr : meth.sig.returnType = (some .int)) (hlk : meth.locks = false) : ∀ (x1 : Int32) (x2 : Int32) (x3 : Int32) (x4 : Int32) (z : St), f_X5_swap x1 x2 x3 x4 z = some RR → WWr wC 26 d a p l e { frames := 5, cells := 0, slots := 0, locals := 114 } s m args below meth c RR z 12 [(0, .ref (a 0)), (1, .int x1), (2, .int x2), (3, .int x3), (4, .int x4)] 0 [] := by
  intro x1 x2 x3 x4 z hf H locs ls hP hS hl
  obtain ⟨hx, hb, hml, hown, hE⟩ := id X
  unfold f_X5_swap at hf
  refine lv_aload_n hx hb dX5_swap_0 rfl (lv_at hl 0 rfl) ?_
  refine gf_5_26 hx hb hE hown hP dX5_swap_1 ?_
  refine lv_iload_n hx hb dX5_swap_4 rfl (lv_at hl 1 rfl) ?_
  obtain ⟨r_1, hc, hf⟩ := bnd hf
  refine rdV X (c_X2_has l d a z x1 hc) (k_X5_72 hE rfl rfl ⟨Nat.le_of_ble_eq_true rfl, Nat.le_of_ble_eq_true rfl⟩) hP (va_recv (q := (RX2, TX2, 2)) hE.2 hP (ci := 2) (q0 := 9) rfl rfl) rfl hl.1 rfl (Nat.le_of_ble_eq_true rfl) dX5_swap_5 ?_
  refine lv_if_eq (tgt := 39) hx hb dX5_swap_8 (by decide) (fun q => ?_) (fun q => ?_)
  · have hf := (if_pos q).symm.trans hf
    refine lv_iconst (v := -1) hx hb dX5_swap_39 (by decide) ?_
    obtain rfl := Option.some.inj hf
    exact W.iret hx hb hr (fun t ht _ => ⟨rfl, by rw [ht]; exact hP, hS.F ht⟩) hS.2.2 dX5_swap_40 hlk
  · have hf := (if_neg q).symm.trans hf
    refine lv_aload_n hx hb dX5_swap_11 rfl (lv_at hl 0 rfl) ?_
    refine lv_iload_n hx hb dX5_swap_12 rfl (lv_at hl 2 rfl) ?_
    obtain ⟨r_2, hc, hf⟩ := bnd hf
    refine rdV X (c_X5_isDutyOrNo l d a z x2 hc) (k_X5_177 hE rfl rfl ⟨Nat.le_of_ble_eq_true rfl, Nat.le_of_ble_eq_true rfl⟩) hP (va_recv (q := (RX5, TX5, 6)) hE.2 hP (ci := 5) (q0 := 0) rfl rfl) rfl hl.1 rfl (Nat.le_of_ble_eq_true rfl) dX5_swap_13 ?_
    refine lv_if_eq (tgt := 39) hx hb dX5_swap_16 (by decide) (fun q => ?_) (fun q => ?_)
    · have hf := (if_pos q).symm.trans hf
      refine lv_iconst (v := -1) hx hb dX5_swap_39 (by decide) ?_
      obtain rfl := Option.some.inj hf
      exact W.iret hx hb hr (fun t ht _ => ⟨rfl, by rw [ht]; exact hP, hS.F ht⟩) hS.2.2 dX5_swap_40 hlk
    · have hf := (if_neg q).symm.trans hf
      refine lv_aload_n hx hb dX5_swap_19 rfl (lv_at hl 0 rfl) ?_
      refine gf_5_26 hx hb hE hown hP dX5_swap_20 ?_
      refine lv_iload_n hx hb dX5_swap_23 rfl (lv_at hl 3 rfl) ?_
      obtain ⟨r_3, hc, hf⟩ := bnd hf
      refine rdV X (c_X2_has l d a z x3 hc) (k_X5_72 hE rfl rfl ⟨Nat.le_of_ble_eq_true rfl, Nat.le_of_ble_eq_true rfl⟩) hP (va_recv (q := (RX2, TX2, 2)) hE.2 hP (ci := 2) (q0 := 9) rfl rfl) rfl hl.1 rfl (Nat.le_of_ble_eq_true rfl) dX5_swap_24 ?_
      refine lv_if_eq (tgt := 39) hx hb dX5_swap_27 (by decide) (fun q => ?_) (fun q => ?_)
      · have hf := (if_pos q).symm.trans hf
        refine lv_iconst (v := -1) hx hb dX5_swap_39 (by decide) ?_
        obtain rfl := Option.some.inj hf
        exact W.iret hx hb hr (fun t ht _ => ⟨rfl, by rw [ht]; exact hP, hS.F ht⟩) hS.2.2 dX5_swap_40 hlk
      · have hf := (if_neg q).symm.trans hf
        refine lv_aload_n hx hb dX5_swap_30 rfl (lv_at hl 0 rfl) ?_
        refine lv_iload hx hb dX5_swap_31 (lv_at hl 4 rfl) ?_
        obtain ⟨r_4, hc, hf⟩ := bnd hf
        refine rdV X (c_X5_isDutyOrNo l d a z x4 hc) (k_X5_177 hE rfl rfl ⟨Nat.le_of_ble_eq_true rfl, Nat.le_of_ble_eq_true rfl⟩) hP (va_recv (q := (RX5, TX5, 6)) hE.2 hP (ci := 5) (q0 := 0) rfl rfl) rfl hl.1 rfl (Nat.le_of_ble_eq_true rfl) dX5_swap_33 ?_
        refine lv_if_ne (tgt := 41) hx hb dX5_swap_36 (by decide) (fun q => ?_) (fun q => ?_)
        · have hf := (if_neg q).symm.trans hf
          refine lv_iload_n hx hb dX5_swap_41 rfl (lv_at hl 1 rfl) ?_
          refine lv_iload_n hx hb dX5_swap_42 rfl (lv_at hl 3 rfl) ?_
          refine lv_icmp_eq (tgt := 57) hx hb dX5_swap_43 (by decide) (fun q => ?_) (fun q => ?_)
          · have hf := (if_pos q).symm.trans hf
            refine lv_bipush (v := -2) hx hb dX5_swap_57 (by decide) ?_
            obtain rfl := Option.some.inj hf
            exact W.iret hx hb hr (fun t ht _ => ⟨rfl, by rw [ht]; exact hP, hS.F ht⟩) hS.2.2 dX5_swap_59 hlk
          · have hf := (if_neg q).symm.trans hf
            refine lv_iload_n hx hb dX5_swap_46 rfl (lv_at hl 2 rfl) ?_
            refine lv_iconst (v := -1) hx hb dX5_swap_47 (by decide) ?_
            refine lv_icmp_ne (tgt := 60) hx hb dX5_swap_48 (by decide) (fun q => ?_) (fun q => ?_)
            · have hf := (if_neg q).symm.trans hf
              exact t_X5_swap_60 X hJ hr hlk x1 x2 x3 x4 z hf H locs ls hP hS (lv_sub hl [0, 1, 2, 3, 4] rfl)
            · have hf := (if_pos q).symm.trans hf
              refine lv_iload hx hb dX5_swap_51 (lv_at hl 4 rfl) ?_
              refine lv_iconst (v := -1) hx hb dX5_swap_53 (by decide) ?_
              refine lv_icmp_ne (tgt := 60) hx hb dX5_swap_54 (by decide) (fun q => ?_) (fun q => ?_)
              · have hf := (if_neg q).symm.trans hf
                exact t_X5_swap_60 X hJ hr hlk x1 x2 x3 x4 z hf H locs ls hP hS (lv_sub hl [0, 1, 2, 3, 4] rfl)
              · have hf := (if_pos q).symm.trans hf
                refine lv_bipush (v := -2) hx hb dX5_swap_57 (by decide) ?_
                obtain rfl := Option.some.inj hf
                exact W.iret hx hb hr (fun t ht _ => ⟨rfl, by rw [ht]; exact hP, hS.F ht⟩) hS.2.2 dX5_swap_59 hlk
        · have hf := (if_pos q).symm.trans hf
          refine lv_iconst (v := -1) hx hb dX5_swap_39 (by decide) ?_
          obtain rfl := Option.some.inj hf
          exact W.iret hx hb hr (fun t ht _ => ⟨rfl, by rw [ht]; exact hP, hS.F ht⟩) hS.2.2 dX5_swap_40 hlk
set_option maxHeartbeats 4000000 in
set_option maxRecDepth 100000 in
theorem c_X5_swap (l : Launch) (d : G3) (a : Nat → Nat) (z : St) (x1 : Int32) (x2 : Int32) (x3 : Int32) (x4 : Int32) {RR : Int32 × St} (hf : f_X5_swap x1 x2 x3 x4 z = some RR) : Met l yX5_swap [Cond.code yX5_swap cX5_swap 12 (some .int)] { frames := 5, cells := 0, slots := 0, locals := 114 } (wpre wC 26 d a z [.ref (a 0), .int x1, .int x2, .int x3, .int x4]) (QW wC 26 d a RR) 0 0 (AD 26 a) := by
  refine Met.ofW (cc := cX5_swap) (maxL := 12) (ret := (some .int)) (by decide) rfl ?_
  intro p e s m args below meth c s₁ B hml hv
  obtain ⟨rfl, hE, hP, hJ⟩ := hv
  have X : Cx p s m c cX5_swap RX5 12 d := ⟨B.exec, B.bytes, hml, findClass_of_methodNamed B.named, hE⟩
  have hl := lv_entry ([.ref (a 0), .int x1, .int x2, .int x3, .int x4]) (n := 12) (Nat.le_of_ble_eq_true rfl)
  rw [lg_entry_eq]
  generalize (lg_sl ([.ref (a 0), .int x1, .int x2, .int x3, .int x4]) ++ List.replicate (12 - (lg_sl ([.ref (a 0), .int x1, .int x2, .int x3, .int x4])).length) Slot.unset).toArray = ls at hl ⊢
  have hl : lv_has ls 12 [(0, .ref (a 0)), (1, .int x1), (2, .int x2), (3, .int x3), (4, .int x4)] := hl
  exact t_X5_swap X hJ B.returns B.notSynchronized x1 x2 x3 x4 z hf s.heap [] ls hP va_S.rf hl
end GEN
