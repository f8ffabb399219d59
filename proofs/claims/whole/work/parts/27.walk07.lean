section GEN
variable {p : Program} {l : Launch} {e : Env} {s : State} {m : MethodId} {args : Array Value} {below : List Frame} {meth : Method} {c : Code} {d : G3} {a : Nat → Nat}
def f_X5_wish_94 (x1 : Int32) (x2 : Int32) (x3 : Int32) (z : St) : Option (Int32 × St) := ck 4 x1 ((if (z.1 (10 + 6 * x1.toNatClampNeg)) < (5 : Int32) then (f_X3_enterWish x1.toNatClampNeg x2 x3 (pS z 0 (0 : Int32))).bind (fun r_2 => some (r_2.1, r_2.2)) else some ((-4 : Int32), z)))
set_option maxHeartbeats 4000000 in
set_option maxRecDepth 100000 in
theorem t_X5_wish_94 {RR : Int32 × St} (X : Cx p s m c cX5_wish RX5 5 d) (hJ : Inj 26 a) (hr : meth.sig.returnType = (some .int)) (hlk : meth.locks = false) : ∀ (x1 : Int32) (x2 : Int32) (x3 : Int32) (z : St), f_X5_wish_94 x1 x2 x3 z = some RR → WWr wC 26 d a p l e { frames := 2, cells := 0, slots := 0, locals := 43 } s m args below meth c RR z 5 [(0, .ref (a 0)), (1, .int x1), (2, .int x2), (3, .int x3)] 94 [] := by
  intro x1 x2 x3 z hf H locs ls hP hS hl
  obtain ⟨hx, hb, hml, hown, hE⟩ := id X
  unfold f_X5_wish_94 at hf
  refine lv_aload_n hx hb dX5_wish_94 rfl (lv_at hl 0 rfl) ?_
  refine gf_5_26 hx hb hE hown hP dX5_wish_95 ?_
  refine gf_5_76 hx hb hE hown hP dX5_wish_98 ?_
  refine lv_iload_n hx hb dX5_wish_101 rfl (lv_at hl 1 rfl) ?_
  obtain ⟨hi_1, hf⟩ := ck_some hf
  refine al_rank hx hb hE hP hi_1 dX5_wish_102 ?_
  refine lv_astore (lv' := [(4, .ref (a (14 + 3 * x1.toNatClampNeg))), (0, .ref (a 0)), (1, .int x1), (2, .int x2), (3, .int x3)]) hx hb dX5_wish_103 hl (by decide) rfl (fun ls hl => ?_)
  refine lv_aload hx hb dX5_wish_105 (lv_at hl 0 rfl) ?_
  refine gf_5_80 hx hb hE hown hP (vp_lt hi_1) dX5_wish_107 ?_
  refine lv_iconst (v := 5) hx hb dX5_wish_110 (by decide) ?_
  refine lv_icmp_lt (tgt := 117) hx hb dX5_wish_111 (by decide) (fun q => ?_) (fun q => ?_)
  · have hf := (if_pos q).symm.trans hf
    refine lv_aload_n hx hb dX5_wish_117 rfl (lv_at hl 1 rfl) ?_
    refine lv_iconst (v := 0) hx hb dX5_wish_118 (by decide) ?_
    refine pf_5_85 hx hb hE hown hP hJ hS rfl rfl dX5_wish_119 (fun H locs hP hS => ?_)
    refine lv_aload hx hb dX5_wish_122 (lv_at hl 0 rfl) ?_
    refine lv_iload_n hx hb dX5_wish_124 rfl (lv_at hl 3 rfl) ?_
    refine lv_iload_n hx hb dX5_wish_125 rfl (lv_at hl 4 rfl) ?_
    obtain ⟨r_2, hc, hf⟩ := bnd hf
    refine wrV X (c_X3_enterWish l d a (pS z 0 (0 : Int32)) x1.toNatClampNeg x2 x3 (vp_lt hi_1) hc) (k_X5_89 hE rfl rfl ⟨Nat.le_of_ble_eq_true rfl, Nat.le_of_ble_eq_true rfl⟩) hP hJ hS (recvP hE hP (vp_lt hi_1)) rfl hl.1 rfl (Nat.le_of_ble_eq_true rfl) dX5_wish_126 (fun H locs hP hS => ?_)
    obtain rfl := Option.some.inj hf
    exact W.iret hx hb hr (fun t ht _ => ⟨rfl, by rw [ht]; exact hP, hS.F ht⟩) hS.2.2 dX5_wish_129 hlk
  · have hf := (if_neg q).symm.trans hf
    refine lv_bipush (v := -4) hx hb dX5_wish_114 (by decide) ?_
    obtain rfl := Option.some.inj hf
    exact W.iret hx hb hr (fun t ht _ => ⟨rfl, by rw [ht]; exact hP, hS.F ht⟩) hS.2.2 dX5_wish_116 hlk
def f_X5_wish_80 (x1 : Int32) (x2 : Int32) (x3 : Int32) (z : St) : Option (Int32 × St) := (f_X5_within z x3 (0 : Int32) (200 : Int32)).bind (fun r_1 => (if r_1 = (0 : Int32) then some ((-2 : Int32), z) else f_X5_wish_94 x1 x2 x3 z))
set_option maxHeartbeats 4000000 in
set_option maxRecDepth 100000 in
theorem t_X5_wish_80 {RR : Int32 × St} (X : Cx p s m c cX5_wish RX5 5 d) (hJ : Inj 26 a) (hr : meth.sig.returnType = (some .int)) (hlk : meth.locks = false) : ∀ (x1 : Int32) (x2 : Int32) (x3 : Int32) (z : St), f_X5_wish_80 x1 x2 x3 z = some RR → WWr wC 26 d a p l e { frames := 2, cells := 0, slots := 0, locals := 43 } s m args below meth c RR z 5 [(0, .ref (a 0)), (1, .int x1), (2, .int x2), (3, .int x3)] 80 [] := by
  intro x1 x2 x3 z hf H locs ls hP hS hl
  obtain ⟨hx, hb, hml, hown, hE⟩ := id X
  unfold f_X5_wish_80 at hf
  refine lv_iload_n hx hb dX5_wish_80 rfl (lv_at hl 3 rfl) ?_
  refine lv_iconst (v := 0) hx hb dX5_wish_81 (by decide) ?_
  refine lv_sipush (v := 200) hx hb dX5_wish_82 (by decide) ?_
  obtain ⟨r_1, hc, hf⟩ := bnd hf
  refine rdS X (c_X5_within l d a z x3 (0 : Int32) (200 : Int32) hc) (k_X5_39 hE rfl rfl ⟨Nat.le_of_ble_eq_true rfl, Nat.le_of_ble_eq_true rfl⟩) hP rfl hl.1 rfl (Nat.le_of_ble_eq_true rfl) dX5_wish_85 ?_
  refine lv_if_ne (tgt := 94) hx hb dX5_wish_88 (by decide) (fun q => ?_) (fun q => ?_)
  · have hf := (if_neg q).symm.trans hf
    exact t_X5_wish_94 X hJ hr hlk x1 x2 x3 z hf H locs ls hP hS (lv_sub hl [0, 1, 2, 3] rfl)
  · have hf := (if_pos q).symm.trans hf
    refine lv_bipush (v := -2) hx hb dX5_wish_91 (by decide) ?_
    obtain rfl := Option.some.inj hf
    exact W.iret hx hb hr (fun t ht _ => ⟨rfl, by rw [ht]; exact hP, hS.F ht⟩) hS.2.2 dX5_wish_93 hlk
def f_X5_wish_70 (x1 : Int32) (x2 : Int32) (x3 : Int32) (z : St) : Option (Int32 × St) := (if x2 = (4 : Int32) then f_X5_wish_80 x1 x2 x3 z else (if x2 = (5 : Int32) then f_X5_wish_80 x1 x2 x3 z else f_X5_wish_94 x1 x2 x3 z))
set_option maxHeartbeats 4000000 in
set_option maxRecDepth 100000 in
theorem t_X5_wish_70 {RR : Int32 × St} (X : Cx p s m c cX5_wish RX5 5 d) (hJ : Inj 26 a) (hr : meth.sig.returnType = (some .int)) (hlk : meth.locks = false) : ∀ (x1 : Int32) (x2 : Int32) (x3 : Int32) (z : St), f_X5_wish_70 x1 x2 x3 z = some RR → WWr wC 26 d a p l e { frames := 2, cells := 0, slots := 0, locals := 43 } s m args below meth c RR z 5 [(0, .ref (a 0)), (1, .int x1), (2, .int x2), (3, .int x3)] 70 [] := by
  intro x1 x2 x3 z hf H locs ls hP hS hl
  obtain ⟨hx, hb, hml, hown, hE⟩ := id X
  unfold f_X5_wish_70 at hf
  refine lv_iload_n hx hb dX5_wish_70 rfl (lv_at hl 2 rfl) ?_
  refine lv_iconst (v := 4) hx hb dX5_wish_71 (by decide) ?_
  refine lv_icmp_eq (tgt := 80) hx hb dX5_wish_72 (by decide) (fun q => ?_) (fun q => ?_)
  · have hf := (if_pos q).symm.trans hf
    exact t_X5_wish_80 X hJ hr hlk x1 x2 x3 z hf H locs ls hP hS (lv_sub hl [0, 1, 2, 3] rfl)
  · have hf := (if_neg q).symm.trans hf
    refine lv_iload_n hx hb dX5_wish_75 rfl (lv_at hl 2 rfl) ?_
    refine lv_iconst (v := 5) hx hb dX5_wish_76 (by decide) ?_
    refine lv_icmp_ne (tgt := 94) hx hb dX5_wish_77 (by decide) (fun q => ?_) (fun q => ?_)
    · have hf := (if_neg q).symm.trans hf
      exact t_X5_wish_94 X hJ hr hlk x1 x2 x3 z hf H locs ls hP hS (lv_sub hl [0, 1, 2, 3] rfl)
    · have hf := (if_pos q).symm.trans hf
      exact t_X5_wish_80 X hJ hr hlk x1 x2 x3 z hf H locs ls hP hS (lv_sub hl [0, 1, 2, 3] rfl)
def f_X5_wish_58 (x1 : Int32) (x2 : Int32) (x3 : Int32) (z : St) : Option (Int32 × St) := (if x2 = (3 : Int32) then (if x3 = (0 : Int32) then f_X5_wish_70 x1 x2 x3 z else some ((-2 : Int32), z)) else f_X5_wish_70 x1 x2 x3 z)
set_option maxHeartbeats 4000000 in
set_option maxRecDepth 100000 in
theorem t_X5_wish_58 {RR : Int32 × St} (X : Cx p s m c cX5_wish RX5 5 d) (hJ : Inj 26 a) (hr : meth.sig.returnType = (some .int)) (hlk : meth.locks = false) : ∀ (x1 : Int32) (x2 : Int32) (x3 : Int32) (z : St), f_X5_wish_58 x1 x2 x3 z = some RR → WWr wC 26 d a p l e { frames := 2, cells := 0, slots := 0, locals := 43 } s m args below meth c RR z 5 [(0, .ref (a 0)), (1, .int x1), (2, .int x2), (3, .int x3)] 58 [] := by
  intro x1 x2 x3 z hf H locs ls hP hS hl
  obtain ⟨hx, hb, hml, hown, hE⟩ := id X
  unfold f_X5_wish_58 at hf
  refine lv_iload_n hx hb dX5_wish_58 rfl (lv_at hl 2 rfl) ?_
  refine lv_iconst (v := 3) hx hb dX5_wish_59 (by decide) ?_
  refine lv_icmp_ne (tgt := 70) hx hb dX5_wish_60 (by decide) (fun q => ?_) (fun q => ?_)
  · have hf := (if_neg q).symm.trans hf
    exact t_X5_wish_70 X hJ hr hlk x1 x2 x3 z hf H locs ls hP hS (lv_sub hl [0, 1, 2, 3] rfl)
  · have hf := (if_pos q).symm.trans hf
    refine lv_iload_n hx hb dX5_wish_63 rfl (lv_at hl 3 rfl) ?_
    refine lv_if_eq (tgt := 70) hx hb dX5_wish_64 (by decide) (fun q => ?_) (fun q => ?_)
    · have hf := (if_pos q).symm.trans hf
      exact t_X5_wish_70 X hJ hr hlk x1 x2 x3 z hf H locs ls hP hS (lv_sub hl [0, 1, 2, 3] rfl)
    · have hf := (if_neg q).symm.trans hf
      refine lv_bipush (v := -2) hx hb dX5_wish_67 (by decide) ?_
      obtain rfl := Option.some.inj hf
      exact W.iret hx hb hr (fun t ht _ => ⟨rfl, by rw [ht]; exact hP, hS.F ht⟩) hS.2.2 dX5_wish_69 hlk
def f_X5_wish_44 (x1 : Int32) (x2 : Int32) (x3 : Int32) (z : St) : Option (Int32 × St) := (if x2 = (2 : Int32) then (f_X5_isDay z x3).bind (fun r_1 => (if r_1 = (0 : Int32) then some ((-1 : Int32), z) else f_X5_wish_58 x1 x2 x3 z)) else f_X5_wish_58 x1 x2 x3 z)
set_option maxHeartbeats 4000000 in
set_option maxRecDepth 100000 in
theorem t_X5_wish_44 {RR : Int32 × St} (X : Cx p s m c cX5_wish RX5 5 d) (hJ : Inj 26 a) (hr : meth.sig.returnType = (some .int)) (hlk : meth.locks = false) : ∀ (x1 : Int32) (x2 : Int32) (x3 : Int32) (z : St), f_X5_wish_44 x1 x2 x3 z = some RR → WWr wC 26 d a p l e { frames := 2, cells := 0, slots := 0, locals := 43 } s m args below meth c RR z 5 [(0, .ref (a 0)), (1, .int x1), (2, .int x2), (3, .int x3)] 44 [] := by
  intro x1 x2 x3 z hf H locs ls hP hS hl
  obtain ⟨hx, hb, hml, hown, hE⟩ := id X
  unfold f_X5_wish_44 at hf
  refine lv_iload_n hx hb dX5_wish_44 rfl (lv_at hl 2 rfl) ?_
  refine lv_iconst (v := 2) hx hb dX5_wish_45 (by decide) ?_
  refine lv_icmp_ne (tgt := 58) hx hb dX5_wish_46 (by decide) (fun q => ?_) (fun q => ?_)
  · have hf := (if_neg q).symm.trans hf
    exact t_X5_wish_58 X hJ hr hlk x1 x2 x3 z hf H locs ls hP hS (lv_sub hl [0, 1, 2, 3] rfl)
  · have hf := (if_pos q).symm.trans hf
    refine lv_iload_n hx hb dX5_wish_49 rfl (lv_at hl 3 rfl) ?_
    obtain ⟨r_1, hc, hf⟩ := bnd hf
    refine rdS X (c_X5_isDay l d a z x3 hc) (k_X5_43 hE rfl rfl ⟨Nat.le_of_ble_eq_true rfl, Nat.le_of_ble_eq_true rfl⟩) hP rfl hl.1 rfl (Nat.le_of_ble_eq_true rfl) dX5_wish_50 ?_
    refine lv_if_ne (tgt := 58) hx hb dX5_wish_53 (by decide) (fun q => ?_) (fun q => ?_)
    · have hf := (if_neg q).symm.trans hf
      exact t_X5_wish_58 X hJ hr hlk x1 x2 x3 z hf H locs ls hP hS (lv_sub hl [0, 1, 2, 3] rfl)
    · have hf := (if_pos q).symm.trans hf
      refine lv_iconst (v := -1) hx hb dX5_wish_56 (by decide) ?_
      obtain rfl := Option.some.inj hf
      exact W.iret hx hb hr (fun t ht _ => ⟨rfl, by rw [ht]; exact hP, hS.F ht⟩) hS.2.2 dX5_wish_57 hlk
def f_X5_wish_31 (x1 : Int32) (x2 : Int32) (x3 : Int32) (z : St) : Option (Int32 × St) := (f_X1_has z x3).bind (fun r_1 => (if r_1 = (0 : Int32) then some ((-1 : Int32), z) else f_X5_wish_44 x1 x2 x3 z))
set_option maxHeartbeats 4000000 in
set_option maxRecDepth 100000 in
theorem t_X5_wish_31 {RR : Int32 × St} (X : Cx p s m c cX5_wish RX5 5 d) (hJ : Inj 26 a) (hr : meth.sig.returnType = (some .int)) (hlk : meth.locks = false) : ∀ (x1 : Int32) (x2 : Int32) (x3 : Int32) (z : St), f_X5_wish_31 x1 x2 x3 z = some RR → WWr wC 26 d a p l e { frames := 2, cells := 0, slots := 0, locals := 43 } s m args below meth c RR z 5 [(0, .ref (a 0)), (1, .int x1), (2, .int x2), (3, .int x3)] 31 [] := by
  intro x1 x2 x3 z hf H locs ls hP hS hl
  obtain ⟨hx, hb, hml, hown, hE⟩ := id X
  unfold f_X5_wish_31 at hf
  refine lv_aload_n hx hb dX5_wish_31 rfl (lv_at hl 0 rfl) ?_
  refine gf_5_12 hx hb hE hown hP dX5_wish_32 ?_
  refine lv_iload_n hx hb dX5_wish_35 rfl (lv_at hl 3 rfl) ?_
  obtain ⟨r_1, hc, hf⟩ := bnd hf
  refine rdV X (c_X1_has l d a z x3 hc) (k_X5_75 hE rfl rfl ⟨Nat.le_of_ble_eq_true rfl, Nat.le_of_ble_eq_true rfl⟩) hP (va_recv (q := (RX1, TX1, 7)) hE.2 hP (ci := 1) (q0 := 1) rfl rfl) rfl hl.1 rfl (Nat.le_of_ble_eq_true rfl) dX5_wish_36 ?_
  refine lv_if_ne (tgt := 44) hx hb dX5_wish_39 (by decide) (fun q => ?_) (fun q => ?_)
  · have hf := (if_neg q).symm.trans hf
    exact t_X5_wish_44 X hJ hr hlk x1 x2 x3 z hf H locs ls hP hS (lv_sub hl [0, 1, 2, 3] rfl)
  · have hf := (if_pos q).symm.trans hf
    refine lv_iconst (v := -1) hx hb dX5_wish_42 (by decide) ?_
    obtain rfl := Option.some.inj hf
    exact W.iret hx hb hr (fun t ht _ => ⟨rfl, by rw [ht]; exact hP, hS.F ht⟩) hS.2.2 dX5_wish_43 hlk
def f_X5_wish (x1 : Int32) (x2 : Int32) (x3 : Int32) (z : St) : Option (Int32 × St) := (f_X2_has z x1).bind (fun r_1 => (if r_1 = (0 : Int32) then some ((-1 : Int32), z) else (f_X5_within z x2 (0 : Int32) (5 : Int32)).bind (fun r_2 => (if r_2 = (0 : Int32) then some ((-1 : Int32), z) else (if x2 = (0 : Int32) then f_X5_wish_31 x1 x2 x3 z else (if x2 = (1 : Int32) then f_X5_wish_31 x1 x2 x3 z else f_X5_wish_44 x1 x2 x3 z))))))
set_option maxHeartbeats 4000000 in
set_option maxRecDepth 100000 in
theorem t_X5_wish {RR : Int32 × St} (X : Cx p s m c cX5_wish RX5 5 d) (hJ : Inj 26 a) (hr : meth.sig.returnType = (some .int)) (hlk : meth.locks = false) : ∀ (x1 : Int32) (x2 : Int32) (x3 : Int32) (z : St), f_X5_wish x1 x2 x3 z = some RR → WWr wC 26 d a p l e { frames := 2, cells := 0, slots := 0, locals := 43 } s m args below meth c RR z 5 [(0, .ref (a 0)), (1, .int x1), (2, .int x2), (3, .int x3)] 0 [] := by
  intro x1 x2 x3 z hf H locs ls hP hS hl
  obtain ⟨hx, hb, hml, hown, hE⟩ := id X
  unfold f_X5_wish at hf
  refine lv_aload_n hx hb dX5_wish_0 rfl (lv_at hl 0 rfl) ?_
  refine gf_5_26 hx hb hE hown hP dX5_wish_1 ?_
  refine lv_iload_n hx hb dX5_wish_4 rfl (lv_at hl 1 rfl) ?_
  obtain ⟨r_1, hc, hf⟩ := bnd hf
  refine rdV X (c_X2_has l d a z x1 hc) (k_X5_72 hE rfl rfl ⟨Nat.le_of_ble_eq_true rfl, Nat.le_of_ble_eq_true rfl⟩) hP (va_recv (q := (RX2, TX2, 2)) hE.2 hP (ci := 2) (q0 := 9) rfl rfl) rfl hl.1 rfl (Nat.le_of_ble_eq_true rfl) dX5_wish_5 ?_
  refine lv_if_eq (tgt := 20) hx hb dX5_wish_8 (by decide) (fun q => ?_) (fun q => ?_)
  · have hf := (if_pos q).symm.trans hf
    refine lv_iconst (v := -1) hx hb dX5_wish_20 (by decide) ?_
    obtain rfl := Option.some.inj hf
    exact W.iret hx hb hr (fun t ht _ => ⟨rfl, by rw [ht]; exact hP, hS.F ht⟩) hS.2.2 dX5_wish_21 hlk
  · have hf := (if_neg q).symm.trans hf
    refine lv_iload_n hx hb dX5_wish_11 rfl (lv_at hl 2 rfl) ?_
    refine lv_iconst (v := 0) hx hb dX5_wish_12 (by decide) ?_
    refine lv_iconst (v := 5) hx hb dX5_wish_13 (by decide) ?_
    obtain ⟨r_2, hc, hf⟩ := bnd hf
    refine rdS X (c_X5_within l d a z x2 (0 : Int32) (5 : Int32) hc) (k_X5_39 hE rfl rfl ⟨Nat.le_of_ble_eq_true rfl, Nat.le_of_ble_eq_true rfl⟩) hP rfl hl.1 rfl (Nat.le_of_ble_eq_true rfl) dX5_wish_14 ?_
    refine lv_if_ne (tgt := 22) hx hb dX5_wish_17 (by decide) (fun q => ?_) (fun q => ?_)
    · have hf := (if_neg q).symm.trans hf
      refine lv_iload_n hx hb dX5_wish_22 rfl (lv_at hl 2 rfl) ?_
      refine lv_if_eq (tgt := 31) hx hb dX5_wish_23 (by decide) (fun q => ?_) (fun q => ?_)
      · have hf := (if_pos q).symm.trans hf
        exact t_X5_wish_31 X hJ hr hlk x1 x2 x3 z hf H locs ls hP hS (lv_sub hl [0, 1, 2, 3] rfl)
      · have hf := (if_neg q).symm.trans hf
        refine lv_iload_n hx hb dX5_wish_26 rfl (lv_at hl 2 rfl) ?_
        refine lv_iconst (v := 1) hx hb dX5_wish_27 (by decide) ?_
        refine lv_icmp_ne (tgt := 44) hx hb dX5_wish_28 (by decide) (fun q => ?_) (fun q => ?_)
        · have hf := (if_neg q).symm.trans hf
          exact t_X5_wish_44 X hJ hr hlk x1 x2 x3 z hf H locs ls hP hS (lv_sub hl [0, 1, 2, 3] rfl)
        · have hf := (if_pos q).symm.trans hf
          exact t_X5_wish_31 X hJ hr hlk x1 x2 x3 z hf H locs ls hP hS (lv_sub hl [0, 1, 2, 3] rfl)
    · have hf := (if_pos q).symm.trans hf
      refine lv_iconst (v := -1) hx hb dX5_wish_20 (by decide) ?_
      obtain rfl := Option.some.inj hf
      exact W.iret hx hb hr (fun t ht _ => ⟨rfl, by rw [ht]; exact hP, hS.F ht⟩) hS.2.2 dX5_wish_21 hlk
set_option maxHeartbeats 4000000 in
set_option maxRecDepth 100000 in
theorem c_X5_wish (l : Launch) (d : G3) (a : Nat → Nat) (z : St) (x1 : Int32) (x2 : Int32) (x3 : Int32) {RR : Int32 × St} (hf : f_X5_wish x1 x2 x3 z = some RR) : Met l yX5_wish [Cond.code yX5_wish cX5_wish 5 (some .int)] { frames := 2, cells := 0, slots := 0, locals := 43 } (wpre wC 26 d a z [.ref (a 0), .int x1, .int x2, .int x3]) (QW wC 26 d a RR) 0 0 (AD 26 a) := by
  refine Met.ofW (cc := cX5_wish) (maxL := 5) (ret := (some .int)) (by decide) rfl ?_
  intro p e s m args below meth c s₁ B hml hv
  obtain ⟨rfl, hE, hP, hJ⟩ := hv
  have X : Cx p s m c cX5_wish RX5 5 d := ⟨B.exec, B.bytes, hml, findClass_of_methodNamed B.named, hE⟩
  have hl := lv_entry ([.ref (a 0), .int x1, .int x2, .int x3]) (n := 5) (Nat.le_of_ble_eq_true rfl)
  rw [lg_entry_eq]
  generalize (lg_sl ([.ref (a 0), .int x1, .int x2, .int x3]) ++ List.replicate (5 - (lg_sl ([.ref (a 0), .int x1, .int x2, .int x3])).length) Slot.unset).toArray = ls at hl ⊢
  have hl : lv_has ls 5 [(0, .ref (a 0)), (1, .int x1), (2, .int x2), (3, .int x3)] := hl
  exact t_X5_wish X hJ B.returns B.notSynchronized x1 x2 x3 z hf s.heap [] ls hP va_S.rf hl
def f_X5_why (z : St) (x1 : Int32) (x2 : Int32) : Option (Int32) := (f_X2_has z x1).bind (fun r_1 => (if r_1 = (0 : Int32) then some (-1 : Int32) else (f_X1_isLine z x2).bind (fun r_2 => (if r_2 = (0 : Int32) then some (-2 : Int32) else ck 4 x1 ((f_X3_hasSkills z x1.toNatClampNeg x2).bind (fun r_4 => (if r_4 = (0 : Int32) then some (1 : Int32) else (f_X4_firstBroken z x2).bind (fun r_5 => (if r_5 = (0 : Int32) then (f_X3_hasHours z x1.toNatClampNeg x2).bind (fun r_6 => (if r_6 = (0 : Int32) then some (6 : Int32) else some (0 : Int32))) else some r_5)))))))))
set_option maxHeartbeats 4000000 in
set_option maxRecDepth 100000 in
theorem t_X5_why {RR : Int32} (X : Cx p s m c cX5_why RX5 5 d) {z : St} (hP : va_P d.1 classes (wC d a z) s.heap) (hr : meth.sig.returnType = (some .int)) (hlk : meth.locks = false) : ∀ (x1 : Int32) (x2 : Int32), f_X5_why z x1 x2 = some RR → WRd p l e { frames := 4, cells := 0, slots := 0, locals := 94 } s m args below meth c RR 5 [(0, .ref (a 0)), (1, .int x1), (2, .int x2)] 0 [] := by
  intro x1 x2 hf ls hl
  obtain ⟨hx, hb, hml, hown, hE⟩ := id X
  unfold f_X5_why at hf
  refine lv_aload_n hx hb dX5_why_0 rfl (lv_at hl 0 rfl) ?_
  refine gf_5_26 hx hb hE hown hP dX5_why_1 ?_
  refine lv_iload_n hx hb dX5_why_4 rfl (lv_at hl 1 rfl) ?_
  obtain ⟨r_1, hc, hf⟩ := bnd hf
  refine rdV X (c_X2_has l d a z x1 hc) (k_X5_72 hE rfl rfl ⟨Nat.le_of_ble_eq_true rfl, Nat.le_of_ble_eq_true rfl⟩) hP (va_recv (q := (RX2, TX2, 2)) hE.2 hP (ci := 2) (q0 := 9) rfl rfl) rfl hl.1 rfl (Nat.le_of_ble_eq_true rfl) dX5_why_5 ?_
  refine lv_if_ne (tgt := 13) hx hb dX5_why_8 (by decide) (fun q => ?_) (fun q => ?_)
  · have hf := (if_neg q).symm.trans hf
    refine lv_aload_n hx hb dX5_why_13 rfl (lv_at hl 0 rfl) ?_
    refine gf_5_12 hx hb hE hown hP dX5_why_14 ?_
    refine lv_iload_n hx hb dX5_why_17 rfl (lv_at hl 2 rfl) ?_
    obtain ⟨r_2, hc, hf⟩ := bnd hf
    refine rdV X (c_X1_isLine l d a z x2 hc) (k_X5_92 hE rfl rfl ⟨Nat.le_of_ble_eq_true rfl, Nat.le_of_ble_eq_true rfl⟩) hP (va_recv (q := (RX1, TX1, 7)) hE.2 hP (ci := 1) (q0 := 1) rfl rfl) rfl hl.1 rfl (Nat.le_of_ble_eq_true rfl) dX5_why_18 ?_
    refine lv_if_ne (tgt := 27) hx hb dX5_why_21 (by decide) (fun q => ?_) (fun q => ?_)
    · have hf := (if_neg q).symm.trans hf
      refine lv_aload_n hx hb dX5_why_27 rfl (lv_at hl 0 rfl) ?_
      refine gf_5_26 hx hb hE hown hP dX5_why_28 ?_
      refine gf_5_76 hx hb hE hown hP dX5_why_31 ?_
      refine lv_iload_n hx hb dX5_why_34 rfl (lv_at hl 1 rfl) ?_
      obtain ⟨hi_3, hf⟩ := ck_some hf
      refine al_rank hx hb hE hP hi_3 dX5_why_35 ?_
      refine lv_astore_n (lv' := [(3, .ref (a (14 + 3 * x1.toNatClampNeg))), (0, .ref (a 0)), (1, .int x1), (2, .int x2)]) hx hb dX5_why_36 rfl hl (by decide) rfl (fun ls hl => ?_)
      refine lv_aload_n hx hb dX5_why_37 rfl (lv_at hl 0 rfl) ?_
      refine lv_aload_n hx hb dX5_why_38 rfl (lv_at hl 1 rfl) ?_
      refine gf_5_12 hx hb hE hown hP dX5_why_39 ?_
      refine lv_iload_n hx hb dX5_why_42 rfl (lv_at hl 3 rfl) ?_
      obtain ⟨r_4, hc, hf⟩ := bnd hf
      refine rdV X (c_X3_hasSkills l d a z x1.toNatClampNeg x2 (vp_lt hi_3) hc) (k_X5_95 hE rfl rfl ⟨Nat.le_of_ble_eq_true rfl, Nat.le_of_ble_eq_true rfl⟩) hP (recvP hE hP (vp_lt hi_3)) rfl hl.1 rfl (Nat.le_of_ble_eq_true rfl) dX5_why_43 ?_
      refine lv_if_ne (tgt := 51) hx hb dX5_why_46 (by decide) (fun q => ?_) (fun q => ?_)
      · have hf := (if_neg q).symm.trans hf
        refine lv_aload_n hx hb dX5_why_51 rfl (lv_at hl 1 rfl) ?_
        refine gf_5_19 hx hb hE hown hP dX5_why_52 ?_
        refine lv_aload_n hx hb dX5_why_55 rfl (lv_at hl 1 rfl) ?_
        refine gf_5_12 hx hb hE hown hP dX5_why_56 ?_
        refine lv_iload_n hx hb dX5_why_59 rfl (lv_at hl 3 rfl) ?_
        obtain ⟨r_5, hc, hf⟩ := bnd hf
        refine rdV X (c_X4_firstBroken l d a z x2 hc) (k_X5_99 hE rfl rfl ⟨Nat.le_of_ble_eq_true rfl, Nat.le_of_ble_eq_true rfl⟩) hP (va_recv (q := (RX4, TX4, 1)) hE.2 hP (ci := 4) (q0 := 7) rfl rfl) rfl hl.1 rfl (Nat.le_of_ble_eq_true rfl) dX5_why_60 ?_
        refine lv_istore (lv' := [(4, .int r_5), (3, .ref (a (14 + 3 * x1.toNatClampNeg))), (0, .ref (a 0)), (1, .int x1), (2, .int x2)]) hx hb dX5_why_63 hl (by decide) rfl (fun ls hl => ?_)
        refine lv_iload hx hb dX5_why_65 (lv_at hl 0 rfl) ?_
        refine lv_if_eq (tgt := 73) hx hb dX5_why_67 (by decide) (fun q => ?_) (fun q => ?_)
        · have hf := (if_pos q).symm.trans hf
          refine lv_aload_n hx hb dX5_why_73 rfl (lv_at hl 1 rfl) ?_
          refine lv_aload_n hx hb dX5_why_74 rfl (lv_at hl 2 rfl) ?_
          refine gf_5_12 hx hb hE hown hP dX5_why_75 ?_
          refine lv_iload_n hx hb dX5_why_78 rfl (lv_at hl 4 rfl) ?_
          obtain ⟨r_6, hc, hf⟩ := bnd hf
          refine rdV X (c_X3_hasHours l d a z x1.toNatClampNeg x2 (vp_lt hi_3) hc) (k_X5_103 hE rfl rfl ⟨Nat.le_of_ble_eq_true rfl, Nat.le_of_ble_eq_true rfl⟩) hP (recvP hE hP (vp_lt hi_3)) rfl hl.1 rfl (Nat.le_of_ble_eq_true rfl) dX5_why_79 ?_
          refine lv_if_eq (tgt := 89) hx hb dX5_why_82 (by decide) (fun q => ?_) (fun q => ?_)
          · have hf := (if_pos q).symm.trans hf
            refine lv_bipush (v := 6) hx hb dX5_why_89 (by decide) ?_
            obtain rfl := Option.some.inj hf
            exact W.iret hx hb hr (fun t ht _ => ⟨rfl, ht⟩) (fun _ h => nomatch h) dX5_why_91 hlk
          · have hf := (if_neg q).symm.trans hf
            refine lv_iconst (v := 0) hx hb dX5_why_85 (by decide) ?_
            refine lv_goto (tgt := 91) hx hb dX5_why_86 (by decide) ?_
            obtain rfl := Option.some.inj hf
            exact W.iret hx hb hr (fun t ht _ => ⟨rfl, ht⟩) (fun _ h => nomatch h) dX5_why_91 hlk
        · have hf := (if_neg q).symm.trans hf
          refine lv_iload hx hb dX5_why_70 (lv_at hl 0 rfl) ?_
          obtain rfl := Option.some.inj hf
          exact W.iret hx hb hr (fun t ht _ => ⟨rfl, ht⟩) (fun _ h => nomatch h) dX5_why_72 hlk
      · have hf := (if_pos q).symm.trans hf
        refine lv_iconst (v := 1) hx hb dX5_why_49 (by decide) ?_
        obtain rfl := Option.some.inj hf
        exact W.iret hx hb hr (fun t ht _ => ⟨rfl, ht⟩) (fun _ h => nomatch h) dX5_why_50 hlk
    · have hf := (if_pos q).symm.trans hf
      refine lv_bipush (v := -2) hx hb dX5_why_24 (by decide) ?_
      obtain rfl := Option.some.inj hf
      exact W.iret hx hb hr (fun t ht _ => ⟨rfl, ht⟩) (fun _ h => nomatch h) dX5_why_26 hlk
  · have hf := (if_pos q).symm.trans hf
    refine lv_iconst (v := -1) hx hb dX5_why_11 (by decide) ?_
    obtain rfl := Option.some.inj hf
    exact W.iret hx hb hr (fun t ht _ => ⟨rfl, ht⟩) (fun _ h => nomatch h) dX5_why_12 hlk
set_option maxHeartbeats 4000000 in
set_option maxRecDepth 100000 in
theorem c_X5_why (l : Launch) (d : G3) (a : Nat → Nat) (z : St) (x1 : Int32) (x2 : Int32) {RR : Int32} (hf : f_X5_why z x1 x2 = some RR) : Met l yX5_why [Cond.code yX5_why cX5_why 5 (some .int)] { frames := 4, cells := 0, slots := 0, locals := 94 } (rpre wC d a z [.ref (a 0), .int x1, .int x2]) (QcRead RR) 0 0 (fun _ => False) := by
  refine Met.ofW (cc := cX5_why) (maxL := 5) (ret := (some .int)) (by decide) rfl ?_
  intro p e s m args below meth c s₁ B hml hv
  obtain ⟨rfl, hE, hP⟩ := hv
  have X : Cx p s m c cX5_why RX5 5 d := ⟨B.exec, B.bytes, hml, findClass_of_methodNamed B.named, hE⟩
  have hl := lv_entry ([.ref (a 0), .int x1, .int x2]) (n := 5) (Nat.le_of_ble_eq_true rfl)
  rw [lg_entry_eq]
  generalize (lg_sl ([.ref (a 0), .int x1, .int x2]) ++ List.replicate (5 - (lg_sl ([.ref (a 0), .int x1, .int x2])).length) Slot.unset).toArray = ls at hl ⊢
  have hl : lv_has ls 5 [(0, .ref (a 0)), (1, .int x1), (2, .int x2)] := hl
  exact t_X5_why X hP B.returns B.notSynchronized x1 x2 hf ls hl
def f_X5_meets (z : St) (x1 : Int32) (x2 : Int32) (x3 : Int32) : Option (Int32) := (f_X2_has z x1).bind (fun r_1 => (if r_1 = (0 : Int32) then some (-1 : Int32) else ck 4 x1 ((f_X3_hasWish z x1.toNatClampNeg x2).bind (fun r_3 => (if r_3 = (0 : Int32) then some (-1 : Int32) else (f_X1_isLine z x3).bind (fun r_4 => (if r_4 = (0 : Int32) then some (-2 : Int32) else ck 4 x1 ((f_X3_isMet z x1.toNatClampNeg x2 x3).bind (fun r_6 => (if r_6 = (0 : Int32) then some (0 : Int32) else some (1 : Int32)))))))))))
set_option maxHeartbeats 4000000 in
set_option maxRecDepth 100000 in
theorem t_X5_meets {RR : Int32} (X : Cx p s m c cX5_meets RX5 4 d) {z : St} (hP : va_P d.1 classes (wC d a z) s.heap) (hr : meth.sig.returnType = (some .int)) (hlk : meth.locks = false) : ∀ (x1 : Int32) (x2 : Int32) (x3 : Int32), f_X5_meets z x1 x2 x3 = some RR → WRd p l e { frames := 3, cells := 0, slots := 0, locals := 68 } s m args below meth c RR 4 [(0, .ref (a 0)), (1, .int x1), (2, .int x2), (3, .int x3)] 0 [] := by
  intro x1 x2 x3 hf ls hl
  obtain ⟨hx, hb, hml, hown, hE⟩ := id X
  unfold f_X5_meets at hf
  refine lv_aload_n hx hb dX5_meets_0 rfl (lv_at hl 0 rfl) ?_
  refine gf_5_26 hx hb hE hown hP dX5_meets_1 ?_
  refine lv_iload_n hx hb dX5_meets_4 rfl (lv_at hl 1 rfl) ?_
  obtain ⟨r_1, hc, hf⟩ := bnd hf
  refine rdV X (c_X2_has l d a z x1 hc) (k_X5_72 hE rfl rfl ⟨Nat.le_of_ble_eq_true rfl, Nat.le_of_ble_eq_true rfl⟩) hP (va_recv (q := (RX2, TX2, 2)) hE.2 hP (ci := 2) (q0 := 9) rfl rfl) rfl hl.1 rfl (Nat.le_of_ble_eq_true rfl) dX5_meets_5 ?_
  refine lv_if_eq (tgt := 27) hx hb dX5_meets_8 (by decide) (fun q => ?_) (fun q => ?_)
  · have hf := (if_pos q).symm.trans hf
    refine lv_iconst (v := -1) hx hb dX5_meets_27 (by decide) ?_
    obtain rfl := Option.some.inj hf
    exact W.iret hx hb hr (fun t ht _ => ⟨rfl, ht⟩) (fun _ h => nomatch h) dX5_meets_28 hlk
  · have hf := (if_neg q).symm.trans hf
    refine lv_aload_n hx hb dX5_meets_11 rfl (lv_at hl 0 rfl) ?_
    refine gf_5_26 hx hb hE hown hP dX5_meets_12 ?_
    refine gf_5_76 hx hb hE hown hP dX5_meets_15 ?_
    refine lv_iload_n hx hb dX5_meets_18 rfl (lv_at hl 1 rfl) ?_
    obtain ⟨hi_2, hf⟩ := ck_some hf
    refine al_rank hx hb hE hP hi_2 dX5_meets_19 ?_
    refine lv_iload_n hx hb dX5_meets_20 rfl (lv_at hl 2 rfl) ?_
    obtain ⟨r_3, hc, hf⟩ := bnd hf
    refine rdV X (c_X3_hasWish l d a z x1.toNatClampNeg x2 (vp_lt hi_2) hc) (k_X5_106 hE rfl rfl ⟨Nat.le_of_ble_eq_true rfl, Nat.le_of_ble_eq_true rfl⟩) hP (recvP hE hP (vp_lt hi_2)) rfl hl.1 rfl (Nat.le_of_ble_eq_true rfl) dX5_meets_21 ?_
    refine lv_if_ne (tgt := 29) hx hb dX5_meets_24 (by decide) (fun q => ?_) (fun q => ?_)
    · have hf := (if_neg q).symm.trans hf
      refine lv_aload_n hx hb dX5_meets_29 rfl (lv_at hl 0 rfl) ?_
      refine gf_5_12 hx hb hE hown hP dX5_meets_30 ?_
      refine lv_iload_n hx hb dX5_meets_33 rfl (lv_at hl 3 rfl) ?_
      obtain ⟨r_4, hc, hf⟩ := bnd hf
      refine rdV X (c_X1_isLine l d a z x3 hc) (k_X5_92 hE rfl rfl ⟨Nat.le_of_ble_eq_true rfl, Nat.le_of_ble_eq_true rfl⟩) hP (va_recv (q := (RX1, TX1, 7)) hE.2 hP (ci := 1) (q0 := 1) rfl rfl) rfl hl.1 rfl (Nat.le_of_ble_eq_true rfl) dX5_meets_34 ?_
      refine lv_if_ne (tgt := 43) hx hb dX5_meets_37 (by decide) (fun q => ?_) (fun q => ?_)
      · have hf := (if_neg q).symm.trans hf
        refine lv_aload_n hx hb dX5_meets_43 rfl (lv_at hl 0 rfl) ?_
        refine gf_5_26 hx hb hE hown hP dX5_meets_44 ?_
        refine gf_5_76 hx hb hE hown hP dX5_meets_47 ?_
        refine lv_iload_n hx hb dX5_meets_50 rfl (lv_at hl 1 rfl) ?_
        obtain ⟨hi_5, hf⟩ := ck_some hf
        refine al_rank hx hb hE hP hi_5 dX5_meets_51 ?_
        refine lv_aload_n hx hb dX5_meets_52 rfl (lv_at hl 0 rfl) ?_
        refine gf_5_12 hx hb hE hown hP dX5_meets_53 ?_
        refine lv_iload_n hx hb dX5_meets_56 rfl (lv_at hl 2 rfl) ?_
        refine lv_iload_n hx hb dX5_meets_57 rfl (lv_at hl 3 rfl) ?_
        obtain ⟨r_6, hc, hf⟩ := bnd hf
        refine rdV X (c_X3_isMet l d a z x1.toNatClampNeg x2 x3 (vp_lt hi_5) hc) (k_X5_109 hE rfl rfl ⟨Nat.le_of_ble_eq_true rfl, Nat.le_of_ble_eq_true rfl⟩) hP (recvP hE hP (vp_lt hi_5)) rfl hl.1 rfl (Nat.le_of_ble_eq_true rfl) dX5_meets_58 ?_
        refine lv_if_eq (tgt := 68) hx hb dX5_meets_61 (by decide) (fun q => ?_) (fun q => ?_)
        · have hf := (if_pos q).symm.trans hf
          refine lv_iconst (v := 0) hx hb dX5_meets_68 (by decide) ?_
          obtain rfl := Option.some.inj hf
          exact W.iret hx hb hr (fun t ht _ => ⟨rfl, ht⟩) (fun _ h => nomatch h) dX5_meets_69 hlk
        · have hf := (if_neg q).symm.trans hf
          refine lv_iconst (v := 1) hx hb dX5_meets_64 (by decide) ?_
          refine lv_goto (tgt := 69) hx hb dX5_meets_65 (by decide) ?_
          obtain rfl := Option.some.inj hf
          exact W.iret hx hb hr (fun t ht _ => ⟨rfl, ht⟩) (fun _ h => nomatch h) dX5_meets_69 hlk
      · have hf := (if_pos q).symm.trans hf
        refine lv_bipush (v := -2) hx hb dX5_meets_40 (by decide) ?_
        obtain rfl := Option.some.inj hf
        exact W.iret hx hb hr (fun t ht _ => ⟨rfl, ht⟩) (fun _ h => nomatch h) dX5_meets_42 hlk
    · have hf := (if_pos q).symm.trans hf
      refine lv_iconst (v := -1) hx hb dX5_meets_27 (by decide) ?_
      obtain rfl := Option.some.inj hf
      exact W.iret hx hb hr (fun t ht _ => ⟨rfl, ht⟩) (fun _ h => nomatch h) dX5_meets_28 hlk
set_option maxHeartbeats 4000000 in
set_option maxRecDepth 100000 in
theorem c_X5_meets (l : Launch) (d : G3) (a : Nat → Nat) (z : St) (x1 : Int32) (x2 : Int32) (x3 : Int32) {RR : Int32} (hf : f_X5_meets z x1 x2 x3 = some RR) : Met l yX5_meets [Cond.code yX5_meets cX5_meets 4 (some .int)] { frames := 3, cells := 0, slots := 0, locals := 68 } (rpre wC d a z [.ref (a 0), .int x1, .int x2, .int x3]) (QcRead RR) 0 0 (fun _ => False) := by
  refine Met.ofW (cc := cX5_meets) (maxL := 4) (ret := (some .int)) (by decide) rfl ?_
  intro p e s m args below meth c s₁ B hml hv
  obtain ⟨rfl, hE, hP⟩ := hv
  have X : Cx p s m c cX5_meets RX5 4 d := ⟨B.exec, B.bytes, hml, findClass_of_methodNamed B.named, hE⟩
  have hl := lv_entry ([.ref (a 0), .int x1, .int x2, .int x3]) (n := 4) (Nat.le_of_ble_eq_true rfl)
  rw [lg_entry_eq]
  generalize (lg_sl ([.ref (a 0), .int x1, .int x2, .int x3]) ++ List.replicate (4 - (lg_sl ([.ref (a 0), .int x1, .int x2, .int x3])).length) Slot.unset).toArray = ls at hl ⊢
  have hl : lv_has ls 4 [(0, .ref (a 0)), (1, .int x1), (2, .int x2), (3, .int x3)] := hl
  exact t_X5_meets X hP B.returns B.notSynchronized x1 x2 x3 hf ls hl
def f_X5_lines_24 (k24 : Int32 → Int32 → Int32 → St → Option (Int32 × St)) (x1 : Int32) (x2 : Int32) (x3 : Int32) (z : St) : Option (Int32 × St) := (f_X1_all z).bind (fun r_1 => (if r_1 < x3 then some (x2, z) else (f_X0_isLegal z x1 x3).bind (fun r_2 => (if r_2 = (0 : Int32) then k24 x1 x2 (x3 + (1 : Int32)) z else k24 x1 (x2 + (1 : Int32)) (x3 + (1 : Int32)) z))))
def l_X5_lines_24 : Int32 → Int32 → Int32 → St → Option (Int32 × St) := iter (fun _ _ _ _ => none) (f_X5_lines_24) FU
set_option maxHeartbeats 4000000 in
set_option maxRecDepth 100000 in
theorem t_X5_lines_24 {RR : Int32 × St} (X : Cx p s m c cX5_lines RX5 4 d) (hJ : Inj 26 a) (hr : meth.sig.returnType = (some .int)) (hlk : meth.locks = false) {k24 : Int32 → Int32 → Int32 → St → Option (Int32 × St)} (hk24 : ∀ (x1 : Int32) (x2 : Int32) (x3 : Int32) (z : St), k24 x1 x2 x3 z = some RR → WWr wC 26 d a p l e { frames := 6, cells := 0, slots := 0, locals := 137 } s m args below meth c RR z 4 [(0, .ref (a 0)), (1, .int x1), (2, .int x2), (3, .int x3)] 24 []) : ∀ (x1 : Int32) (x2 : Int32) (x3 : Int32) (z : St), f_X5_lines_24 k24 x1 x2 x3 z = some RR → WWr wC 26 d a p l e { frames := 6, cells := 0, slots := 0, locals := 137 } s m args below meth c RR z 4 [(0, .ref (a 0)), (1, .int x1), (2, .int x2), (3, .int x3)] 24 [] := by
  intro x1 x2 x3 z hf H locs ls hP hS hl
  obtain ⟨hx, hb, hml, hown, hE⟩ := id X
  unfold f_X5_lines_24 at hf
  refine lv_iload_n hx hb dX5_lines_24 rfl (lv_at hl 3 rfl) ?_
  refine lv_aload_n hx hb dX5_lines_25 rfl (lv_at hl 0 rfl) ?_
  refine gf_5_12 hx hb hE hown hP dX5_lines_26 ?_
  obtain ⟨r_1, hc, hf⟩ := bnd hf
  refine rdV X (c_X1_all l d a z hc) (k_X5_116 hE rfl rfl ⟨Nat.le_of_ble_eq_true rfl, Nat.le_of_ble_eq_true rfl⟩) hP (va_recv (q := (RX1, TX1, 7)) hE.2 hP (ci := 1) (q0 := 1) rfl rfl) rfl hl.1 rfl (Nat.le_of_ble_eq_true rfl) dX5_lines_29 ?_
  refine lv_icmp_gt (tgt := 56) hx hb dX5_lines_32 (by decide) (fun q => ?_) (fun q => ?_)
  · have hf := (if_pos q).symm.trans hf
    refine lv_iload_n hx hb dX5_lines_56 rfl (lv_at hl 2 rfl) ?_
    obtain rfl := Option.some.inj hf
    exact W.iret hx hb hr (fun t ht _ => ⟨rfl, by rw [ht]; exact hP, hS.F ht⟩) hS.2.2 dX5_lines_57 hlk
  · have hf := (if_neg q).symm.trans hf
    refine lv_aload_n hx hb dX5_lines_35 rfl (lv_at hl 0 rfl) ?_
    refine gf_5_35 hx hb hE hown hP dX5_lines_36 ?_
    refine lv_iload_n hx hb dX5_lines_39 rfl (lv_at hl 1 rfl) ?_
    refine lv_iload_n hx hb dX5_lines_40 rfl (lv_at hl 3 rfl) ?_
    obtain ⟨r_2, hc, hf⟩ := bnd hf
    refine rdV X (c_X0_isLegal l d a z x1 x3 hc) (k_X5_120 hE rfl rfl ⟨Nat.le_of_ble_eq_true rfl, Nat.le_of_ble_eq_true rfl⟩) hP (va_recv (q := (RX0, TX0, 7)) hE.2 hP (ci := 0) (q0 := 11) rfl rfl) rfl hl.1 rfl (Nat.le_of_ble_eq_true rfl) dX5_lines_41 ?_
    refine lv_if_eq (tgt := 50) hx hb dX5_lines_44 (by decide) (fun q => ?_) (fun q => ?_)
    · have hf := (if_pos q).symm.trans hf
      refine lv_iinc (v := (x3 + (1 : Int32))) (lv' := [(3, .int (x3 + (1 : Int32))), (0, .ref (a 0)), (1, .int x1), (2, .int x2)]) hx hb dX5_lines_50 hl (k := 3) rfl rfl (by decide) rfl (fun ls hl => ?_)
      refine lv_goto (tgt := 24) hx hb dX5_lines_53 (by decide) ?_
      exact hk24 x1 x2 (x3 + (1 : Int32)) z hf H locs ls hP hS (lv_sub hl [1, 2, 3, 0] rfl)
    · have hf := (if_neg q).symm.trans hf
      refine lv_iinc (v := (x2 + (1 : Int32))) (lv' := [(2, .int (x2 + (1 : Int32))), (0, .ref (a 0)), (1, .int x1), (3, .int x3)]) hx hb dX5_lines_47 hl (k := 2) rfl rfl (by decide) rfl (fun ls hl => ?_)
      refine lv_iinc (v := (x3 + (1 : Int32))) (lv' := [(3, .int (x3 + (1 : Int32))), (2, .int (x2 + (1 : Int32))), (0, .ref (a 0)), (1, .int x1)]) hx hb dX5_lines_50 hl (k := 3) rfl rfl (by decide) rfl (fun ls hl => ?_)
      refine lv_goto (tgt := 24) hx hb dX5_lines_53 (by decide) ?_
      exact hk24 x1 (x2 + (1 : Int32)) (x3 + (1 : Int32)) z hf H locs ls hP hS (lv_sub hl [2, 3, 1, 0] rfl)
theorem u_X5_lines_24 {RR : Int32 × St} (X : Cx p s m c cX5_lines RX5 4 d) (hJ : Inj 26 a) (hr : meth.sig.returnType = (some .int)) (hlk : meth.locks = false) : ∀ (x1 : Int32) (x2 : Int32) (x3 : Int32) (z : St), l_X5_lines_24 x1 x2 x3 z = some RR → WWr wC 26 d a p l e { frames := 6, cells := 0, slots := 0, locals := 137 } s m args below meth c RR z 4 [(0, .ref (a 0)), (1, .int x1), (2, .int x2), (3, .int x3)] 24 [] := by
  unfold l_X5_lines_24
  generalize FU = n
  induction n with
  | zero => intro x1 x2 x3 z hf; exact absurd (show (none : Option (Int32 × St)) = some RR from hf) (by simp)
  | succ n ih => exact t_X5_lines_24 X hJ hr hlk ih
def f_X5_lines (x1 : Int32) (z : St) : Option (Int32 × St) := (f_X2_has z x1).bind (fun r_1 => (if r_1 = (0 : Int32) then some ((-1 : Int32), z) else (f_X0_refresh z).bind (fun r_2 => l_X5_lines_24 x1 (0 : Int32) (0 : Int32) r_2)))
set_option maxHeartbeats 4000000 in
set_option maxRecDepth 100000 in
theorem t_X5_lines {RR : Int32 × St} (X : Cx p s m c cX5_lines RX5 4 d) (hJ : Inj 26 a) (hr : meth.sig.returnType = (some .int)) (hlk : meth.locks = false) : ∀ (x1 : Int32) (z : St), f_X5_lines x1 z = some RR → WWr wC 26 d a p l e { frames := 6, cells := 0, slots := 0, locals := 137 } s m args below meth c RR z 4 [(0, .ref (a 0)), (1, .int x1)] 0 [] := by
  intro x1 z hf H locs ls hP hS hl
  obtain ⟨hx, hb, hml, hown, hE⟩ := id X
  unfold f_X5_lines at hf
  refine lv_aload_n hx hb dX5_lines_0 rfl (lv_at hl 0 rfl) ?_
  refine gf_5_26 hx hb hE hown hP dX5_lines_1 ?_
  refine lv_iload_n hx hb dX5_lines_4 rfl (lv_at hl 1 rfl) ?_
  obtain ⟨r_1, hc, hf⟩ := bnd hf
  refine rdV X (c_X2_has l d a z x1 hc) (k_X5_72 hE rfl rfl ⟨Nat.le_of_ble_eq_true rfl, Nat.le_of_ble_eq_true rfl⟩) hP (va_recv (q := (RX2, TX2, 2)) hE.2 hP (ci := 2) (q0 := 9) rfl rfl) rfl hl.1 rfl (Nat.le_of_ble_eq_true rfl) dX5_lines_5 ?_
  refine lv_if_ne (tgt := 13) hx hb dX5_lines_8 (by decide) (fun q => ?_) (fun q => ?_)
  · have hf := (if_neg q).symm.trans hf
    refine lv_aload_n hx hb dX5_lines_13 rfl (lv_at hl 0 rfl) ?_
    refine gf_5_35 hx hb hE hown hP dX5_lines_14 ?_
    obtain ⟨r_2, hc, hf⟩ := bnd hf
    refine wrVv X (c_X0_refresh l d a z hc) (k_X5_113 hE rfl rfl ⟨Nat.le_of_ble_eq_true rfl, Nat.le_of_ble_eq_true rfl⟩) hP hJ hS (va_recv (q := (RX0, TX0, 7)) hE.2 hP (ci := 0) (q0 := 11) rfl rfl) rfl hl.1 rfl (Nat.le_of_ble_eq_true rfl) dX5_lines_17 (fun H locs hP hS => ?_)
    refine lv_iconst (v := 0) hx hb dX5_lines_20 (by decide) ?_
    refine lv_istore_n (lv' := [(2, .int (0 : Int32)), (0, .ref (a 0)), (1, .int x1)]) hx hb dX5_lines_21 rfl hl (by decide) rfl (fun ls hl => ?_)
    refine lv_iconst (v := 0) hx hb dX5_lines_22 (by decide) ?_
    refine lv_istore_n (lv' := [(3, .int (0 : Int32)), (2, .int (0 : Int32)), (0, .ref (a 0)), (1, .int x1)]) hx hb dX5_lines_23 rfl hl (by decide) rfl (fun ls hl => ?_)
    exact u_X5_lines_24 X hJ hr hlk x1 (0 : Int32) (0 : Int32) r_2 hf H locs ls hP hS (lv_sub hl [2, 3, 1, 0] rfl)
  · have hf := (if_pos q).symm.trans hf
    refine lv_iconst (v := -1) hx hb dX5_lines_11 (by decide) ?_
    obtain rfl := Option.some.inj hf
    exact W.iret hx hb hr (fun t ht _ => ⟨rfl, by rw [ht]; exact hP, hS.F ht⟩) hS.2.2 dX5_lines_12 hlk
set_option maxHeartbeats 4000000 in
set_option maxRecDepth 100000 in
theorem c_X5_lines (l : Launch) (d : G3) (a : Nat → Nat) (z : St) (x1 : Int32) {RR : Int32 × St} (hf : f_X5_lines x1 z = some RR) : Met l yX5_lines [Cond.code yX5_lines cX5_lines 4 (some .int)] { frames := 6, cells := 0, slots := 0, locals := 137 } (wpre wC 26 d a z [.ref (a 0), .int x1]) (QW wC 26 d a RR) 0 0 (AD 26 a) := by
  refine Met.ofW (cc := cX5_lines) (maxL := 4) (ret := (some .int)) (by decide) rfl ?_
  intro p e s m args below meth c s₁ B hml hv
  obtain ⟨rfl, hE, hP, hJ⟩ := hv
  have X : Cx p s m c cX5_lines RX5 4 d := ⟨B.exec, B.bytes, hml, findClass_of_methodNamed B.named, hE⟩
  have hl := lv_entry ([.ref (a 0), .int x1]) (n := 4) (Nat.le_of_ble_eq_true rfl)
  rw [lg_entry_eq]
  generalize (lg_sl ([.ref (a 0), .int x1]) ++ List.replicate (4 - (lg_sl ([.ref (a 0), .int x1])).length) Slot.unset).toArray = ls at hl ⊢
  have hl : lv_has ls 4 [(0, .ref (a 0)), (1, .int x1)] := hl
  exact t_X5_lines X hJ B.returns B.notSynchronized x1 z hf s.heap [] ls hP va_S.rf hl
end GEN
