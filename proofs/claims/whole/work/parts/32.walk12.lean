section GEN
variable {p : Program} {l : Launch} {e : Env} {s : State} {m : MethodId} {args : Array Value} {below : List Frame} {meth : Method} {c : Code} {d : G3} {a : Nat → Nat}
def f_X5_sick_93 (k93 : Int32 → Int32 → St → Option (Int32 × St)) (x4 : Int32) (x5 : Int32) (z : St) : Option (Int32 × St) := (if (z.1 3) ≤ x5 then (f_J6_bitCount_0f7a4 (pS z 1 (1 : Int32)) x4).bind (fun r_1 => some (r_1, (pS z 1 (1 : Int32)))) else (f_X5_isIn z x5 x4).bind (fun r_2 => (if r_2 = (0 : Int32) then k93 x4 (x5 + (1 : Int32)) z else (f_X5_callIn x5 z).bind (fun r_3 => k93 x4 (x5 + (1 : Int32)) r_3))))
def l_X5_sick_93 : Int32 → Int32 → St → Option (Int32 × St) := iter (fun _ _ _ => none) (f_X5_sick_93) FU
set_option maxHeartbeats 4000000 in
set_option maxRecDepth 100000 in
theorem t_X5_sick_93 {RR : Int32 × St} (X : Cx p s m c cX5_sick RX5 6 d) (hJ : Inj 26 a) (hr : meth.sig.returnType = (some .int)) (hlk : meth.locks = false) {k93 : Int32 → Int32 → St → Option (Int32 × St)} (hk93 : ∀ (x4 : Int32) (x5 : Int32) (z : St), k93 x4 x5 z = some RR → WWr wC 26 d a p l e { frames := 3, cells := 0, slots := 0, locals := 70 } s m args below meth c RR z 6 [(0, .ref (a 0)), (4, .int x4), (5, .int x5)] 93 []) : ∀ (x4 : Int32) (x5 : Int32) (z : St), f_X5_sick_93 k93 x4 x5 z = some RR → WWr wC 26 d a p l e { frames := 3, cells := 0, slots := 0, locals := 70 } s m args below meth c RR z 6 [(0, .ref (a 0)), (4, .int x4), (5, .int x5)] 93 [] := by
  intro x4 x5 z hf H locs ls hP hS hl
  obtain ⟨hx, hb, hml, hown, hE⟩ := id X
  unfold f_X5_sick_93 at hf
  refine lv_iload hx hb dX5_sick_93 (lv_at hl 2 rfl) ?_
  refine lv_aload_n hx hb dX5_sick_95 rfl (lv_at hl 0 rfl) ?_
  refine gf_5_12 hx hb hE hown hP dX5_sick_96 ?_
  refine gf_5_47 hx hb hE hown hP dX5_sick_99 ?_
  refine lv_icmp_ge (tgt := 127) hx hb dX5_sick_102 (by decide) (fun q => ?_) (fun q => ?_)
  · have hf := (if_pos q).symm.trans hf
    refine lv_aload_n hx hb dX5_sick_127 rfl (lv_at hl 0 rfl) ?_
    refine lv_iconst (v := 1) hx hb dX5_sick_128 (by decide) ?_
    refine pf_5_150 hx hb hE hown hP hJ hS rfl rfl dX5_sick_129 (fun H locs hP hS => ?_)
    refine lv_iload hx hb dX5_sick_132 (lv_at hl 1 rfl) ?_
    obtain ⟨r_1, hc, hf⟩ := bnd hf
    refine rdS X (c_J6_bitCount_0f7a4 l d a (pS z 1 (1 : Int32)) x4 hc) (k_X5_153 hE rfl rfl ⟨Nat.le_of_ble_eq_true rfl, Nat.le_of_ble_eq_true rfl⟩) hP rfl hl.1 rfl (Nat.le_of_ble_eq_true rfl) dX5_sick_134 ?_
    obtain rfl := Option.some.inj hf
    exact W.iret hx hb hr (fun t ht _ => ⟨rfl, by rw [ht]; exact hP, hS.F ht⟩) hS.2.2 dX5_sick_137 hlk
  · have hf := (if_neg q).symm.trans hf
    refine lv_iload hx hb dX5_sick_105 (lv_at hl 2 rfl) ?_
    refine lv_iload hx hb dX5_sick_107 (lv_at hl 1 rfl) ?_
    obtain ⟨r_2, hc, hf⟩ := bnd hf
    refine rdS X (c_X5_isIn l d a z x5 x4 hc) (k_X5_189 hE rfl rfl ⟨Nat.le_of_ble_eq_true rfl, Nat.le_of_ble_eq_true rfl⟩) hP rfl hl.1 rfl (Nat.le_of_ble_eq_true rfl) dX5_sick_109 ?_
    refine lv_if_eq (tgt := 121) hx hb dX5_sick_112 (by decide) (fun q => ?_) (fun q => ?_)
    · have hf := (if_pos q).symm.trans hf
      refine lv_iinc (v := (x5 + (1 : Int32))) (lv' := [(5, .int (x5 + (1 : Int32))), (0, .ref (a 0)), (4, .int x4)]) hx hb dX5_sick_121 hl (k := 2) rfl rfl (by decide) rfl (fun ls hl => ?_)
      refine lv_goto (tgt := 93) hx hb dX5_sick_124 (by decide) ?_
      exact hk93 x4 (x5 + (1 : Int32)) z hf H locs ls hP hS (lv_sub hl [1, 2, 0] rfl)
    · have hf := (if_neg q).symm.trans hf
      refine lv_aload_n hx hb dX5_sick_115 rfl (lv_at hl 0 rfl) ?_
      refine lv_iload hx hb dX5_sick_116 (lv_at hl 2 rfl) ?_
      obtain ⟨r_3, hc, hf⟩ := bnd hf
      refine wrVv X (c_X5_callIn l d a z x5 hc) (k_X5_192 hE rfl rfl ⟨Nat.le_of_ble_eq_true rfl, Nat.le_of_ble_eq_true rfl⟩) hP hJ hS (va_recv (q := (RX5, TX5, 6)) hE.2 hP (ci := 5) (q0 := 0) rfl rfl) rfl hl.1 rfl (Nat.le_of_ble_eq_true rfl) dX5_sick_118 (fun H locs hP hS => ?_)
      refine lv_iinc (v := (x5 + (1 : Int32))) (lv' := [(5, .int (x5 + (1 : Int32))), (0, .ref (a 0)), (4, .int x4)]) hx hb dX5_sick_121 hl (k := 2) rfl rfl (by decide) rfl (fun ls hl => ?_)
      refine lv_goto (tgt := 93) hx hb dX5_sick_124 (by decide) ?_
      exact hk93 x4 (x5 + (1 : Int32)) r_3 hf H locs ls hP hS (lv_sub hl [1, 2, 0] rfl)
theorem u_X5_sick_93 {RR : Int32 × St} (X : Cx p s m c cX5_sick RX5 6 d) (hJ : Inj 26 a) (hr : meth.sig.returnType = (some .int)) (hlk : meth.locks = false) : ∀ (x4 : Int32) (x5 : Int32) (z : St), l_X5_sick_93 x4 x5 z = some RR → WWr wC 26 d a p l e { frames := 3, cells := 0, slots := 0, locals := 70 } s m args below meth c RR z 6 [(0, .ref (a 0)), (4, .int x4), (5, .int x5)] 93 [] := by
  unfold l_X5_sick_93
  generalize FU = n
  induction n with
  | zero => intro x4 x5 z hf; exact absurd (show (none : Option (Int32 × St)) = some RR from hf) (by simp)
  | succ n ih => exact t_X5_sick_93 X hJ hr hlk ih
def f_X5_sick (x1 : Int32) (x2 : Int32) (z : St) : Option (Int32 × St) := (f_X2_has z x1).bind (fun r_1 => (if r_1 = (0 : Int32) then some ((-1 : Int32), z) else (f_X5_isDay z x2).bind (fun r_2 => (if r_2 = (0 : Int32) then some ((-1 : Int32), z) else (if (z.1 0) = (0 : Int32) then some ((-3 : Int32), z) else ck 4 x1 ((if (z.1 (15 + 6 * x1.toNatClampNeg)) = (0 : Int32) then ck 4 x1 ((f_X1_beginning z x2 (14 : Int32)).bind (fun r_5 => l_X5_sick_93 ((z.1 (14 + 6 * x1.toNatClampNeg)) &&& r_5) (0 : Int32) (pS (pS z (15 + 6 * x1.toNatClampNeg) (1 : Int32)) (14 + 6 * x1.toNatClampNeg) (((pS z (15 + 6 * x1.toNatClampNeg) (1 : Int32)).1 (14 + 6 * x1.toNatClampNeg)) &&& (((z.1 (14 + 6 * x1.toNatClampNeg)) &&& r_5) ^^^ (-1 : Int32)))))) else some ((-3 : Int32), z))))))))
set_option maxHeartbeats 4000000 in
set_option maxRecDepth 100000 in
theorem t_X5_sick {RR : Int32 × St} (X : Cx p s m c cX5_sick RX5 6 d) (hJ : Inj 26 a) (hr : meth.sig.returnType = (some .int)) (hlk : meth.locks = false) : ∀ (x1 : Int32) (x2 : Int32) (z : St), f_X5_sick x1 x2 z = some RR → WWr wC 26 d a p l e { frames := 3, cells := 0, slots := 0, locals := 70 } s m args below meth c RR z 6 [(0, .ref (a 0)), (1, .int x1), (2, .int x2)] 0 [] := by
  intro x1 x2 z hf H locs ls hP hS hl
  obtain ⟨hx, hb, hml, hown, hE⟩ := id X
  unfold f_X5_sick at hf
  refine lv_aload_n hx hb dX5_sick_0 rfl (lv_at hl 0 rfl) ?_
  refine gf_5_26 hx hb hE hown hP dX5_sick_1 ?_
  refine lv_iload_n hx hb dX5_sick_4 rfl (lv_at hl 1 rfl) ?_
  obtain ⟨r_1, hc, hf⟩ := bnd hf
  refine rdV X (c_X2_has l d a z x1 hc) (k_X5_72 hE rfl rfl ⟨Nat.le_of_ble_eq_true rfl, Nat.le_of_ble_eq_true rfl⟩) hP (va_recv (q := (RX2, TX2, 2)) hE.2 hP (ci := 2) (q0 := 9) rfl rfl) rfl hl.1 rfl (Nat.le_of_ble_eq_true rfl) dX5_sick_5 ?_
  refine lv_if_eq (tgt := 18) hx hb dX5_sick_8 (by decide) (fun q => ?_) (fun q => ?_)
  · have hf := (if_pos q).symm.trans hf
    refine lv_iconst (v := -1) hx hb dX5_sick_18 (by decide) ?_
    obtain rfl := Option.some.inj hf
    exact W.iret hx hb hr (fun t ht _ => ⟨rfl, by rw [ht]; exact hP, hS.F ht⟩) hS.2.2 dX5_sick_19 hlk
  · have hf := (if_neg q).symm.trans hf
    refine lv_iload_n hx hb dX5_sick_11 rfl (lv_at hl 2 rfl) ?_
    obtain ⟨r_2, hc, hf⟩ := bnd hf
    refine rdS X (c_X5_isDay l d a z x2 hc) (k_X5_43 hE rfl rfl ⟨Nat.le_of_ble_eq_true rfl, Nat.le_of_ble_eq_true rfl⟩) hP rfl hl.1 rfl (Nat.le_of_ble_eq_true rfl) dX5_sick_12 ?_
    refine lv_if_ne (tgt := 20) hx hb dX5_sick_15 (by decide) (fun q => ?_) (fun q => ?_)
    · have hf := (if_neg q).symm.trans hf
      refine lv_aload_n hx hb dX5_sick_20 rfl (lv_at hl 0 rfl) ?_
      refine gf_5_85 hx hb hE hown hP dX5_sick_21 ?_
      refine lv_if_eq (tgt := 42) hx hb dX5_sick_24 (by decide) (fun q => ?_) (fun q => ?_)
      · have hf := (if_pos q).symm.trans hf
        refine lv_bipush (v := -3) hx hb dX5_sick_42 (by decide) ?_
        obtain rfl := Option.some.inj hf
        exact W.iret hx hb hr (fun t ht _ => ⟨rfl, by rw [ht]; exact hP, hS.F ht⟩) hS.2.2 dX5_sick_44 hlk
      · have hf := (if_neg q).symm.trans hf
        refine lv_aload_n hx hb dX5_sick_27 rfl (lv_at hl 0 rfl) ?_
        refine gf_5_26 hx hb hE hown hP dX5_sick_28 ?_
        refine gf_5_76 hx hb hE hown hP dX5_sick_31 ?_
        refine lv_iload_n hx hb dX5_sick_34 rfl (lv_at hl 1 rfl) ?_
        obtain ⟨hi_3, hf⟩ := ck_some hf
        refine al_rank hx hb hE hP hi_3 dX5_sick_35 ?_
        refine gf_5_147 hx hb hE hown hP (vp_lt hi_3) dX5_sick_36 ?_
        refine lv_if_eq (tgt := 45) hx hb dX5_sick_39 (by decide) (fun q => ?_) (fun q => ?_)
        · have hf := (if_pos q).symm.trans hf
          refine lv_aload_n hx hb dX5_sick_45 rfl (lv_at hl 0 rfl) ?_
          refine gf_5_26 hx hb hE hown hP dX5_sick_46 ?_
          refine gf_5_76 hx hb hE hown hP dX5_sick_49 ?_
          refine lv_iload_n hx hb dX5_sick_52 rfl (lv_at hl 1 rfl) ?_
          obtain ⟨hi_4, hf⟩ := ck_some hf
          refine al_rank hx hb hE hP hi_4 dX5_sick_53 ?_
          refine lv_astore_n (lv' := [(3, .ref (a (14 + 3 * x1.toNatClampNeg))), (0, .ref (a 0)), (1, .int x1), (2, .int x2)]) hx hb dX5_sick_54 rfl hl (by decide) rfl (fun ls hl => ?_)
          refine lv_aload_n hx hb dX5_sick_55 rfl (lv_at hl 0 rfl) ?_
          refine gf_5_144 hx hb hE hown hP (vp_lt hi_4) dX5_sick_56 ?_
          refine lv_aload_n hx hb dX5_sick_59 rfl (lv_at hl 1 rfl) ?_
          refine gf_5_12 hx hb hE hown hP dX5_sick_60 ?_
          refine lv_iload_n hx hb dX5_sick_63 rfl (lv_at hl 3 rfl) ?_
          refine lv_bipush (v := 14) hx hb dX5_sick_64 (by decide) ?_
          obtain ⟨r_5, hc, hf⟩ := bnd hf
          refine rdV X (c_X1_beginning l d a z x2 (14 : Int32) hc) (k_X5_186 hE rfl rfl ⟨Nat.le_of_ble_eq_true rfl, Nat.le_of_ble_eq_true rfl⟩) hP (va_recv (q := (RX1, TX1, 7)) hE.2 hP (ci := 1) (q0 := 1) rfl rfl) rfl hl.1 rfl (Nat.le_of_ble_eq_true rfl) dX5_sick_66 ?_
          refine lv_iand hx hb dX5_sick_69 ?_
          refine lv_istore (lv' := [(4, .int ((z.1 (14 + 6 * x1.toNatClampNeg)) &&& r_5)), (3, .ref (a (14 + 3 * x1.toNatClampNeg))), (0, .ref (a 0)), (1, .int x1), (2, .int x2)]) hx hb dX5_sick_70 hl (by decide) rfl (fun ls hl => ?_)
          refine lv_aload_n hx hb dX5_sick_72 rfl (lv_at hl 1 rfl) ?_
          refine lv_iconst (v := 1) hx hb dX5_sick_73 (by decide) ?_
          refine pf_5_147 hx hb hE hown hP hJ hS (vp_lt hi_4) rfl rfl dX5_sick_74 (fun H locs hP hS => ?_)
          refine lv_aload_n hx hb dX5_sick_77 rfl (lv_at hl 1 rfl) ?_
          refine lv_dup hx hb dX5_sick_78 rfl ?_
          refine gf_5_144 hx hb hE hown hP (vp_lt hi_4) dX5_sick_79 ?_
          refine lv_iload hx hb dX5_sick_82 (lv_at hl 0 rfl) ?_
          refine lv_iconst (v := -1) hx hb dX5_sick_84 (by decide) ?_
          refine lv_ixor hx hb dX5_sick_85 ?_
          refine lv_iand hx hb dX5_sick_86 ?_
          refine pf_5_144 hx hb hE hown hP hJ hS (vp_lt hi_4) dX5_sick_87 (fun H locs hP hS => ?_)
          refine lv_iconst (v := 0) hx hb dX5_sick_90 (by decide) ?_
          refine lv_istore (lv' := [(5, .int (0 : Int32)), (4, .int ((z.1 (14 + 6 * x1.toNatClampNeg)) &&& r_5)), (3, .ref (a (14 + 3 * x1.toNatClampNeg))), (0, .ref (a 0)), (1, .int x1), (2, .int x2)]) hx hb dX5_sick_91 hl (by decide) rfl (fun ls hl => ?_)
          exact u_X5_sick_93 X hJ hr hlk ((z.1 (14 + 6 * x1.toNatClampNeg)) &&& r_5) (0 : Int32) (pS (pS z (15 + 6 * x1.toNatClampNeg) (1 : Int32)) (14 + 6 * x1.toNatClampNeg) (((pS z (15 + 6 * x1.toNatClampNeg) (1 : Int32)).1 (14 + 6 * x1.toNatClampNeg)) &&& (((z.1 (14 + 6 * x1.toNatClampNeg)) &&& r_5) ^^^ (-1 : Int32)))) hf H locs ls hP hS (lv_sub hl [3, 1, 0] rfl)
        · have hf := (if_neg q).symm.trans hf
          refine lv_bipush (v := -3) hx hb dX5_sick_42 (by decide) ?_
          obtain rfl := Option.some.inj hf
          exact W.iret hx hb hr (fun t ht _ => ⟨rfl, by rw [ht]; exact hP, hS.F ht⟩) hS.2.2 dX5_sick_44 hlk
    · have hf := (if_pos q).symm.trans hf
      refine lv_iconst (v := -1) hx hb dX5_sick_18 (by decide) ?_
      obtain rfl := Option.some.inj hf
      exact W.iret hx hb hr (fun t ht _ => ⟨rfl, by rw [ht]; exact hP, hS.F ht⟩) hS.2.2 dX5_sick_19 hlk
set_option maxHeartbeats 4000000 in
set_option maxRecDepth 100000 in
theorem c_X5_sick (l : Launch) (d : G3) (a : Nat → Nat) (z : St) (x1 : Int32) (x2 : Int32) {RR : Int32 × St} (hf : f_X5_sick x1 x2 z = some RR) : Met l yX5_sick [Cond.code yX5_sick cX5_sick 6 (some .int)] { frames := 3, cells := 0, slots := 0, locals := 70 } (wpre wC 26 d a z [.ref (a 0), .int x1, .int x2]) (QW wC 26 d a RR) 0 0 (AD 26 a) := by
  refine Met.ofW (cc := cX5_sick) (maxL := 6) (ret := (some .int)) (by decide) rfl ?_
  intro p e s m args below meth c s₁ B hml hv
  obtain ⟨rfl, hE, hP, hJ⟩ := hv
  have X : Cx p s m c cX5_sick RX5 6 d := ⟨B.exec, B.bytes, hml, findClass_of_methodNamed B.named, hE⟩
  have hl := lv_entry ([.ref (a 0), .int x1, .int x2]) (n := 6) (Nat.le_of_ble_eq_true rfl)
  rw [lg_entry_eq]
  generalize (lg_sl ([.ref (a 0), .int x1, .int x2]) ++ List.replicate (6 - (lg_sl ([.ref (a 0), .int x1, .int x2])).length) Slot.unset).toArray = ls at hl ⊢
  have hl : lv_has ls 6 [(0, .ref (a 0)), (1, .int x1), (2, .int x2)] := hl
  exact t_X5_sick X hJ B.returns B.notSynchronized x1 x2 z hf s.heap [] ls hP va_S.rf hl
def f_X5_who_25 (z : St) (k25 : Int32 → Int32 → Option (Int32)) (x1 : Int32) (x2 : Int32) : Option (Int32) := (if (z.1 4) ≤ x2 then some (-1 : Int32) else ck 4 x2 ((f_X5_isIn z x1 (z.1 (14 + 6 * x2.toNatClampNeg))).bind (fun r_2 => (if r_2 = (0 : Int32) then k25 x1 (x2 + (1 : Int32)) else some x2))))
def l_X5_who_25 (z : St) : Int32 → Int32 → Option (Int32) := iter (fun _ _ => none) (f_X5_who_25 z) FU
set_option maxHeartbeats 4000000 in
set_option maxRecDepth 100000 in
theorem t_X5_who_25 {RR : Int32} (X : Cx p s m c cX5_who RX5 3 d) {z : St} (hP : va_P d.1 classes (wC d a z) s.heap) (hr : meth.sig.returnType = (some .int)) (hlk : meth.locks = false) {k25 : Int32 → Int32 → Option (Int32)} (hk25 : ∀ (x1 : Int32) (x2 : Int32), k25 x1 x2 = some RR → WRd p l e { frames := 2, cells := 0, slots := 0, locals := 43 } s m args below meth c RR 3 [(0, .ref (a 0)), (1, .int x1), (2, .int x2)] 25 []) : ∀ (x1 : Int32) (x2 : Int32), f_X5_who_25 z k25 x1 x2 = some RR → WRd p l e { frames := 2, cells := 0, slots := 0, locals := 43 } s m args below meth c RR 3 [(0, .ref (a 0)), (1, .int x1), (2, .int x2)] 25 [] := by
  intro x1 x2 hf ls hl
  obtain ⟨hx, hb, hml, hown, hE⟩ := id X
  unfold f_X5_who_25 at hf
  refine lv_iload_n hx hb dX5_who_25 rfl (lv_at hl 2 rfl) ?_
  refine lv_aload_n hx hb dX5_who_26 rfl (lv_at hl 0 rfl) ?_
  refine gf_5_26 hx hb hE hown hP dX5_who_27 ?_
  refine gf_5_58 hx hb hE hown hP dX5_who_30 ?_
  refine lv_icmp_ge (tgt := 63) hx hb dX5_who_33 (by decide) (fun q => ?_) (fun q => ?_)
  · have hf := (if_pos q).symm.trans hf
    refine lv_iconst (v := -1) hx hb dX5_who_63 (by decide) ?_
    obtain rfl := Option.some.inj hf
    exact W.iret hx hb hr (fun t ht _ => ⟨rfl, ht⟩) (fun _ h => nomatch h) dX5_who_64 hlk
  · have hf := (if_neg q).symm.trans hf
    refine lv_iload_n hx hb dX5_who_36 rfl (lv_at hl 1 rfl) ?_
    refine lv_aload_n hx hb dX5_who_37 rfl (lv_at hl 0 rfl) ?_
    refine gf_5_26 hx hb hE hown hP dX5_who_38 ?_
    refine gf_5_76 hx hb hE hown hP dX5_who_41 ?_
    refine lv_iload_n hx hb dX5_who_44 rfl (lv_at hl 2 rfl) ?_
    obtain ⟨hi_1, hf⟩ := ck_some hf
    refine al_rank hx hb hE hP hi_1 dX5_who_45 ?_
    refine gf_5_144 hx hb hE hown hP (vp_lt hi_1) dX5_who_46 ?_
    obtain ⟨r_2, hc, hf⟩ := bnd hf
    refine rdS X (c_X5_isIn l d a z x1 (z.1 (14 + 6 * x2.toNatClampNeg)) hc) (k_X5_189 hE rfl rfl ⟨Nat.le_of_ble_eq_true rfl, Nat.le_of_ble_eq_true rfl⟩) hP rfl hl.1 rfl (Nat.le_of_ble_eq_true rfl) dX5_who_49 ?_
    refine lv_if_eq (tgt := 57) hx hb dX5_who_52 (by decide) (fun q => ?_) (fun q => ?_)
    · have hf := (if_pos q).symm.trans hf
      refine lv_iinc (v := (x2 + (1 : Int32))) (lv' := [(2, .int (x2 + (1 : Int32))), (0, .ref (a 0)), (1, .int x1)]) hx hb dX5_who_57 hl (k := 2) rfl rfl (by decide) rfl (fun ls hl => ?_)
      refine lv_goto (tgt := 25) hx hb dX5_who_60 (by decide) ?_
      exact hk25 x1 (x2 + (1 : Int32)) hf ls (lv_sub hl [1, 2, 0] rfl)
    · have hf := (if_neg q).symm.trans hf
      refine lv_iload_n hx hb dX5_who_55 rfl (lv_at hl 2 rfl) ?_
      obtain rfl := Option.some.inj hf
      exact W.iret hx hb hr (fun t ht _ => ⟨rfl, ht⟩) (fun _ h => nomatch h) dX5_who_56 hlk
theorem u_X5_who_25 {RR : Int32} (X : Cx p s m c cX5_who RX5 3 d) {z : St} (hP : va_P d.1 classes (wC d a z) s.heap) (hr : meth.sig.returnType = (some .int)) (hlk : meth.locks = false) : ∀ (x1 : Int32) (x2 : Int32), l_X5_who_25 z x1 x2 = some RR → WRd p l e { frames := 2, cells := 0, slots := 0, locals := 43 } s m args below meth c RR 3 [(0, .ref (a 0)), (1, .int x1), (2, .int x2)] 25 [] := by
  unfold l_X5_who_25
  generalize FU = n
  induction n with
  | zero => intro x1 x2 hf; exact absurd (show (none : Option (Int32)) = some RR from hf) (by simp)
  | succ n ih => exact t_X5_who_25 X hP hr hlk ih
def f_X5_who (z : St) (x1 : Int32) : Option (Int32) := (f_X1_has z x1).bind (fun r_1 => (if r_1 = (0 : Int32) then some (-1 : Int32) else (if (z.1 0) = (0 : Int32) then some (-3 : Int32) else l_X5_who_25 z x1 (0 : Int32))))
set_option maxHeartbeats 4000000 in
set_option maxRecDepth 100000 in
theorem t_X5_who {RR : Int32} (X : Cx p s m c cX5_who RX5 3 d) {z : St} (hP : va_P d.1 classes (wC d a z) s.heap) (hr : meth.sig.returnType = (some .int)) (hlk : meth.locks = false) : ∀ (x1 : Int32), f_X5_who z x1 = some RR → WRd p l e { frames := 2, cells := 0, slots := 0, locals := 43 } s m args below meth c RR 3 [(0, .ref (a 0)), (1, .int x1)] 0 [] := by
  intro x1 hf ls hl
  obtain ⟨hx, hb, hml, hown, hE⟩ := id X
  unfold f_X5_who at hf
  refine lv_aload_n hx hb dX5_who_0 rfl (lv_at hl 0 rfl) ?_
  refine gf_5_12 hx hb hE hown hP dX5_who_1 ?_
  refine lv_iload_n hx hb dX5_who_4 rfl (lv_at hl 1 rfl) ?_
  obtain ⟨r_1, hc, hf⟩ := bnd hf
  refine rdV X (c_X1_has l d a z x1 hc) (k_X5_75 hE rfl rfl ⟨Nat.le_of_ble_eq_true rfl, Nat.le_of_ble_eq_true rfl⟩) hP (va_recv (q := (RX1, TX1, 7)) hE.2 hP (ci := 1) (q0 := 1) rfl rfl) rfl hl.1 rfl (Nat.le_of_ble_eq_true rfl) dX5_who_5 ?_
  refine lv_if_ne (tgt := 13) hx hb dX5_who_8 (by decide) (fun q => ?_) (fun q => ?_)
  · have hf := (if_neg q).symm.trans hf
    refine lv_aload_n hx hb dX5_who_13 rfl (lv_at hl 0 rfl) ?_
    refine gf_5_85 hx hb hE hown hP dX5_who_14 ?_
    refine lv_if_ne (tgt := 23) hx hb dX5_who_17 (by decide) (fun q => ?_) (fun q => ?_)
    · have hf := (if_neg q).symm.trans hf
      refine lv_iconst (v := 0) hx hb dX5_who_23 (by decide) ?_
      refine lv_istore_n (lv' := [(2, .int (0 : Int32)), (0, .ref (a 0)), (1, .int x1)]) hx hb dX5_who_24 rfl hl (by decide) rfl (fun ls hl => ?_)
      exact u_X5_who_25 X hP hr hlk x1 (0 : Int32) hf ls (lv_sub hl [1, 2, 0] rfl)
    · have hf := (if_pos q).symm.trans hf
      refine lv_bipush (v := -3) hx hb dX5_who_20 (by decide) ?_
      obtain rfl := Option.some.inj hf
      exact W.iret hx hb hr (fun t ht _ => ⟨rfl, ht⟩) (fun _ h => nomatch h) dX5_who_22 hlk
  · have hf := (if_pos q).symm.trans hf
    refine lv_iconst (v := -1) hx hb dX5_who_11 (by decide) ?_
    obtain rfl := Option.some.inj hf
    exact W.iret hx hb hr (fun t ht _ => ⟨rfl, ht⟩) (fun _ h => nomatch h) dX5_who_12 hlk
set_option maxHeartbeats 4000000 in
set_option maxRecDepth 100000 in
theorem c_X5_who (l : Launch) (d : G3) (a : Nat → Nat) (z : St) (x1 : Int32) {RR : Int32} (hf : f_X5_who z x1 = some RR) : Met l yX5_who [Cond.code yX5_who cX5_who 3 (some .int)] { frames := 2, cells := 0, slots := 0, locals := 43 } (rpre wC d a z [.ref (a 0), .int x1]) (QcRead RR) 0 0 (fun _ => False) := by
  refine Met.ofW (cc := cX5_who) (maxL := 3) (ret := (some .int)) (by decide) rfl ?_
  intro p e s m args below meth c s₁ B hml hv
  obtain ⟨rfl, hE, hP⟩ := hv
  have X : Cx p s m c cX5_who RX5 3 d := ⟨B.exec, B.bytes, hml, findClass_of_methodNamed B.named, hE⟩
  have hl := lv_entry ([.ref (a 0), .int x1]) (n := 3) (Nat.le_of_ble_eq_true rfl)
  rw [lg_entry_eq]
  generalize (lg_sl ([.ref (a 0), .int x1]) ++ List.replicate (3 - (lg_sl ([.ref (a 0), .int x1])).length) Slot.unset).toArray = ls at hl ⊢
  have hl : lv_has ls 3 [(0, .ref (a 0)), (1, .int x1)] := hl
  exact t_X5_who X hP B.returns B.notSynchronized x1 hf ls hl
def f_X5_count (z : St) (x1 : Int32) : Option (Int32) := (if x1 = 0 then some (z.1 3) else (if x1 = 1 then some (z.1 4) else (if x1 = 2 then (f_X2_allWishes z).bind (fun r_2 => some r_2) else (if x1 = 3 then (if (z.1 0) = (0 : Int32) then some (-3 : Int32) else (f_X2_allWishesMet z).bind (fun r_1 => some r_1)) else (if x1 = 4 then (if (z.1 0) = (0 : Int32) then some (0 : Int32) else some (1 : Int32)) else some (-1 : Int32))))))
set_option maxHeartbeats 4000000 in
set_option maxRecDepth 100000 in
theorem t_X5_count {RR : Int32} (X : Cx p s m c cX5_count RX5 2 d) {z : St} (hP : va_P d.1 classes (wC d a z) s.heap) (hr : meth.sig.returnType = (some .int)) (hlk : meth.locks = false) : ∀ (x1 : Int32), f_X5_count z x1 = some RR → WRd p l e { frames := 6, cells := 0, slots := 0, locals := 136 } s m args below meth c RR 2 [(0, .ref (a 0)), (1, .int x1)] 0 [] := by
  intro x1 hf ls hl
  obtain ⟨hx, hb, hml, hown, hE⟩ := id X
  unfold f_X5_count at hf
  refine lv_iload_n hx hb dX5_count_0 rfl (lv_at hl 1 rfl) ?_
  by_cases q0 : x1 = 0
  · have hf := (if_pos q0).symm.trans hf
    refine lv_tableIn (tgt := 36) hx hb dX5_count_1 (by rw [q0]; decide) (by rw [q0]; decide) (by rw [q0]; rfl) (by decide) ?_
    refine lv_aload_n hx hb dX5_count_36 rfl (lv_at hl 0 rfl) ?_
    refine gf_5_12 hx hb hE hown hP dX5_count_37 ?_
    refine gf_5_47 hx hb hE hown hP dX5_count_40 ?_
    obtain rfl := Option.some.inj hf
    exact W.iret hx hb hr (fun t ht _ => ⟨rfl, ht⟩) (fun _ h => nomatch h) dX5_count_43 hlk
  · have hf := (if_neg q0).symm.trans hf
    by_cases q1 : x1 = 1
    · have hf := (if_pos q1).symm.trans hf
      refine lv_tableIn (tgt := 44) hx hb dX5_count_1 (by rw [q1]; decide) (by rw [q1]; decide) (by rw [q1]; rfl) (by decide) ?_
      refine lv_aload_n hx hb dX5_count_44 rfl (lv_at hl 0 rfl) ?_
      refine gf_5_26 hx hb hE hown hP dX5_count_45 ?_
      refine gf_5_58 hx hb hE hown hP dX5_count_48 ?_
      obtain rfl := Option.some.inj hf
      exact W.iret hx hb hr (fun t ht _ => ⟨rfl, ht⟩) (fun _ h => nomatch h) dX5_count_51 hlk
    · have hf := (if_neg q1).symm.trans hf
      by_cases q2 : x1 = 2
      · have hf := (if_pos q2).symm.trans hf
        refine lv_tableIn (tgt := 52) hx hb dX5_count_1 (by rw [q2]; decide) (by rw [q2]; decide) (by rw [q2]; rfl) (by decide) ?_
        refine lv_aload_n hx hb dX5_count_52 rfl (lv_at hl 0 rfl) ?_
        refine gf_5_26 hx hb hE hown hP dX5_count_53 ?_
        obtain ⟨r_2, hc, hf⟩ := bnd hf
        refine rdV X (c_X2_allWishes l d a z hc) (k_X5_196 hE rfl rfl ⟨Nat.le_of_ble_eq_true rfl, Nat.le_of_ble_eq_true rfl⟩) hP (va_recv (q := (RX2, TX2, 2)) hE.2 hP (ci := 2) (q0 := 9) rfl rfl) rfl hl.1 rfl (Nat.le_of_ble_eq_true rfl) dX5_count_56 ?_
        obtain rfl := Option.some.inj hf
        exact W.iret hx hb hr (fun t ht _ => ⟨rfl, ht⟩) (fun _ h => nomatch h) dX5_count_59 hlk
      · have hf := (if_neg q2).symm.trans hf
        by_cases q3 : x1 = 3
        · have hf := (if_pos q3).symm.trans hf
          refine lv_tableIn (tgt := 60) hx hb dX5_count_1 (by rw [q3]; decide) (by rw [q3]; decide) (by rw [q3]; rfl) (by decide) ?_
          refine lv_aload_n hx hb dX5_count_60 rfl (lv_at hl 0 rfl) ?_
          refine gf_5_85 hx hb hE hown hP dX5_count_61 ?_
          refine lv_if_eq (tgt := 81) hx hb dX5_count_64 (by decide) (fun q => ?_) (fun q => ?_)
          · have hf := (if_pos q).symm.trans hf
            refine lv_bipush (v := -3) hx hb dX5_count_81 (by decide) ?_
            obtain rfl := Option.some.inj hf
            exact W.iret hx hb hr (fun t ht _ => ⟨rfl, ht⟩) (fun _ h => nomatch h) dX5_count_83 hlk
          · have hf := (if_neg q).symm.trans hf
            refine lv_aload_n hx hb dX5_count_67 rfl (lv_at hl 0 rfl) ?_
            refine gf_5_26 hx hb hE hown hP dX5_count_68 ?_
            refine lv_aload_n hx hb dX5_count_71 rfl (lv_at hl 0 rfl) ?_
            refine gf_5_12 hx hb hE hown hP dX5_count_72 ?_
            obtain ⟨r_1, hc, hf⟩ := bnd hf
            refine rdV X (c_X2_allWishesMet l d a z hc) (k_X5_199 hE rfl rfl ⟨Nat.le_of_ble_eq_true rfl, Nat.le_of_ble_eq_true rfl⟩) hP (va_recv (q := (RX2, TX2, 2)) hE.2 hP (ci := 2) (q0 := 9) rfl rfl) rfl hl.1 rfl (Nat.le_of_ble_eq_true rfl) dX5_count_75 ?_
            refine lv_goto (tgt := 83) hx hb dX5_count_78 (by decide) ?_
            obtain rfl := Option.some.inj hf
            exact W.iret hx hb hr (fun t ht _ => ⟨rfl, ht⟩) (fun _ h => nomatch h) dX5_count_83 hlk
        · have hf := (if_neg q3).symm.trans hf
          by_cases q4 : x1 = 4
          · have hf := (if_pos q4).symm.trans hf
            refine lv_tableIn (tgt := 84) hx hb dX5_count_1 (by rw [q4]; decide) (by rw [q4]; decide) (by rw [q4]; rfl) (by decide) ?_
            refine lv_aload_n hx hb dX5_count_84 rfl (lv_at hl 0 rfl) ?_
            refine gf_5_85 hx hb hE hown hP dX5_count_85 ?_
            refine lv_if_eq (tgt := 95) hx hb dX5_count_88 (by decide) (fun q => ?_) (fun q => ?_)
            · have hf := (if_pos q).symm.trans hf
              refine lv_iconst (v := 0) hx hb dX5_count_95 (by decide) ?_
              obtain rfl := Option.some.inj hf
              exact W.iret hx hb hr (fun t ht _ => ⟨rfl, ht⟩) (fun _ h => nomatch h) dX5_count_96 hlk
            · have hf := (if_neg q).symm.trans hf
              refine lv_iconst (v := 1) hx hb dX5_count_91 (by decide) ?_
              refine lv_goto (tgt := 96) hx hb dX5_count_92 (by decide) ?_
              obtain rfl := Option.some.inj hf
              exact W.iret hx hb hr (fun t ht _ => ⟨rfl, ht⟩) (fun _ h => nomatch h) dX5_count_96 hlk
          · have hf := (if_neg q4).symm.trans hf
            refine lv_tableOut (tgt := 97) hx hb dX5_count_1 (sw4 q0 q1 q2 q3 q4) (by decide) ?_
            refine lv_iconst (v := -1) hx hb dX5_count_97 (by decide) ?_
            obtain rfl := Option.some.inj hf
            exact W.iret hx hb hr (fun t ht _ => ⟨rfl, ht⟩) (fun _ h => nomatch h) dX5_count_98 hlk
set_option maxHeartbeats 4000000 in
set_option maxRecDepth 100000 in
theorem c_X5_count (l : Launch) (d : G3) (a : Nat → Nat) (z : St) (x1 : Int32) {RR : Int32} (hf : f_X5_count z x1 = some RR) : Met l yX5_count [Cond.code yX5_count cX5_count 2 (some .int)] { frames := 6, cells := 0, slots := 0, locals := 136 } (rpre wC d a z [.ref (a 0), .int x1]) (QcRead RR) 0 0 (fun _ => False) := by
  refine Met.ofW (cc := cX5_count) (maxL := 2) (ret := (some .int)) (by decide) rfl ?_
  intro p e s m args below meth c s₁ B hml hv
  obtain ⟨rfl, hE, hP⟩ := hv
  have X : Cx p s m c cX5_count RX5 2 d := ⟨B.exec, B.bytes, hml, findClass_of_methodNamed B.named, hE⟩
  have hl := lv_entry ([.ref (a 0), .int x1]) (n := 2) (Nat.le_of_ble_eq_true rfl)
  rw [lg_entry_eq]
  generalize (lg_sl ([.ref (a 0), .int x1]) ++ List.replicate (2 - (lg_sl ([.ref (a 0), .int x1])).length) Slot.unset).toArray = ls at hl ⊢
  have hl : lv_has ls 2 [(0, .ref (a 0)), (1, .int x1)] := hl
  exact t_X5_count X hP B.returns B.notSynchronized x1 hf ls hl
end GEN
