section GEN
variable {p : Program} {l : Launch} {e : Env} {s : State} {m : MethodId} {args : Array Value} {below : List Frame} {meth : Method} {c : Code} {d : G3} {a : Nat → Nat}
def f_X6_person (x1 : Int32) (x2 : Int32) (z : St) : Option (Int32 × St) := (if x1 < (0 : Int32) then some ((-2 : Int32), z) else (if (15 : Int32) < x1 then some ((-2 : Int32), z) else (if x2 < (0 : Int32) then some ((-2 : Int32), z) else (if x2 ≤ (200 : Int32) then (if (z.1 1) = (4 : Int32) then some ((-4 : Int32), z) else ck 4 (z.1 1) (ck 4 ((pA z 5 (z.1 1).toNatClampNeg x1).1 1) (ck 4 ((pA (pA z 5 (z.1 1).toNatClampNeg x1) 6 ((pA z 5 (z.1 1).toNatClampNeg x1).1 1).toNatClampNeg x2).1 1) ((f_X6_changed (pA (pA (pA z 5 (z.1 1).toNatClampNeg x1) 6 ((pA z 5 (z.1 1).toNatClampNeg x1).1 1).toNatClampNeg x2) 7 ((pA (pA z 5 (z.1 1).toNatClampNeg x1) 6 ((pA z 5 (z.1 1).toNatClampNeg x1).1 1).toNatClampNeg x2).1 1).toNatClampNeg (0 : Int32))).bind (fun r_1 => some ((r_1.1 1), (pS r_1 1 ((r_1.1 1) + (1 : Int32))))))))) else some ((-2 : Int32), z)))))
set_option maxHeartbeats 4000000 in
set_option maxRecDepth 100000 in
theorem t_X6_person {RR : Int32 × St} (X : Cx p s m c cX6_person RX6 3 d) (hJ : Inj 20 a) (hr : meth.sig.returnType = (some .int)) (hlk : meth.locks = false) : ∀ (x1 : Int32) (x2 : Int32) (z : St), f_X6_person x1 x2 z = some RR → WWr wM 20 d a p l e { frames := 1, cells := 0, slots := 0, locals := 20 } s m args below meth c RR z 3 [(0, .ref (a 0)), (1, .int x1), (2, .int x2)] 0 [] := by
  intro x1 x2 z hf H locs ls hP hS hl
  obtain ⟨hx, hb, hml, hown, hE⟩ := id X
  unfold f_X6_person at hf
  refine lv_iload_n hx hb dX6_person_0 rfl (lv_at hl 1 rfl) ?_
  refine lv_if_lt (tgt := 21) hx hb dX6_person_1 (by decide) (fun q => ?_) (fun q => ?_)
  · have hf := (if_pos q).symm.trans hf
    refine lv_bipush (v := -2) hx hb dX6_person_21 (by decide) ?_
    obtain rfl := Option.some.inj hf
    exact W.iret hx hb hr (fun t ht _ => ⟨rfl, by rw [ht]; exact hP, hS.F ht⟩) hS.2.2 dX6_person_23 hlk
  · have hf := (if_neg q).symm.trans hf
    refine lv_iload_n hx hb dX6_person_4 rfl (lv_at hl 1 rfl) ?_
    refine lv_bipush (v := 15) hx hb dX6_person_5 (by decide) ?_
    refine lv_icmp_gt (tgt := 21) hx hb dX6_person_7 (by decide) (fun q => ?_) (fun q => ?_)
    · have hf := (if_pos q).symm.trans hf
      refine lv_bipush (v := -2) hx hb dX6_person_21 (by decide) ?_
      obtain rfl := Option.some.inj hf
      exact W.iret hx hb hr (fun t ht _ => ⟨rfl, by rw [ht]; exact hP, hS.F ht⟩) hS.2.2 dX6_person_23 hlk
    · have hf := (if_neg q).symm.trans hf
      refine lv_iload_n hx hb dX6_person_10 rfl (lv_at hl 2 rfl) ?_
      refine lv_if_lt (tgt := 21) hx hb dX6_person_11 (by decide) (fun q => ?_) (fun q => ?_)
      · have hf := (if_pos q).symm.trans hf
        refine lv_bipush (v := -2) hx hb dX6_person_21 (by decide) ?_
        obtain rfl := Option.some.inj hf
        exact W.iret hx hb hr (fun t ht _ => ⟨rfl, by rw [ht]; exact hP, hS.F ht⟩) hS.2.2 dX6_person_23 hlk
      · have hf := (if_neg q).symm.trans hf
        refine lv_iload_n hx hb dX6_person_14 rfl (lv_at hl 2 rfl) ?_
        refine lv_sipush (v := 200) hx hb dX6_person_15 (by decide) ?_
        refine lv_icmp_le (tgt := 24) hx hb dX6_person_18 (by decide) (fun q => ?_) (fun q => ?_)
        · have hf := (if_pos q).symm.trans hf
          refine lv_aload_n hx hb dX6_person_24 rfl (lv_at hl 0 rfl) ?_
          refine gf_6_81 hx hb hE hown hP dX6_person_25 ?_
          refine lv_iconst (v := 4) hx hb dX6_person_28 (by decide) ?_
          refine lv_icmp_ne (tgt := 35) hx hb dX6_person_29 (by decide) (fun q => ?_) (fun q => ?_)
          · have hf := (if_neg q).symm.trans hf
            refine lv_aload_n hx hb dX6_person_35 rfl (lv_at hl 0 rfl) ?_
            refine gf_6_25 hx hb hE hown hP dX6_person_36 ?_
            refine lv_aload_n hx hb dX6_person_39 rfl (lv_at hl 0 rfl) ?_
            refine gf_6_81 hx hb hE hown hP dX6_person_40 ?_
            refine lv_iload_n hx hb dX6_person_43 rfl (lv_at hl 1 rfl) ?_
            obtain ⟨hi, hf⟩ := ck_some hf
            refine st_M_6 hx hb hE hP hJ hS hi dX6_person_44 (fun H locs hP hS => ?_)
            refine lv_aload_n hx hb dX6_person_45 rfl (lv_at hl 0 rfl) ?_
            refine gf_6_28 hx hb hE hown hP dX6_person_46 ?_
            refine lv_aload_n hx hb dX6_person_49 rfl (lv_at hl 0 rfl) ?_
            refine gf_6_81 hx hb hE hown hP dX6_person_50 ?_
            refine lv_iload_n hx hb dX6_person_53 rfl (lv_at hl 2 rfl) ?_
            obtain ⟨hi, hf⟩ := ck_some hf
            refine st_M_7 hx hb hE hP hJ hS hi dX6_person_54 (fun H locs hP hS => ?_)
            refine lv_aload_n hx hb dX6_person_55 rfl (lv_at hl 0 rfl) ?_
            refine gf_6_31 hx hb hE hown hP dX6_person_56 ?_
            refine lv_aload_n hx hb dX6_person_59 rfl (lv_at hl 0 rfl) ?_
            refine gf_6_81 hx hb hE hown hP dX6_person_60 ?_
            refine lv_iconst (v := 0) hx hb dX6_person_63 (by decide) ?_
            obtain ⟨hi, hf⟩ := ck_some hf
            refine st_M_8 hx hb hE hP hJ hS hi dX6_person_64 (fun H locs hP hS => ?_)
            refine lv_aload_n hx hb dX6_person_65 rfl (lv_at hl 0 rfl) ?_
            obtain ⟨r_1, hc, hf⟩ := bnd hf
            refine wrVv X (c_X6_changed l d a (pA (pA (pA z 5 (z.1 1).toNatClampNeg x1) 6 ((pA z 5 (z.1 1).toNatClampNeg x1).1 1).toNatClampNeg x2) 7 ((pA (pA z 5 (z.1 1).toNatClampNeg x1) 6 ((pA z 5 (z.1 1).toNatClampNeg x1).1 1).toNatClampNeg x2).1 1).toNatClampNeg (0 : Int32)) hc) (k_X6_98 hE rfl rfl ⟨Nat.le_of_ble_eq_true rfl, Nat.le_of_ble_eq_true rfl⟩) hP hJ hS (va_recv (q := (RX6, TX6, 28)) hE.2 hP (ci := 6) (q0 := 0) rfl rfl) rfl hl.1 rfl (Nat.le_of_ble_eq_true rfl) dX6_person_66 (fun H locs hP hS => ?_)
            refine lv_aload_n hx hb dX6_person_69 rfl (lv_at hl 0 rfl) ?_
            refine lv_dup hx hb dX6_person_70 rfl ?_
            refine gf_6_81 hx hb hE hown hP dX6_person_71 ?_
            refine lv_dup_x1 hx hb dX6_person_74 rfl rfl ?_
            refine lv_iconst (v := 1) hx hb dX6_person_75 (by decide) ?_
            refine lv_iadd hx hb dX6_person_76 ?_
            refine pf_6_81 hx hb hE hown hP hJ hS dX6_person_77 (fun H locs hP hS => ?_)
            obtain rfl := Option.some.inj hf
            exact W.iret hx hb hr (fun t ht _ => ⟨rfl, by rw [ht]; exact hP, hS.F ht⟩) hS.2.2 dX6_person_80 hlk
          · have hf := (if_pos q).symm.trans hf
            refine lv_bipush (v := -4) hx hb dX6_person_32 (by decide) ?_
            obtain rfl := Option.some.inj hf
            exact W.iret hx hb hr (fun t ht _ => ⟨rfl, by rw [ht]; exact hP, hS.F ht⟩) hS.2.2 dX6_person_34 hlk
        · have hf := (if_neg q).symm.trans hf
          refine lv_bipush (v := -2) hx hb dX6_person_21 (by decide) ?_
          obtain rfl := Option.some.inj hf
          exact W.iret hx hb hr (fun t ht _ => ⟨rfl, by rw [ht]; exact hP, hS.F ht⟩) hS.2.2 dX6_person_23 hlk
set_option maxHeartbeats 4000000 in
set_option maxRecDepth 100000 in
theorem c_X6_person (l : Launch) (d : G3) (a : Nat → Nat) (z : St) (x1 : Int32) (x2 : Int32) {RR : Int32 × St} (hf : f_X6_person x1 x2 z = some RR) : Met l yX6_person [Cond.code yX6_person cX6_person 3 (some .int)] { frames := 1, cells := 0, slots := 0, locals := 20 } (wpre wM 20 d a z [.ref (a 0), .int x1, .int x2]) (QW wM 20 d a RR) 0 0 (AD 20 a) := by
  refine Met.ofW (cc := cX6_person) (maxL := 3) (ret := (some .int)) (by decide) rfl ?_
  intro p e s m args below meth c s₁ B hml hv
  obtain ⟨rfl, hE, hP, hJ⟩ := hv
  have X : Cx p s m c cX6_person RX6 3 d := ⟨B.exec, B.bytes, hml, findClass_of_methodNamed B.named, hE⟩
  have hl := lv_entry ([.ref (a 0), .int x1, .int x2]) (n := 3) (Nat.le_of_ble_eq_true rfl)
  rw [lg_entry_eq]
  generalize (lg_sl ([.ref (a 0), .int x1, .int x2]) ++ List.replicate (3 - (lg_sl ([.ref (a 0), .int x1, .int x2])).length) Slot.unset).toArray = ls at hl ⊢
  have hl : lv_has ls 3 [(0, .ref (a 0)), (1, .int x1), (2, .int x2)] := hl
  exact t_X6_person X hJ B.returns B.notSynchronized x1 x2 z hf s.heap [] ls hP va_S.rf hl
def f_X6_rule_93 (x1 : Int32) (x2 : Int32) (s0 : Int32) (z : St) : Option (Int32 × St) := (if x1 = (0 : Int32) then (f_X6_changed (pS z 2 x2)).bind (fun r_4 => some (s0, r_4)) else (if x1 = (1 : Int32) then (f_X6_changed (pS z 3 x2)).bind (fun r_3 => some (s0, r_3)) else (if x1 = (2 : Int32) then (f_X6_changed (pS z 4 x2)).bind (fun r_2 => some (s0, r_2)) else (f_X6_changed (pS z 5 x2)).bind (fun r_1 => some (s0, r_1)))))
set_option maxHeartbeats 4000000 in
set_option maxRecDepth 100000 in
theorem t_X6_rule_93 {RR : Int32 × St} (X : Cx p s m c cX6_rule RX6 4 d) (hJ : Inj 20 a) (hr : meth.sig.returnType = (some .int)) (hlk : meth.locks = false) : ∀ (x1 : Int32) (x2 : Int32) (s0 : Int32) (z : St), f_X6_rule_93 x1 x2 s0 z = some RR → WWr wM 20 d a p l e { frames := 1, cells := 0, slots := 0, locals := 20 } s m args below meth c RR z 4 [(0, .ref (a 0)), (1, .int x1), (2, .int x2)] 93 [.int s0] := by
  intro x1 x2 s0 z hf H locs ls hP hS hl
  obtain ⟨hx, hb, hml, hown, hE⟩ := id X
  unfold f_X6_rule_93 at hf
  refine lv_istore_n (lv' := [(3, .int s0), (0, .ref (a 0)), (1, .int x1), (2, .int x2)]) hx hb dX6_rule_93 rfl hl (by decide) rfl (fun ls hl => ?_)
  refine lv_iload_n hx hb dX6_rule_94 rfl (lv_at hl 2 rfl) ?_
  refine lv_if_ne (tgt := 106) hx hb dX6_rule_95 (by decide) (fun q => ?_) (fun q => ?_)
  · have hf := (if_neg q).symm.trans hf
    refine lv_iload_n hx hb dX6_rule_106 rfl (lv_at hl 2 rfl) ?_
    refine lv_iconst (v := 1) hx hb dX6_rule_107 (by decide) ?_
    refine lv_icmp_ne (tgt := 119) hx hb dX6_rule_108 (by decide) (fun q => ?_) (fun q => ?_)
    · have hf := (if_neg q).symm.trans hf
      refine lv_iload_n hx hb dX6_rule_119 rfl (lv_at hl 2 rfl) ?_
      refine lv_iconst (v := 2) hx hb dX6_rule_120 (by decide) ?_
      refine lv_icmp_ne (tgt := 132) hx hb dX6_rule_121 (by decide) (fun q => ?_) (fun q => ?_)
      · have hf := (if_neg q).symm.trans hf
        refine lv_aload_n hx hb dX6_rule_132 rfl (lv_at hl 1 rfl) ?_
        refine lv_iload_n hx hb dX6_rule_133 rfl (lv_at hl 3 rfl) ?_
        refine pf_6_50 hx hb hE hown hP hJ hS dX6_rule_134 (fun H locs hP hS => ?_)
        refine lv_aload_n hx hb dX6_rule_137 rfl (lv_at hl 1 rfl) ?_
        obtain ⟨r_1, hc, hf⟩ := bnd hf
        refine wrVv X (c_X6_changed l d a (pS z 5 x2) hc) (k_X6_98 hE rfl rfl ⟨Nat.le_of_ble_eq_true rfl, Nat.le_of_ble_eq_true rfl⟩) hP hJ hS (va_recv (q := (RX6, TX6, 28)) hE.2 hP (ci := 6) (q0 := 0) rfl rfl) rfl hl.1 rfl (Nat.le_of_ble_eq_true rfl) dX6_rule_138 (fun H locs hP hS => ?_)
        refine lv_iload_n hx hb dX6_rule_141 rfl (lv_at hl 0 rfl) ?_
        obtain rfl := Option.some.inj hf
        exact W.iret hx hb hr (fun t ht _ => ⟨rfl, by rw [ht]; exact hP, hS.F ht⟩) hS.2.2 dX6_rule_142 hlk
      · have hf := (if_pos q).symm.trans hf
        refine lv_aload_n hx hb dX6_rule_124 rfl (lv_at hl 1 rfl) ?_
        refine lv_iload_n hx hb dX6_rule_125 rfl (lv_at hl 3 rfl) ?_
        refine pf_6_47 hx hb hE hown hP hJ hS dX6_rule_126 (fun H locs hP hS => ?_)
        refine lv_goto (tgt := 137) hx hb dX6_rule_129 (by decide) ?_
        refine lv_aload_n hx hb dX6_rule_137 rfl (lv_at hl 1 rfl) ?_
        obtain ⟨r_2, hc, hf⟩ := bnd hf
        refine wrVv X (c_X6_changed l d a (pS z 4 x2) hc) (k_X6_98 hE rfl rfl ⟨Nat.le_of_ble_eq_true rfl, Nat.le_of_ble_eq_true rfl⟩) hP hJ hS (va_recv (q := (RX6, TX6, 28)) hE.2 hP (ci := 6) (q0 := 0) rfl rfl) rfl hl.1 rfl (Nat.le_of_ble_eq_true rfl) dX6_rule_138 (fun H locs hP hS => ?_)
        refine lv_iload_n hx hb dX6_rule_141 rfl (lv_at hl 0 rfl) ?_
        obtain rfl := Option.some.inj hf
        exact W.iret hx hb hr (fun t ht _ => ⟨rfl, by rw [ht]; exact hP, hS.F ht⟩) hS.2.2 dX6_rule_142 hlk
    · have hf := (if_pos q).symm.trans hf
      refine lv_aload_n hx hb dX6_rule_111 rfl (lv_at hl 1 rfl) ?_
      refine lv_iload_n hx hb dX6_rule_112 rfl (lv_at hl 3 rfl) ?_
      refine pf_6_44 hx hb hE hown hP hJ hS dX6_rule_113 (fun H locs hP hS => ?_)
      refine lv_goto (tgt := 137) hx hb dX6_rule_116 (by decide) ?_
      refine lv_aload_n hx hb dX6_rule_137 rfl (lv_at hl 1 rfl) ?_
      obtain ⟨r_3, hc, hf⟩ := bnd hf
      refine wrVv X (c_X6_changed l d a (pS z 3 x2) hc) (k_X6_98 hE rfl rfl ⟨Nat.le_of_ble_eq_true rfl, Nat.le_of_ble_eq_true rfl⟩) hP hJ hS (va_recv (q := (RX6, TX6, 28)) hE.2 hP (ci := 6) (q0 := 0) rfl rfl) rfl hl.1 rfl (Nat.le_of_ble_eq_true rfl) dX6_rule_138 (fun H locs hP hS => ?_)
      refine lv_iload_n hx hb dX6_rule_141 rfl (lv_at hl 0 rfl) ?_
      obtain rfl := Option.some.inj hf
      exact W.iret hx hb hr (fun t ht _ => ⟨rfl, by rw [ht]; exact hP, hS.F ht⟩) hS.2.2 dX6_rule_142 hlk
  · have hf := (if_pos q).symm.trans hf
    refine lv_aload_n hx hb dX6_rule_98 rfl (lv_at hl 1 rfl) ?_
    refine lv_iload_n hx hb dX6_rule_99 rfl (lv_at hl 3 rfl) ?_
    refine pf_6_40 hx hb hE hown hP hJ hS dX6_rule_100 (fun H locs hP hS => ?_)
    refine lv_goto (tgt := 137) hx hb dX6_rule_103 (by decide) ?_
    refine lv_aload_n hx hb dX6_rule_137 rfl (lv_at hl 1 rfl) ?_
    obtain ⟨r_4, hc, hf⟩ := bnd hf
    refine wrVv X (c_X6_changed l d a (pS z 2 x2) hc) (k_X6_98 hE rfl rfl ⟨Nat.le_of_ble_eq_true rfl, Nat.le_of_ble_eq_true rfl⟩) hP hJ hS (va_recv (q := (RX6, TX6, 28)) hE.2 hP (ci := 6) (q0 := 0) rfl rfl) rfl hl.1 rfl (Nat.le_of_ble_eq_true rfl) dX6_rule_138 (fun H locs hP hS => ?_)
    refine lv_iload_n hx hb dX6_rule_141 rfl (lv_at hl 0 rfl) ?_
    obtain rfl := Option.some.inj hf
    exact W.iret hx hb hr (fun t ht _ => ⟨rfl, by rw [ht]; exact hP, hS.F ht⟩) hS.2.2 dX6_rule_142 hlk
def f_X6_rule_48 (x1 : Int32) (x2 : Int32) (s0 : Int32) (s1 : Int32) (z : St) : Option (Int32 × St) := (if s1 ≤ s0 then (if x1 = (0 : Int32) then f_X6_rule_93 x1 x2 (z.1 2) z else (if x1 = (1 : Int32) then f_X6_rule_93 x1 x2 (z.1 3) z else (if x1 = (2 : Int32) then f_X6_rule_93 x1 x2 (z.1 4) z else f_X6_rule_93 x1 x2 (z.1 5) z))) else some ((-2 : Int32), z))
set_option maxHeartbeats 4000000 in
set_option maxRecDepth 100000 in
theorem t_X6_rule_48 {RR : Int32 × St} (X : Cx p s m c cX6_rule RX6 4 d) (hJ : Inj 20 a) (hr : meth.sig.returnType = (some .int)) (hlk : meth.locks = false) : ∀ (x1 : Int32) (x2 : Int32) (s0 : Int32) (s1 : Int32) (z : St), f_X6_rule_48 x1 x2 s0 s1 z = some RR → WWr wM 20 d a p l e { frames := 1, cells := 0, slots := 0, locals := 20 } s m args below meth c RR z 4 [(0, .ref (a 0)), (1, .int x1), (2, .int x2)] 48 [.int s0, .int s1] := by
  intro x1 x2 s0 s1 z hf H locs ls hP hS hl
  obtain ⟨hx, hb, hml, hown, hE⟩ := id X
  unfold f_X6_rule_48 at hf
  refine lv_icmp_le (tgt := 54) hx hb dX6_rule_48 (by decide) (fun q => ?_) (fun q => ?_)
  · have hf := (if_pos q).symm.trans hf
    refine lv_iload_n hx hb dX6_rule_54 rfl (lv_at hl 1 rfl) ?_
    refine lv_if_ne (tgt := 65) hx hb dX6_rule_55 (by decide) (fun q => ?_) (fun q => ?_)
    · have hf := (if_neg q).symm.trans hf
      refine lv_iload_n hx hb dX6_rule_65 rfl (lv_at hl 1 rfl) ?_
      refine lv_iconst (v := 1) hx hb dX6_rule_66 (by decide) ?_
      refine lv_icmp_ne (tgt := 77) hx hb dX6_rule_67 (by decide) (fun q => ?_) (fun q => ?_)
      · have hf := (if_neg q).symm.trans hf
        refine lv_iload_n hx hb dX6_rule_77 rfl (lv_at hl 1 rfl) ?_
        refine lv_iconst (v := 2) hx hb dX6_rule_78 (by decide) ?_
        refine lv_icmp_ne (tgt := 89) hx hb dX6_rule_79 (by decide) (fun q => ?_) (fun q => ?_)
        · have hf := (if_neg q).symm.trans hf
          refine lv_aload_n hx hb dX6_rule_89 rfl (lv_at hl 0 rfl) ?_
          refine gf_6_50 hx hb hE hown hP dX6_rule_90 ?_
          exact t_X6_rule_93 X hJ hr hlk x1 x2 (z.1 5) z hf H locs ls hP hS (lv_sub hl [0, 1, 2] rfl)
        · have hf := (if_pos q).symm.trans hf
          refine lv_aload_n hx hb dX6_rule_82 rfl (lv_at hl 0 rfl) ?_
          refine gf_6_47 hx hb hE hown hP dX6_rule_83 ?_
          refine lv_goto (tgt := 93) hx hb dX6_rule_86 (by decide) ?_
          exact t_X6_rule_93 X hJ hr hlk x1 x2 (z.1 4) z hf H locs ls hP hS (lv_sub hl [0, 1, 2] rfl)
      · have hf := (if_pos q).symm.trans hf
        refine lv_aload_n hx hb dX6_rule_70 rfl (lv_at hl 0 rfl) ?_
        refine gf_6_44 hx hb hE hown hP dX6_rule_71 ?_
        refine lv_goto (tgt := 93) hx hb dX6_rule_74 (by decide) ?_
        exact t_X6_rule_93 X hJ hr hlk x1 x2 (z.1 3) z hf H locs ls hP hS (lv_sub hl [0, 1, 2] rfl)
    · have hf := (if_pos q).symm.trans hf
      refine lv_aload_n hx hb dX6_rule_58 rfl (lv_at hl 0 rfl) ?_
      refine gf_6_40 hx hb hE hown hP dX6_rule_59 ?_
      refine lv_goto (tgt := 93) hx hb dX6_rule_62 (by decide) ?_
      exact t_X6_rule_93 X hJ hr hlk x1 x2 (z.1 2) z hf H locs ls hP hS (lv_sub hl [0, 1, 2] rfl)
  · have hf := (if_neg q).symm.trans hf
    refine lv_bipush (v := -2) hx hb dX6_rule_51 (by decide) ?_
    obtain rfl := Option.some.inj hf
    exact W.iret hx hb hr (fun t ht _ => ⟨rfl, by rw [ht]; exact hP, hS.F ht⟩) hS.2.2 dX6_rule_53 hlk
def f_X6_rule_22 (x1 : Int32) (x2 : Int32) (s0 : Int32) (s1 : Int32) (z : St) : Option (Int32 × St) := (if s1 < s0 then some ((-2 : Int32), z) else (if (2 : Int32) ≤ x1 then (if x1 = (2 : Int32) then f_X6_rule_48 x1 x2 (14 : Int32) x2 z else f_X6_rule_48 x1 x2 (200 : Int32) x2 z) else f_X6_rule_48 x1 x2 (3 : Int32) x2 z))
set_option maxHeartbeats 4000000 in
set_option maxRecDepth 100000 in
theorem t_X6_rule_22 {RR : Int32 × St} (X : Cx p s m c cX6_rule RX6 4 d) (hJ : Inj 20 a) (hr : meth.sig.returnType = (some .int)) (hlk : meth.locks = false) : ∀ (x1 : Int32) (x2 : Int32) (s0 : Int32) (s1 : Int32) (z : St), f_X6_rule_22 x1 x2 s0 s1 z = some RR → WWr wM 20 d a p l e { frames := 1, cells := 0, slots := 0, locals := 20 } s m args below meth c RR z 4 [(0, .ref (a 0)), (1, .int x1), (2, .int x2)] 22 [.int s0, .int s1] := by
  intro x1 x2 s0 s1 z hf H locs ls hP hS hl
  obtain ⟨hx, hb, hml, hown, hE⟩ := id X
  unfold f_X6_rule_22 at hf
  refine lv_icmp_lt (tgt := 51) hx hb dX6_rule_22 (by decide) (fun q => ?_) (fun q => ?_)
  · have hf := (if_pos q).symm.trans hf
    refine lv_bipush (v := -2) hx hb dX6_rule_51 (by decide) ?_
    obtain rfl := Option.some.inj hf
    exact W.iret hx hb hr (fun t ht _ => ⟨rfl, by rw [ht]; exact hP, hS.F ht⟩) hS.2.2 dX6_rule_53 hlk
  · have hf := (if_neg q).symm.trans hf
    refine lv_iload_n hx hb dX6_rule_25 rfl (lv_at hl 2 rfl) ?_
    refine lv_iload_n hx hb dX6_rule_26 rfl (lv_at hl 1 rfl) ?_
    refine lv_iconst (v := 2) hx hb dX6_rule_27 (by decide) ?_
    refine lv_icmp_ge (tgt := 35) hx hb dX6_rule_28 (by decide) (fun q => ?_) (fun q => ?_)
    · have hf := (if_pos q).symm.trans hf
      refine lv_iload_n hx hb dX6_rule_35 rfl (lv_at hl 1 rfl) ?_
      refine lv_iconst (v := 2) hx hb dX6_rule_36 (by decide) ?_
      refine lv_icmp_ne (tgt := 45) hx hb dX6_rule_37 (by decide) (fun q => ?_) (fun q => ?_)
      · have hf := (if_neg q).symm.trans hf
        refine lv_sipush (v := 200) hx hb dX6_rule_45 (by decide) ?_
        exact t_X6_rule_48 X hJ hr hlk x1 x2 (200 : Int32) x2 z hf H locs ls hP hS (lv_sub hl [0, 1, 2] rfl)
      · have hf := (if_pos q).symm.trans hf
        refine lv_bipush (v := 14) hx hb dX6_rule_40 (by decide) ?_
        refine lv_goto (tgt := 48) hx hb dX6_rule_42 (by decide) ?_
        exact t_X6_rule_48 X hJ hr hlk x1 x2 (14 : Int32) x2 z hf H locs ls hP hS (lv_sub hl [0, 1, 2] rfl)
    · have hf := (if_neg q).symm.trans hf
      refine lv_iconst (v := 3) hx hb dX6_rule_31 (by decide) ?_
      refine lv_goto (tgt := 48) hx hb dX6_rule_32 (by decide) ?_
      exact t_X6_rule_48 X hJ hr hlk x1 x2 (3 : Int32) x2 z hf H locs ls hP hS (lv_sub hl [0, 1, 2] rfl)
def f_X6_rule (x1 : Int32) (x2 : Int32) (z : St) : Option (Int32 × St) := (if x1 < (0 : Int32) then some ((-1 : Int32), z) else (if x1 ≤ (3 : Int32) then (if x1 = (2 : Int32) then f_X6_rule_22 x1 x2 (1 : Int32) x2 z else f_X6_rule_22 x1 x2 (0 : Int32) x2 z) else some ((-1 : Int32), z)))
set_option maxHeartbeats 4000000 in
set_option maxRecDepth 100000 in
theorem t_X6_rule {RR : Int32 × St} (X : Cx p s m c cX6_rule RX6 4 d) (hJ : Inj 20 a) (hr : meth.sig.returnType = (some .int)) (hlk : meth.locks = false) : ∀ (x1 : Int32) (x2 : Int32) (z : St), f_X6_rule x1 x2 z = some RR → WWr wM 20 d a p l e { frames := 1, cells := 0, slots := 0, locals := 20 } s m args below meth c RR z 4 [(0, .ref (a 0)), (1, .int x1), (2, .int x2)] 0 [] := by
  intro x1 x2 z hf H locs ls hP hS hl
  obtain ⟨hx, hb, hml, hown, hE⟩ := id X
  unfold f_X6_rule at hf
  refine lv_iload_n hx hb dX6_rule_0 rfl (lv_at hl 1 rfl) ?_
  refine lv_if_lt (tgt := 9) hx hb dX6_rule_1 (by decide) (fun q => ?_) (fun q => ?_)
  · have hf := (if_pos q).symm.trans hf
    refine lv_iconst (v := -1) hx hb dX6_rule_9 (by decide) ?_
    obtain rfl := Option.some.inj hf
    exact W.iret hx hb hr (fun t ht _ => ⟨rfl, by rw [ht]; exact hP, hS.F ht⟩) hS.2.2 dX6_rule_10 hlk
  · have hf := (if_neg q).symm.trans hf
    refine lv_iload_n hx hb dX6_rule_4 rfl (lv_at hl 1 rfl) ?_
    refine lv_iconst (v := 3) hx hb dX6_rule_5 (by decide) ?_
    refine lv_icmp_le (tgt := 11) hx hb dX6_rule_6 (by decide) (fun q => ?_) (fun q => ?_)
    · have hf := (if_pos q).symm.trans hf
      refine lv_iload_n hx hb dX6_rule_11 rfl (lv_at hl 2 rfl) ?_
      refine lv_iload_n hx hb dX6_rule_12 rfl (lv_at hl 1 rfl) ?_
      refine lv_iconst (v := 2) hx hb dX6_rule_13 (by decide) ?_
      refine lv_icmp_ne (tgt := 21) hx hb dX6_rule_14 (by decide) (fun q => ?_) (fun q => ?_)
      · have hf := (if_neg q).symm.trans hf
        refine lv_iconst (v := 0) hx hb dX6_rule_21 (by decide) ?_
        exact t_X6_rule_22 X hJ hr hlk x1 x2 (0 : Int32) x2 z hf H locs ls hP hS (lv_sub hl [0, 1, 2] rfl)
      · have hf := (if_pos q).symm.trans hf
        refine lv_iconst (v := 1) hx hb dX6_rule_17 (by decide) ?_
        refine lv_goto (tgt := 22) hx hb dX6_rule_18 (by decide) ?_
        exact t_X6_rule_22 X hJ hr hlk x1 x2 (1 : Int32) x2 z hf H locs ls hP hS (lv_sub hl [0, 1, 2] rfl)
    · have hf := (if_neg q).symm.trans hf
      refine lv_iconst (v := -1) hx hb dX6_rule_9 (by decide) ?_
      obtain rfl := Option.some.inj hf
      exact W.iret hx hb hr (fun t ht _ => ⟨rfl, by rw [ht]; exact hP, hS.F ht⟩) hS.2.2 dX6_rule_10 hlk
set_option maxHeartbeats 4000000 in
set_option maxRecDepth 100000 in
theorem c_X6_rule (l : Launch) (d : G3) (a : Nat → Nat) (z : St) (x1 : Int32) (x2 : Int32) {RR : Int32 × St} (hf : f_X6_rule x1 x2 z = some RR) : Met l yX6_rule [Cond.code yX6_rule cX6_rule 4 (some .int)] { frames := 1, cells := 0, slots := 0, locals := 20 } (wpre wM 20 d a z [.ref (a 0), .int x1, .int x2]) (QW wM 20 d a RR) 0 0 (AD 20 a) := by
  refine Met.ofW (cc := cX6_rule) (maxL := 4) (ret := (some .int)) (by decide) rfl ?_
  intro p e s m args below meth c s₁ B hml hv
  obtain ⟨rfl, hE, hP, hJ⟩ := hv
  have X : Cx p s m c cX6_rule RX6 4 d := ⟨B.exec, B.bytes, hml, findClass_of_methodNamed B.named, hE⟩
  have hl := lv_entry ([.ref (a 0), .int x1, .int x2]) (n := 4) (Nat.le_of_ble_eq_true rfl)
  rw [lg_entry_eq]
  generalize (lg_sl ([.ref (a 0), .int x1, .int x2]) ++ List.replicate (4 - (lg_sl ([.ref (a 0), .int x1, .int x2])).length) Slot.unset).toArray = ls at hl ⊢
  have hl : lv_has ls 4 [(0, .ref (a 0)), (1, .int x1), (2, .int x2)] := hl
  exact t_X6_rule X hJ B.returns B.notSynchronized x1 x2 z hf s.heap [] ls hP va_S.rf hl
def f_X6_wish_77 (x1 : Int32) (x2 : Int32) (x3 : Int32) (z : St) : Option (Int32 × St) := ck 4 x1 ((if (z.2 7 x1.toNatClampNeg) = (5 : Int32) then some ((-4 : Int32), z) else ck 4 x1 (ck 20 (((5 : Int32) * x1) + (z.2 7 x1.toNatClampNeg)) (ck 4 x1 (ck 20 (((5 : Int32) * x1) + ((pA z 8 (((5 : Int32) * x1) + (z.2 7 x1.toNatClampNeg)).toNatClampNeg x2).2 7 x1.toNatClampNeg)) ((f_X6_changed (pA (pA z 8 (((5 : Int32) * x1) + (z.2 7 x1.toNatClampNeg)).toNatClampNeg x2) 9 (((5 : Int32) * x1) + ((pA z 8 (((5 : Int32) * x1) + (z.2 7 x1.toNatClampNeg)).toNatClampNeg x2).2 7 x1.toNatClampNeg)).toNatClampNeg x3)).bind (fun r_1 => ck 4 x1 (ck 4 x1 (some ((r_1.2 7 x1.toNatClampNeg), (pA r_1 7 x1.toNatClampNeg ((r_1.2 7 x1.toNatClampNeg) + (1 : Int32)))))))))))))
set_option maxHeartbeats 4000000 in
set_option maxRecDepth 100000 in
theorem t_X6_wish_77 {RR : Int32 × St} (X : Cx p s m c cX6_wish RX6 4 d) (hJ : Inj 20 a) (hr : meth.sig.returnType = (some .int)) (hlk : meth.locks = false) : ∀ (x1 : Int32) (x2 : Int32) (x3 : Int32) (z : St), f_X6_wish_77 x1 x2 x3 z = some RR → WWr wM 20 d a p l e { frames := 1, cells := 0, slots := 0, locals := 21 } s m args below meth c RR z 4 [(0, .ref (a 0)), (1, .int x1), (2, .int x2), (3, .int x3)] 77 [] := by
  intro x1 x2 x3 z hf H locs ls hP hS hl
  obtain ⟨hx, hb, hml, hown, hE⟩ := id X
  unfold f_X6_wish_77 at hf
  refine lv_aload_n hx hb dX6_wish_77 rfl (lv_at hl 0 rfl) ?_
  refine gf_6_31 hx hb hE hown hP dX6_wish_78 ?_
  refine lv_iload_n hx hb dX6_wish_81 rfl (lv_at hl 1 rfl) ?_
  obtain ⟨hi, hf⟩ := ck_some hf
  refine ld_M_8 hx hb hE hP hi dX6_wish_82 ?_
  refine lv_iconst (v := 5) hx hb dX6_wish_83 (by decide) ?_
  refine lv_icmp_ne (tgt := 90) hx hb dX6_wish_84 (by decide) (fun q => ?_) (fun q => ?_)
  · have hf := (if_neg q).symm.trans hf
    refine lv_aload_n hx hb dX6_wish_90 rfl (lv_at hl 0 rfl) ?_
    refine gf_6_34 hx hb hE hown hP dX6_wish_91 ?_
    refine lv_iconst (v := 5) hx hb dX6_wish_94 (by decide) ?_
    refine lv_iload_n hx hb dX6_wish_95 rfl (lv_at hl 1 rfl) ?_
    refine lv_imul hx hb dX6_wish_96 ?_
    refine lv_aload_n hx hb dX6_wish_97 rfl (lv_at hl 0 rfl) ?_
    refine gf_6_31 hx hb hE hown hP dX6_wish_98 ?_
    refine lv_iload_n hx hb dX6_wish_101 rfl (lv_at hl 1 rfl) ?_
    obtain ⟨hi, hf⟩ := ck_some hf
    refine ld_M_8 hx hb hE hP hi dX6_wish_102 ?_
    refine lv_iadd hx hb dX6_wish_103 ?_
    refine lv_iload_n hx hb dX6_wish_104 rfl (lv_at hl 2 rfl) ?_
    obtain ⟨hi, hf⟩ := ck_some hf
    refine st_M_9 hx hb hE hP hJ hS hi dX6_wish_105 (fun H locs hP hS => ?_)
    refine lv_aload_n hx hb dX6_wish_106 rfl (lv_at hl 0 rfl) ?_
    refine gf_6_37 hx hb hE hown hP dX6_wish_107 ?_
    refine lv_iconst (v := 5) hx hb dX6_wish_110 (by decide) ?_
    refine lv_iload_n hx hb dX6_wish_111 rfl (lv_at hl 1 rfl) ?_
    refine lv_imul hx hb dX6_wish_112 ?_
    refine lv_aload_n hx hb dX6_wish_113 rfl (lv_at hl 0 rfl) ?_
    refine gf_6_31 hx hb hE hown hP dX6_wish_114 ?_
    refine lv_iload_n hx hb dX6_wish_117 rfl (lv_at hl 1 rfl) ?_
    obtain ⟨hi, hf⟩ := ck_some hf
    refine ld_M_8 hx hb hE hP hi dX6_wish_118 ?_
    refine lv_iadd hx hb dX6_wish_119 ?_
    refine lv_iload_n hx hb dX6_wish_120 rfl (lv_at hl 3 rfl) ?_
    obtain ⟨hi, hf⟩ := ck_some hf
    refine st_M_10 hx hb hE hP hJ hS hi dX6_wish_121 (fun H locs hP hS => ?_)
    refine lv_aload_n hx hb dX6_wish_122 rfl (lv_at hl 0 rfl) ?_
    obtain ⟨r_1, hc, hf⟩ := bnd hf
    refine wrVv X (c_X6_changed l d a (pA (pA z 8 (((5 : Int32) * x1) + (z.2 7 x1.toNatClampNeg)).toNatClampNeg x2) 9 (((5 : Int32) * x1) + ((pA z 8 (((5 : Int32) * x1) + (z.2 7 x1.toNatClampNeg)).toNatClampNeg x2).2 7 x1.toNatClampNeg)).toNatClampNeg x3) hc) (k_X6_98 hE rfl rfl ⟨Nat.le_of_ble_eq_true rfl, Nat.le_of_ble_eq_true rfl⟩) hP hJ hS (va_recv (q := (RX6, TX6, 28)) hE.2 hP (ci := 6) (q0 := 0) rfl rfl) rfl hl.1 rfl (Nat.le_of_ble_eq_true rfl) dX6_wish_123 (fun H locs hP hS => ?_)
    refine lv_aload_n hx hb dX6_wish_126 rfl (lv_at hl 0 rfl) ?_
    refine gf_6_31 hx hb hE hown hP dX6_wish_127 ?_
    refine lv_iload_n hx hb dX6_wish_130 rfl (lv_at hl 1 rfl) ?_
    refine lv_dup2_11 hx hb dX6_wish_131 rfl rfl ?_
    obtain ⟨hi, hf⟩ := ck_some hf
    refine ld_M_8 hx hb hE hP hi dX6_wish_132 ?_
    refine lv_dup_x2 hx hb dX6_wish_133 rfl rfl rfl ?_
    refine lv_iconst (v := 1) hx hb dX6_wish_134 (by decide) ?_
    refine lv_iadd hx hb dX6_wish_135 ?_
    obtain ⟨hi, hf⟩ := ck_some hf
    refine st_M_8 hx hb hE hP hJ hS hi dX6_wish_136 (fun H locs hP hS => ?_)
    obtain rfl := Option.some.inj hf
    exact W.iret hx hb hr (fun t ht _ => ⟨rfl, by rw [ht]; exact hP, hS.F ht⟩) hS.2.2 dX6_wish_137 hlk
  · have hf := (if_pos q).symm.trans hf
    refine lv_bipush (v := -4) hx hb dX6_wish_87 (by decide) ?_
    obtain rfl := Option.some.inj hf
    exact W.iret hx hb hr (fun t ht _ => ⟨rfl, by rw [ht]; exact hP, hS.F ht⟩) hS.2.2 dX6_wish_89 hlk
def f_X6_wish_58 (x1 : Int32) (x2 : Int32) (x3 : Int32) (z : St) : Option (Int32 × St) := (if x2 ≤ (3 : Int32) then f_X6_wish_77 x1 x2 x3 z else (if x3 < (0 : Int32) then some ((-2 : Int32), z) else (if x3 ≤ (200 : Int32) then f_X6_wish_77 x1 x2 x3 z else some ((-2 : Int32), z))))
set_option maxHeartbeats 4000000 in
set_option maxRecDepth 100000 in
theorem t_X6_wish_58 {RR : Int32 × St} (X : Cx p s m c cX6_wish RX6 4 d) (hJ : Inj 20 a) (hr : meth.sig.returnType = (some .int)) (hlk : meth.locks = false) : ∀ (x1 : Int32) (x2 : Int32) (x3 : Int32) (z : St), f_X6_wish_58 x1 x2 x3 z = some RR → WWr wM 20 d a p l e { frames := 1, cells := 0, slots := 0, locals := 21 } s m args below meth c RR z 4 [(0, .ref (a 0)), (1, .int x1), (2, .int x2), (3, .int x3)] 58 [] := by
  intro x1 x2 x3 z hf H locs ls hP hS hl
  obtain ⟨hx, hb, hml, hown, hE⟩ := id X
  unfold f_X6_wish_58 at hf
  refine lv_iload_n hx hb dX6_wish_58 rfl (lv_at hl 2 rfl) ?_
  refine lv_iconst (v := 3) hx hb dX6_wish_59 (by decide) ?_
  refine lv_icmp_le (tgt := 77) hx hb dX6_wish_60 (by decide) (fun q => ?_) (fun q => ?_)
  · have hf := (if_pos q).symm.trans hf
    exact t_X6_wish_77 X hJ hr hlk x1 x2 x3 z hf H locs ls hP hS (lv_sub hl [0, 1, 2, 3] rfl)
  · have hf := (if_neg q).symm.trans hf
    refine lv_iload_n hx hb dX6_wish_63 rfl (lv_at hl 3 rfl) ?_
    refine lv_if_lt (tgt := 74) hx hb dX6_wish_64 (by decide) (fun q => ?_) (fun q => ?_)
    · have hf := (if_pos q).symm.trans hf
      refine lv_bipush (v := -2) hx hb dX6_wish_74 (by decide) ?_
      obtain rfl := Option.some.inj hf
      exact W.iret hx hb hr (fun t ht _ => ⟨rfl, by rw [ht]; exact hP, hS.F ht⟩) hS.2.2 dX6_wish_76 hlk
    · have hf := (if_neg q).symm.trans hf
      refine lv_iload_n hx hb dX6_wish_67 rfl (lv_at hl 3 rfl) ?_
      refine lv_sipush (v := 200) hx hb dX6_wish_68 (by decide) ?_
      refine lv_icmp_le (tgt := 77) hx hb dX6_wish_71 (by decide) (fun q => ?_) (fun q => ?_)
      · have hf := (if_pos q).symm.trans hf
        exact t_X6_wish_77 X hJ hr hlk x1 x2 x3 z hf H locs ls hP hS (lv_sub hl [0, 1, 2, 3] rfl)
      · have hf := (if_neg q).symm.trans hf
        refine lv_bipush (v := -2) hx hb dX6_wish_74 (by decide) ?_
        obtain rfl := Option.some.inj hf
        exact W.iret hx hb hr (fun t ht _ => ⟨rfl, by rw [ht]; exact hP, hS.F ht⟩) hS.2.2 dX6_wish_76 hlk
def f_X6_wish_49 (x1 : Int32) (x2 : Int32) (x3 : Int32) (z : St) : Option (Int32 × St) := (if x2 = (3 : Int32) then (if x3 = (0 : Int32) then f_X6_wish_58 x1 x2 x3 z else some ((-2 : Int32), z)) else f_X6_wish_58 x1 x2 x3 z)
set_option maxHeartbeats 4000000 in
set_option maxRecDepth 100000 in
theorem t_X6_wish_49 {RR : Int32 × St} (X : Cx p s m c cX6_wish RX6 4 d) (hJ : Inj 20 a) (hr : meth.sig.returnType = (some .int)) (hlk : meth.locks = false) : ∀ (x1 : Int32) (x2 : Int32) (x3 : Int32) (z : St), f_X6_wish_49 x1 x2 x3 z = some RR → WWr wM 20 d a p l e { frames := 1, cells := 0, slots := 0, locals := 21 } s m args below meth c RR z 4 [(0, .ref (a 0)), (1, .int x1), (2, .int x2), (3, .int x3)] 49 [] := by
  intro x1 x2 x3 z hf H locs ls hP hS hl
  obtain ⟨hx, hb, hml, hown, hE⟩ := id X
  unfold f_X6_wish_49 at hf
  refine lv_iload_n hx hb dX6_wish_49 rfl (lv_at hl 2 rfl) ?_
  refine lv_iconst (v := 3) hx hb dX6_wish_50 (by decide) ?_
  refine lv_icmp_ne (tgt := 58) hx hb dX6_wish_51 (by decide) (fun q => ?_) (fun q => ?_)
  · have hf := (if_neg q).symm.trans hf
    exact t_X6_wish_58 X hJ hr hlk x1 x2 x3 z hf H locs ls hP hS (lv_sub hl [0, 1, 2, 3] rfl)
  · have hf := (if_pos q).symm.trans hf
    refine lv_iload_n hx hb dX6_wish_54 rfl (lv_at hl 3 rfl) ?_
    refine lv_if_ne (tgt := 74) hx hb dX6_wish_55 (by decide) (fun q => ?_) (fun q => ?_)
    · have hf := (if_neg q).symm.trans hf
      refine lv_bipush (v := -2) hx hb dX6_wish_74 (by decide) ?_
      obtain rfl := Option.some.inj hf
      exact W.iret hx hb hr (fun t ht _ => ⟨rfl, by rw [ht]; exact hP, hS.F ht⟩) hS.2.2 dX6_wish_76 hlk
    · have hf := (if_pos q).symm.trans hf
      exact t_X6_wish_58 X hJ hr hlk x1 x2 x3 z hf H locs ls hP hS (lv_sub hl [0, 1, 2, 3] rfl)
def f_X6_wish_32 (x1 : Int32) (x2 : Int32) (x3 : Int32) (z : St) : Option (Int32 × St) := (if x2 = (2 : Int32) then (if x3 < (0 : Int32) then some ((-1 : Int32), z) else (if x3 ≤ (13 : Int32) then f_X6_wish_49 x1 x2 x3 z else some ((-1 : Int32), z))) else f_X6_wish_49 x1 x2 x3 z)
set_option maxHeartbeats 4000000 in
set_option maxRecDepth 100000 in
theorem t_X6_wish_32 {RR : Int32 × St} (X : Cx p s m c cX6_wish RX6 4 d) (hJ : Inj 20 a) (hr : meth.sig.returnType = (some .int)) (hlk : meth.locks = false) : ∀ (x1 : Int32) (x2 : Int32) (x3 : Int32) (z : St), f_X6_wish_32 x1 x2 x3 z = some RR → WWr wM 20 d a p l e { frames := 1, cells := 0, slots := 0, locals := 21 } s m args below meth c RR z 4 [(0, .ref (a 0)), (1, .int x1), (2, .int x2), (3, .int x3)] 32 [] := by
  intro x1 x2 x3 z hf H locs ls hP hS hl
  obtain ⟨hx, hb, hml, hown, hE⟩ := id X
  unfold f_X6_wish_32 at hf
  refine lv_iload_n hx hb dX6_wish_32 rfl (lv_at hl 2 rfl) ?_
  refine lv_iconst (v := 2) hx hb dX6_wish_33 (by decide) ?_
  refine lv_icmp_ne (tgt := 49) hx hb dX6_wish_34 (by decide) (fun q => ?_) (fun q => ?_)
  · have hf := (if_neg q).symm.trans hf
    exact t_X6_wish_49 X hJ hr hlk x1 x2 x3 z hf H locs ls hP hS (lv_sub hl [0, 1, 2, 3] rfl)
  · have hf := (if_pos q).symm.trans hf
    refine lv_iload_n hx hb dX6_wish_37 rfl (lv_at hl 3 rfl) ?_
    refine lv_if_lt (tgt := 47) hx hb dX6_wish_38 (by decide) (fun q => ?_) (fun q => ?_)
    · have hf := (if_pos q).symm.trans hf
      refine lv_iconst (v := -1) hx hb dX6_wish_47 (by decide) ?_
      obtain rfl := Option.some.inj hf
      exact W.iret hx hb hr (fun t ht _ => ⟨rfl, by rw [ht]; exact hP, hS.F ht⟩) hS.2.2 dX6_wish_48 hlk
    · have hf := (if_neg q).symm.trans hf
      refine lv_iload_n hx hb dX6_wish_41 rfl (lv_at hl 3 rfl) ?_
      refine lv_bipush (v := 13) hx hb dX6_wish_42 (by decide) ?_
      refine lv_icmp_le (tgt := 49) hx hb dX6_wish_44 (by decide) (fun q => ?_) (fun q => ?_)
      · have hf := (if_pos q).symm.trans hf
        exact t_X6_wish_49 X hJ hr hlk x1 x2 x3 z hf H locs ls hP hS (lv_sub hl [0, 1, 2, 3] rfl)
      · have hf := (if_neg q).symm.trans hf
        refine lv_iconst (v := -1) hx hb dX6_wish_47 (by decide) ?_
        obtain rfl := Option.some.inj hf
        exact W.iret hx hb hr (fun t ht _ => ⟨rfl, by rw [ht]; exact hP, hS.F ht⟩) hS.2.2 dX6_wish_48 hlk
def f_X6_wish (x1 : Int32) (x2 : Int32) (x3 : Int32) (z : St) : Option (Int32 × St) := (f_X6_isPerson z x1).bind (fun r_1 => (if r_1 = (0 : Int32) then some ((-1 : Int32), z) else (if x2 < (0 : Int32) then some ((-1 : Int32), z) else (if x2 ≤ (5 : Int32) then (if (2 : Int32) ≤ x2 then f_X6_wish_32 x1 x2 x3 z else (f_X6_isDuty z x3).bind (fun r_2 => (if r_2 = (0 : Int32) then some ((-1 : Int32), z) else f_X6_wish_32 x1 x2 x3 z))) else some ((-1 : Int32), z)))))
set_option maxHeartbeats 4000000 in
set_option maxRecDepth 100000 in
theorem t_X6_wish {RR : Int32 × St} (X : Cx p s m c cX6_wish RX6 4 d) (hJ : Inj 20 a) (hr : meth.sig.returnType = (some .int)) (hlk : meth.locks = false) : ∀ (x1 : Int32) (x2 : Int32) (x3 : Int32) (z : St), f_X6_wish x1 x2 x3 z = some RR → WWr wM 20 d a p l e { frames := 1, cells := 0, slots := 0, locals := 21 } s m args below meth c RR z 4 [(0, .ref (a 0)), (1, .int x1), (2, .int x2), (3, .int x3)] 0 [] := by
  intro x1 x2 x3 z hf H locs ls hP hS hl
  obtain ⟨hx, hb, hml, hown, hE⟩ := id X
  unfold f_X6_wish at hf
  refine lv_aload_n hx hb dX6_wish_0 rfl (lv_at hl 0 rfl) ?_
  refine lv_iload_n hx hb dX6_wish_1 rfl (lv_at hl 1 rfl) ?_
  obtain ⟨r_1, hc, hf⟩ := bnd hf
  refine rdV X (c_X6_isPerson l d a z x1 hc) (k_X6_101 hE rfl rfl ⟨Nat.le_of_ble_eq_true rfl, Nat.le_of_ble_eq_true rfl⟩) hP (va_recv (q := (RX6, TX6, 28)) hE.2 hP (ci := 6) (q0 := 0) rfl rfl) rfl hl.1 rfl (Nat.le_of_ble_eq_true rfl) dX6_wish_2 ?_
  refine lv_if_eq (tgt := 17) hx hb dX6_wish_5 (by decide) (fun q => ?_) (fun q => ?_)
  · have hf := (if_pos q).symm.trans hf
    refine lv_iconst (v := -1) hx hb dX6_wish_17 (by decide) ?_
    obtain rfl := Option.some.inj hf
    exact W.iret hx hb hr (fun t ht _ => ⟨rfl, by rw [ht]; exact hP, hS.F ht⟩) hS.2.2 dX6_wish_18 hlk
  · have hf := (if_neg q).symm.trans hf
    refine lv_iload_n hx hb dX6_wish_8 rfl (lv_at hl 2 rfl) ?_
    refine lv_if_lt (tgt := 17) hx hb dX6_wish_9 (by decide) (fun q => ?_) (fun q => ?_)
    · have hf := (if_pos q).symm.trans hf
      refine lv_iconst (v := -1) hx hb dX6_wish_17 (by decide) ?_
      obtain rfl := Option.some.inj hf
      exact W.iret hx hb hr (fun t ht _ => ⟨rfl, by rw [ht]; exact hP, hS.F ht⟩) hS.2.2 dX6_wish_18 hlk
    · have hf := (if_neg q).symm.trans hf
      refine lv_iload_n hx hb dX6_wish_12 rfl (lv_at hl 2 rfl) ?_
      refine lv_iconst (v := 5) hx hb dX6_wish_13 (by decide) ?_
      refine lv_icmp_le (tgt := 19) hx hb dX6_wish_14 (by decide) (fun q => ?_) (fun q => ?_)
      · have hf := (if_pos q).symm.trans hf
        refine lv_iload_n hx hb dX6_wish_19 rfl (lv_at hl 2 rfl) ?_
        refine lv_iconst (v := 2) hx hb dX6_wish_20 (by decide) ?_
        refine lv_icmp_ge (tgt := 32) hx hb dX6_wish_21 (by decide) (fun q => ?_) (fun q => ?_)
        · have hf := (if_pos q).symm.trans hf
          exact t_X6_wish_32 X hJ hr hlk x1 x2 x3 z hf H locs ls hP hS (lv_sub hl [0, 1, 2, 3] rfl)
        · have hf := (if_neg q).symm.trans hf
          refine lv_aload_n hx hb dX6_wish_24 rfl (lv_at hl 0 rfl) ?_
          refine lv_iload_n hx hb dX6_wish_25 rfl (lv_at hl 3 rfl) ?_
          obtain ⟨r_2, hc, hf⟩ := bnd hf
          refine rdV X (c_X6_isDuty l d a z x3 hc) (k_X6_105 hE rfl rfl ⟨Nat.le_of_ble_eq_true rfl, Nat.le_of_ble_eq_true rfl⟩) hP (va_recv (q := (RX6, TX6, 28)) hE.2 hP (ci := 6) (q0 := 0) rfl rfl) rfl hl.1 rfl (Nat.le_of_ble_eq_true rfl) dX6_wish_26 ?_
          refine lv_if_eq (tgt := 47) hx hb dX6_wish_29 (by decide) (fun q => ?_) (fun q => ?_)
          · have hf := (if_pos q).symm.trans hf
            refine lv_iconst (v := -1) hx hb dX6_wish_47 (by decide) ?_
            obtain rfl := Option.some.inj hf
            exact W.iret hx hb hr (fun t ht _ => ⟨rfl, by rw [ht]; exact hP, hS.F ht⟩) hS.2.2 dX6_wish_48 hlk
          · have hf := (if_neg q).symm.trans hf
            exact t_X6_wish_32 X hJ hr hlk x1 x2 x3 z hf H locs ls hP hS (lv_sub hl [0, 1, 2, 3] rfl)
      · have hf := (if_neg q).symm.trans hf
        refine lv_iconst (v := -1) hx hb dX6_wish_17 (by decide) ?_
        obtain rfl := Option.some.inj hf
        exact W.iret hx hb hr (fun t ht _ => ⟨rfl, by rw [ht]; exact hP, hS.F ht⟩) hS.2.2 dX6_wish_18 hlk
set_option maxHeartbeats 4000000 in
set_option maxRecDepth 100000 in
theorem c_X6_wish (l : Launch) (d : G3) (a : Nat → Nat) (z : St) (x1 : Int32) (x2 : Int32) (x3 : Int32) {RR : Int32 × St} (hf : f_X6_wish x1 x2 x3 z = some RR) : Met l yX6_wish [Cond.code yX6_wish cX6_wish 4 (some .int)] { frames := 1, cells := 0, slots := 0, locals := 21 } (wpre wM 20 d a z [.ref (a 0), .int x1, .int x2, .int x3]) (QW wM 20 d a RR) 0 0 (AD 20 a) := by
  refine Met.ofW (cc := cX6_wish) (maxL := 4) (ret := (some .int)) (by decide) rfl ?_
  intro p e s m args below meth c s₁ B hml hv
  obtain ⟨rfl, hE, hP, hJ⟩ := hv
  have X : Cx p s m c cX6_wish RX6 4 d := ⟨B.exec, B.bytes, hml, findClass_of_methodNamed B.named, hE⟩
  have hl := lv_entry ([.ref (a 0), .int x1, .int x2, .int x3]) (n := 4) (Nat.le_of_ble_eq_true rfl)
  rw [lg_entry_eq]
  generalize (lg_sl ([.ref (a 0), .int x1, .int x2, .int x3]) ++ List.replicate (4 - (lg_sl ([.ref (a 0), .int x1, .int x2, .int x3])).length) Slot.unset).toArray = ls at hl ⊢
  have hl : lv_has ls 4 [(0, .ref (a 0)), (1, .int x1), (2, .int x2), (3, .int x3)] := hl
  exact t_X6_wish X hJ B.returns B.notSynchronized x1 x2 x3 z hf s.heap [] ls hP va_S.rf hl
end GEN
