section GEN
variable {p : Program} {l : Launch} {e : Env} {s : State} {m : MethodId} {args : Array Value} {below : List Frame} {meth : Method} {c : Code} {d : G3} {a : Nat → Nat}
def f_X5_give_17 (k17 : Int32 → Int32 → St → Option (Int32 × St)) (x1 : Int32) (x2 : Int32) (z : St) : Option (Int32 × St) := (if (z.1 4) ≤ x2 then (f_J6_bitCount_0f7a4 (pS (pS z 0 (1 : Int32)) 1 (0 : Int32)) x1).bind (fun r_1 => some (r_1, (pS (pS z 0 (1 : Int32)) 1 (0 : Int32)))) else ck 4 x2 ((f_X2_from (pS z (13 + 6 * x2.toNatClampNeg) x1) (x2 + (1 : Int32))).bind (fun r_3 => (f_X5_bestLine x2 x1 r_3 (pS z (13 + 6 * x2.toNatClampNeg) x1)).bind (fun r_4 => k17 (x1 &&& (((pS (pS r_4.2 (14 + 6 * x2.toNatClampNeg) r_4.1) (15 + 6 * x2.toNatClampNeg) (0 : Int32)).1 (14 + 6 * x2.toNatClampNeg)) ^^^ (-1 : Int32))) (x2 + (1 : Int32)) (pS (pS r_4.2 (14 + 6 * x2.toNatClampNeg) r_4.1) (15 + 6 * x2.toNatClampNeg) (0 : Int32))))))
def l_X5_give_17 : Int32 → Int32 → St → Option (Int32 × St) := iter (fun _ _ _ => none) (f_X5_give_17) FU
set_option maxHeartbeats 4000000 in
set_option maxRecDepth 100000 in
theorem t_X5_give_17 {RR : Int32 × St} (X : Cx p s m c cX5_give RX5 4 d) (hJ : Inj 26 a) (hr : meth.sig.returnType = (some .int)) (hlk : meth.locks = false) {k17 : Int32 → Int32 → St → Option (Int32 × St)} (hk17 : ∀ (x1 : Int32) (x2 : Int32) (z : St), k17 x1 x2 z = some RR → WWr wC 26 d a p l e { frames := 6, cells := 0, slots := 0, locals := 148 } s m args below meth c RR z 4 [(0, .ref (a 0)), (1, .int x1), (2, .int x2)] 17 []) : ∀ (x1 : Int32) (x2 : Int32) (z : St), f_X5_give_17 k17 x1 x2 z = some RR → WWr wC 26 d a p l e { frames := 6, cells := 0, slots := 0, locals := 148 } s m args below meth c RR z 4 [(0, .ref (a 0)), (1, .int x1), (2, .int x2)] 17 [] := by
  intro x1 x2 z hf H locs ls hP hS hl
  obtain ⟨hx, hb, hml, hown, hE⟩ := id X
  unfold f_X5_give_17 at hf
  refine lv_iload_n hx hb dX5_give_17 rfl (lv_at hl 2 rfl) ?_
  refine lv_aload_n hx hb dX5_give_18 rfl (lv_at hl 0 rfl) ?_
  refine gf_5_26 hx hb hE hown hP dX5_give_19 ?_
  refine gf_5_58 hx hb hE hown hP dX5_give_22 ?_
  refine lv_icmp_ge (tgt := 83) hx hb dX5_give_25 (by decide) (fun q => ?_) (fun q => ?_)
  · have hf := (if_pos q).symm.trans hf
    refine lv_aload_n hx hb dX5_give_83 rfl (lv_at hl 0 rfl) ?_
    refine lv_iconst (v := 1) hx hb dX5_give_84 (by decide) ?_
    refine pf_5_85 hx hb hE hown hP hJ hS rfl rfl dX5_give_85 (fun H locs hP hS => ?_)
    refine lv_aload_n hx hb dX5_give_88 rfl (lv_at hl 0 rfl) ?_
    refine lv_iconst (v := 0) hx hb dX5_give_89 (by decide) ?_
    refine pf_5_150 hx hb hE hown hP hJ hS rfl rfl dX5_give_90 (fun H locs hP hS => ?_)
    refine lv_iload_n hx hb dX5_give_93 rfl (lv_at hl 1 rfl) ?_
    obtain ⟨r_1, hc, hf⟩ := bnd hf
    refine rdS X (c_J6_bitCount_0f7a4 l d a (pS (pS z 0 (1 : Int32)) 1 (0 : Int32)) x1 hc) (k_X5_153 hE rfl rfl ⟨Nat.le_of_ble_eq_true rfl, Nat.le_of_ble_eq_true rfl⟩) hP rfl hl.1 rfl (Nat.le_of_ble_eq_true rfl) dX5_give_94 ?_
    obtain rfl := Option.some.inj hf
    exact W.iret hx hb hr (fun t ht _ => ⟨rfl, by rw [ht]; exact hP, hS.F ht⟩) hS.2.2 dX5_give_97 hlk
  · have hf := (if_neg q).symm.trans hf
    refine lv_aload_n hx hb dX5_give_28 rfl (lv_at hl 0 rfl) ?_
    refine gf_5_26 hx hb hE hown hP dX5_give_29 ?_
    refine gf_5_76 hx hb hE hown hP dX5_give_32 ?_
    refine lv_iload_n hx hb dX5_give_35 rfl (lv_at hl 2 rfl) ?_
    obtain ⟨hi_2, hf⟩ := ck_some hf
    refine al_rank hx hb hE hP hi_2 dX5_give_36 ?_
    refine lv_astore_n (lv' := [(3, .ref (a (14 + 3 * x2.toNatClampNeg))), (0, .ref (a 0)), (1, .int x1), (2, .int x2)]) hx hb dX5_give_37 rfl hl (by decide) rfl (fun ls hl => ?_)
    refine lv_aload_n hx hb dX5_give_38 rfl (lv_at hl 0 rfl) ?_
    refine lv_iload_n hx hb dX5_give_39 rfl (lv_at hl 2 rfl) ?_
    refine pf_5_137 hx hb hE hown hP hJ hS (vp_lt hi_2) dX5_give_40 (fun H locs hP hS => ?_)
    refine lv_aload_n hx hb dX5_give_43 rfl (lv_at hl 0 rfl) ?_
    refine lv_aload_n hx hb dX5_give_44 rfl (lv_at hl 1 rfl) ?_
    refine lv_iload_n hx hb dX5_give_45 rfl (lv_at hl 3 rfl) ?_
    refine lv_iload_n hx hb dX5_give_46 rfl (lv_at hl 2 rfl) ?_
    refine lv_aload_n hx hb dX5_give_47 rfl (lv_at hl 1 rfl) ?_
    refine gf_5_26 hx hb hE hown hP dX5_give_48 ?_
    refine lv_iload_n hx hb dX5_give_51 rfl (lv_at hl 3 rfl) ?_
    refine lv_iconst (v := 1) hx hb dX5_give_52 (by decide) ?_
    refine lv_iadd hx hb dX5_give_53 ?_
    obtain ⟨r_3, hc, hf⟩ := bnd hf
    refine rdV X (c_X2_from l d a (pS z (13 + 6 * x2.toNatClampNeg) x1) (x2 + (1 : Int32)) hc) (k_X5_124 hE rfl rfl ⟨Nat.le_of_ble_eq_true rfl, Nat.le_of_ble_eq_true rfl⟩) hP (va_recv (q := (RX2, TX2, 2)) hE.2 hP (ci := 2) (q0 := 9) rfl rfl) rfl hl.1 rfl (Nat.le_of_ble_eq_true rfl) dX5_give_54 ?_
    obtain ⟨r_4, hc, hf⟩ := bnd hf
    refine wrV X (c_X5_bestLine l d a (pS z (13 + 6 * x2.toNatClampNeg) x1) x2 x1 r_3 hc) (k_X5_140 hE rfl rfl ⟨Nat.le_of_ble_eq_true rfl, Nat.le_of_ble_eq_true rfl⟩) hP hJ hS (va_recv (q := (RX5, TX5, 6)) hE.2 hP (ci := 5) (q0 := 0) rfl rfl) rfl hl.1 rfl (Nat.le_of_ble_eq_true rfl) dX5_give_57 (fun H locs hP hS => ?_)
    refine pf_5_144 hx hb hE hown hP hJ hS (vp_lt hi_2) dX5_give_60 (fun H locs hP hS => ?_)
    refine lv_aload_n hx hb dX5_give_63 rfl (lv_at hl 0 rfl) ?_
    refine lv_iconst (v := 0) hx hb dX5_give_64 (by decide) ?_
    refine pf_5_147 hx hb hE hown hP hJ hS (vp_lt hi_2) rfl rfl dX5_give_65 (fun H locs hP hS => ?_)
    refine lv_iload_n hx hb dX5_give_68 rfl (lv_at hl 2 rfl) ?_
    refine lv_aload_n hx hb dX5_give_69 rfl (lv_at hl 0 rfl) ?_
    refine gf_5_144 hx hb hE hown hP (vp_lt hi_2) dX5_give_70 ?_
    refine lv_iconst (v := -1) hx hb dX5_give_73 (by decide) ?_
    refine lv_ixor hx hb dX5_give_74 ?_
    refine lv_iand hx hb dX5_give_75 ?_
    refine lv_istore_n (lv' := [(1, .int (x1 &&& (((pS (pS r_4.2 (14 + 6 * x2.toNatClampNeg) r_4.1) (15 + 6 * x2.toNatClampNeg) (0 : Int32)).1 (14 + 6 * x2.toNatClampNeg)) ^^^ (-1 : Int32)))), (3, .ref (a (14 + 3 * x2.toNatClampNeg))), (0, .ref (a 0)), (2, .int x2)]) hx hb dX5_give_76 rfl hl (by decide) rfl (fun ls hl => ?_)
    refine lv_iinc (v := (x2 + (1 : Int32))) (lv' := [(2, .int (x2 + (1 : Int32))), (1, .int (x1 &&& (((pS (pS r_4.2 (14 + 6 * x2.toNatClampNeg) r_4.1) (15 + 6 * x2.toNatClampNeg) (0 : Int32)).1 (14 + 6 * x2.toNatClampNeg)) ^^^ (-1 : Int32)))), (3, .ref (a (14 + 3 * x2.toNatClampNeg))), (0, .ref (a 0))]) hx hb dX5_give_77 hl (k := 3) rfl rfl (by decide) rfl (fun ls hl => ?_)
    refine lv_goto (tgt := 17) hx hb dX5_give_80 (by decide) ?_
    exact hk17 (x1 &&& (((pS (pS r_4.2 (14 + 6 * x2.toNatClampNeg) r_4.1) (15 + 6 * x2.toNatClampNeg) (0 : Int32)).1 (14 + 6 * x2.toNatClampNeg)) ^^^ (-1 : Int32))) (x2 + (1 : Int32)) (pS (pS r_4.2 (14 + 6 * x2.toNatClampNeg) r_4.1) (15 + 6 * x2.toNatClampNeg) (0 : Int32)) hf H locs ls hP hS (lv_sub hl [3, 1, 0] rfl)
theorem u_X5_give_17 {RR : Int32 × St} (X : Cx p s m c cX5_give RX5 4 d) (hJ : Inj 26 a) (hr : meth.sig.returnType = (some .int)) (hlk : meth.locks = false) : ∀ (x1 : Int32) (x2 : Int32) (z : St), l_X5_give_17 x1 x2 z = some RR → WWr wC 26 d a p l e { frames := 6, cells := 0, slots := 0, locals := 148 } s m args below meth c RR z 4 [(0, .ref (a 0)), (1, .int x1), (2, .int x2)] 17 [] := by
  unfold l_X5_give_17
  generalize FU = n
  induction n with
  | zero => intro x1 x2 z hf; exact absurd (show (none : Option (Int32 × St)) = some RR from hf) (by simp)
  | succ n ih => exact t_X5_give_17 X hJ hr hlk ih
def f_X5_give (z : St) : Option (Int32 × St) := (f_X0_refresh z).bind (fun r_1 => (f_X1_all r_1).bind (fun r_2 => l_X5_give_17 r_2 (0 : Int32) r_1))
set_option maxHeartbeats 4000000 in
set_option maxRecDepth 100000 in
theorem t_X5_give {RR : Int32 × St} (X : Cx p s m c cX5_give RX5 4 d) (hJ : Inj 26 a) (hr : meth.sig.returnType = (some .int)) (hlk : meth.locks = false) : ∀ (z : St), f_X5_give z = some RR → WWr wC 26 d a p l e { frames := 6, cells := 0, slots := 0, locals := 148 } s m args below meth c RR z 4 [(0, .ref (a 0))] 0 [] := by
  intro z hf H locs ls hP hS hl
  obtain ⟨hx, hb, hml, hown, hE⟩ := id X
  unfold f_X5_give at hf
  refine lv_aload_n hx hb dX5_give_0 rfl (lv_at hl 0 rfl) ?_
  refine gf_5_35 hx hb hE hown hP dX5_give_1 ?_
  obtain ⟨r_1, hc, hf⟩ := bnd hf
  refine wrVv X (c_X0_refresh l d a z hc) (k_X5_113 hE rfl rfl ⟨Nat.le_of_ble_eq_true rfl, Nat.le_of_ble_eq_true rfl⟩) hP hJ hS (va_recv (q := (RX0, TX0, 7)) hE.2 hP (ci := 0) (q0 := 11) rfl rfl) rfl hl.1 rfl (Nat.le_of_ble_eq_true rfl) dX5_give_4 (fun H locs hP hS => ?_)
  refine lv_aload_n hx hb dX5_give_7 rfl (lv_at hl 0 rfl) ?_
  refine gf_5_12 hx hb hE hown hP dX5_give_8 ?_
  obtain ⟨r_2, hc, hf⟩ := bnd hf
  refine rdV X (c_X1_all l d a r_1 hc) (k_X5_116 hE rfl rfl ⟨Nat.le_of_ble_eq_true rfl, Nat.le_of_ble_eq_true rfl⟩) hP (va_recv (q := (RX1, TX1, 7)) hE.2 hP (ci := 1) (q0 := 1) rfl rfl) rfl hl.1 rfl (Nat.le_of_ble_eq_true rfl) dX5_give_11 ?_
  refine lv_istore_n (lv' := [(1, .int r_2), (0, .ref (a 0))]) hx hb dX5_give_14 rfl hl (by decide) rfl (fun ls hl => ?_)
  refine lv_iconst (v := 0) hx hb dX5_give_15 (by decide) ?_
  refine lv_istore_n (lv' := [(2, .int (0 : Int32)), (1, .int r_2), (0, .ref (a 0))]) hx hb dX5_give_16 rfl hl (by decide) rfl (fun ls hl => ?_)
  exact u_X5_give_17 X hJ hr hlk r_2 (0 : Int32) r_1 hf H locs ls hP hS (lv_sub hl [2, 1, 0] rfl)
set_option maxHeartbeats 4000000 in
set_option maxRecDepth 100000 in
theorem c_X5_give (l : Launch) (d : G3) (a : Nat → Nat) (z : St) {RR : Int32 × St} (hf : f_X5_give z = some RR) : Met l yX5_give [Cond.code yX5_give cX5_give 4 (some .int)] { frames := 6, cells := 0, slots := 0, locals := 148 } (wpre wC 26 d a z [.ref (a 0)]) (QW wC 26 d a RR) 0 0 (AD 26 a) := by
  refine Met.ofW (cc := cX5_give) (maxL := 4) (ret := (some .int)) (by decide) rfl ?_
  intro p e s m args below meth c s₁ B hml hv
  obtain ⟨rfl, hE, hP, hJ⟩ := hv
  have X : Cx p s m c cX5_give RX5 4 d := ⟨B.exec, B.bytes, hml, findClass_of_methodNamed B.named, hE⟩
  have hl := lv_entry ([.ref (a 0)]) (n := 4) (Nat.le_of_ble_eq_true rfl)
  rw [lg_entry_eq]
  generalize (lg_sl ([.ref (a 0)]) ++ List.replicate (4 - (lg_sl ([.ref (a 0)])).length) Slot.unset).toArray = ls at hl ⊢
  have hl : lv_has ls 4 [(0, .ref (a 0))] := hl
  exact t_X5_give X hJ B.returns B.notSynchronized z hf s.heap [] ls hP va_S.rf hl
def f_X5_line (z : St) (x1 : Int32) : Option (Int32) := (f_X2_has z x1).bind (fun r_1 => (if r_1 = (0 : Int32) then some (-1 : Int32) else (if (z.1 0) = (0 : Int32) then some (-3 : Int32) else ck 4 x1 (some (z.1 (14 + 6 * x1.toNatClampNeg))))))
set_option maxHeartbeats 4000000 in
set_option maxRecDepth 100000 in
theorem t_X5_line {RR : Int32} (X : Cx p s m c cX5_line RX5 2 d) {z : St} (hP : va_P d.1 classes (wC d a z) s.heap) (hr : meth.sig.returnType = (some .int)) (hlk : meth.locks = false) : ∀ (x1 : Int32), f_X5_line z x1 = some RR → WRd p l e { frames := 2, cells := 0, slots := 0, locals := 43 } s m args below meth c RR 2 [(0, .ref (a 0)), (1, .int x1)] 0 [] := by
  intro x1 hf ls hl
  obtain ⟨hx, hb, hml, hown, hE⟩ := id X
  unfold f_X5_line at hf
  refine lv_aload_n hx hb dX5_line_0 rfl (lv_at hl 0 rfl) ?_
  refine gf_5_26 hx hb hE hown hP dX5_line_1 ?_
  refine lv_iload_n hx hb dX5_line_4 rfl (lv_at hl 1 rfl) ?_
  obtain ⟨r_1, hc, hf⟩ := bnd hf
  refine rdV X (c_X2_has l d a z x1 hc) (k_X5_72 hE rfl rfl ⟨Nat.le_of_ble_eq_true rfl, Nat.le_of_ble_eq_true rfl⟩) hP (va_recv (q := (RX2, TX2, 2)) hE.2 hP (ci := 2) (q0 := 9) rfl rfl) rfl hl.1 rfl (Nat.le_of_ble_eq_true rfl) dX5_line_5 ?_
  refine lv_if_ne (tgt := 13) hx hb dX5_line_8 (by decide) (fun q => ?_) (fun q => ?_)
  · have hf := (if_neg q).symm.trans hf
    refine lv_aload_n hx hb dX5_line_13 rfl (lv_at hl 0 rfl) ?_
    refine gf_5_85 hx hb hE hown hP dX5_line_14 ?_
    refine lv_if_eq (tgt := 35) hx hb dX5_line_17 (by decide) (fun q => ?_) (fun q => ?_)
    · have hf := (if_pos q).symm.trans hf
      refine lv_bipush (v := -3) hx hb dX5_line_35 (by decide) ?_
      obtain rfl := Option.some.inj hf
      exact W.iret hx hb hr (fun t ht _ => ⟨rfl, ht⟩) (fun _ h => nomatch h) dX5_line_37 hlk
    · have hf := (if_neg q).symm.trans hf
      refine lv_aload_n hx hb dX5_line_20 rfl (lv_at hl 0 rfl) ?_
      refine gf_5_26 hx hb hE hown hP dX5_line_21 ?_
      refine gf_5_76 hx hb hE hown hP dX5_line_24 ?_
      refine lv_iload_n hx hb dX5_line_27 rfl (lv_at hl 1 rfl) ?_
      obtain ⟨hi_2, hf⟩ := ck_some hf
      refine al_rank hx hb hE hP hi_2 dX5_line_28 ?_
      refine gf_5_144 hx hb hE hown hP (vp_lt hi_2) dX5_line_29 ?_
      refine lv_goto (tgt := 37) hx hb dX5_line_32 (by decide) ?_
      obtain rfl := Option.some.inj hf
      exact W.iret hx hb hr (fun t ht _ => ⟨rfl, ht⟩) (fun _ h => nomatch h) dX5_line_37 hlk
  · have hf := (if_pos q).symm.trans hf
    refine lv_iconst (v := -1) hx hb dX5_line_11 (by decide) ?_
    obtain rfl := Option.some.inj hf
    exact W.iret hx hb hr (fun t ht _ => ⟨rfl, ht⟩) (fun _ h => nomatch h) dX5_line_12 hlk
set_option maxHeartbeats 4000000 in
set_option maxRecDepth 100000 in
theorem c_X5_line (l : Launch) (d : G3) (a : Nat → Nat) (z : St) (x1 : Int32) {RR : Int32} (hf : f_X5_line z x1 = some RR) : Met l yX5_line [Cond.code yX5_line cX5_line 2 (some .int)] { frames := 2, cells := 0, slots := 0, locals := 43 } (rpre wC d a z [.ref (a 0), .int x1]) (QcRead RR) 0 0 (fun _ => False) := by
  refine Met.ofW (cc := cX5_line) (maxL := 2) (ret := (some .int)) (by decide) rfl ?_
  intro p e s m args below meth c s₁ B hml hv
  obtain ⟨rfl, hE, hP⟩ := hv
  have X : Cx p s m c cX5_line RX5 2 d := ⟨B.exec, B.bytes, hml, findClass_of_methodNamed B.named, hE⟩
  have hl := lv_entry ([.ref (a 0), .int x1]) (n := 2) (Nat.le_of_ble_eq_true rfl)
  rw [lg_entry_eq]
  generalize (lg_sl ([.ref (a 0), .int x1]) ++ List.replicate (2 - (lg_sl ([.ref (a 0), .int x1])).length) Slot.unset).toArray = ls at hl ⊢
  have hl : lv_has ls 2 [(0, .ref (a 0)), (1, .int x1)] := hl
  exact t_X5_line X hP B.returns B.notSynchronized x1 hf ls hl
def f_X5_about (z : St) (x1 : Int32) (x2 : Int32) : Option (Int32) := (f_X2_has z x1).bind (fun r_1 => (if r_1 = (0 : Int32) then some (-1 : Int32) else (f_X5_within z x2 (0 : Int32) (4 : Int32)).bind (fun r_2 => (if r_2 = (0 : Int32) then some (-1 : Int32) else (if (z.1 0) = (0 : Int32) then some (-3 : Int32) else ck 4 x1 ((if x2 = 0 then (f_X1_hoursOf z (z.1 (14 + 6 * x1.toNatClampNeg))).bind (fun r_8 => some r_8) else (if x2 = 1 then (f_J6_bitCount_0f7a4 z (z.1 (14 + 6 * x1.toNatClampNeg))).bind (fun r_7 => some r_7) else (if x2 = 2 then (f_X1_daysOf z (z.1 (14 + 6 * x1.toNatClampNeg))).bind (fun r_5 => (f_J6_bitCount_0f7a4 z r_5).bind (fun r_6 => some r_6)) else (if x2 = 3 then (f_X3_wishesMet z x1.toNatClampNeg).bind (fun r_4 => some r_4) else (if (z.1 (15 + 6 * x1.toNatClampNeg)) = (0 : Int32) then some (0 : Int32) else some (1 : Int32))))))))))))
set_option maxHeartbeats 4000000 in
set_option maxRecDepth 100000 in
theorem t_X5_about {RR : Int32} (X : Cx p s m c cX5_about RX5 4 d) {z : St} (hP : va_P d.1 classes (wC d a z) s.heap) (hr : meth.sig.returnType = (some .int)) (hlk : meth.locks = false) : ∀ (x1 : Int32) (x2 : Int32), f_X5_about z x1 x2 = some RR → WRd p l e { frames := 5, cells := 0, slots := 0, locals := 113 } s m args below meth c RR 4 [(0, .ref (a 0)), (1, .int x1), (2, .int x2)] 0 [] := by
  intro x1 x2 hf ls hl
  obtain ⟨hx, hb, hml, hown, hE⟩ := id X
  unfold f_X5_about at hf
  refine lv_aload_n hx hb dX5_about_0 rfl (lv_at hl 0 rfl) ?_
  refine gf_5_26 hx hb hE hown hP dX5_about_1 ?_
  refine lv_iload_n hx hb dX5_about_4 rfl (lv_at hl 1 rfl) ?_
  obtain ⟨r_1, hc, hf⟩ := bnd hf
  refine rdV X (c_X2_has l d a z x1 hc) (k_X5_72 hE rfl rfl ⟨Nat.le_of_ble_eq_true rfl, Nat.le_of_ble_eq_true rfl⟩) hP (va_recv (q := (RX2, TX2, 2)) hE.2 hP (ci := 2) (q0 := 9) rfl rfl) rfl hl.1 rfl (Nat.le_of_ble_eq_true rfl) dX5_about_5 ?_
  refine lv_if_eq (tgt := 20) hx hb dX5_about_8 (by decide) (fun q => ?_) (fun q => ?_)
  · have hf := (if_pos q).symm.trans hf
    refine lv_iconst (v := -1) hx hb dX5_about_20 (by decide) ?_
    obtain rfl := Option.some.inj hf
    exact W.iret hx hb hr (fun t ht _ => ⟨rfl, ht⟩) (fun _ h => nomatch h) dX5_about_21 hlk
  · have hf := (if_neg q).symm.trans hf
    refine lv_iload_n hx hb dX5_about_11 rfl (lv_at hl 2 rfl) ?_
    refine lv_iconst (v := 0) hx hb dX5_about_12 (by decide) ?_
    refine lv_iconst (v := 4) hx hb dX5_about_13 (by decide) ?_
    obtain ⟨r_2, hc, hf⟩ := bnd hf
    refine rdS X (c_X5_within l d a z x2 (0 : Int32) (4 : Int32) hc) (k_X5_39 hE rfl rfl ⟨Nat.le_of_ble_eq_true rfl, Nat.le_of_ble_eq_true rfl⟩) hP rfl hl.1 rfl (Nat.le_of_ble_eq_true rfl) dX5_about_14 ?_
    refine lv_if_ne (tgt := 22) hx hb dX5_about_17 (by decide) (fun q => ?_) (fun q => ?_)
    · have hf := (if_neg q).symm.trans hf
      refine lv_aload_n hx hb dX5_about_22 rfl (lv_at hl 0 rfl) ?_
      refine gf_5_85 hx hb hE hown hP dX5_about_23 ?_
      refine lv_if_ne (tgt := 32) hx hb dX5_about_26 (by decide) (fun q => ?_) (fun q => ?_)
      · have hf := (if_neg q).symm.trans hf
        refine lv_aload_n hx hb dX5_about_32 rfl (lv_at hl 0 rfl) ?_
        refine gf_5_26 hx hb hE hown hP dX5_about_33 ?_
        refine gf_5_76 hx hb hE hown hP dX5_about_36 ?_
        refine lv_iload_n hx hb dX5_about_39 rfl (lv_at hl 1 rfl) ?_
        obtain ⟨hi_3, hf⟩ := ck_some hf
        refine al_rank hx hb hE hP hi_3 dX5_about_40 ?_
        refine lv_astore_n (lv' := [(3, .ref (a (14 + 3 * x1.toNatClampNeg))), (0, .ref (a 0)), (1, .int x1), (2, .int x2)]) hx hb dX5_about_41 rfl hl (by decide) rfl (fun ls hl => ?_)
        refine lv_iload_n hx hb dX5_about_42 rfl (lv_at hl 3 rfl) ?_
        by_cases q0 : x2 = 0
        · have hf := (if_pos q0).symm.trans hf
          refine lv_tableIn (tgt := 72) hx hb dX5_about_43 (by rw [q0]; decide) (by rw [q0]; decide) (by rw [q0]; rfl) (by decide) ?_
          refine lv_aload_n hx hb dX5_about_72 rfl (lv_at hl 1 rfl) ?_
          refine gf_5_12 hx hb hE hown hP dX5_about_73 ?_
          refine lv_aload_n hx hb dX5_about_76 rfl (lv_at hl 0 rfl) ?_
          refine gf_5_144 hx hb hE hown hP (vp_lt hi_3) dX5_about_77 ?_
          obtain ⟨r_8, hc, hf⟩ := bnd hf
          refine rdV X (c_X1_hoursOf l d a z (z.1 (14 + 6 * x1.toNatClampNeg)) hc) (k_X5_158 hE rfl rfl ⟨Nat.le_of_ble_eq_true rfl, Nat.le_of_ble_eq_true rfl⟩) hP (va_recv (q := (RX1, TX1, 7)) hE.2 hP (ci := 1) (q0 := 1) rfl rfl) rfl hl.1 rfl (Nat.le_of_ble_eq_true rfl) dX5_about_80 ?_
          obtain rfl := Option.some.inj hf
          exact W.iret hx hb hr (fun t ht _ => ⟨rfl, ht⟩) (fun _ h => nomatch h) dX5_about_83 hlk
        · have hf := (if_neg q0).symm.trans hf
          by_cases q1 : x2 = 1
          · have hf := (if_pos q1).symm.trans hf
            refine lv_tableIn (tgt := 84) hx hb dX5_about_43 (by rw [q1]; decide) (by rw [q1]; decide) (by rw [q1]; rfl) (by decide) ?_
            refine lv_aload_n hx hb dX5_about_84 rfl (lv_at hl 0 rfl) ?_
            refine gf_5_144 hx hb hE hown hP (vp_lt hi_3) dX5_about_85 ?_
            obtain ⟨r_7, hc, hf⟩ := bnd hf
            refine rdS X (c_J6_bitCount_0f7a4 l d a z (z.1 (14 + 6 * x1.toNatClampNeg)) hc) (k_X5_153 hE rfl rfl ⟨Nat.le_of_ble_eq_true rfl, Nat.le_of_ble_eq_true rfl⟩) hP rfl hl.1 rfl (Nat.le_of_ble_eq_true rfl) dX5_about_88 ?_
            obtain rfl := Option.some.inj hf
            exact W.iret hx hb hr (fun t ht _ => ⟨rfl, ht⟩) (fun _ h => nomatch h) dX5_about_91 hlk
          · have hf := (if_neg q1).symm.trans hf
            by_cases q2 : x2 = 2
            · have hf := (if_pos q2).symm.trans hf
              refine lv_tableIn (tgt := 92) hx hb dX5_about_43 (by rw [q2]; decide) (by rw [q2]; decide) (by rw [q2]; rfl) (by decide) ?_
              refine lv_aload_n hx hb dX5_about_92 rfl (lv_at hl 1 rfl) ?_
              refine gf_5_12 hx hb hE hown hP dX5_about_93 ?_
              refine lv_aload_n hx hb dX5_about_96 rfl (lv_at hl 0 rfl) ?_
              refine gf_5_144 hx hb hE hown hP (vp_lt hi_3) dX5_about_97 ?_
              obtain ⟨r_5, hc, hf⟩ := bnd hf
              refine rdV X (c_X1_daysOf l d a z (z.1 (14 + 6 * x1.toNatClampNeg)) hc) (k_X5_161 hE rfl rfl ⟨Nat.le_of_ble_eq_true rfl, Nat.le_of_ble_eq_true rfl⟩) hP (va_recv (q := (RX1, TX1, 7)) hE.2 hP (ci := 1) (q0 := 1) rfl rfl) rfl hl.1 rfl (Nat.le_of_ble_eq_true rfl) dX5_about_100 ?_
              obtain ⟨r_6, hc, hf⟩ := bnd hf
              refine rdS X (c_J6_bitCount_0f7a4 l d a z r_5 hc) (k_X5_153 hE rfl rfl ⟨Nat.le_of_ble_eq_true rfl, Nat.le_of_ble_eq_true rfl⟩) hP rfl hl.1 rfl (Nat.le_of_ble_eq_true rfl) dX5_about_103 ?_
              obtain rfl := Option.some.inj hf
              exact W.iret hx hb hr (fun t ht _ => ⟨rfl, ht⟩) (fun _ h => nomatch h) dX5_about_106 hlk
            · have hf := (if_neg q2).symm.trans hf
              by_cases q3 : x2 = 3
              · have hf := (if_pos q3).symm.trans hf
                refine lv_tableIn (tgt := 107) hx hb dX5_about_43 (by rw [q3]; decide) (by rw [q3]; decide) (by rw [q3]; rfl) (by decide) ?_
                refine lv_aload_n hx hb dX5_about_107 rfl (lv_at hl 0 rfl) ?_
                refine lv_aload_n hx hb dX5_about_108 rfl (lv_at hl 1 rfl) ?_
                refine gf_5_12 hx hb hE hown hP dX5_about_109 ?_
                obtain ⟨r_4, hc, hf⟩ := bnd hf
                refine rdV X (c_X3_wishesMet l d a z x1.toNatClampNeg (vp_lt hi_3) hc) (k_X5_164 hE rfl rfl ⟨Nat.le_of_ble_eq_true rfl, Nat.le_of_ble_eq_true rfl⟩) hP (recvP hE hP (vp_lt hi_3)) rfl hl.1 rfl (Nat.le_of_ble_eq_true rfl) dX5_about_112 ?_
                obtain rfl := Option.some.inj hf
                exact W.iret hx hb hr (fun t ht _ => ⟨rfl, ht⟩) (fun _ h => nomatch h) dX5_about_115 hlk
              · have hf := (if_neg q3).symm.trans hf
                refine lv_tableOut (tgt := 116) hx hb dX5_about_43 (sw3 q0 q1 q2 q3) (by decide) ?_
                refine lv_aload_n hx hb dX5_about_116 rfl (lv_at hl 0 rfl) ?_
                refine gf_5_147 hx hb hE hown hP (vp_lt hi_3) dX5_about_117 ?_
                refine lv_if_eq (tgt := 127) hx hb dX5_about_120 (by decide) (fun q => ?_) (fun q => ?_)
                · have hf := (if_pos q).symm.trans hf
                  refine lv_iconst (v := 0) hx hb dX5_about_127 (by decide) ?_
                  obtain rfl := Option.some.inj hf
                  exact W.iret hx hb hr (fun t ht _ => ⟨rfl, ht⟩) (fun _ h => nomatch h) dX5_about_128 hlk
                · have hf := (if_neg q).symm.trans hf
                  refine lv_iconst (v := 1) hx hb dX5_about_123 (by decide) ?_
                  refine lv_goto (tgt := 128) hx hb dX5_about_124 (by decide) ?_
                  obtain rfl := Option.some.inj hf
                  exact W.iret hx hb hr (fun t ht _ => ⟨rfl, ht⟩) (fun _ h => nomatch h) dX5_about_128 hlk
      · have hf := (if_pos q).symm.trans hf
        refine lv_bipush (v := -3) hx hb dX5_about_29 (by decide) ?_
        obtain rfl := Option.some.inj hf
        exact W.iret hx hb hr (fun t ht _ => ⟨rfl, ht⟩) (fun _ h => nomatch h) dX5_about_31 hlk
    · have hf := (if_pos q).symm.trans hf
      refine lv_iconst (v := -1) hx hb dX5_about_20 (by decide) ?_
      obtain rfl := Option.some.inj hf
      exact W.iret hx hb hr (fun t ht _ => ⟨rfl, ht⟩) (fun _ h => nomatch h) dX5_about_21 hlk
set_option maxHeartbeats 4000000 in
set_option maxRecDepth 100000 in
theorem c_X5_about (l : Launch) (d : G3) (a : Nat → Nat) (z : St) (x1 : Int32) (x2 : Int32) {RR : Int32} (hf : f_X5_about z x1 x2 = some RR) : Met l yX5_about [Cond.code yX5_about cX5_about 4 (some .int)] { frames := 5, cells := 0, slots := 0, locals := 113 } (rpre wC d a z [.ref (a 0), .int x1, .int x2]) (QcRead RR) 0 0 (fun _ => False) := by
  refine Met.ofW (cc := cX5_about) (maxL := 4) (ret := (some .int)) (by decide) rfl ?_
  intro p e s m args below meth c s₁ B hml hv
  obtain ⟨rfl, hE, hP⟩ := hv
  have X : Cx p s m c cX5_about RX5 4 d := ⟨B.exec, B.bytes, hml, findClass_of_methodNamed B.named, hE⟩
  have hl := lv_entry ([.ref (a 0), .int x1, .int x2]) (n := 4) (Nat.le_of_ble_eq_true rfl)
  rw [lg_entry_eq]
  generalize (lg_sl ([.ref (a 0), .int x1, .int x2]) ++ List.replicate (4 - (lg_sl ([.ref (a 0), .int x1, .int x2])).length) Slot.unset).toArray = ls at hl ⊢
  have hl : lv_has ls 4 [(0, .ref (a 0)), (1, .int x1), (2, .int x2)] := hl
  exact t_X5_about X hP B.returns B.notSynchronized x1 x2 hf ls hl
def f_X5_open (z : St) : Option (Int32) := (if (z.1 0) = (0 : Int32) then some (-3 : Int32) else (f_X1_all z).bind (fun r_1 => (f_X2_allHeld z).bind (fun r_2 => some (r_1 &&& (r_2 ^^^ (-1 : Int32))))))
set_option maxHeartbeats 4000000 in
set_option maxRecDepth 100000 in
theorem t_X5_open {RR : Int32} (X : Cx p s m c cX5_open RX5 1 d) {z : St} (hP : va_P d.1 classes (wC d a z) s.heap) (hr : meth.sig.returnType = (some .int)) (hlk : meth.locks = false) : f_X5_open z = some RR → WRd p l e { frames := 1, cells := 0, slots := 0, locals := 22 } s m args below meth c RR 1 [(0, .ref (a 0))] 0 [] := by
  intro hf ls hl
  obtain ⟨hx, hb, hml, hown, hE⟩ := id X
  unfold f_X5_open at hf
  refine lv_aload_n hx hb dX5_open_0 rfl (lv_at hl 0 rfl) ?_
  refine gf_5_85 hx hb hE hown hP dX5_open_1 ?_
  refine lv_if_eq (tgt := 27) hx hb dX5_open_4 (by decide) (fun q => ?_) (fun q => ?_)
  · have hf := (if_pos q).symm.trans hf
    refine lv_bipush (v := -3) hx hb dX5_open_27 (by decide) ?_
    obtain rfl := Option.some.inj hf
    exact W.iret hx hb hr (fun t ht _ => ⟨rfl, ht⟩) (fun _ h => nomatch h) dX5_open_29 hlk
  · have hf := (if_neg q).symm.trans hf
    refine lv_aload_n hx hb dX5_open_7 rfl (lv_at hl 0 rfl) ?_
    refine gf_5_12 hx hb hE hown hP dX5_open_8 ?_
    obtain ⟨r_1, hc, hf⟩ := bnd hf
    refine rdV X (c_X1_all l d a z hc) (k_X5_116 hE rfl rfl ⟨Nat.le_of_ble_eq_true rfl, Nat.le_of_ble_eq_true rfl⟩) hP (va_recv (q := (RX1, TX1, 7)) hE.2 hP (ci := 1) (q0 := 1) rfl rfl) rfl hl.1 rfl (Nat.le_of_ble_eq_true rfl) dX5_open_11 ?_
    refine lv_aload_n hx hb dX5_open_14 rfl (lv_at hl 0 rfl) ?_
    refine gf_5_26 hx hb hE hown hP dX5_open_15 ?_
    obtain ⟨r_2, hc, hf⟩ := bnd hf
    refine rdV X (c_X2_allHeld l d a z hc) (k_X5_168 hE rfl rfl ⟨Nat.le_of_ble_eq_true rfl, Nat.le_of_ble_eq_true rfl⟩) hP (va_recv (q := (RX2, TX2, 2)) hE.2 hP (ci := 2) (q0 := 9) rfl rfl) rfl hl.1 rfl (Nat.le_of_ble_eq_true rfl) dX5_open_18 ?_
    refine lv_iconst (v := -1) hx hb dX5_open_21 (by decide) ?_
    refine lv_ixor hx hb dX5_open_22 ?_
    refine lv_iand hx hb dX5_open_23 ?_
    refine lv_goto (tgt := 29) hx hb dX5_open_24 (by decide) ?_
    obtain rfl := Option.some.inj hf
    exact W.iret hx hb hr (fun t ht _ => ⟨rfl, ht⟩) (fun _ h => nomatch h) dX5_open_29 hlk
set_option maxHeartbeats 4000000 in
set_option maxRecDepth 100000 in
theorem c_X5_open (l : Launch) (d : G3) (a : Nat → Nat) (z : St) {RR : Int32} (hf : f_X5_open z = some RR) : Met l yX5_open [Cond.code yX5_open cX5_open 1 (some .int)] { frames := 1, cells := 0, slots := 0, locals := 22 } (rpre wC d a z [.ref (a 0)]) (QcRead RR) 0 0 (fun _ => False) := by
  refine Met.ofW (cc := cX5_open) (maxL := 1) (ret := (some .int)) (by decide) rfl ?_
  intro p e s m args below meth c s₁ B hml hv
  obtain ⟨rfl, hE, hP⟩ := hv
  have X : Cx p s m c cX5_open RX5 1 d := ⟨B.exec, B.bytes, hml, findClass_of_methodNamed B.named, hE⟩
  have hl := lv_entry ([.ref (a 0)]) (n := 1) (Nat.le_of_ble_eq_true rfl)
  rw [lg_entry_eq]
  generalize (lg_sl ([.ref (a 0)]) ++ List.replicate (1 - (lg_sl ([.ref (a 0)])).length) Slot.unset).toArray = ls at hl ⊢
  have hl : lv_has ls 1 [(0, .ref (a 0))] := hl
  exact t_X5_open X hP B.returns B.notSynchronized hf ls hl
def f_X5_couldMeet_46 (z : St) (k46 : Int32 → Int32 → Nat → Int32 → Int32 → Int32 → Option (Int32)) (x1 : Int32) (x3 : Int32) (p4 : Nat) (x5 : Int32) (x6 : Int32) (x7 : Int32) : Option (Int32) := (if x3 < x7 then some (0 : Int32) else (if (x7 &&& (x3 ^^^ (-1 : Int32))) = (0 : Int32) then (f_X0_isLegal z x1 x7).bind (fun r_1 => (if r_1 = (0 : Int32) then k46 x1 x3 p4 x5 x6 (x7 + (1 : Int32)) else (f_X3_score z p4 x7).bind (fun r_2 => (if ((r_2 >>> (x5 &&& 31)) &&& x6) = x6 then some (1 : Int32) else k46 x1 x3 p4 x5 x6 (x7 + (1 : Int32)))))) else k46 x1 x3 p4 x5 x6 (x7 + (1 : Int32))))
def l_X5_couldMeet_46 (z : St) : Int32 → Int32 → Nat → Int32 → Int32 → Int32 → Option (Int32) := iter (fun _ _ _ _ _ _ => none) (f_X5_couldMeet_46 z) FU
set_option maxHeartbeats 4000000 in
set_option maxRecDepth 100000 in
theorem t_X5_couldMeet_46 {RR : Int32} (X : Cx p s m c cX5_couldMeet RX5 8 d) {z : St} (hP : va_P d.1 classes (wC d a z) s.heap) (hr : meth.sig.returnType = (some .boolean)) (hlk : meth.locks = false) {k46 : Int32 → Int32 → Nat → Int32 → Int32 → Int32 → Option (Int32)} (hk46 : ∀ (x1 : Int32) (x3 : Int32) (p4 : Nat) (x5 : Int32) (x6 : Int32) (x7 : Int32) (hp4 : p4 < 4), k46 x1 x3 p4 x5 x6 x7 = some RR → WRd p l e { frames := 4, cells := 0, slots := 0, locals := 92 } s m args below meth c RR 8 [(0, .ref (a 0)), (1, .int x1), (3, .int x3), (4, .ref (a (14 + 3 * p4))), (5, .int x5), (6, .int x6), (7, .int x7)] 46 []) : ∀ (x1 : Int32) (x3 : Int32) (p4 : Nat) (x5 : Int32) (x6 : Int32) (x7 : Int32) (hp4 : p4 < 4), f_X5_couldMeet_46 z k46 x1 x3 p4 x5 x6 x7 = some RR → WRd p l e { frames := 4, cells := 0, slots := 0, locals := 92 } s m args below meth c RR 8 [(0, .ref (a 0)), (1, .int x1), (3, .int x3), (4, .ref (a (14 + 3 * p4))), (5, .int x5), (6, .int x6), (7, .int x7)] 46 [] := by
  intro x1 x3 p4 x5 x6 x7 hp4 hf ls hl
  obtain ⟨hx, hb, hml, hown, hE⟩ := id X
  unfold f_X5_couldMeet_46 at hf
  refine lv_iload hx hb dX5_couldMeet_46 (lv_at hl 6 rfl) ?_
  refine lv_iload_n hx hb dX5_couldMeet_48 rfl (lv_at hl 2 rfl) ?_
  refine lv_icmp_gt (tgt := 104) hx hb dX5_couldMeet_49 (by decide) (fun q => ?_) (fun q => ?_)
  · have hf := (if_pos q).symm.trans hf
    refine lv_iconst (v := 0) hx hb dX5_couldMeet_104 (by decide) ?_
    obtain rfl := Option.some.inj hf
    exact W.zret hx hb hr rfl (fun t ht _ => ⟨rfl, ht⟩) (fun _ h => nomatch h) dX5_couldMeet_105 hlk
  · have hf := (if_neg q).symm.trans hf
    refine lv_iload hx hb dX5_couldMeet_52 (lv_at hl 6 rfl) ?_
    refine lv_iload_n hx hb dX5_couldMeet_54 rfl (lv_at hl 2 rfl) ?_
    refine lv_iconst (v := -1) hx hb dX5_couldMeet_55 (by decide) ?_
    refine lv_ixor hx hb dX5_couldMeet_56 ?_
    refine lv_iand hx hb dX5_couldMeet_57 ?_
    refine lv_if_ne (tgt := 98) hx hb dX5_couldMeet_58 (by decide) (fun q => ?_) (fun q => ?_)
    · have hf := (if_neg q).symm.trans hf
      refine lv_iinc (v := (x7 + (1 : Int32))) (lv' := [(7, .int (x7 + (1 : Int32))), (0, .ref (a 0)), (1, .int x1), (3, .int x3), (4, .ref (a (14 + 3 * p4))), (5, .int x5), (6, .int x6)]) hx hb dX5_couldMeet_98 hl (k := 6) rfl rfl (by decide) rfl (fun ls hl => ?_)
      refine lv_goto (tgt := 46) hx hb dX5_couldMeet_101 (by decide) ?_
      exact hk46 x1 x3 p4 x5 x6 (x7 + (1 : Int32)) hp4 hf ls (lv_sub hl [1, 2, 3, 4, 5, 6, 0] rfl)
    · have hf := (if_pos q).symm.trans hf
      refine lv_aload_n hx hb dX5_couldMeet_61 rfl (lv_at hl 0 rfl) ?_
      refine gf_5_35 hx hb hE hown hP dX5_couldMeet_62 ?_
      refine lv_iload_n hx hb dX5_couldMeet_65 rfl (lv_at hl 1 rfl) ?_
      refine lv_iload hx hb dX5_couldMeet_66 (lv_at hl 6 rfl) ?_
      obtain ⟨r_1, hc, hf⟩ := bnd hf
      refine rdV X (c_X0_isLegal l d a z x1 x7 hc) (k_X5_120 hE rfl rfl ⟨Nat.le_of_ble_eq_true rfl, Nat.le_of_ble_eq_true rfl⟩) hP (va_recv (q := (RX0, TX0, 7)) hE.2 hP (ci := 0) (q0 := 11) rfl rfl) rfl hl.1 rfl (Nat.le_of_ble_eq_true rfl) dX5_couldMeet_68 ?_
      refine lv_if_eq (tgt := 98) hx hb dX5_couldMeet_71 (by decide) (fun q => ?_) (fun q => ?_)
      · have hf := (if_pos q).symm.trans hf
        refine lv_iinc (v := (x7 + (1 : Int32))) (lv' := [(7, .int (x7 + (1 : Int32))), (0, .ref (a 0)), (1, .int x1), (3, .int x3), (4, .ref (a (14 + 3 * p4))), (5, .int x5), (6, .int x6)]) hx hb dX5_couldMeet_98 hl (k := 6) rfl rfl (by decide) rfl (fun ls hl => ?_)
        refine lv_goto (tgt := 46) hx hb dX5_couldMeet_101 (by decide) ?_
        exact hk46 x1 x3 p4 x5 x6 (x7 + (1 : Int32)) hp4 hf ls (lv_sub hl [1, 2, 3, 4, 5, 6, 0] rfl)
      · have hf := (if_neg q).symm.trans hf
        refine lv_aload hx hb dX5_couldMeet_74 (lv_at hl 3 rfl) ?_
        refine lv_aload_n hx hb dX5_couldMeet_76 rfl (lv_at hl 0 rfl) ?_
        refine gf_5_12 hx hb hE hown hP dX5_couldMeet_77 ?_
        refine lv_iload hx hb dX5_couldMeet_80 (lv_at hl 6 rfl) ?_
        obtain ⟨r_2, hc, hf⟩ := bnd hf
        refine rdV X (c_X3_score l d a z p4 x7 hp4 hc) (k_X5_131 hE rfl rfl ⟨Nat.le_of_ble_eq_true rfl, Nat.le_of_ble_eq_true rfl⟩) hP (recvP hE hP hp4) rfl hl.1 rfl (Nat.le_of_ble_eq_true rfl) dX5_couldMeet_82 ?_
        refine lv_iload hx hb dX5_couldMeet_85 (lv_at hl 4 rfl) ?_
        refine lv_ishr hx hb dX5_couldMeet_87 ?_
        refine lv_iload hx hb dX5_couldMeet_88 (lv_at hl 5 rfl) ?_
        refine lv_iand hx hb dX5_couldMeet_90 ?_
        refine lv_iload hx hb dX5_couldMeet_91 (lv_at hl 5 rfl) ?_
        refine lv_icmp_ne (tgt := 98) hx hb dX5_couldMeet_93 (by decide) (fun q => ?_) (fun q => ?_)
        · have hf := (if_neg q).symm.trans hf
          refine lv_iinc (v := (x7 + (1 : Int32))) (lv' := [(7, .int (x7 + (1 : Int32))), (0, .ref (a 0)), (1, .int x1), (3, .int x3), (4, .ref (a (14 + 3 * p4))), (5, .int x5), (6, .int x6)]) hx hb dX5_couldMeet_98 hl (k := 6) rfl rfl (by decide) rfl (fun ls hl => ?_)
          refine lv_goto (tgt := 46) hx hb dX5_couldMeet_101 (by decide) ?_
          exact hk46 x1 x3 p4 x5 x6 (x7 + (1 : Int32)) hp4 hf ls (lv_sub hl [1, 2, 3, 4, 5, 6, 0] rfl)
        · have hf := (if_pos q).symm.trans hf
          refine lv_iconst (v := 1) hx hb dX5_couldMeet_96 (by decide) ?_
          obtain rfl := Option.some.inj hf
          exact W.zret hx hb hr rfl (fun t ht _ => ⟨rfl, ht⟩) (fun _ h => nomatch h) dX5_couldMeet_97 hlk
theorem u_X5_couldMeet_46 {RR : Int32} (X : Cx p s m c cX5_couldMeet RX5 8 d) {z : St} (hP : va_P d.1 classes (wC d a z) s.heap) (hr : meth.sig.returnType = (some .boolean)) (hlk : meth.locks = false) : ∀ (x1 : Int32) (x3 : Int32) (p4 : Nat) (x5 : Int32) (x6 : Int32) (x7 : Int32) (hp4 : p4 < 4), l_X5_couldMeet_46 z x1 x3 p4 x5 x6 x7 = some RR → WRd p l e { frames := 4, cells := 0, slots := 0, locals := 92 } s m args below meth c RR 8 [(0, .ref (a 0)), (1, .int x1), (3, .int x3), (4, .ref (a (14 + 3 * p4))), (5, .int x5), (6, .int x6), (7, .int x7)] 46 [] := by
  unfold l_X5_couldMeet_46
  generalize FU = n
  induction n with
  | zero => intro x1 x3 p4 x5 x6 x7 hp4 hf; exact absurd (show (none : Option (Int32)) = some RR from hf) (by simp)
  | succ n ih => exact t_X5_couldMeet_46 X hP hr hlk ih
def f_X5_couldMeet (z : St) (x1 : Int32) (x2 : Int32) (x3 : Int32) : Option (Int32) := ck 4 x1 ((f_X3_score z x1.toNatClampNeg (z.1 (14 + 6 * x1.toNatClampNeg))).bind (fun r_2 => l_X5_couldMeet_46 z x1 x3 x1.toNatClampNeg (((z.1 (10 + 6 * x1.toNatClampNeg)) - (1 : Int32)) - x2) ((r_2 >>> ((((z.1 (10 + 6 * x1.toNatClampNeg)) - (1 : Int32)) - x2) &&& 31)) ||| (1 : Int32)) (0 : Int32)))
set_option maxHeartbeats 4000000 in
set_option maxRecDepth 100000 in
theorem t_X5_couldMeet {RR : Int32} (X : Cx p s m c cX5_couldMeet RX5 8 d) {z : St} (hP : va_P d.1 classes (wC d a z) s.heap) (hr : meth.sig.returnType = (some .boolean)) (hlk : meth.locks = false) : ∀ (x1 : Int32) (x2 : Int32) (x3 : Int32), f_X5_couldMeet z x1 x2 x3 = some RR → WRd p l e { frames := 4, cells := 0, slots := 0, locals := 92 } s m args below meth c RR 8 [(0, .ref (a 0)), (1, .int x1), (2, .int x2), (3, .int x3)] 0 [] := by
  intro x1 x2 x3 hf ls hl
  obtain ⟨hx, hb, hml, hown, hE⟩ := id X
  unfold f_X5_couldMeet at hf
  refine lv_aload_n hx hb dX5_couldMeet_0 rfl (lv_at hl 0 rfl) ?_
  refine gf_5_26 hx hb hE hown hP dX5_couldMeet_1 ?_
  refine gf_5_76 hx hb hE hown hP dX5_couldMeet_4 ?_
  refine lv_iload_n hx hb dX5_couldMeet_7 rfl (lv_at hl 1 rfl) ?_
  obtain ⟨hi_1, hf⟩ := ck_some hf
  refine al_rank hx hb hE hP hi_1 dX5_couldMeet_8 ?_
  refine lv_astore (lv' := [(4, .ref (a (14 + 3 * x1.toNatClampNeg))), (0, .ref (a 0)), (1, .int x1), (2, .int x2), (3, .int x3)]) hx hb dX5_couldMeet_9 hl (by decide) rfl (fun ls hl => ?_)
  refine lv_aload hx hb dX5_couldMeet_11 (lv_at hl 0 rfl) ?_
  refine gf_5_80 hx hb hE hown hP (vp_lt hi_1) dX5_couldMeet_13 ?_
  refine lv_iconst (v := 1) hx hb dX5_couldMeet_16 (by decide) ?_
  refine lv_isub hx hb dX5_couldMeet_17 ?_
  refine lv_iload_n hx hb dX5_couldMeet_18 rfl (lv_at hl 3 rfl) ?_
  refine lv_isub hx hb dX5_couldMeet_19 ?_
  refine lv_istore (lv' := [(5, .int (((z.1 (10 + 6 * x1.toNatClampNeg)) - (1 : Int32)) - x2)), (4, .ref (a (14 + 3 * x1.toNatClampNeg))), (0, .ref (a 0)), (1, .int x1), (2, .int x2), (3, .int x3)]) hx hb dX5_couldMeet_20 hl (by decide) rfl (fun ls hl => ?_)
  refine lv_aload hx hb dX5_couldMeet_22 (lv_at hl 1 rfl) ?_
  refine lv_aload_n hx hb dX5_couldMeet_24 rfl (lv_at hl 2 rfl) ?_
  refine gf_5_12 hx hb hE hown hP dX5_couldMeet_25 ?_
  refine lv_aload hx hb dX5_couldMeet_28 (lv_at hl 1 rfl) ?_
  refine gf_5_144 hx hb hE hown hP (vp_lt hi_1) dX5_couldMeet_30 ?_
  obtain ⟨r_2, hc, hf⟩ := bnd hf
  refine rdV X (c_X3_score l d a z x1.toNatClampNeg (z.1 (14 + 6 * x1.toNatClampNeg)) (vp_lt hi_1) hc) (k_X5_131 hE rfl rfl ⟨Nat.le_of_ble_eq_true rfl, Nat.le_of_ble_eq_true rfl⟩) hP (recvP hE hP (vp_lt hi_1)) rfl hl.1 rfl (Nat.le_of_ble_eq_true rfl) dX5_couldMeet_33 ?_
  refine lv_iload hx hb dX5_couldMeet_36 (lv_at hl 0 rfl) ?_
  refine lv_ishr hx hb dX5_couldMeet_38 ?_
  refine lv_iconst (v := 1) hx hb dX5_couldMeet_39 (by decide) ?_
  refine lv_ior hx hb dX5_couldMeet_40 ?_
  refine lv_istore (lv' := [(6, .int ((r_2 >>> ((((z.1 (10 + 6 * x1.toNatClampNeg)) - (1 : Int32)) - x2) &&& 31)) ||| (1 : Int32))), (5, .int (((z.1 (10 + 6 * x1.toNatClampNeg)) - (1 : Int32)) - x2)), (4, .ref (a (14 + 3 * x1.toNatClampNeg))), (0, .ref (a 0)), (1, .int x1), (2, .int x2), (3, .int x3)]) hx hb dX5_couldMeet_41 hl (by decide) rfl (fun ls hl => ?_)
  refine lv_iconst (v := 0) hx hb dX5_couldMeet_43 (by decide) ?_
  refine lv_istore (lv' := [(7, .int (0 : Int32)), (6, .int ((r_2 >>> ((((z.1 (10 + 6 * x1.toNatClampNeg)) - (1 : Int32)) - x2) &&& 31)) ||| (1 : Int32))), (5, .int (((z.1 (10 + 6 * x1.toNatClampNeg)) - (1 : Int32)) - x2)), (4, .ref (a (14 + 3 * x1.toNatClampNeg))), (0, .ref (a 0)), (1, .int x1), (2, .int x2), (3, .int x3)]) hx hb dX5_couldMeet_44 hl (by decide) rfl (fun ls hl => ?_)
  exact u_X5_couldMeet_46 X hP hr hlk x1 x3 x1.toNatClampNeg (((z.1 (10 + 6 * x1.toNatClampNeg)) - (1 : Int32)) - x2) ((r_2 >>> ((((z.1 (10 + 6 * x1.toNatClampNeg)) - (1 : Int32)) - x2) &&& 31)) ||| (1 : Int32)) (0 : Int32) (vp_lt hi_1) hf ls (lv_sub hl [4, 5, 7, 3, 2, 1, 0] rfl)
set_option maxHeartbeats 4000000 in
set_option maxRecDepth 100000 in
theorem c_X5_couldMeet (l : Launch) (d : G3) (a : Nat → Nat) (z : St) (x1 : Int32) (x2 : Int32) (x3 : Int32) {RR : Int32} (hf : f_X5_couldMeet z x1 x2 x3 = some RR) : Met l yX5_couldMeet [Cond.code yX5_couldMeet cX5_couldMeet 8 (some .boolean)] { frames := 4, cells := 0, slots := 0, locals := 92 } (rpre wC d a z [.ref (a 0), .int x1, .int x2, .int x3]) (QcRead RR) 0 0 (fun _ => False) := by
  refine Met.ofW (cc := cX5_couldMeet) (maxL := 8) (ret := (some .boolean)) (by decide) rfl ?_
  intro p e s m args below meth c s₁ B hml hv
  obtain ⟨rfl, hE, hP⟩ := hv
  have X : Cx p s m c cX5_couldMeet RX5 8 d := ⟨B.exec, B.bytes, hml, findClass_of_methodNamed B.named, hE⟩
  have hl := lv_entry ([.ref (a 0), .int x1, .int x2, .int x3]) (n := 8) (Nat.le_of_ble_eq_true rfl)
  rw [lg_entry_eq]
  generalize (lg_sl ([.ref (a 0), .int x1, .int x2, .int x3]) ++ List.replicate (8 - (lg_sl ([.ref (a 0), .int x1, .int x2, .int x3])).length) Slot.unset).toArray = ls at hl ⊢
  have hl : lv_has ls 8 [(0, .ref (a 0)), (1, .int x1), (2, .int x2), (3, .int x3)] := hl
  exact t_X5_couldMeet X hP B.returns B.notSynchronized x1 x2 x3 hf ls hl
end GEN
