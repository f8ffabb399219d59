section GEN
variable {p : Program} {l : Launch} {e : Env} {s : State} {m : MethodId} {args : Array Value} {below : List Frame} {meth : Method} {c : Code} {d : G3} {a : Nat → Nat}
def f_X6_lines_18 (k18 : Int32 → Int32 → Int32 → St → Option (Int32 × St)) (x1 : Int32) (x2 : Int32) (x3 : Int32) (z : St) : Option (Int32 × St) := (if ((1 : Int32) <<< ((z.1 0) &&& 31)) ≤ x3 then some (x2, z) else ck 2048 (((512 : Int32) * x1) + x3) ((if (z.2 10 (((512 : Int32) * x1) + x3).toNatClampNeg) = (0 : Int32) then k18 x1 x2 (x3 + (1 : Int32)) z else k18 x1 (x2 + (1 : Int32)) (x3 + (1 : Int32)) z)))
def l_X6_lines_18 : Int32 → Int32 → Int32 → St → Option (Int32 × St) := iter (fun _ _ _ _ => none) (f_X6_lines_18) FU
set_option maxHeartbeats 4000000 in
set_option maxRecDepth 100000 in
theorem t_X6_lines_18 {RR : Int32 × St} (X : Cx p s m c cX6_lines RX6 4 d) (hJ : Inj 20 a) (hr : meth.sig.returnType = (some .int)) (hlk : meth.locks = false) {k18 : Int32 → Int32 → Int32 → St → Option (Int32 × St)} (hk18 : ∀ (x1 : Int32) (x2 : Int32) (x3 : Int32) (z : St), k18 x1 x2 x3 z = some RR → WWr wM 20 d a p l e { frames := 4, cells := 0, slots := 0, locals := 93 } s m args below meth c RR z 4 [(0, .ref (a 0)), (1, .int x1), (2, .int x2), (3, .int x3)] 18 []) : ∀ (x1 : Int32) (x2 : Int32) (x3 : Int32) (z : St), f_X6_lines_18 k18 x1 x2 x3 z = some RR → WWr wM 20 d a p l e { frames := 4, cells := 0, slots := 0, locals := 93 } s m args below meth c RR z 4 [(0, .ref (a 0)), (1, .int x1), (2, .int x2), (3, .int x3)] 18 [] := by
  intro x1 x2 x3 z hf H locs ls hP hS hl
  obtain ⟨hx, hb, hml, hown, hE⟩ := id X
  unfold f_X6_lines_18 at hf
  refine lv_iload_n hx hb dX6_lines_18 rfl (lv_at hl 3 rfl) ?_
  refine lv_iconst (v := 1) hx hb dX6_lines_19 (by decide) ?_
  refine lv_aload_n hx hb dX6_lines_20 rfl (lv_at hl 0 rfl) ?_
  refine gf_6_84 hx hb hE hown hP dX6_lines_21 ?_
  refine lv_ishl hx hb dX6_lines_24 ?_
  refine lv_icmp_ge (tgt := 52) hx hb dX6_lines_25 (by decide) (fun q => ?_) (fun q => ?_)
  · have hf := (if_pos q).symm.trans hf
    refine lv_iload_n hx hb dX6_lines_52 rfl (lv_at hl 2 rfl) ?_
    obtain rfl := Option.some.inj hf
    exact W.iret hx hb hr (fun t ht _ => ⟨rfl, by rw [ht]; exact hP, hS.F ht⟩) hS.2.2 dX6_lines_53 hlk
  · have hf := (if_neg q).symm.trans hf
    refine lv_aload_n hx hb dX6_lines_28 rfl (lv_at hl 0 rfl) ?_
    refine gf_6_53 hx hb hE hown hP dX6_lines_29 ?_
    refine lv_sipush (v := 512) hx hb dX6_lines_32 (by decide) ?_
    refine lv_iload_n hx hb dX6_lines_35 rfl (lv_at hl 1 rfl) ?_
    refine lv_imul hx hb dX6_lines_36 ?_
    refine lv_iload_n hx hb dX6_lines_37 rfl (lv_at hl 3 rfl) ?_
    refine lv_iadd hx hb dX6_lines_38 ?_
    obtain ⟨hi, hf⟩ := ck_some hf
    refine ld_M_11 hx hb hE hP hi dX6_lines_39 ?_
    refine lv_if_eq (tgt := 46) hx hb dX6_lines_40 (by decide) (fun q => ?_) (fun q => ?_)
    · have hf := (if_pos q).symm.trans hf
      refine lv_iinc (v := (x3 + (1 : Int32))) (lv' := [(3, .int (x3 + (1 : Int32))), (0, .ref (a 0)), (1, .int x1), (2, .int x2)]) hx hb dX6_lines_46 hl (k := 3) rfl rfl (by decide) rfl (fun ls hl => ?_)
      refine lv_goto (tgt := 18) hx hb dX6_lines_49 (by decide) ?_
      exact hk18 x1 x2 (x3 + (1 : Int32)) z hf H locs ls hP hS (lv_sub hl [1, 2, 3, 0] rfl)
    · have hf := (if_neg q).symm.trans hf
      refine lv_iinc (v := (x2 + (1 : Int32))) (lv' := [(2, .int (x2 + (1 : Int32))), (0, .ref (a 0)), (1, .int x1), (3, .int x3)]) hx hb dX6_lines_43 hl (k := 2) rfl rfl (by decide) rfl (fun ls hl => ?_)
      refine lv_iinc (v := (x3 + (1 : Int32))) (lv' := [(3, .int (x3 + (1 : Int32))), (2, .int (x2 + (1 : Int32))), (0, .ref (a 0)), (1, .int x1)]) hx hb dX6_lines_46 hl (k := 3) rfl rfl (by decide) rfl (fun ls hl => ?_)
      refine lv_goto (tgt := 18) hx hb dX6_lines_49 (by decide) ?_
      exact hk18 x1 (x2 + (1 : Int32)) (x3 + (1 : Int32)) z hf H locs ls hP hS (lv_sub hl [2, 3, 1, 0] rfl)
theorem u_X6_lines_18 {RR : Int32 × St} (X : Cx p s m c cX6_lines RX6 4 d) (hJ : Inj 20 a) (hr : meth.sig.returnType = (some .int)) (hlk : meth.locks = false) : ∀ (x1 : Int32) (x2 : Int32) (x3 : Int32) (z : St), l_X6_lines_18 x1 x2 x3 z = some RR → WWr wM 20 d a p l e { frames := 4, cells := 0, slots := 0, locals := 93 } s m args below meth c RR z 4 [(0, .ref (a 0)), (1, .int x1), (2, .int x2), (3, .int x3)] 18 [] := by
  unfold l_X6_lines_18
  generalize FU = n
  induction n with
  | zero => intro x1 x2 x3 z hf; exact absurd (show (none : Option (Int32 × St)) = some RR from hf) (by simp)
  | succ n ih => exact t_X6_lines_18 X hJ hr hlk ih
def f_X6_lines (x1 : Int32) (z : St) : Option (Int32 × St) := (f_X6_isPerson z x1).bind (fun r_1 => (if r_1 = (0 : Int32) then some ((-1 : Int32), z) else (f_X6_marks z).bind (fun r_2 => l_X6_lines_18 x1 (0 : Int32) (0 : Int32) r_2)))
set_option maxHeartbeats 4000000 in
set_option maxRecDepth 100000 in
theorem t_X6_lines {RR : Int32 × St} (X : Cx p s m c cX6_lines RX6 4 d) (hJ : Inj 20 a) (hr : meth.sig.returnType = (some .int)) (hlk : meth.locks = false) : ∀ (x1 : Int32) (z : St), f_X6_lines x1 z = some RR → WWr wM 20 d a p l e { frames := 4, cells := 0, slots := 0, locals := 93 } s m args below meth c RR z 4 [(0, .ref (a 0)), (1, .int x1)] 0 [] := by
  intro x1 z hf H locs ls hP hS hl
  obtain ⟨hx, hb, hml, hown, hE⟩ := id X
  unfold f_X6_lines at hf
  refine lv_aload_n hx hb dX6_lines_0 rfl (lv_at hl 0 rfl) ?_
  refine lv_iload_n hx hb dX6_lines_1 rfl (lv_at hl 1 rfl) ?_
  obtain ⟨r_1, hc, hf⟩ := bnd hf
  refine rdV X (c_X6_isPerson l d a z x1 hc) (k_X6_101 hE rfl rfl ⟨Nat.le_of_ble_eq_true rfl, Nat.le_of_ble_eq_true rfl⟩) hP (va_recv (q := (RX6, TX6, 28)) hE.2 hP (ci := 6) (q0 := 0) rfl rfl) rfl hl.1 rfl (Nat.le_of_ble_eq_true rfl) dX6_lines_2 ?_
  refine lv_if_ne (tgt := 10) hx hb dX6_lines_5 (by decide) (fun q => ?_) (fun q => ?_)
  · have hf := (if_neg q).symm.trans hf
    refine lv_aload_n hx hb dX6_lines_10 rfl (lv_at hl 0 rfl) ?_
    obtain ⟨r_2, hc, hf⟩ := bnd hf
    refine wrVv X (c_X6_marks l d a z hc) (k_X6_126 hE rfl rfl ⟨Nat.le_of_ble_eq_true rfl, Nat.le_of_ble_eq_true rfl⟩) hP hJ hS (va_recv (q := (RX6, TX6, 28)) hE.2 hP (ci := 6) (q0 := 0) rfl rfl) rfl hl.1 rfl (Nat.le_of_ble_eq_true rfl) dX6_lines_11 (fun H locs hP hS => ?_)
    refine lv_iconst (v := 0) hx hb dX6_lines_14 (by decide) ?_
    refine lv_istore_n (lv' := [(2, .int (0 : Int32)), (0, .ref (a 0)), (1, .int x1)]) hx hb dX6_lines_15 rfl hl (by decide) rfl (fun ls hl => ?_)
    refine lv_iconst (v := 0) hx hb dX6_lines_16 (by decide) ?_
    refine lv_istore_n (lv' := [(3, .int (0 : Int32)), (2, .int (0 : Int32)), (0, .ref (a 0)), (1, .int x1)]) hx hb dX6_lines_17 rfl hl (by decide) rfl (fun ls hl => ?_)
    exact u_X6_lines_18 X hJ hr hlk x1 (0 : Int32) (0 : Int32) r_2 hf H locs ls hP hS (lv_sub hl [2, 3, 1, 0] rfl)
  · have hf := (if_pos q).symm.trans hf
    refine lv_iconst (v := -1) hx hb dX6_lines_8 (by decide) ?_
    obtain rfl := Option.some.inj hf
    exact W.iret hx hb hr (fun t ht _ => ⟨rfl, by rw [ht]; exact hP, hS.F ht⟩) hS.2.2 dX6_lines_9 hlk
set_option maxHeartbeats 4000000 in
set_option maxRecDepth 100000 in
theorem c_X6_lines (l : Launch) (d : G3) (a : Nat → Nat) (z : St) (x1 : Int32) {RR : Int32 × St} (hf : f_X6_lines x1 z = some RR) : Met l yX6_lines [Cond.code yX6_lines cX6_lines 4 (some .int)] { frames := 4, cells := 0, slots := 0, locals := 93 } (wpre wM 20 d a z [.ref (a 0), .int x1]) (QW wM 20 d a RR) 0 0 (AD 20 a) := by
  refine Met.ofW (cc := cX6_lines) (maxL := 4) (ret := (some .int)) (by decide) rfl ?_
  intro p e s m args below meth c s₁ B hml hv
  obtain ⟨rfl, hE, hP, hJ⟩ := hv
  have X : Cx p s m c cX6_lines RX6 4 d := ⟨B.exec, B.bytes, hml, findClass_of_methodNamed B.named, hE⟩
  have hl := lv_entry ([.ref (a 0), .int x1]) (n := 4) (Nat.le_of_ble_eq_true rfl)
  rw [lg_entry_eq]
  generalize (lg_sl ([.ref (a 0), .int x1]) ++ List.replicate (4 - (lg_sl ([.ref (a 0), .int x1])).length) Slot.unset).toArray = ls at hl ⊢
  have hl : lv_has ls 4 [(0, .ref (a 0)), (1, .int x1)] := hl
  exact t_X6_lines X hJ B.returns B.notSynchronized x1 z hf s.heap [] ls hP va_S.rf hl
def f_X6_cover (x1 : Int32) (x2 : Int32) (z : St) : Option (Int32 × St) := (if x2 < (0 : Int32) then some ((-1 : Int32), z) else (if x2 ≤ (z.1 1) then (f_X6_isSet z x1).bind (fun r_1 => (if r_1 = (0 : Int32) then some ((-2 : Int32), z) else (f_X6_byNumbers z).bind (fun r_2 => (f_X6_covers r_2).bind (fun r_3 => ck 2560 (((512 : Int32) * x2) + x1) (some ((r_3.2 11 (((512 : Int32) * x2) + x1).toNatClampNeg), r_3)))))) else some ((-1 : Int32), z)))
set_option maxHeartbeats 4000000 in
set_option maxRecDepth 100000 in
theorem t_X6_cover {RR : Int32 × St} (X : Cx p s m c cX6_cover RX6 3 d) (hJ : Inj 20 a) (hr : meth.sig.returnType = (some .int)) (hlk : meth.locks = false) : ∀ (x1 : Int32) (x2 : Int32) (z : St), f_X6_cover x1 x2 z = some RR → WWr wM 20 d a p l e { frames := 5, cells := 0, slots := 0, locals := 120 } s m args below meth c RR z 3 [(0, .ref (a 0)), (1, .int x1), (2, .int x2)] 0 [] := by
  intro x1 x2 z hf H locs ls hP hS hl
  obtain ⟨hx, hb, hml, hown, hE⟩ := id X
  unfold f_X6_cover at hf
  refine lv_iload_n hx hb dX6_cover_0 rfl (lv_at hl 2 rfl) ?_
  refine lv_if_lt (tgt := 12) hx hb dX6_cover_1 (by decide) (fun q => ?_) (fun q => ?_)
  · have hf := (if_pos q).symm.trans hf
    refine lv_iconst (v := -1) hx hb dX6_cover_12 (by decide) ?_
    obtain rfl := Option.some.inj hf
    exact W.iret hx hb hr (fun t ht _ => ⟨rfl, by rw [ht]; exact hP, hS.F ht⟩) hS.2.2 dX6_cover_13 hlk
  · have hf := (if_neg q).symm.trans hf
    refine lv_iload_n hx hb dX6_cover_4 rfl (lv_at hl 2 rfl) ?_
    refine lv_aload_n hx hb dX6_cover_5 rfl (lv_at hl 0 rfl) ?_
    refine gf_6_81 hx hb hE hown hP dX6_cover_6 ?_
    refine lv_icmp_le (tgt := 14) hx hb dX6_cover_9 (by decide) (fun q => ?_) (fun q => ?_)
    · have hf := (if_pos q).symm.trans hf
      refine lv_aload_n hx hb dX6_cover_14 rfl (lv_at hl 0 rfl) ?_
      refine lv_iload_n hx hb dX6_cover_15 rfl (lv_at hl 1 rfl) ?_
      obtain ⟨r_1, hc, hf⟩ := bnd hf
      refine rdV X (c_X6_isSet l d a z x1 hc) (k_X6_139 hE rfl rfl ⟨Nat.le_of_ble_eq_true rfl, Nat.le_of_ble_eq_true rfl⟩) hP (va_recv (q := (RX6, TX6, 28)) hE.2 hP (ci := 6) (q0 := 0) rfl rfl) rfl hl.1 rfl (Nat.le_of_ble_eq_true rfl) dX6_cover_16 ?_
      refine lv_if_ne (tgt := 25) hx hb dX6_cover_19 (by decide) (fun q => ?_) (fun q => ?_)
      · have hf := (if_neg q).symm.trans hf
        refine lv_aload_n hx hb dX6_cover_25 rfl (lv_at hl 0 rfl) ?_
        obtain ⟨r_2, hc, hf⟩ := bnd hf
        refine wrVv X (c_X6_byNumbers l d a z hc) (k_X6_142 hE rfl rfl ⟨Nat.le_of_ble_eq_true rfl, Nat.le_of_ble_eq_true rfl⟩) hP hJ hS (va_recv (q := (RX6, TX6, 28)) hE.2 hP (ci := 6) (q0 := 0) rfl rfl) rfl hl.1 rfl (Nat.le_of_ble_eq_true rfl) dX6_cover_26 (fun H locs hP hS => ?_)
        refine lv_aload_n hx hb dX6_cover_29 rfl (lv_at hl 0 rfl) ?_
        obtain ⟨r_3, hc, hf⟩ := bnd hf
        refine wrVv X (c_X6_covers l d a r_2 hc) (k_X6_132 hE rfl rfl ⟨Nat.le_of_ble_eq_true rfl, Nat.le_of_ble_eq_true rfl⟩) hP hJ hS (va_recv (q := (RX6, TX6, 28)) hE.2 hP (ci := 6) (q0 := 0) rfl rfl) rfl hl.1 rfl (Nat.le_of_ble_eq_true rfl) dX6_cover_30 (fun H locs hP hS => ?_)
        refine lv_aload_n hx hb dX6_cover_33 rfl (lv_at hl 0 rfl) ?_
        refine gf_6_57 hx hb hE hown hP dX6_cover_34 ?_
        refine lv_sipush (v := 512) hx hb dX6_cover_37 (by decide) ?_
        refine lv_iload_n hx hb dX6_cover_40 rfl (lv_at hl 2 rfl) ?_
        refine lv_imul hx hb dX6_cover_41 ?_
        refine lv_iload_n hx hb dX6_cover_42 rfl (lv_at hl 1 rfl) ?_
        refine lv_iadd hx hb dX6_cover_43 ?_
        obtain ⟨hi, hf⟩ := ck_some hf
        refine ld_M_12 hx hb hE hP hi dX6_cover_44 ?_
        obtain rfl := Option.some.inj hf
        exact W.iret hx hb hr (fun t ht _ => ⟨rfl, by rw [ht]; exact hP, hS.F ht⟩) hS.2.2 dX6_cover_45 hlk
      · have hf := (if_pos q).symm.trans hf
        refine lv_bipush (v := -2) hx hb dX6_cover_22 (by decide) ?_
        obtain rfl := Option.some.inj hf
        exact W.iret hx hb hr (fun t ht _ => ⟨rfl, by rw [ht]; exact hP, hS.F ht⟩) hS.2.2 dX6_cover_24 hlk
    · have hf := (if_neg q).symm.trans hf
      refine lv_iconst (v := -1) hx hb dX6_cover_12 (by decide) ?_
      obtain rfl := Option.some.inj hf
      exact W.iret hx hb hr (fun t ht _ => ⟨rfl, by rw [ht]; exact hP, hS.F ht⟩) hS.2.2 dX6_cover_13 hlk
set_option maxHeartbeats 4000000 in
set_option maxRecDepth 100000 in
theorem c_X6_cover (l : Launch) (d : G3) (a : Nat → Nat) (z : St) (x1 : Int32) (x2 : Int32) {RR : Int32 × St} (hf : f_X6_cover x1 x2 z = some RR) : Met l yX6_cover [Cond.code yX6_cover cX6_cover 3 (some .int)] { frames := 5, cells := 0, slots := 0, locals := 120 } (wpre wM 20 d a z [.ref (a 0), .int x1, .int x2]) (QW wM 20 d a RR) 0 0 (AD 20 a) := by
  refine Met.ofW (cc := cX6_cover) (maxL := 3) (ret := (some .int)) (by decide) rfl ?_
  intro p e s m args below meth c s₁ B hml hv
  obtain ⟨rfl, hE, hP, hJ⟩ := hv
  have X : Cx p s m c cX6_cover RX6 3 d := ⟨B.exec, B.bytes, hml, findClass_of_methodNamed B.named, hE⟩
  have hl := lv_entry ([.ref (a 0), .int x1, .int x2]) (n := 3) (Nat.le_of_ble_eq_true rfl)
  rw [lg_entry_eq]
  generalize (lg_sl ([.ref (a 0), .int x1, .int x2]) ++ List.replicate (3 - (lg_sl ([.ref (a 0), .int x1, .int x2])).length) Slot.unset).toArray = ls at hl ⊢
  have hl : lv_has ls 3 [(0, .ref (a 0)), (1, .int x1), (2, .int x2)] := hl
  exact t_X6_cover X hJ B.returns B.notSynchronized x1 x2 z hf s.heap [] ls hP va_S.rf hl
def f_X6_better (z : St) (x1 : Int32) (x2 : Int32) (x3 : Int32) : Option (Int32) := (f_X6_isPerson z x1).bind (fun r_1 => (if r_1 = (0 : Int32) then some (-1 : Int32) else (f_X6_isSet z x2).bind (fun r_2 => (if r_2 = (0 : Int32) then some (-2 : Int32) else (f_X6_isSet z x3).bind (fun r_3 => (if r_3 = (0 : Int32) then some (-2 : Int32) else (f_X6_compares z x1 x2 x3).bind (fun r_4 => some r_4)))))))
set_option maxHeartbeats 4000000 in
set_option maxRecDepth 100000 in
theorem t_X6_better {RR : Int32} (X : Cx p s m c cX6_better RX6 4 d) {z : St} (hP : va_P d.1 classes (wM d a z) s.heap) (hr : meth.sig.returnType = (some .int)) (hlk : meth.locks = false) : ∀ (x1 : Int32) (x2 : Int32) (x3 : Int32), f_X6_better z x1 x2 x3 = some RR → WRd p l e { frames := 4, cells := 0, slots := 0, locals := 96 } s m args below meth c RR 4 [(0, .ref (a 0)), (1, .int x1), (2, .int x2), (3, .int x3)] 0 [] := by
  intro x1 x2 x3 hf ls hl
  obtain ⟨hx, hb, hml, hown, hE⟩ := id X
  unfold f_X6_better at hf
  refine lv_aload_n hx hb dX6_better_0 rfl (lv_at hl 0 rfl) ?_
  refine lv_iload_n hx hb dX6_better_1 rfl (lv_at hl 1 rfl) ?_
  obtain ⟨r_1, hc, hf⟩ := bnd hf
  refine rdV X (c_X6_isPerson l d a z x1 hc) (k_X6_101 hE rfl rfl ⟨Nat.le_of_ble_eq_true rfl, Nat.le_of_ble_eq_true rfl⟩) hP (va_recv (q := (RX6, TX6, 28)) hE.2 hP (ci := 6) (q0 := 0) rfl rfl) rfl hl.1 rfl (Nat.le_of_ble_eq_true rfl) dX6_better_2 ?_
  refine lv_if_ne (tgt := 10) hx hb dX6_better_5 (by decide) (fun q => ?_) (fun q => ?_)
  · have hf := (if_neg q).symm.trans hf
    refine lv_aload_n hx hb dX6_better_10 rfl (lv_at hl 0 rfl) ?_
    refine lv_iload_n hx hb dX6_better_11 rfl (lv_at hl 2 rfl) ?_
    obtain ⟨r_2, hc, hf⟩ := bnd hf
    refine rdV X (c_X6_isSet l d a z x2 hc) (k_X6_139 hE rfl rfl ⟨Nat.le_of_ble_eq_true rfl, Nat.le_of_ble_eq_true rfl⟩) hP (va_recv (q := (RX6, TX6, 28)) hE.2 hP (ci := 6) (q0 := 0) rfl rfl) rfl hl.1 rfl (Nat.le_of_ble_eq_true rfl) dX6_better_12 ?_
    refine lv_if_eq (tgt := 26) hx hb dX6_better_15 (by decide) (fun q => ?_) (fun q => ?_)
    · have hf := (if_pos q).symm.trans hf
      refine lv_bipush (v := -2) hx hb dX6_better_26 (by decide) ?_
      obtain rfl := Option.some.inj hf
      exact W.iret hx hb hr (fun t ht _ => ⟨rfl, ht⟩) (fun _ h => nomatch h) dX6_better_28 hlk
    · have hf := (if_neg q).symm.trans hf
      refine lv_aload_n hx hb dX6_better_18 rfl (lv_at hl 0 rfl) ?_
      refine lv_iload_n hx hb dX6_better_19 rfl (lv_at hl 3 rfl) ?_
      obtain ⟨r_3, hc, hf⟩ := bnd hf
      refine rdV X (c_X6_isSet l d a z x3 hc) (k_X6_139 hE rfl rfl ⟨Nat.le_of_ble_eq_true rfl, Nat.le_of_ble_eq_true rfl⟩) hP (va_recv (q := (RX6, TX6, 28)) hE.2 hP (ci := 6) (q0 := 0) rfl rfl) rfl hl.1 rfl (Nat.le_of_ble_eq_true rfl) dX6_better_20 ?_
      refine lv_if_ne (tgt := 29) hx hb dX6_better_23 (by decide) (fun q => ?_) (fun q => ?_)
      · have hf := (if_neg q).symm.trans hf
        refine lv_aload_n hx hb dX6_better_29 rfl (lv_at hl 0 rfl) ?_
        refine lv_iload_n hx hb dX6_better_30 rfl (lv_at hl 1 rfl) ?_
        refine lv_iload_n hx hb dX6_better_31 rfl (lv_at hl 2 rfl) ?_
        refine lv_iload_n hx hb dX6_better_32 rfl (lv_at hl 3 rfl) ?_
        obtain ⟨r_4, hc, hf⟩ := bnd hf
        refine rdV X (c_X6_compares l d a z x1 x2 x3 hc) (k_X6_135 hE rfl rfl ⟨Nat.le_of_ble_eq_true rfl, Nat.le_of_ble_eq_true rfl⟩) hP (va_recv (q := (RX6, TX6, 28)) hE.2 hP (ci := 6) (q0 := 0) rfl rfl) rfl hl.1 rfl (Nat.le_of_ble_eq_true rfl) dX6_better_33 ?_
        obtain rfl := Option.some.inj hf
        exact W.iret hx hb hr (fun t ht _ => ⟨rfl, ht⟩) (fun _ h => nomatch h) dX6_better_36 hlk
      · have hf := (if_pos q).symm.trans hf
        refine lv_bipush (v := -2) hx hb dX6_better_26 (by decide) ?_
        obtain rfl := Option.some.inj hf
        exact W.iret hx hb hr (fun t ht _ => ⟨rfl, ht⟩) (fun _ h => nomatch h) dX6_better_28 hlk
  · have hf := (if_pos q).symm.trans hf
    refine lv_iconst (v := -1) hx hb dX6_better_8 (by decide) ?_
    obtain rfl := Option.some.inj hf
    exact W.iret hx hb hr (fun t ht _ => ⟨rfl, ht⟩) (fun _ h => nomatch h) dX6_better_9 hlk
set_option maxHeartbeats 4000000 in
set_option maxRecDepth 100000 in
theorem c_X6_better (l : Launch) (d : G3) (a : Nat → Nat) (z : St) (x1 : Int32) (x2 : Int32) (x3 : Int32) {RR : Int32} (hf : f_X6_better z x1 x2 x3 = some RR) : Met l yX6_better [Cond.code yX6_better cX6_better 4 (some .int)] { frames := 4, cells := 0, slots := 0, locals := 96 } (rpre wM d a z [.ref (a 0), .int x1, .int x2, .int x3]) (QcRead RR) 0 0 (fun _ => False) := by
  refine Met.ofW (cc := cX6_better) (maxL := 4) (ret := (some .int)) (by decide) rfl ?_
  intro p e s m args below meth c s₁ B hml hv
  obtain ⟨rfl, hE, hP⟩ := hv
  have X : Cx p s m c cX6_better RX6 4 d := ⟨B.exec, B.bytes, hml, findClass_of_methodNamed B.named, hE⟩
  have hl := lv_entry ([.ref (a 0), .int x1, .int x2, .int x3]) (n := 4) (Nat.le_of_ble_eq_true rfl)
  rw [lg_entry_eq]
  generalize (lg_sl ([.ref (a 0), .int x1, .int x2, .int x3]) ++ List.replicate (4 - (lg_sl ([.ref (a 0), .int x1, .int x2, .int x3])).length) Slot.unset).toArray = ls at hl ⊢
  have hl : lv_has ls 4 [(0, .ref (a 0)), (1, .int x1), (2, .int x2), (3, .int x3)] := hl
  exact t_X6_better X hP B.returns B.notSynchronized x1 x2 x3 hf ls hl
def f_X6_openNow_11 (z : St) (k11 : Int32 → Int32 → Option (Int32)) (x1 : Int32) (x2 : Int32) : Option (Int32) := (if (z.1 1) ≤ x2 then some x1 else ck 4 x2 (k11 (x1 &&& ((z.2 16 x2.toNatClampNeg) ^^^ (-1 : Int32))) (x2 + (1 : Int32))))
def l_X6_openNow_11 (z : St) : Int32 → Int32 → Option (Int32) := iter (fun _ _ => none) (f_X6_openNow_11 z) FU
set_option maxHeartbeats 4000000 in
set_option maxRecDepth 100000 in
theorem t_X6_openNow_11 {RR : Int32} (X : Cx p s m c cX6_openNow RX6 3 d) {z : St} (hP : va_P d.1 classes (wM d a z) s.heap) (hr : meth.sig.returnType = (some .int)) (hlk : meth.locks = false) {k11 : Int32 → Int32 → Option (Int32)} (hk11 : ∀ (x1 : Int32) (x2 : Int32), k11 x1 x2 = some RR → WRd p l e { frames := 0, cells := 0, slots := 0, locals := 0 } s m args below meth c RR 3 [(0, .ref (a 0)), (1, .int x1), (2, .int x2)] 11 []) : ∀ (x1 : Int32) (x2 : Int32), f_X6_openNow_11 z k11 x1 x2 = some RR → WRd p l e { frames := 0, cells := 0, slots := 0, locals := 0 } s m args below meth c RR 3 [(0, .ref (a 0)), (1, .int x1), (2, .int x2)] 11 [] := by
  intro x1 x2 hf ls hl
  obtain ⟨hx, hb, hml, hown, hE⟩ := id X
  unfold f_X6_openNow_11 at hf
  refine lv_iload_n hx hb dX6_openNow_11 rfl (lv_at hl 2 rfl) ?_
  refine lv_aload_n hx hb dX6_openNow_12 rfl (lv_at hl 0 rfl) ?_
  refine gf_6_81 hx hb hE hown hP dX6_openNow_13 ?_
  refine lv_icmp_ge (tgt := 36) hx hb dX6_openNow_16 (by decide) (fun q => ?_) (fun q => ?_)
  · have hf := (if_pos q).symm.trans hf
    refine lv_iload_n hx hb dX6_openNow_36 rfl (lv_at hl 1 rfl) ?_
    obtain rfl := Option.some.inj hf
    exact W.iret hx hb hr (fun t ht _ => ⟨rfl, ht⟩) (fun _ h => nomatch h) dX6_openNow_37 hlk
  · have hf := (if_neg q).symm.trans hf
    refine lv_iload_n hx hb dX6_openNow_19 rfl (lv_at hl 1 rfl) ?_
    refine lv_aload_n hx hb dX6_openNow_20 rfl (lv_at hl 0 rfl) ?_
    refine gf_6_72 hx hb hE hown hP dX6_openNow_21 ?_
    refine lv_iload_n hx hb dX6_openNow_24 rfl (lv_at hl 2 rfl) ?_
    obtain ⟨hi, hf⟩ := ck_some hf
    refine ld_M_17 hx hb hE hP hi dX6_openNow_25 ?_
    refine lv_iconst (v := -1) hx hb dX6_openNow_26 (by decide) ?_
    refine lv_ixor hx hb dX6_openNow_27 ?_
    refine lv_iand hx hb dX6_openNow_28 ?_
    refine lv_istore_n (lv' := [(1, .int (x1 &&& ((z.2 16 x2.toNatClampNeg) ^^^ (-1 : Int32)))), (0, .ref (a 0)), (2, .int x2)]) hx hb dX6_openNow_29 rfl hl (by decide) rfl (fun ls hl => ?_)
    refine lv_iinc (v := (x2 + (1 : Int32))) (lv' := [(2, .int (x2 + (1 : Int32))), (1, .int (x1 &&& ((z.2 16 x2.toNatClampNeg) ^^^ (-1 : Int32)))), (0, .ref (a 0))]) hx hb dX6_openNow_30 hl (k := 2) rfl rfl (by decide) rfl (fun ls hl => ?_)
    refine lv_goto (tgt := 11) hx hb dX6_openNow_33 (by decide) ?_
    exact hk11 (x1 &&& ((z.2 16 x2.toNatClampNeg) ^^^ (-1 : Int32))) (x2 + (1 : Int32)) hf ls (lv_sub hl [2, 1, 0] rfl)
theorem u_X6_openNow_11 {RR : Int32} (X : Cx p s m c cX6_openNow RX6 3 d) {z : St} (hP : va_P d.1 classes (wM d a z) s.heap) (hr : meth.sig.returnType = (some .int)) (hlk : meth.locks = false) : ∀ (x1 : Int32) (x2 : Int32), l_X6_openNow_11 z x1 x2 = some RR → WRd p l e { frames := 0, cells := 0, slots := 0, locals := 0 } s m args below meth c RR 3 [(0, .ref (a 0)), (1, .int x1), (2, .int x2)] 11 [] := by
  unfold l_X6_openNow_11
  generalize FU = n
  induction n with
  | zero => intro x1 x2 hf; exact absurd (show (none : Option (Int32)) = some RR from hf) (by simp)
  | succ n ih => exact t_X6_openNow_11 X hP hr hlk ih
def f_X6_openNow (z : St) : Option (Int32) := l_X6_openNow_11 z (((1 : Int32) <<< ((z.1 0) &&& 31)) - (1 : Int32)) (0 : Int32)
set_option maxHeartbeats 4000000 in
set_option maxRecDepth 100000 in
theorem t_X6_openNow {RR : Int32} (X : Cx p s m c cX6_openNow RX6 3 d) {z : St} (hP : va_P d.1 classes (wM d a z) s.heap) (hr : meth.sig.returnType = (some .int)) (hlk : meth.locks = false) : f_X6_openNow z = some RR → WRd p l e { frames := 0, cells := 0, slots := 0, locals := 0 } s m args below meth c RR 3 [(0, .ref (a 0))] 0 [] := by
  intro hf ls hl
  obtain ⟨hx, hb, hml, hown, hE⟩ := id X
  unfold f_X6_openNow at hf
  refine lv_iconst (v := 1) hx hb dX6_openNow_0 (by decide) ?_
  refine lv_aload_n hx hb dX6_openNow_1 rfl (lv_at hl 0 rfl) ?_
  refine gf_6_84 hx hb hE hown hP dX6_openNow_2 ?_
  refine lv_ishl hx hb dX6_openNow_5 ?_
  refine lv_iconst (v := 1) hx hb dX6_openNow_6 (by decide) ?_
  refine lv_isub hx hb dX6_openNow_7 ?_
  refine lv_istore_n (lv' := [(1, .int (((1 : Int32) <<< ((z.1 0) &&& 31)) - (1 : Int32))), (0, .ref (a 0))]) hx hb dX6_openNow_8 rfl hl (by decide) rfl (fun ls hl => ?_)
  refine lv_iconst (v := 0) hx hb dX6_openNow_9 (by decide) ?_
  refine lv_istore_n (lv' := [(2, .int (0 : Int32)), (1, .int (((1 : Int32) <<< ((z.1 0) &&& 31)) - (1 : Int32))), (0, .ref (a 0))]) hx hb dX6_openNow_10 rfl hl (by decide) rfl (fun ls hl => ?_)
  exact u_X6_openNow_11 X hP hr hlk (((1 : Int32) <<< ((z.1 0) &&& 31)) - (1 : Int32)) (0 : Int32) hf ls (lv_sub hl [2, 1, 0] rfl)
set_option maxHeartbeats 4000000 in
set_option maxRecDepth 100000 in
theorem c_X6_openNow (l : Launch) (d : G3) (a : Nat → Nat) (z : St) {RR : Int32} (hf : f_X6_openNow z = some RR) : Met l yX6_openNow [Cond.code yX6_openNow cX6_openNow 3 (some .int)] { frames := 0, cells := 0, slots := 0, locals := 0 } (rpre wM d a z [.ref (a 0)]) (QcRead RR) 0 0 (fun _ => False) := by
  refine Met.ofW (cc := cX6_openNow) (maxL := 3) (ret := (some .int)) (by decide) rfl ?_
  intro p e s m args below meth c s₁ B hml hv
  obtain ⟨rfl, hE, hP⟩ := hv
  have X : Cx p s m c cX6_openNow RX6 3 d := ⟨B.exec, B.bytes, hml, findClass_of_methodNamed B.named, hE⟩
  have hl := lv_entry ([.ref (a 0)]) (n := 3) (Nat.le_of_ble_eq_true rfl)
  rw [lg_entry_eq]
  generalize (lg_sl ([.ref (a 0)]) ++ List.replicate (3 - (lg_sl ([.ref (a 0)])).length) Slot.unset).toArray = ls at hl ⊢
  have hl : lv_has ls 3 [(0, .ref (a 0))] := hl
  exact t_X6_openNow X hP B.returns B.notSynchronized hf ls hl
def f_X6_give_10 (k10 : Int32 → St → Option (Int32 × St)) (x1 : Int32) (z : St) : Option (Int32 × St) := (if (z.1 1) ≤ x1 then (f_X6_openNow (pS (pS z 7 (1 : Int32)) 8 (1 : Int32))).bind (fun r_1 => (f_X6_size (pS (pS z 7 (1 : Int32)) 8 (1 : Int32)) r_1).bind (fun r_2 => some (r_2, (pS (pS z 7 (1 : Int32)) 8 (1 : Int32))))) else ck 4 x1 (ck 4 x1 (ck 4 x1 (ck 4 x1 (ck 4 x1 (k10 (x1 + (1 : Int32)) (pA (pA (pA z 16 x1.toNatClampNeg (z.2 14 x1.toNatClampNeg)) 17 x1.toNatClampNeg ((pA z 16 x1.toNatClampNeg (z.2 14 x1.toNatClampNeg)).2 15 x1.toNatClampNeg)) 18 x1.toNatClampNeg (vp_nar .boolean (0 : Int32)))))))))
def l_X6_give_10 : Int32 → St → Option (Int32 × St) := iter (fun _ _ => none) (f_X6_give_10) FU
set_option maxHeartbeats 4000000 in
set_option maxRecDepth 100000 in
theorem t_X6_give_10 {RR : Int32 × St} (X : Cx p s m c cX6_give RX6 2 d) (hJ : Inj 20 a) (hr : meth.sig.returnType = (some .int)) (hlk : meth.locks = false) {k10 : Int32 → St → Option (Int32 × St)} (hk10 : ∀ (x1 : Int32) (z : St), k10 x1 z = some RR → WWr wM 20 d a p l e { frames := 6, cells := 0, slots := 0, locals := 145 } s m args below meth c RR z 2 [(0, .ref (a 0)), (1, .int x1)] 10 []) : ∀ (x1 : Int32) (z : St), f_X6_give_10 k10 x1 z = some RR → WWr wM 20 d a p l e { frames := 6, cells := 0, slots := 0, locals := 145 } s m args below meth c RR z 2 [(0, .ref (a 0)), (1, .int x1)] 10 [] := by
  intro x1 z hf H locs ls hP hS hl
  obtain ⟨hx, hb, hml, hown, hE⟩ := id X
  unfold f_X6_give_10 at hf
  refine lv_iload_n hx hb dX6_give_10 rfl (lv_at hl 1 rfl) ?_
  refine lv_aload_n hx hb dX6_give_11 rfl (lv_at hl 0 rfl) ?_
  refine gf_6_81 hx hb hE hown hP dX6_give_12 ?_
  refine lv_icmp_ge (tgt := 55) hx hb dX6_give_15 (by decide) (fun q => ?_) (fun q => ?_)
  · have hf := (if_pos q).symm.trans hf
    refine lv_aload_n hx hb dX6_give_55 rfl (lv_at hl 0 rfl) ?_
    refine lv_iconst (v := 1) hx hb dX6_give_56 (by decide) ?_
    refine pf_6_95 hx hb hE hown hP hJ hS rfl rfl dX6_give_57 (fun H locs hP hS => ?_)
    refine lv_aload_n hx hb dX6_give_60 rfl (lv_at hl 0 rfl) ?_
    refine lv_iconst (v := 1) hx hb dX6_give_61 (by decide) ?_
    refine pf_6_148 hx hb hE hown hP hJ hS rfl rfl dX6_give_62 (fun H locs hP hS => ?_)
    refine lv_aload_n hx hb dX6_give_65 rfl (lv_at hl 0 rfl) ?_
    obtain ⟨r_1, hc, hf⟩ := bnd hf
    refine rdV X (c_X6_openNow l d a (pS (pS z 7 (1 : Int32)) 8 (1 : Int32)) hc) (k_X6_151 hE rfl rfl ⟨Nat.le_of_ble_eq_true rfl, Nat.le_of_ble_eq_true rfl⟩) hP (va_recv (q := (RX6, TX6, 28)) hE.2 hP (ci := 6) (q0 := 0) rfl rfl) rfl hl.1 rfl (Nat.le_of_ble_eq_true rfl) dX6_give_66 ?_
    obtain ⟨r_2, hc, hf⟩ := bnd hf
    refine rdS X (c_X6_size l d a (pS (pS z 7 (1 : Int32)) 8 (1 : Int32)) r_1 hc) (k_X6_129 hE rfl rfl ⟨Nat.le_of_ble_eq_true rfl, Nat.le_of_ble_eq_true rfl⟩) hP rfl hl.1 rfl (Nat.le_of_ble_eq_true rfl) dX6_give_69 ?_
    obtain rfl := Option.some.inj hf
    exact W.iret hx hb hr (fun t ht _ => ⟨rfl, by rw [ht]; exact hP, hS.F ht⟩) hS.2.2 dX6_give_72 hlk
  · have hf := (if_neg q).symm.trans hf
    refine lv_aload_n hx hb dX6_give_18 rfl (lv_at hl 0 rfl) ?_
    refine gf_6_72 hx hb hE hown hP dX6_give_19 ?_
    refine lv_iload_n hx hb dX6_give_22 rfl (lv_at hl 1 rfl) ?_
    refine lv_aload_n hx hb dX6_give_23 rfl (lv_at hl 0 rfl) ?_
    refine gf_6_66 hx hb hE hown hP dX6_give_24 ?_
    refine lv_iload_n hx hb dX6_give_27 rfl (lv_at hl 1 rfl) ?_
    obtain ⟨hi, hf⟩ := ck_some hf
    refine ld_M_15 hx hb hE hP hi dX6_give_28 ?_
    obtain ⟨hi, hf⟩ := ck_some hf
    refine st_M_17 hx hb hE hP hJ hS hi dX6_give_29 (fun H locs hP hS => ?_)
    refine lv_aload_n hx hb dX6_give_30 rfl (lv_at hl 0 rfl) ?_
    refine gf_6_75 hx hb hE hown hP dX6_give_31 ?_
    refine lv_iload_n hx hb dX6_give_34 rfl (lv_at hl 1 rfl) ?_
    refine lv_aload_n hx hb dX6_give_35 rfl (lv_at hl 0 rfl) ?_
    refine gf_6_69 hx hb hE hown hP dX6_give_36 ?_
    refine lv_iload_n hx hb dX6_give_39 rfl (lv_at hl 1 rfl) ?_
    obtain ⟨hi, hf⟩ := ck_some hf
    refine ld_M_16 hx hb hE hP hi dX6_give_40 ?_
    obtain ⟨hi, hf⟩ := ck_some hf
    refine st_M_18 hx hb hE hP hJ hS hi dX6_give_41 (fun H locs hP hS => ?_)
    refine lv_aload_n hx hb dX6_give_42 rfl (lv_at hl 0 rfl) ?_
    refine gf_6_78 hx hb hE hown hP dX6_give_43 ?_
    refine lv_iload_n hx hb dX6_give_46 rfl (lv_at hl 1 rfl) ?_
    refine lv_iconst (v := 0) hx hb dX6_give_47 (by decide) ?_
    obtain ⟨hi, hf⟩ := ck_some hf
    refine st_M_19 hx hb hE hP hJ hS hi dX6_give_48 (fun H locs hP hS => ?_)
    refine lv_iinc (v := (x1 + (1 : Int32))) (lv' := [(1, .int (x1 + (1 : Int32))), (0, .ref (a 0))]) hx hb dX6_give_49 hl (k := 1) rfl rfl (by decide) rfl (fun ls hl => ?_)
    refine lv_goto (tgt := 10) hx hb dX6_give_52 (by decide) ?_
    exact hk10 (x1 + (1 : Int32)) (pA (pA (pA z 16 x1.toNatClampNeg (z.2 14 x1.toNatClampNeg)) 17 x1.toNatClampNeg ((pA z 16 x1.toNatClampNeg (z.2 14 x1.toNatClampNeg)).2 15 x1.toNatClampNeg)) 18 x1.toNatClampNeg (vp_nar .boolean (0 : Int32))) hf H locs ls hP hS (lv_sub hl [1, 0] rfl)
theorem u_X6_give_10 {RR : Int32 × St} (X : Cx p s m c cX6_give RX6 2 d) (hJ : Inj 20 a) (hr : meth.sig.returnType = (some .int)) (hlk : meth.locks = false) : ∀ (x1 : Int32) (z : St), l_X6_give_10 x1 z = some RR → WWr wM 20 d a p l e { frames := 6, cells := 0, slots := 0, locals := 145 } s m args below meth c RR z 2 [(0, .ref (a 0)), (1, .int x1)] 10 [] := by
  unfold l_X6_give_10
  generalize FU = n
  induction n with
  | zero => intro x1 z hf; exact absurd (show (none : Option (Int32 × St)) = some RR from hf) (by simp)
  | succ n ih => exact t_X6_give_10 X hJ hr hlk ih
def f_X6_give (z : St) : Option (Int32 × St) := (f_X6_byNumbers z).bind (fun r_1 => (f_X6_gives r_1).bind (fun r_2 => l_X6_give_10 (0 : Int32) r_2))
set_option maxHeartbeats 4000000 in
set_option maxRecDepth 100000 in
theorem t_X6_give {RR : Int32 × St} (X : Cx p s m c cX6_give RX6 2 d) (hJ : Inj 20 a) (hr : meth.sig.returnType = (some .int)) (hlk : meth.locks = false) : ∀ (z : St), f_X6_give z = some RR → WWr wM 20 d a p l e { frames := 6, cells := 0, slots := 0, locals := 145 } s m args below meth c RR z 2 [(0, .ref (a 0))] 0 [] := by
  intro z hf H locs ls hP hS hl
  obtain ⟨hx, hb, hml, hown, hE⟩ := id X
  unfold f_X6_give at hf
  refine lv_aload_n hx hb dX6_give_0 rfl (lv_at hl 0 rfl) ?_
  obtain ⟨r_1, hc, hf⟩ := bnd hf
  refine wrVv X (c_X6_byNumbers l d a z hc) (k_X6_142 hE rfl rfl ⟨Nat.le_of_ble_eq_true rfl, Nat.le_of_ble_eq_true rfl⟩) hP hJ hS (va_recv (q := (RX6, TX6, 28)) hE.2 hP (ci := 6) (q0 := 0) rfl rfl) rfl hl.1 rfl (Nat.le_of_ble_eq_true rfl) dX6_give_1 (fun H locs hP hS => ?_)
  refine lv_aload_n hx hb dX6_give_4 rfl (lv_at hl 0 rfl) ?_
  obtain ⟨r_2, hc, hf⟩ := bnd hf
  refine wrVv X (c_X6_gives l d a r_1 hc) (k_X6_145 hE rfl rfl ⟨Nat.le_of_ble_eq_true rfl, Nat.le_of_ble_eq_true rfl⟩) hP hJ hS (va_recv (q := (RX6, TX6, 28)) hE.2 hP (ci := 6) (q0 := 0) rfl rfl) rfl hl.1 rfl (Nat.le_of_ble_eq_true rfl) dX6_give_5 (fun H locs hP hS => ?_)
  refine lv_iconst (v := 0) hx hb dX6_give_8 (by decide) ?_
  refine lv_istore_n (lv' := [(1, .int (0 : Int32)), (0, .ref (a 0))]) hx hb dX6_give_9 rfl hl (by decide) rfl (fun ls hl => ?_)
  exact u_X6_give_10 X hJ hr hlk (0 : Int32) r_2 hf H locs ls hP hS (lv_sub hl [1, 0] rfl)
set_option maxHeartbeats 4000000 in
set_option maxRecDepth 100000 in
theorem c_X6_give (l : Launch) (d : G3) (a : Nat → Nat) (z : St) {RR : Int32 × St} (hf : f_X6_give z = some RR) : Met l yX6_give [Cond.code yX6_give cX6_give 2 (some .int)] { frames := 6, cells := 0, slots := 0, locals := 145 } (wpre wM 20 d a z [.ref (a 0)]) (QW wM 20 d a RR) 0 0 (AD 20 a) := by
  refine Met.ofW (cc := cX6_give) (maxL := 2) (ret := (some .int)) (by decide) rfl ?_
  intro p e s m args below meth c s₁ B hml hv
  obtain ⟨rfl, hE, hP, hJ⟩ := hv
  have X : Cx p s m c cX6_give RX6 2 d := ⟨B.exec, B.bytes, hml, findClass_of_methodNamed B.named, hE⟩
  have hl := lv_entry ([.ref (a 0)]) (n := 2) (Nat.le_of_ble_eq_true rfl)
  rw [lg_entry_eq]
  generalize (lg_sl ([.ref (a 0)]) ++ List.replicate (2 - (lg_sl ([.ref (a 0)])).length) Slot.unset).toArray = ls at hl ⊢
  have hl : lv_has ls 2 [(0, .ref (a 0))] := hl
  exact t_X6_give X hJ B.returns B.notSynchronized z hf s.heap [] ls hP va_S.rf hl
def f_X6_line (z : St) (x1 : Int32) : Option (Int32) := (f_X6_isPerson z x1).bind (fun r_1 => (if r_1 = (0 : Int32) then some (-1 : Int32) else (if (z.1 7) = (0 : Int32) then some (-3 : Int32) else ck 4 x1 (some (z.2 16 x1.toNatClampNeg)))))
set_option maxHeartbeats 4000000 in
set_option maxRecDepth 100000 in
theorem t_X6_line {RR : Int32} (X : Cx p s m c cX6_line RX6 2 d) {z : St} (hP : va_P d.1 classes (wM d a z) s.heap) (hr : meth.sig.returnType = (some .int)) (hlk : meth.locks = false) : ∀ (x1 : Int32), f_X6_line z x1 = some RR → WRd p l e { frames := 1, cells := 0, slots := 0, locals := 21 } s m args below meth c RR 2 [(0, .ref (a 0)), (1, .int x1)] 0 [] := by
  intro x1 hf ls hl
  obtain ⟨hx, hb, hml, hown, hE⟩ := id X
  unfold f_X6_line at hf
  refine lv_aload_n hx hb dX6_line_0 rfl (lv_at hl 0 rfl) ?_
  refine lv_iload_n hx hb dX6_line_1 rfl (lv_at hl 1 rfl) ?_
  obtain ⟨r_1, hc, hf⟩ := bnd hf
  refine rdV X (c_X6_isPerson l d a z x1 hc) (k_X6_101 hE rfl rfl ⟨Nat.le_of_ble_eq_true rfl, Nat.le_of_ble_eq_true rfl⟩) hP (va_recv (q := (RX6, TX6, 28)) hE.2 hP (ci := 6) (q0 := 0) rfl rfl) rfl hl.1 rfl (Nat.le_of_ble_eq_true rfl) dX6_line_2 ?_
  refine lv_if_ne (tgt := 10) hx hb dX6_line_5 (by decide) (fun q => ?_) (fun q => ?_)
  · have hf := (if_neg q).symm.trans hf
    refine lv_aload_n hx hb dX6_line_10 rfl (lv_at hl 0 rfl) ?_
    refine gf_6_95 hx hb hE hown hP dX6_line_11 ?_
    refine lv_if_eq (tgt := 26) hx hb dX6_line_14 (by decide) (fun q => ?_) (fun q => ?_)
    · have hf := (if_pos q).symm.trans hf
      refine lv_bipush (v := -3) hx hb dX6_line_26 (by decide) ?_
      obtain rfl := Option.some.inj hf
      exact W.iret hx hb hr (fun t ht _ => ⟨rfl, ht⟩) (fun _ h => nomatch h) dX6_line_28 hlk
    · have hf := (if_neg q).symm.trans hf
      refine lv_aload_n hx hb dX6_line_17 rfl (lv_at hl 0 rfl) ?_
      refine gf_6_72 hx hb hE hown hP dX6_line_18 ?_
      refine lv_iload_n hx hb dX6_line_21 rfl (lv_at hl 1 rfl) ?_
      obtain ⟨hi, hf⟩ := ck_some hf
      refine ld_M_17 hx hb hE hP hi dX6_line_22 ?_
      refine lv_goto (tgt := 28) hx hb dX6_line_23 (by decide) ?_
      obtain rfl := Option.some.inj hf
      exact W.iret hx hb hr (fun t ht _ => ⟨rfl, ht⟩) (fun _ h => nomatch h) dX6_line_28 hlk
  · have hf := (if_pos q).symm.trans hf
    refine lv_iconst (v := -1) hx hb dX6_line_8 (by decide) ?_
    obtain rfl := Option.some.inj hf
    exact W.iret hx hb hr (fun t ht _ => ⟨rfl, ht⟩) (fun _ h => nomatch h) dX6_line_9 hlk
set_option maxHeartbeats 4000000 in
set_option maxRecDepth 100000 in
theorem c_X6_line (l : Launch) (d : G3) (a : Nat → Nat) (z : St) (x1 : Int32) {RR : Int32} (hf : f_X6_line z x1 = some RR) : Met l yX6_line [Cond.code yX6_line cX6_line 2 (some .int)] { frames := 1, cells := 0, slots := 0, locals := 21 } (rpre wM d a z [.ref (a 0), .int x1]) (QcRead RR) 0 0 (fun _ => False) := by
  refine Met.ofW (cc := cX6_line) (maxL := 2) (ret := (some .int)) (by decide) rfl ?_
  intro p e s m args below meth c s₁ B hml hv
  obtain ⟨rfl, hE, hP⟩ := hv
  have X : Cx p s m c cX6_line RX6 2 d := ⟨B.exec, B.bytes, hml, findClass_of_methodNamed B.named, hE⟩
  have hl := lv_entry ([.ref (a 0), .int x1]) (n := 2) (Nat.le_of_ble_eq_true rfl)
  rw [lg_entry_eq]
  generalize (lg_sl ([.ref (a 0), .int x1]) ++ List.replicate (2 - (lg_sl ([.ref (a 0), .int x1])).length) Slot.unset).toArray = ls at hl ⊢
  have hl : lv_has ls 2 [(0, .ref (a 0)), (1, .int x1)] := hl
  exact t_X6_line X hP B.returns B.notSynchronized x1 hf ls hl
end GEN
