section GEN
variable {p : Program} {l : Launch} {e : Env} {s : State} {m : MethodId} {args : Array Value} {below : List Frame} {meth : Method} {c : Code} {d : G3} {a : Nat → Nat}
def f_X0_fillCovers_62 (k9 : Int32 → Int32 → Int32 → Int32 → St → Option (St)) (x1 : Int32) (x2 : Int32) (x3 : Int32) (x4 : Int32) (x5 : Int32) (x6 : Int32) (s0 : Int32) (z : St) : Option (St) := (if s0 = (0 : Int32) then ck 8192 (x3 + x4) (k9 x1 x2 x3 (x4 + (1 : Int32)) (pA z 7 (x3 + x4).toNatClampNeg x6)) else ck 8192 (x3 + x4) (k9 x1 x2 x3 (x4 + (1 : Int32)) (pA z 7 (x3 + x4).toNatClampNeg x5)))
set_option maxHeartbeats 4000000 in
set_option maxRecDepth 100000 in
theorem t_X0_fillCovers_62 {RR : St} (X : Cx p s m c cX0_fillCovers RX0 8 d) (hJ : Inj 26 a) (hr : meth.sig.returnType = none) (hlk : meth.locks = false) {k9 : Int32 → Int32 → Int32 → Int32 → St → Option (St)} (hk9 : ∀ (x1 : Int32) (x2 : Int32) (x3 : Int32) (x4 : Int32) (z : St), k9 x1 x2 x3 x4 z = some RR → WWv wC 26 d a p l e { frames := 2, cells := 0, slots := 0, locals := 47 } s m args below meth c RR z 8 [(0, .ref (a 11)), (1, .int x1), (2, .int x2), (3, .int x3), (4, .int x4)] 9 []) : ∀ (x1 : Int32) (x2 : Int32) (x3 : Int32) (x4 : Int32) (x5 : Int32) (x6 : Int32) (s0 : Int32) (z : St), f_X0_fillCovers_62 k9 x1 x2 x3 x4 x5 x6 s0 z = some RR → WWv wC 26 d a p l e { frames := 2, cells := 0, slots := 0, locals := 47 } s m args below meth c RR z 8 [(0, .ref (a 11)), (1, .int x1), (2, .int x2), (3, .int x3), (4, .int x4), (5, .int x5), (6, .int x6)] 62 [.int s0] := by
  intro x1 x2 x3 x4 x5 x6 s0 z hf H locs ls hP hS hl
  obtain ⟨hx, hb, hml, hown, hE⟩ := id X
  unfold f_X0_fillCovers_62 at hf
  refine lv_istore (lv' := [(7, .int s0), (0, .ref (a 11)), (1, .int x1), (2, .int x2), (3, .int x3), (4, .int x4), (5, .int x5), (6, .int x6)]) hx hb dX0_fillCovers_62 hl (by decide) rfl (fun ls hl => ?_)
  refine lv_aload_n hx hb dX0_fillCovers_64 rfl (lv_at hl 1 rfl) ?_
  refine gf_0_15 hx hb hE hown hP dX0_fillCovers_65 ?_
  refine lv_iload_n hx hb dX0_fillCovers_68 rfl (lv_at hl 4 rfl) ?_
  refine lv_iload hx hb dX0_fillCovers_69 (lv_at hl 5 rfl) ?_
  refine lv_iadd hx hb dX0_fillCovers_71 ?_
  refine lv_iload hx hb dX0_fillCovers_72 (lv_at hl 0 rfl) ?_
  refine lv_if_eq (tgt := 82) hx hb dX0_fillCovers_74 (by decide) (fun q => ?_) (fun q => ?_)
  · have hf := (if_pos q).symm.trans hf
    refine lv_iload hx hb dX0_fillCovers_82 (lv_at hl 7 rfl) ?_
    obtain ⟨hi, hf⟩ := ck_some hf
    refine st_C_13 hx hb hE hP hJ hS hi dX0_fillCovers_84 (fun H locs hP hS => ?_)
    refine lv_iinc (v := (x4 + (1 : Int32))) (lv' := [(4, .int (x4 + (1 : Int32))), (7, .int s0), (0, .ref (a 11)), (1, .int x1), (2, .int x2), (3, .int x3), (5, .int x5), (6, .int x6)]) hx hb dX0_fillCovers_85 hl (k := 5) rfl rfl (by decide) rfl (fun ls hl => ?_)
    refine lv_goto (tgt := 9) hx hb dX0_fillCovers_88 (by decide) ?_
    exact hk9 x1 x2 x3 (x4 + (1 : Int32)) (pA z 7 (x3 + x4).toNatClampNeg x6) hf H locs ls hP hS (lv_sub hl [2, 3, 4, 5, 0] rfl)
  · have hf := (if_neg q).symm.trans hf
    refine lv_iload hx hb dX0_fillCovers_77 (lv_at hl 6 rfl) ?_
    refine lv_goto (tgt := 84) hx hb dX0_fillCovers_79 (by decide) ?_
    obtain ⟨hi, hf⟩ := ck_some hf
    refine st_C_13 hx hb hE hP hJ hS hi dX0_fillCovers_84 (fun H locs hP hS => ?_)
    refine lv_iinc (v := (x4 + (1 : Int32))) (lv' := [(4, .int (x4 + (1 : Int32))), (7, .int s0), (0, .ref (a 11)), (1, .int x1), (2, .int x2), (3, .int x3), (5, .int x5), (6, .int x6)]) hx hb dX0_fillCovers_85 hl (k := 5) rfl rfl (by decide) rfl (fun ls hl => ?_)
    refine lv_goto (tgt := 9) hx hb dX0_fillCovers_88 (by decide) ?_
    exact hk9 x1 x2 x3 (x4 + (1 : Int32)) (pA z 7 (x3 + x4).toNatClampNeg x5) hf H locs ls hP hS (lv_sub hl [2, 3, 4, 5, 0] rfl)
def f_X0_fillCovers_9 (k9 : Int32 → Int32 → Int32 → Int32 → St → Option (St)) (x1 : Int32) (x2 : Int32) (x3 : Int32) (x4 : Int32) (z : St) : Option (St) := (f_X1_all z).bind (fun r_1 => (if r_1 < x4 then some z else (f_J6_bitCount_0f7a4 z x4).bind (fun r_2 => (f_X0_bestWithOneLess z x3 x4).bind (fun r_3 => (if r_3 = (r_2 - (1 : Int32)) then (f_X0_isCoveredWhole z x1 x2 x4).bind (fun r_4 => (if r_4 = (0 : Int32) then f_X0_fillCovers_62 k9 x1 x2 x3 x4 r_2 r_3 (0 : Int32) z else f_X0_fillCovers_62 k9 x1 x2 x3 x4 r_2 r_3 (1 : Int32) z)) else f_X0_fillCovers_62 k9 x1 x2 x3 x4 r_2 r_3 (0 : Int32) z)))))
def l_X0_fillCovers_9 : Int32 → Int32 → Int32 → Int32 → St → Option (St) := iter (fun _ _ _ _ _ => none) (f_X0_fillCovers_9) FU
set_option maxHeartbeats 4000000 in
set_option maxRecDepth 100000 in
theorem t_X0_fillCovers_9 {RR : St} (X : Cx p s m c cX0_fillCovers RX0 8 d) (hJ : Inj 26 a) (hr : meth.sig.returnType = none) (hlk : meth.locks = false) {k9 : Int32 → Int32 → Int32 → Int32 → St → Option (St)} (hk9 : ∀ (x1 : Int32) (x2 : Int32) (x3 : Int32) (x4 : Int32) (z : St), k9 x1 x2 x3 x4 z = some RR → WWv wC 26 d a p l e { frames := 2, cells := 0, slots := 0, locals := 47 } s m args below meth c RR z 8 [(0, .ref (a 11)), (1, .int x1), (2, .int x2), (3, .int x3), (4, .int x4)] 9 []) : ∀ (x1 : Int32) (x2 : Int32) (x3 : Int32) (x4 : Int32) (z : St), f_X0_fillCovers_9 k9 x1 x2 x3 x4 z = some RR → WWv wC 26 d a p l e { frames := 2, cells := 0, slots := 0, locals := 47 } s m args below meth c RR z 8 [(0, .ref (a 11)), (1, .int x1), (2, .int x2), (3, .int x3), (4, .int x4)] 9 [] := by
  intro x1 x2 x3 x4 z hf H locs ls hP hS hl
  obtain ⟨hx, hb, hml, hown, hE⟩ := id X
  unfold f_X0_fillCovers_9 at hf
  refine lv_iload hx hb dX0_fillCovers_9 (lv_at hl 4 rfl) ?_
  refine lv_aload_n hx hb dX0_fillCovers_11 rfl (lv_at hl 0 rfl) ?_
  refine gf_0_22 hx hb hE hown hP dX0_fillCovers_12 ?_
  obtain ⟨r_1, hc, hf⟩ := bnd hf
  refine rdV X (c_X1_all l d a z hc) (k_X0_55 hE rfl rfl ⟨Nat.le_of_ble_eq_true rfl, Nat.le_of_ble_eq_true rfl⟩) hP (va_recv (q := (RX1, TX1, 7)) hE.2 hP (ci := 1) (q0 := 1) rfl rfl) rfl hl.1 rfl (Nat.le_of_ble_eq_true rfl) dX0_fillCovers_15 ?_
  refine lv_icmp_gt (tgt := 91) hx hb dX0_fillCovers_18 (by decide) (fun q => ?_) (fun q => ?_)
  · have hf := (if_pos q).symm.trans hf
    obtain rfl := Option.some.inj hf
    exact W.vret hx hb hr (fun t ht _ => ⟨rfl, by rw [ht]; exact hP, hS.F ht⟩) hS.2.2 dX0_fillCovers_91 hlk
  · have hf := (if_neg q).symm.trans hf
    refine lv_iload hx hb dX0_fillCovers_21 (lv_at hl 4 rfl) ?_
    obtain ⟨r_2, hc, hf⟩ := bnd hf
    refine rdS X (c_J6_bitCount_0f7a4 l d a z x4 hc) (k_X0_91 hE rfl rfl ⟨Nat.le_of_ble_eq_true rfl, Nat.le_of_ble_eq_true rfl⟩) hP rfl hl.1 rfl (Nat.le_of_ble_eq_true rfl) dX0_fillCovers_23 ?_
    refine lv_istore (lv' := [(5, .int r_2), (0, .ref (a 11)), (1, .int x1), (2, .int x2), (3, .int x3), (4, .int x4)]) hx hb dX0_fillCovers_26 hl (by decide) rfl (fun ls hl => ?_)
    refine lv_aload_n hx hb dX0_fillCovers_28 rfl (lv_at hl 1 rfl) ?_
    refine lv_iload_n hx hb dX0_fillCovers_29 rfl (lv_at hl 4 rfl) ?_
    refine lv_iload hx hb dX0_fillCovers_30 (lv_at hl 5 rfl) ?_
    obtain ⟨r_3, hc, hf⟩ := bnd hf
    refine rdV X (c_X0_bestWithOneLess l d a z x3 x4 hc) (k_X0_96 hE rfl rfl ⟨Nat.le_of_ble_eq_true rfl, Nat.le_of_ble_eq_true rfl⟩) hP (va_recv (q := (RX0, TX0, 7)) hE.2 hP (ci := 0) (q0 := 11) rfl rfl) rfl hl.1 rfl (Nat.le_of_ble_eq_true rfl) dX0_fillCovers_32 ?_
    refine lv_istore (lv' := [(6, .int r_3), (5, .int r_2), (0, .ref (a 11)), (1, .int x1), (2, .int x2), (3, .int x3), (4, .int x4)]) hx hb dX0_fillCovers_35 hl (by decide) rfl (fun ls hl => ?_)
    refine lv_iload hx hb dX0_fillCovers_37 (lv_at hl 0 rfl) ?_
    refine lv_iload hx hb dX0_fillCovers_39 (lv_at hl 1 rfl) ?_
    refine lv_iconst (v := 1) hx hb dX0_fillCovers_41 (by decide) ?_
    refine lv_isub hx hb dX0_fillCovers_42 ?_
    refine lv_icmp_ne (tgt := 61) hx hb dX0_fillCovers_43 (by decide) (fun q => ?_) (fun q => ?_)
    · have hf := (if_neg q).symm.trans hf
      refine lv_iconst (v := 0) hx hb dX0_fillCovers_61 (by decide) ?_
      exact t_X0_fillCovers_62 X hJ hr hlk hk9 x1 x2 x3 x4 r_2 r_3 (0 : Int32) z hf H locs ls hP hS (lv_sub hl [2, 3, 4, 5, 6, 1, 0] rfl)
    · have hf := (if_pos q).symm.trans hf
      refine lv_aload_n hx hb dX0_fillCovers_46 rfl (lv_at hl 2 rfl) ?_
      refine lv_iload_n hx hb dX0_fillCovers_47 rfl (lv_at hl 3 rfl) ?_
      refine lv_iload_n hx hb dX0_fillCovers_48 rfl (lv_at hl 4 rfl) ?_
      refine lv_iload hx hb dX0_fillCovers_49 (lv_at hl 6 rfl) ?_
      obtain ⟨r_4, hc, hf⟩ := bnd hf
      refine rdV X (c_X0_isCoveredWhole l d a z x1 x2 x4 hc) (k_X0_99 hE rfl rfl ⟨Nat.le_of_ble_eq_true rfl, Nat.le_of_ble_eq_true rfl⟩) hP (va_recv (q := (RX0, TX0, 7)) hE.2 hP (ci := 0) (q0 := 11) rfl rfl) rfl hl.1 rfl (Nat.le_of_ble_eq_true rfl) dX0_fillCovers_51 ?_
      refine lv_if_eq (tgt := 61) hx hb dX0_fillCovers_54 (by decide) (fun q => ?_) (fun q => ?_)
      · have hf := (if_pos q).symm.trans hf
        refine lv_iconst (v := 0) hx hb dX0_fillCovers_61 (by decide) ?_
        exact t_X0_fillCovers_62 X hJ hr hlk hk9 x1 x2 x3 x4 r_2 r_3 (0 : Int32) z hf H locs ls hP hS (lv_sub hl [2, 3, 4, 5, 6, 1, 0] rfl)
      · have hf := (if_neg q).symm.trans hf
        refine lv_iconst (v := 1) hx hb dX0_fillCovers_57 (by decide) ?_
        refine lv_goto (tgt := 62) hx hb dX0_fillCovers_58 (by decide) ?_
        exact t_X0_fillCovers_62 X hJ hr hlk hk9 x1 x2 x3 x4 r_2 r_3 (1 : Int32) z hf H locs ls hP hS (lv_sub hl [2, 3, 4, 5, 6, 1, 0] rfl)
theorem u_X0_fillCovers_9 {RR : St} (X : Cx p s m c cX0_fillCovers RX0 8 d) (hJ : Inj 26 a) (hr : meth.sig.returnType = none) (hlk : meth.locks = false) : ∀ (x1 : Int32) (x2 : Int32) (x3 : Int32) (x4 : Int32) (z : St), l_X0_fillCovers_9 x1 x2 x3 x4 z = some RR → WWv wC 26 d a p l e { frames := 2, cells := 0, slots := 0, locals := 47 } s m args below meth c RR z 8 [(0, .ref (a 11)), (1, .int x1), (2, .int x2), (3, .int x3), (4, .int x4)] 9 [] := by
  unfold l_X0_fillCovers_9
  generalize FU = n
  induction n with
  | zero => intro x1 x2 x3 x4 z hf; exact absurd (show (none : Option (St)) = some RR from hf) (by simp)
  | succ n ih => exact t_X0_fillCovers_9 X hJ hr hlk ih
def f_X0_fillCovers (x1 : Int32) (x2 : Int32) (z : St) : Option (St) := l_X0_fillCovers_9 x1 x2 (x1 * (512 : Int32)) (1 : Int32) z
set_option maxHeartbeats 4000000 in
set_option maxRecDepth 100000 in
theorem t_X0_fillCovers {RR : St} (X : Cx p s m c cX0_fillCovers RX0 8 d) (hJ : Inj 26 a) (hr : meth.sig.returnType = none) (hlk : meth.locks = false) : ∀ (x1 : Int32) (x2 : Int32) (z : St), f_X0_fillCovers x1 x2 z = some RR → WWv wC 26 d a p l e { frames := 2, cells := 0, slots := 0, locals := 47 } s m args below meth c RR z 8 [(0, .ref (a 11)), (1, .int x1), (2, .int x2)] 0 [] := by
  intro x1 x2 z hf H locs ls hP hS hl
  obtain ⟨hx, hb, hml, hown, hE⟩ := id X
  unfold f_X0_fillCovers at hf
  refine lv_iload_n hx hb dX0_fillCovers_0 rfl (lv_at hl 1 rfl) ?_
  refine lv_sipush (v := 512) hx hb dX0_fillCovers_1 (by decide) ?_
  refine lv_imul hx hb dX0_fillCovers_4 ?_
  refine lv_istore_n (lv' := [(3, .int (x1 * (512 : Int32))), (0, .ref (a 11)), (1, .int x1), (2, .int x2)]) hx hb dX0_fillCovers_5 rfl hl (by decide) rfl (fun ls hl => ?_)
  refine lv_iconst (v := 1) hx hb dX0_fillCovers_6 (by decide) ?_
  refine lv_istore (lv' := [(4, .int (1 : Int32)), (3, .int (x1 * (512 : Int32))), (0, .ref (a 11)), (1, .int x1), (2, .int x2)]) hx hb dX0_fillCovers_7 hl (by decide) rfl (fun ls hl => ?_)
  exact u_X0_fillCovers_9 X hJ hr hlk x1 x2 (x1 * (512 : Int32)) (1 : Int32) z hf H locs ls hP hS (lv_sub hl [2, 3, 4, 1, 0] rfl)
set_option maxHeartbeats 4000000 in
set_option maxRecDepth 100000 in
theorem c_X0_fillCovers (l : Launch) (d : G3) (a : Nat → Nat) (z : St) (x1 : Int32) (x2 : Int32) {RR : St} (hf : f_X0_fillCovers x1 x2 z = some RR) : Met l yX0_fillCovers [Cond.code yX0_fillCovers cX0_fillCovers 8 none] { frames := 2, cells := 0, slots := 0, locals := 47 } (wpre wC 26 d a z [.ref (a 11), .int x1, .int x2]) (QV wC 26 d a RR) 0 0 (AD 26 a) := by
  refine Met.ofW (cc := cX0_fillCovers) (maxL := 8) (ret := none) (by decide) rfl ?_
  intro p e s m args below meth c s₁ B hml hv
  obtain ⟨rfl, hE, hP, hJ⟩ := hv
  have X : Cx p s m c cX0_fillCovers RX0 8 d := ⟨B.exec, B.bytes, hml, findClass_of_methodNamed B.named, hE⟩
  have hl := lv_entry ([.ref (a 11), .int x1, .int x2]) (n := 8) (Nat.le_of_ble_eq_true rfl)
  rw [lg_entry_eq]
  generalize (lg_sl ([.ref (a 11), .int x1, .int x2]) ++ List.replicate (8 - (lg_sl ([.ref (a 11), .int x1, .int x2])).length) Slot.unset).toArray = ls at hl ⊢
  have hl : lv_has ls 8 [(0, .ref (a 11)), (1, .int x1), (2, .int x2)] := hl
  exact t_X0_fillCovers X hJ B.returns B.notSynchronized x1 x2 z hf s.heap [] ls hP va_S.rf hl
def f_X0_findCovers_10 (k10 : Int32 → Int32 → St → Option (St)) (x1 : Int32) (x2 : Int32) (z : St) : Option (St) := (if x2 < (0 : Int32) then some z else (f_X2_from z x2).bind (fun r_1 => (f_X5_isIn z (x1 &&& r_1) (z.1 5)).bind (fun r_2 => (if r_2 = (0 : Int32) then (f_X0_fillCovers (x1 &&& r_1) x2 z).bind (fun r_3 => k10 x1 (x2 + (-1 : Int32)) (pS r_3 5 ((r_3.1 5) ||| ((1 : Int32) <<< ((x1 &&& r_1) &&& 31))))) else k10 x1 (x2 + (-1 : Int32)) z))))
def l_X0_findCovers_10 : Int32 → Int32 → St → Option (St) := iter (fun _ _ _ => none) (f_X0_findCovers_10) FU
set_option maxHeartbeats 4000000 in
set_option maxRecDepth 100000 in
theorem t_X0_findCovers_10 {RR : St} (X : Cx p s m c cX0_findCovers RX0 4 d) (hJ : Inj 26 a) (hr : meth.sig.returnType = none) (hlk : meth.locks = false) {k10 : Int32 → Int32 → St → Option (St)} (hk10 : ∀ (x1 : Int32) (x2 : Int32) (z : St), k10 x1 x2 z = some RR → WWv wC 26 d a p l e { frames := 3, cells := 0, slots := 0, locals := 74 } s m args below meth c RR z 4 [(0, .ref (a 11)), (1, .int x1), (2, .int x2)] 10 []) : ∀ (x1 : Int32) (x2 : Int32) (z : St), f_X0_findCovers_10 k10 x1 x2 z = some RR → WWv wC 26 d a p l e { frames := 3, cells := 0, slots := 0, locals := 74 } s m args below meth c RR z 4 [(0, .ref (a 11)), (1, .int x1), (2, .int x2)] 10 [] := by
  intro x1 x2 z hf H locs ls hP hS hl
  obtain ⟨hx, hb, hml, hown, hE⟩ := id X
  unfold f_X0_findCovers_10 at hf
  refine lv_iload_n hx hb dX0_findCovers_10 rfl (lv_at hl 2 rfl) ?_
  refine lv_if_lt (tgt := 60) hx hb dX0_findCovers_11 (by decide) (fun q => ?_) (fun q => ?_)
  · have hf := (if_pos q).symm.trans hf
    obtain rfl := Option.some.inj hf
    exact W.vret hx hb hr (fun t ht _ => ⟨rfl, by rw [ht]; exact hP, hS.F ht⟩) hS.2.2 dX0_findCovers_60 hlk
  · have hf := (if_neg q).symm.trans hf
    refine lv_iload_n hx hb dX0_findCovers_14 rfl (lv_at hl 1 rfl) ?_
    refine lv_aload_n hx hb dX0_findCovers_15 rfl (lv_at hl 0 rfl) ?_
    refine gf_0_30 hx hb hE hown hP dX0_findCovers_16 ?_
    refine lv_iload_n hx hb dX0_findCovers_19 rfl (lv_at hl 2 rfl) ?_
    obtain ⟨r_1, hc, hf⟩ := bnd hf
    refine rdV X (c_X2_from l d a z x2 hc) (k_X0_49 hE rfl rfl ⟨Nat.le_of_ble_eq_true rfl, Nat.le_of_ble_eq_true rfl⟩) hP (va_recv (q := (RX2, TX2, 2)) hE.2 hP (ci := 2) (q0 := 9) rfl rfl) rfl hl.1 rfl (Nat.le_of_ble_eq_true rfl) dX0_findCovers_20 ?_
    refine lv_iand hx hb dX0_findCovers_23 ?_
    refine lv_istore_n (lv' := [(3, .int (x1 &&& r_1)), (0, .ref (a 11)), (1, .int x1), (2, .int x2)]) hx hb dX0_findCovers_24 rfl hl (by decide) rfl (fun ls hl => ?_)
    refine lv_iload_n hx hb dX0_findCovers_25 rfl (lv_at hl 0 rfl) ?_
    refine lv_aload_n hx hb dX0_findCovers_26 rfl (lv_at hl 1 rfl) ?_
    refine gf_0_37 hx hb hE hown hP dX0_findCovers_27 ?_
    obtain ⟨r_2, hc, hf⟩ := bnd hf
    refine rdSN X (c_X5_isIn l d a z (x1 &&& r_1) (z.1 5) hc) (k_X0_41 hE rfl rfl ⟨Nat.le_of_ble_eq_true rfl, Nat.le_of_ble_eq_true rfl⟩) hP rfl hl.1 rfl (Nat.le_of_ble_eq_true rfl) dX0_findCovers_30 ?_
    refine lv_if_ne (tgt := 54) hx hb dX0_findCovers_33 (by decide) (fun q => ?_) (fun q => ?_)
    · have hf := (if_neg q).symm.trans hf
      refine lv_iinc (v := (x2 + (-1 : Int32))) (lv' := [(2, .int (x2 + (-1 : Int32))), (3, .int (x1 &&& r_1)), (0, .ref (a 11)), (1, .int x1)]) hx hb dX0_findCovers_54 hl (k := 3) rfl rfl (by decide) rfl (fun ls hl => ?_)
      refine lv_goto (tgt := 10) hx hb dX0_findCovers_57 (by decide) ?_
      exact hk10 x1 (x2 + (-1 : Int32)) z hf H locs ls hP hS (lv_sub hl [2, 3, 0] rfl)
    · have hf := (if_pos q).symm.trans hf
      refine lv_aload_n hx hb dX0_findCovers_36 rfl (lv_at hl 1 rfl) ?_
      refine lv_iload_n hx hb dX0_findCovers_37 rfl (lv_at hl 0 rfl) ?_
      refine lv_iload_n hx hb dX0_findCovers_38 rfl (lv_at hl 3 rfl) ?_
      obtain ⟨r_3, hc, hf⟩ := bnd hf
      refine wrVv X (c_X0_fillCovers l d a z (x1 &&& r_1) x2 hc) (k_X0_87 hE rfl rfl ⟨Nat.le_of_ble_eq_true rfl, Nat.le_of_ble_eq_true rfl⟩) hP hJ hS (va_recv (q := (RX0, TX0, 7)) hE.2 hP (ci := 0) (q0 := 11) rfl rfl) rfl hl.1 rfl (Nat.le_of_ble_eq_true rfl) dX0_findCovers_39 (fun H locs hP hS => ?_)
      refine lv_aload_n hx hb dX0_findCovers_42 rfl (lv_at hl 1 rfl) ?_
      refine lv_dup hx hb dX0_findCovers_43 rfl ?_
      refine gf_0_37 hx hb hE hown hP dX0_findCovers_44 ?_
      refine lv_iconst (v := 1) hx hb dX0_findCovers_47 (by decide) ?_
      refine lv_iload_n hx hb dX0_findCovers_48 rfl (lv_at hl 0 rfl) ?_
      refine lv_ishl hx hb dX0_findCovers_49 ?_
      refine lv_ior hx hb dX0_findCovers_50 ?_
      refine pf_0_37 hx hb hE hown hP hJ hS dX0_findCovers_51 (fun H locs hP hS => ?_)
      refine lv_iinc (v := (x2 + (-1 : Int32))) (lv' := [(2, .int (x2 + (-1 : Int32))), (3, .int (x1 &&& r_1)), (0, .ref (a 11)), (1, .int x1)]) hx hb dX0_findCovers_54 hl (k := 3) rfl rfl (by decide) rfl (fun ls hl => ?_)
      refine lv_goto (tgt := 10) hx hb dX0_findCovers_57 (by decide) ?_
      exact hk10 x1 (x2 + (-1 : Int32)) (pS r_3 5 ((r_3.1 5) ||| ((1 : Int32) <<< ((x1 &&& r_1) &&& 31)))) hf H locs ls hP hS (lv_sub hl [2, 3, 0] rfl)
theorem u_X0_findCovers_10 {RR : St} (X : Cx p s m c cX0_findCovers RX0 4 d) (hJ : Inj 26 a) (hr : meth.sig.returnType = none) (hlk : meth.locks = false) : ∀ (x1 : Int32) (x2 : Int32) (z : St), l_X0_findCovers_10 x1 x2 z = some RR → WWv wC 26 d a p l e { frames := 3, cells := 0, slots := 0, locals := 74 } s m args below meth c RR z 4 [(0, .ref (a 11)), (1, .int x1), (2, .int x2)] 10 [] := by
  unfold l_X0_findCovers_10
  generalize FU = n
  induction n with
  | zero => intro x1 x2 z hf; exact absurd (show (none : Option (St)) = some RR from hf) (by simp)
  | succ n ih => exact t_X0_findCovers_10 X hJ hr hlk ih
def f_X0_findCovers (x1 : Int32) (z : St) : Option (St) := l_X0_findCovers_10 x1 ((z.1 4) - (1 : Int32)) z
set_option maxHeartbeats 4000000 in
set_option maxRecDepth 100000 in
theorem t_X0_findCovers {RR : St} (X : Cx p s m c cX0_findCovers RX0 4 d) (hJ : Inj 26 a) (hr : meth.sig.returnType = none) (hlk : meth.locks = false) : ∀ (x1 : Int32) (z : St), f_X0_findCovers x1 z = some RR → WWv wC 26 d a p l e { frames := 3, cells := 0, slots := 0, locals := 74 } s m args below meth c RR z 4 [(0, .ref (a 11)), (1, .int x1)] 0 [] := by
  intro x1 z hf H locs ls hP hS hl
  obtain ⟨hx, hb, hml, hown, hE⟩ := id X
  unfold f_X0_findCovers at hf
  refine lv_aload_n hx hb dX0_findCovers_0 rfl (lv_at hl 0 rfl) ?_
  refine gf_0_30 hx hb hE hown hP dX0_findCovers_1 ?_
  refine gf_0_71 hx hb hE hown hP dX0_findCovers_4 ?_
  refine lv_iconst (v := 1) hx hb dX0_findCovers_7 (by decide) ?_
  refine lv_isub hx hb dX0_findCovers_8 ?_
  refine lv_istore_n (lv' := [(2, .int ((z.1 4) - (1 : Int32))), (0, .ref (a 11)), (1, .int x1)]) hx hb dX0_findCovers_9 rfl hl (by decide) rfl (fun ls hl => ?_)
  exact u_X0_findCovers_10 X hJ hr hlk x1 ((z.1 4) - (1 : Int32)) z hf H locs ls hP hS (lv_sub hl [1, 2, 0] rfl)
set_option maxHeartbeats 4000000 in
set_option maxRecDepth 100000 in
theorem c_X0_findCovers (l : Launch) (d : G3) (a : Nat → Nat) (z : St) (x1 : Int32) {RR : St} (hf : f_X0_findCovers x1 z = some RR) : Met l yX0_findCovers [Cond.code yX0_findCovers cX0_findCovers 4 none] { frames := 3, cells := 0, slots := 0, locals := 74 } (wpre wC 26 d a z [.ref (a 11), .int x1]) (QV wC 26 d a RR) 0 0 (AD 26 a) := by
  refine Met.ofW (cc := cX0_findCovers) (maxL := 4) (ret := none) (by decide) rfl ?_
  intro p e s m args below meth c s₁ B hml hv
  obtain ⟨rfl, hE, hP, hJ⟩ := hv
  have X : Cx p s m c cX0_findCovers RX0 4 d := ⟨B.exec, B.bytes, hml, findClass_of_methodNamed B.named, hE⟩
  have hl := lv_entry ([.ref (a 11), .int x1]) (n := 4) (Nat.le_of_ble_eq_true rfl)
  rw [lg_entry_eq]
  generalize (lg_sl ([.ref (a 11), .int x1]) ++ List.replicate (4 - (lg_sl ([.ref (a 11), .int x1])).length) Slot.unset).toArray = ls at hl ⊢
  have hl : lv_has ls 4 [(0, .ref (a 11)), (1, .int x1)] := hl
  exact t_X0_findCovers X hJ B.returns B.notSynchronized x1 z hf s.heap [] ls hP va_S.rf hl
def f_X0_coverBy_16 (x1 : Int32) (x2 : Int32) (z : St) : Option (Int32 × St) := ck 8192 ((x1 * (512 : Int32)) + x2) (some ((z.2 7 ((x1 * (512 : Int32)) + x2).toNatClampNeg), z))
set_option maxHeartbeats 4000000 in
set_option maxRecDepth 100000 in
theorem t_X0_coverBy_16 {RR : Int32 × St} (X : Cx p s m c cX0_coverBy RX0 3 d) (hJ : Inj 26 a) (hr : meth.sig.returnType = (some .int)) (hlk : meth.locks = false) : ∀ (x1 : Int32) (x2 : Int32) (z : St), f_X0_coverBy_16 x1 x2 z = some RR → WWr wC 26 d a p l e { frames := 4, cells := 0, slots := 0, locals := 97 } s m args below meth c RR z 3 [(0, .ref (a 11)), (1, .int x1), (2, .int x2)] 16 [] := by
  intro x1 x2 z hf H locs ls hP hS hl
  obtain ⟨hx, hb, hml, hown, hE⟩ := id X
  unfold f_X0_coverBy_16 at hf
  refine lv_aload_n hx hb dX0_coverBy_16 rfl (lv_at hl 0 rfl) ?_
  refine gf_0_15 hx hb hE hown hP dX0_coverBy_17 ?_
  refine lv_iload_n hx hb dX0_coverBy_20 rfl (lv_at hl 1 rfl) ?_
  refine lv_sipush (v := 512) hx hb dX0_coverBy_21 (by decide) ?_
  refine lv_imul hx hb dX0_coverBy_24 ?_
  refine lv_iload_n hx hb dX0_coverBy_25 rfl (lv_at hl 2 rfl) ?_
  refine lv_iadd hx hb dX0_coverBy_26 ?_
  obtain ⟨hi, hf⟩ := ck_some hf
  refine ld_C_13 hx hb hE hP hi dX0_coverBy_27 ?_
  obtain rfl := Option.some.inj hf
  exact W.iret hx hb hr (fun t ht _ => ⟨rfl, by rw [ht]; exact hP, hS.F ht⟩) hS.2.2 dX0_coverBy_28 hlk
def f_X0_coverBy (x1 : Int32) (x2 : Int32) (z : St) : Option (Int32 × St) := (f_X5_isIn z x1 (z.1 5)).bind (fun r_1 => (if r_1 = (0 : Int32) then (f_X0_findCovers x1 z).bind (fun r_2 => f_X0_coverBy_16 x1 x2 r_2) else f_X0_coverBy_16 x1 x2 z))
set_option maxHeartbeats 4000000 in
set_option maxRecDepth 100000 in
theorem t_X0_coverBy {RR : Int32 × St} (X : Cx p s m c cX0_coverBy RX0 3 d) (hJ : Inj 26 a) (hr : meth.sig.returnType = (some .int)) (hlk : meth.locks = false) : ∀ (x1 : Int32) (x2 : Int32) (z : St), f_X0_coverBy x1 x2 z = some RR → WWr wC 26 d a p l e { frames := 4, cells := 0, slots := 0, locals := 97 } s m args below meth c RR z 3 [(0, .ref (a 11)), (1, .int x1), (2, .int x2)] 0 [] := by
  intro x1 x2 z hf H locs ls hP hS hl
  obtain ⟨hx, hb, hml, hown, hE⟩ := id X
  unfold f_X0_coverBy at hf
  refine lv_iload_n hx hb dX0_coverBy_0 rfl (lv_at hl 1 rfl) ?_
  refine lv_aload_n hx hb dX0_coverBy_1 rfl (lv_at hl 0 rfl) ?_
  refine gf_0_37 hx hb hE hown hP dX0_coverBy_2 ?_
  obtain ⟨r_1, hc, hf⟩ := bnd hf
  refine rdSN X (c_X5_isIn l d a z x1 (z.1 5) hc) (k_X0_41 hE rfl rfl ⟨Nat.le_of_ble_eq_true rfl, Nat.le_of_ble_eq_true rfl⟩) hP rfl hl.1 rfl (Nat.le_of_ble_eq_true rfl) dX0_coverBy_5 ?_
  refine lv_if_ne (tgt := 16) hx hb dX0_coverBy_8 (by decide) (fun q => ?_) (fun q => ?_)
  · have hf := (if_neg q).symm.trans hf
    exact t_X0_coverBy_16 X hJ hr hlk x1 x2 z hf H locs ls hP hS (lv_sub hl [0, 1, 2] rfl)
  · have hf := (if_pos q).symm.trans hf
    refine lv_aload_n hx hb dX0_coverBy_11 rfl (lv_at hl 0 rfl) ?_
    refine lv_iload_n hx hb dX0_coverBy_12 rfl (lv_at hl 1 rfl) ?_
    obtain ⟨r_2, hc, hf⟩ := bnd hf
    refine wrVv X (c_X0_findCovers l d a z x1 hc) (k_X0_45 hE rfl rfl ⟨Nat.le_of_ble_eq_true rfl, Nat.le_of_ble_eq_true rfl⟩) hP hJ hS (va_recv (q := (RX0, TX0, 7)) hE.2 hP (ci := 0) (q0 := 11) rfl rfl) rfl hl.1 rfl (Nat.le_of_ble_eq_true rfl) dX0_coverBy_13 (fun H locs hP hS => ?_)
    exact t_X0_coverBy_16 X hJ hr hlk x1 x2 r_2 hf H locs ls hP hS (lv_sub hl [0, 1, 2] rfl)
set_option maxHeartbeats 4000000 in
set_option maxRecDepth 100000 in
theorem c_X0_coverBy (l : Launch) (d : G3) (a : Nat → Nat) (z : St) (x1 : Int32) (x2 : Int32) {RR : Int32 × St} (hf : f_X0_coverBy x1 x2 z = some RR) : Met l yX0_coverBy [Cond.code yX0_coverBy cX0_coverBy 3 (some .int)] { frames := 4, cells := 0, slots := 0, locals := 97 } (wpre wC 26 d a z [.ref (a 11), .int x1, .int x2]) (QW wC 26 d a RR) 0 0 (AD 26 a) := by
  refine Met.ofW (cc := cX0_coverBy) (maxL := 3) (ret := (some .int)) (by decide) rfl ?_
  intro p e s m args below meth c s₁ B hml hv
  obtain ⟨rfl, hE, hP, hJ⟩ := hv
  have X : Cx p s m c cX0_coverBy RX0 3 d := ⟨B.exec, B.bytes, hml, findClass_of_methodNamed B.named, hE⟩
  have hl := lv_entry ([.ref (a 11), .int x1, .int x2]) (n := 3) (Nat.le_of_ble_eq_true rfl)
  rw [lg_entry_eq]
  generalize (lg_sl ([.ref (a 11), .int x1, .int x2]) ++ List.replicate (3 - (lg_sl ([.ref (a 11), .int x1, .int x2])).length) Slot.unset).toArray = ls at hl ⊢
  have hl : lv_has ls 3 [(0, .ref (a 11)), (1, .int x1), (2, .int x2)] := hl
  exact t_X0_coverBy X hJ B.returns B.notSynchronized x1 x2 z hf s.heap [] ls hP va_S.rf hl
def f_X1_enter_71 (x6 : Int32) (z : St) : Option (Int32 × St) := some (x6, (pS z 3 ((z.1 3) + (1 : Int32))))
set_option maxHeartbeats 4000000 in
set_option maxRecDepth 100000 in
theorem t_X1_enter_71 {RR : Int32 × St} (X : Cx p s m c cX1_enter RX1 7 d) (hJ : Inj 26 a) (hr : meth.sig.returnType = (some .int)) (hlk : meth.locks = false) : ∀ (x6 : Int32) (z : St), f_X1_enter_71 x6 z = some RR → WWr wC 26 d a p l e { frames := 0, cells := 0, slots := 0, locals := 0 } s m args below meth c RR z 7 [(0, .ref (a 1)), (6, .int x6)] 71 [] := by
  intro x6 z hf H locs ls hP hS hl
  obtain ⟨hx, hb, hml, hown, hE⟩ := id X
  unfold f_X1_enter_71 at hf
  refine lv_aload_n hx hb dX1_enter_71 rfl (lv_at hl 0 rfl) ?_
  refine lv_dup hx hb dX1_enter_72 rfl ?_
  refine gf_1_27 hx hb hE hown hP dX1_enter_73 ?_
  refine lv_iconst (v := 1) hx hb dX1_enter_76 (by decide) ?_
  refine lv_iadd hx hb dX1_enter_77 ?_
  refine pf_1_27 hx hb hE hown hP hJ hS dX1_enter_78 (fun H locs hP hS => ?_)
  refine lv_iload hx hb dX1_enter_81 (lv_at hl 1 rfl) ?_
  obtain rfl := Option.some.inj hf
  exact W.iret hx hb hr (fun t ht _ => ⟨rfl, by rw [ht]; exact hP, hS.F ht⟩) hS.2.2 dX1_enter_83 hlk
def f_X1_enter (x1 : Int32) (x2 : Int32) (x3 : Int32) (x4 : Int32) (x5 : Int32) (z : St) : Option (Int32 × St) := ck 9 (z.1 3) (ck 9 (z.1 3) (ck 9 (z.1 3) (ck 9 (z.1 3) (ck 9 (z.1 3) ((if x5 = (0 : Int32) then f_X1_enter_71 (z.1 3) (pA (pA (pA (pA (pA z 0 (z.1 3).toNatClampNeg x1) 1 (z.1 3).toNatClampNeg x2) 2 (z.1 3).toNatClampNeg ((((1 : Int32) <<< (x2 &&& 31)) - (1 : Int32)) <<< (x1 &&& 31))) 3 (z.1 3).toNatClampNeg x3) 4 (z.1 3).toNatClampNeg x4) else f_X1_enter_71 (z.1 3) (pS (pA (pA (pA (pA (pA z 0 (z.1 3).toNatClampNeg x1) 1 (z.1 3).toNatClampNeg x2) 2 (z.1 3).toNatClampNeg ((((1 : Int32) <<< (x2 &&& 31)) - (1 : Int32)) <<< (x1 &&& 31))) 3 (z.1 3).toNatClampNeg x3) 4 (z.1 3).toNatClampNeg x4) 2 (((pA (pA (pA (pA (pA z 0 (z.1 3).toNatClampNeg x1) 1 (z.1 3).toNatClampNeg x2) 2 (z.1 3).toNatClampNeg ((((1 : Int32) <<< (x2 &&& 31)) - (1 : Int32)) <<< (x1 &&& 31))) 3 (z.1 3).toNatClampNeg x3) 4 (z.1 3).toNatClampNeg x4).1 2) ||| ((1 : Int32) <<< ((z.1 3) &&& 31))))))))))
set_option maxHeartbeats 4000000 in
set_option maxRecDepth 100000 in
theorem t_X1_enter {RR : Int32 × St} (X : Cx p s m c cX1_enter RX1 7 d) (hJ : Inj 26 a) (hr : meth.sig.returnType = (some .int)) (hlk : meth.locks = false) : ∀ (x1 : Int32) (x2 : Int32) (x3 : Int32) (x4 : Int32) (x5 : Int32) (z : St), f_X1_enter x1 x2 x3 x4 x5 z = some RR → WWr wC 26 d a p l e { frames := 0, cells := 0, slots := 0, locals := 0 } s m args below meth c RR z 7 [(0, .ref (a 1)), (1, .int x1), (2, .int x2), (3, .int x3), (4, .int x4), (5, .int x5)] 0 [] := by
  intro x1 x2 x3 x4 x5 z hf H locs ls hP hS hl
  obtain ⟨hx, hb, hml, hown, hE⟩ := id X
  unfold f_X1_enter at hf
  refine lv_aload_n hx hb dX1_enter_0 rfl (lv_at hl 0 rfl) ?_
  refine gf_1_27 hx hb hE hown hP dX1_enter_1 ?_
  refine lv_istore (lv' := [(6, .int (z.1 3)), (0, .ref (a 1)), (1, .int x1), (2, .int x2), (3, .int x3), (4, .int x4), (5, .int x5)]) hx hb dX1_enter_4 hl (by decide) rfl (fun ls hl => ?_)
  refine lv_aload_n hx hb dX1_enter_6 rfl (lv_at hl 1 rfl) ?_
  refine gf_1_9 hx hb hE hown hP dX1_enter_7 ?_
  refine lv_iload hx hb dX1_enter_10 (lv_at hl 0 rfl) ?_
  refine lv_iload_n hx hb dX1_enter_12 rfl (lv_at hl 2 rfl) ?_
  obtain ⟨hi, hf⟩ := ck_some hf
  refine st_C_2 hx hb hE hP hJ hS hi dX1_enter_13 (fun H locs hP hS => ?_)
  refine lv_aload_n hx hb dX1_enter_14 rfl (lv_at hl 1 rfl) ?_
  refine gf_1_15 hx hb hE hown hP dX1_enter_15 ?_
  refine lv_iload hx hb dX1_enter_18 (lv_at hl 0 rfl) ?_
  refine lv_iload_n hx hb dX1_enter_20 rfl (lv_at hl 3 rfl) ?_
  obtain ⟨hi, hf⟩ := ck_some hf
  refine st_C_3 hx hb hE hP hJ hS hi dX1_enter_21 (fun H locs hP hS => ?_)
  refine lv_aload_n hx hb dX1_enter_22 rfl (lv_at hl 1 rfl) ?_
  refine gf_1_18 hx hb hE hown hP dX1_enter_23 ?_
  refine lv_iload hx hb dX1_enter_26 (lv_at hl 0 rfl) ?_
  refine lv_iconst (v := 1) hx hb dX1_enter_28 (by decide) ?_
  refine lv_iload_n hx hb dX1_enter_29 rfl (lv_at hl 3 rfl) ?_
  refine lv_ishl hx hb dX1_enter_30 ?_
  refine lv_iconst (v := 1) hx hb dX1_enter_31 (by decide) ?_
  refine lv_isub hx hb dX1_enter_32 ?_
  refine lv_iload_n hx hb dX1_enter_33 rfl (lv_at hl 2 rfl) ?_
  refine lv_ishl hx hb dX1_enter_34 ?_
  obtain ⟨hi, hf⟩ := ck_some hf
  refine st_C_4 hx hb hE hP hJ hS hi dX1_enter_35 (fun H locs hP hS => ?_)
  refine lv_aload_n hx hb dX1_enter_36 rfl (lv_at hl 1 rfl) ?_
  refine gf_1_21 hx hb hE hown hP dX1_enter_37 ?_
  refine lv_iload hx hb dX1_enter_40 (lv_at hl 0 rfl) ?_
  refine lv_iload_n hx hb dX1_enter_42 rfl (lv_at hl 4 rfl) ?_
  obtain ⟨hi, hf⟩ := ck_some hf
  refine st_C_5 hx hb hE hP hJ hS hi dX1_enter_43 (fun H locs hP hS => ?_)
  refine lv_aload_n hx hb dX1_enter_44 rfl (lv_at hl 1 rfl) ?_
  refine gf_1_24 hx hb hE hown hP dX1_enter_45 ?_
  refine lv_iload hx hb dX1_enter_48 (lv_at hl 0 rfl) ?_
  refine lv_iload hx hb dX1_enter_50 (lv_at hl 5 rfl) ?_
  obtain ⟨hi, hf⟩ := ck_some hf
  refine st_C_6 hx hb hE hP hJ hS hi dX1_enter_52 (fun H locs hP hS => ?_)
  refine lv_iload hx hb dX1_enter_53 (lv_at hl 6 rfl) ?_
  refine lv_if_eq (tgt := 71) hx hb dX1_enter_55 (by decide) (fun q => ?_) (fun q => ?_)
  · have hf := (if_pos q).symm.trans hf
    exact t_X1_enter_71 X hJ hr hlk (z.1 3) (pA (pA (pA (pA (pA z 0 (z.1 3).toNatClampNeg x1) 1 (z.1 3).toNatClampNeg x2) 2 (z.1 3).toNatClampNeg ((((1 : Int32) <<< (x2 &&& 31)) - (1 : Int32)) <<< (x1 &&& 31))) 3 (z.1 3).toNatClampNeg x3) 4 (z.1 3).toNatClampNeg x4) hf H locs ls hP hS (lv_sub hl [1, 0] rfl)
  · have hf := (if_neg q).symm.trans hf
    refine lv_aload_n hx hb dX1_enter_58 rfl (lv_at hl 1 rfl) ?_
    refine lv_dup hx hb dX1_enter_59 rfl ?_
    refine gf_1_31 hx hb hE hown hP dX1_enter_60 ?_
    refine lv_iconst (v := 1) hx hb dX1_enter_63 (by decide) ?_
    refine lv_iload hx hb dX1_enter_64 (lv_at hl 0 rfl) ?_
    refine lv_ishl hx hb dX1_enter_66 ?_
    refine lv_ior hx hb dX1_enter_67 ?_
    refine pf_1_31 hx hb hE hown hP hJ hS dX1_enter_68 (fun H locs hP hS => ?_)
    exact t_X1_enter_71 X hJ hr hlk (z.1 3) (pS (pA (pA (pA (pA (pA z 0 (z.1 3).toNatClampNeg x1) 1 (z.1 3).toNatClampNeg x2) 2 (z.1 3).toNatClampNeg ((((1 : Int32) <<< (x2 &&& 31)) - (1 : Int32)) <<< (x1 &&& 31))) 3 (z.1 3).toNatClampNeg x3) 4 (z.1 3).toNatClampNeg x4) 2 (((pA (pA (pA (pA (pA z 0 (z.1 3).toNatClampNeg x1) 1 (z.1 3).toNatClampNeg x2) 2 (z.1 3).toNatClampNeg ((((1 : Int32) <<< (x2 &&& 31)) - (1 : Int32)) <<< (x1 &&& 31))) 3 (z.1 3).toNatClampNeg x3) 4 (z.1 3).toNatClampNeg x4).1 2) ||| ((1 : Int32) <<< ((z.1 3) &&& 31)))) hf H locs ls hP hS (lv_sub hl [1, 0] rfl)
set_option maxHeartbeats 4000000 in
set_option maxRecDepth 100000 in
theorem c_X1_enter (l : Launch) (d : G3) (a : Nat → Nat) (z : St) (x1 : Int32) (x2 : Int32) (x3 : Int32) (x4 : Int32) (x5 : Int32) {RR : Int32 × St} (hf : f_X1_enter x1 x2 x3 x4 x5 z = some RR) : Met l yX1_enter [Cond.code yX1_enter cX1_enter 7 (some .int)] { frames := 0, cells := 0, slots := 0, locals := 0 } (wpre wC 26 d a z [.ref (a 1), .int x1, .int x2, .int x3, .int x4, .int x5]) (QW wC 26 d a RR) 0 0 (AD 26 a) := by
  refine Met.ofW (cc := cX1_enter) (maxL := 7) (ret := (some .int)) (by decide) rfl ?_
  intro p e s m args below meth c s₁ B hml hv
  obtain ⟨rfl, hE, hP, hJ⟩ := hv
  have X : Cx p s m c cX1_enter RX1 7 d := ⟨B.exec, B.bytes, hml, findClass_of_methodNamed B.named, hE⟩
  have hl := lv_entry ([.ref (a 1), .int x1, .int x2, .int x3, .int x4, .int x5]) (n := 7) (Nat.le_of_ble_eq_true rfl)
  rw [lg_entry_eq]
  generalize (lg_sl ([.ref (a 1), .int x1, .int x2, .int x3, .int x4, .int x5]) ++ List.replicate (7 - (lg_sl ([.ref (a 1), .int x1, .int x2, .int x3, .int x4, .int x5])).length) Slot.unset).toArray = ls at hl ⊢
  have hl : lv_has ls 7 [(0, .ref (a 1)), (1, .int x1), (2, .int x2), (3, .int x3), (4, .int x4), (5, .int x5)] := hl
  exact t_X1_enter X hJ B.returns B.notSynchronized x1 x2 x3 x4 x5 z hf s.heap [] ls hP va_S.rf hl
def f_X5_within (z : St) (x0 : Int32) (x1 : Int32) (x2 : Int32) : Option (Int32) := (if x0 < x1 then some (0 : Int32) else (if x2 < x0 then some (0 : Int32) else some (1 : Int32)))
set_option maxHeartbeats 4000000 in
set_option maxRecDepth 100000 in
theorem t_X5_within {RR : Int32} (X : Cx p s m c cX5_within RX5 3 d) {z : St} (hP : va_P d.1 classes (wC d a z) s.heap) (hr : meth.sig.returnType = (some .boolean)) (hlk : meth.locks = false) : ∀ (x0 : Int32) (x1 : Int32) (x2 : Int32), f_X5_within z x0 x1 x2 = some RR → WRd p l e { frames := 0, cells := 0, slots := 0, locals := 0 } s m args below meth c RR 3 [(0, .int x0), (1, .int x1), (2, .int x2)] 0 [] := by
  intro x0 x1 x2 hf ls hl
  obtain ⟨hx, hb, hml, hown, hE⟩ := id X
  unfold f_X5_within at hf
  refine lv_iload_n hx hb dX5_within_0 rfl (lv_at hl 0 rfl) ?_
  refine lv_iload_n hx hb dX5_within_1 rfl (lv_at hl 1 rfl) ?_
  refine lv_icmp_lt (tgt := 14) hx hb dX5_within_2 (by decide) (fun q => ?_) (fun q => ?_)
  · have hf := (if_pos q).symm.trans hf
    refine lv_iconst (v := 0) hx hb dX5_within_14 (by decide) ?_
    obtain rfl := Option.some.inj hf
    exact W.zret hx hb hr rfl (fun t ht _ => ⟨rfl, ht⟩) (fun _ h => nomatch h) dX5_within_15 hlk
  · have hf := (if_neg q).symm.trans hf
    refine lv_iload_n hx hb dX5_within_5 rfl (lv_at hl 0 rfl) ?_
    refine lv_iload_n hx hb dX5_within_6 rfl (lv_at hl 2 rfl) ?_
    refine lv_icmp_gt (tgt := 14) hx hb dX5_within_7 (by decide) (fun q => ?_) (fun q => ?_)
    · have hf := (if_pos q).symm.trans hf
      refine lv_iconst (v := 0) hx hb dX5_within_14 (by decide) ?_
      obtain rfl := Option.some.inj hf
      exact W.zret hx hb hr rfl (fun t ht _ => ⟨rfl, ht⟩) (fun _ h => nomatch h) dX5_within_15 hlk
    · have hf := (if_neg q).symm.trans hf
      refine lv_iconst (v := 1) hx hb dX5_within_10 (by decide) ?_
      refine lv_goto (tgt := 15) hx hb dX5_within_11 (by decide) ?_
      obtain rfl := Option.some.inj hf
      exact W.zret hx hb hr rfl (fun t ht _ => ⟨rfl, ht⟩) (fun _ h => nomatch h) dX5_within_15 hlk
set_option maxHeartbeats 4000000 in
set_option maxRecDepth 100000 in
theorem c_X5_within (l : Launch) (d : G3) (a : Nat → Nat) (z : St) (x0 : Int32) (x1 : Int32) (x2 : Int32) {RR : Int32} (hf : f_X5_within z x0 x1 x2 = some RR) : Met l yX5_within [Cond.code yX5_within cX5_within 3 (some .boolean)] { frames := 0, cells := 0, slots := 0, locals := 0 } (rpre wC d a z [.int x0, .int x1, .int x2]) (QcRead RR) 0 0 (fun _ => False) := by
  refine Met.ofW (cc := cX5_within) (maxL := 3) (ret := (some .boolean)) (by decide) rfl ?_
  intro p e s m args below meth c s₁ B hml hv
  obtain ⟨rfl, hE, hP⟩ := hv
  have X : Cx p s m c cX5_within RX5 3 d := ⟨B.exec, B.bytes, hml, findClass_of_methodNamed B.named, hE⟩
  have hl := lv_entry ([.int x0, .int x1, .int x2]) (n := 3) (Nat.le_of_ble_eq_true rfl)
  rw [lg_entry_eq]
  generalize (lg_sl ([.int x0, .int x1, .int x2]) ++ List.replicate (3 - (lg_sl ([.int x0, .int x1, .int x2])).length) Slot.unset).toArray = ls at hl ⊢
  have hl : lv_has ls 3 [(0, .int x0), (1, .int x1), (2, .int x2)] := hl
  exact t_X5_within X hP B.returns B.notSynchronized x0 x1 x2 hf ls hl
def f_X1_has (z : St) (x1 : Int32) : Option (Int32) := (f_X5_within z x1 (0 : Int32) ((z.1 3) - (1 : Int32))).bind (fun r_1 => bz r_1 (some r_1))
set_option maxHeartbeats 4000000 in
set_option maxRecDepth 100000 in
theorem t_X1_has {RR : Int32} (X : Cx p s m c cX1_has RX1 2 d) {z : St} (hP : va_P d.1 classes (wC d a z) s.heap) (hr : meth.sig.returnType = (some .boolean)) (hlk : meth.locks = false) : ∀ (x1 : Int32), f_X1_has z x1 = some RR → WRd p l e { frames := 1, cells := 0, slots := 0, locals := 22 } s m args below meth c RR 2 [(0, .ref (a 1)), (1, .int x1)] 0 [] := by
  intro x1 hf ls hl
  obtain ⟨hx, hb, hml, hown, hE⟩ := id X
  unfold f_X1_has at hf
  refine lv_iload_n hx hb dX1_has_0 rfl (lv_at hl 1 rfl) ?_
  refine lv_iconst (v := 0) hx hb dX1_has_1 (by decide) ?_
  refine lv_aload_n hx hb dX1_has_2 rfl (lv_at hl 0 rfl) ?_
  refine gf_1_27 hx hb hE hown hP dX1_has_3 ?_
  refine lv_iconst (v := 1) hx hb dX1_has_6 (by decide) ?_
  refine lv_isub hx hb dX1_has_7 ?_
  obtain ⟨r_1, hc, hf⟩ := bnd hf
  refine rdSN X (c_X5_within l d a z x1 (0 : Int32) ((z.1 3) - (1 : Int32)) hc) (k_X1_34 hE rfl rfl ⟨Nat.le_of_ble_eq_true rfl, Nat.le_of_ble_eq_true rfl⟩) hP rfl hl.1 rfl (Nat.le_of_ble_eq_true rfl) dX1_has_8 ?_
  obtain ⟨hn, hf⟩ := bz_some hf
  obtain rfl := Option.some.inj hf
  exact W.zret hx hb hr hn (fun t ht _ => ⟨rfl, ht⟩) (fun _ h => nomatch h) dX1_has_11 hlk
set_option maxHeartbeats 4000000 in
set_option maxRecDepth 100000 in
theorem c_X1_has (l : Launch) (d : G3) (a : Nat → Nat) (z : St) (x1 : Int32) {RR : Int32} (hf : f_X1_has z x1 = some RR) : Met l yX1_has [Cond.code yX1_has cX1_has 2 (some .boolean)] { frames := 1, cells := 0, slots := 0, locals := 22 } (rpre wC d a z [.ref (a 1), .int x1]) (QcRead RR) 0 0 (fun _ => False) := by
  refine Met.ofW (cc := cX1_has) (maxL := 2) (ret := (some .boolean)) (by decide) rfl ?_
  intro p e s m args below meth c s₁ B hml hv
  obtain ⟨rfl, hE, hP⟩ := hv
  have X : Cx p s m c cX1_has RX1 2 d := ⟨B.exec, B.bytes, hml, findClass_of_methodNamed B.named, hE⟩
  have hl := lv_entry ([.ref (a 1), .int x1]) (n := 2) (Nat.le_of_ble_eq_true rfl)
  rw [lg_entry_eq]
  generalize (lg_sl ([.ref (a 1), .int x1]) ++ List.replicate (2 - (lg_sl ([.ref (a 1), .int x1])).length) Slot.unset).toArray = ls at hl ⊢
  have hl : lv_has ls 2 [(0, .ref (a 1)), (1, .int x1)] := hl
  exact t_X1_has X hP B.returns B.notSynchronized x1 hf ls hl
def f_X1_isLine (z : St) (x1 : Int32) : Option (Int32) := (f_X1_all z).bind (fun r_1 => (if (x1 &&& (r_1 ^^^ (-1 : Int32))) = (0 : Int32) then some (1 : Int32) else some (0 : Int32)))
set_option maxHeartbeats 4000000 in
set_option maxRecDepth 100000 in
theorem t_X1_isLine {RR : Int32} (X : Cx p s m c cX1_isLine RX1 2 d) {z : St} (hP : va_P d.1 classes (wC d a z) s.heap) (hr : meth.sig.returnType = (some .boolean)) (hlk : meth.locks = false) : ∀ (x1 : Int32), f_X1_isLine z x1 = some RR → WRd p l e { frames := 1, cells := 0, slots := 0, locals := 20 } s m args below meth c RR 2 [(0, .ref (a 1)), (1, .int x1)] 0 [] := by
  intro x1 hf ls hl
  obtain ⟨hx, hb, hml, hown, hE⟩ := id X
  unfold f_X1_isLine at hf
  refine lv_iload_n hx hb dX1_isLine_0 rfl (lv_at hl 1 rfl) ?_
  refine lv_aload_n hx hb dX1_isLine_1 rfl (lv_at hl 0 rfl) ?_
  obtain ⟨r_1, hc, hf⟩ := bnd hf
  refine rdV X (c_X1_all l d a z hc) (k_X1_38 hE rfl rfl ⟨Nat.le_of_ble_eq_true rfl, Nat.le_of_ble_eq_true rfl⟩) hP (va_recv (q := (RX1, TX1, 7)) hE.2 hP (ci := 1) (q0 := 1) rfl rfl) rfl hl.1 rfl (Nat.le_of_ble_eq_true rfl) dX1_isLine_2 ?_
  refine lv_iconst (v := -1) hx hb dX1_isLine_5 (by decide) ?_
  refine lv_ixor hx hb dX1_isLine_6 ?_
  refine lv_iand hx hb dX1_isLine_7 ?_
  refine lv_if_ne (tgt := 15) hx hb dX1_isLine_8 (by decide) (fun q => ?_) (fun q => ?_)
  · have hf := (if_neg q).symm.trans hf
    refine lv_iconst (v := 0) hx hb dX1_isLine_15 (by decide) ?_
    obtain rfl := Option.some.inj hf
    exact W.zret hx hb hr rfl (fun t ht _ => ⟨rfl, ht⟩) (fun _ h => nomatch h) dX1_isLine_16 hlk
  · have hf := (if_pos q).symm.trans hf
    refine lv_iconst (v := 1) hx hb dX1_isLine_11 (by decide) ?_
    refine lv_goto (tgt := 16) hx hb dX1_isLine_12 (by decide) ?_
    obtain rfl := Option.some.inj hf
    exact W.zret hx hb hr rfl (fun t ht _ => ⟨rfl, ht⟩) (fun _ h => nomatch h) dX1_isLine_16 hlk
set_option maxHeartbeats 4000000 in
set_option maxRecDepth 100000 in
theorem c_X1_isLine (l : Launch) (d : G3) (a : Nat → Nat) (z : St) (x1 : Int32) {RR : Int32} (hf : f_X1_isLine z x1 = some RR) : Met l yX1_isLine [Cond.code yX1_isLine cX1_isLine 2 (some .boolean)] { frames := 1, cells := 0, slots := 0, locals := 20 } (rpre wC d a z [.ref (a 1), .int x1]) (QcRead RR) 0 0 (fun _ => False) := by
  refine Met.ofW (cc := cX1_isLine) (maxL := 2) (ret := (some .boolean)) (by decide) rfl ?_
  intro p e s m args below meth c s₁ B hml hv
  obtain ⟨rfl, hE, hP⟩ := hv
  have X : Cx p s m c cX1_isLine RX1 2 d := ⟨B.exec, B.bytes, hml, findClass_of_methodNamed B.named, hE⟩
  have hl := lv_entry ([.ref (a 1), .int x1]) (n := 2) (Nat.le_of_ble_eq_true rfl)
  rw [lg_entry_eq]
  generalize (lg_sl ([.ref (a 1), .int x1]) ++ List.replicate (2 - (lg_sl ([.ref (a 1), .int x1])).length) Slot.unset).toArray = ls at hl ⊢
  have hl : lv_has ls 2 [(0, .ref (a 1)), (1, .int x1)] := hl
  exact t_X1_isLine X hP B.returns B.notSynchronized x1 hf ls hl
end GEN
