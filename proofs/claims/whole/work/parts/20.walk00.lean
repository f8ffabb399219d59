section GEN
variable {p : Program} {l : Launch} {e : Env} {s : State} {m : MethodId} {args : Array Value} {below : List Frame} {meth : Method} {c : Code} {d : G3} {a : Nat → Nat}
def f_X0_forget (z : St) : Option (St) := some (pS z 6 (1 : Int32))
set_option maxHeartbeats 4000000 in
set_option maxRecDepth 100000 in
theorem t_X0_forget {RR : St} (X : Cx p s m c cX0_forget RX0 1 d) (hJ : Inj 26 a) (hr : meth.sig.returnType = none) (hlk : meth.locks = false) : ∀ (z : St), f_X0_forget z = some RR → WWv wC 26 d a p l e { frames := 0, cells := 0, slots := 0, locals := 0 } s m args below meth c RR z 1 [(0, .ref (a 11))] 0 [] := by
  intro z hf H locs ls hP hS hl
  obtain ⟨hx, hb, hml, hown, hE⟩ := id X
  unfold f_X0_forget at hf
  refine lv_aload_n hx hb dX0_forget_0 rfl (lv_at hl 0 rfl) ?_
  refine lv_iconst (v := 1) hx hb dX0_forget_1 (by decide) ?_
  refine pf_0_18 hx hb hE hown hP hJ hS rfl rfl dX0_forget_2 (fun H locs hP hS => ?_)
  obtain rfl := Option.some.inj hf
  exact W.vret hx hb hr (fun t ht _ => ⟨rfl, by rw [ht]; exact hP, hS.F ht⟩) hS.2.2 dX0_forget_5 hlk
set_option maxHeartbeats 4000000 in
set_option maxRecDepth 100000 in
theorem c_X0_forget (l : Launch) (d : G3) (a : Nat → Nat) (z : St) {RR : St} (hf : f_X0_forget z = some RR) : Met l yX0_forget [Cond.code yX0_forget cX0_forget 1 none] { frames := 0, cells := 0, slots := 0, locals := 0 } (wpre wC 26 d a z [.ref (a 11)]) (QV wC 26 d a RR) 0 0 (AD 26 a) := by
  refine Met.ofW (cc := cX0_forget) (maxL := 1) (ret := none) (by decide) rfl ?_
  intro p e s m args below meth c s₁ B hml hv
  obtain ⟨rfl, hE, hP, hJ⟩ := hv
  have X : Cx p s m c cX0_forget RX0 1 d := ⟨B.exec, B.bytes, hml, findClass_of_methodNamed B.named, hE⟩
  have hl := lv_entry ([.ref (a 11)]) (n := 1) (Nat.le_of_ble_eq_true rfl)
  rw [lg_entry_eq]
  generalize (lg_sl ([.ref (a 11)]) ++ List.replicate (1 - (lg_sl ([.ref (a 11)])).length) Slot.unset).toArray = ls at hl ⊢
  have hl : lv_has ls 1 [(0, .ref (a 11))] := hl
  exact t_X0_forget X hJ B.returns B.notSynchronized z hf s.heap [] ls hP va_S.rf hl
def f_X2_from (z : St) (x1 : Int32) : Option (Int32) := some (((1 : Int32) <<< ((z.1 4) &&& 31)) - ((1 : Int32) <<< (x1 &&& 31)))
set_option maxHeartbeats 4000000 in
set_option maxRecDepth 100000 in
theorem t_X2_from {RR : Int32} (X : Cx p s m c cX2_from RX2 2 d) {z : St} (hP : va_P d.1 classes (wC d a z) s.heap) (hr : meth.sig.returnType = (some .int)) (hlk : meth.locks = false) : ∀ (x1 : Int32), f_X2_from z x1 = some RR → WRd p l e { frames := 0, cells := 0, slots := 0, locals := 0 } s m args below meth c RR 2 [(0, .ref (a 9)), (1, .int x1)] 0 [] := by
  intro x1 hf ls hl
  obtain ⟨hx, hb, hml, hown, hE⟩ := id X
  unfold f_X2_from at hf
  refine lv_iconst (v := 1) hx hb dX2_from_0 (by decide) ?_
  refine lv_aload_n hx hb dX2_from_1 rfl (lv_at hl 0 rfl) ?_
  refine gf_2_18 hx hb hE hown hP dX2_from_2 ?_
  refine lv_ishl hx hb dX2_from_5 ?_
  refine lv_iconst (v := 1) hx hb dX2_from_6 (by decide) ?_
  refine lv_iload_n hx hb dX2_from_7 rfl (lv_at hl 1 rfl) ?_
  refine lv_ishl hx hb dX2_from_8 ?_
  refine lv_isub hx hb dX2_from_9 ?_
  obtain rfl := Option.some.inj hf
  exact W.iret hx hb hr (fun t ht _ => ⟨rfl, ht⟩) (fun _ h => nomatch h) dX2_from_10 hlk
set_option maxHeartbeats 4000000 in
set_option maxRecDepth 100000 in
theorem c_X2_from (l : Launch) (d : G3) (a : Nat → Nat) (z : St) (x1 : Int32) {RR : Int32} (hf : f_X2_from z x1 = some RR) : Met l yX2_from [Cond.code yX2_from cX2_from 2 (some .int)] { frames := 0, cells := 0, slots := 0, locals := 0 } (rpre wC d a z [.ref (a 9), .int x1]) (QcRead RR) 0 0 (fun _ => False) := by
  refine Met.ofW (cc := cX2_from) (maxL := 2) (ret := (some .int)) (by decide) rfl ?_
  intro p e s m args below meth c s₁ B hml hv
  obtain ⟨rfl, hE, hP⟩ := hv
  have X : Cx p s m c cX2_from RX2 2 d := ⟨B.exec, B.bytes, hml, findClass_of_methodNamed B.named, hE⟩
  have hl := lv_entry ([.ref (a 9), .int x1]) (n := 2) (Nat.le_of_ble_eq_true rfl)
  rw [lg_entry_eq]
  generalize (lg_sl ([.ref (a 9), .int x1]) ++ List.replicate (2 - (lg_sl ([.ref (a 9), .int x1])).length) Slot.unset).toArray = ls at hl ⊢
  have hl : lv_has ls 2 [(0, .ref (a 9)), (1, .int x1)] := hl
  exact t_X2_from X hP B.returns B.notSynchronized x1 hf ls hl
def f_X1_all (z : St) : Option (Int32) := some (((1 : Int32) <<< ((z.1 3) &&& 31)) - (1 : Int32))
set_option maxHeartbeats 4000000 in
set_option maxRecDepth 100000 in
theorem t_X1_all {RR : Int32} (X : Cx p s m c cX1_all RX1 1 d) {z : St} (hP : va_P d.1 classes (wC d a z) s.heap) (hr : meth.sig.returnType = (some .int)) (hlk : meth.locks = false) : f_X1_all z = some RR → WRd p l e { frames := 0, cells := 0, slots := 0, locals := 0 } s m args below meth c RR 1 [(0, .ref (a 1))] 0 [] := by
  intro hf ls hl
  obtain ⟨hx, hb, hml, hown, hE⟩ := id X
  unfold f_X1_all at hf
  refine lv_iconst (v := 1) hx hb dX1_all_0 (by decide) ?_
  refine lv_aload_n hx hb dX1_all_1 rfl (lv_at hl 0 rfl) ?_
  refine gf_1_27 hx hb hE hown hP dX1_all_2 ?_
  refine lv_ishl hx hb dX1_all_5 ?_
  refine lv_iconst (v := 1) hx hb dX1_all_6 (by decide) ?_
  refine lv_isub hx hb dX1_all_7 ?_
  obtain rfl := Option.some.inj hf
  exact W.iret hx hb hr (fun t ht _ => ⟨rfl, ht⟩) (fun _ h => nomatch h) dX1_all_8 hlk
set_option maxHeartbeats 4000000 in
set_option maxRecDepth 100000 in
theorem c_X1_all (l : Launch) (d : G3) (a : Nat → Nat) (z : St) {RR : Int32} (hf : f_X1_all z = some RR) : Met l yX1_all [Cond.code yX1_all cX1_all 1 (some .int)] { frames := 0, cells := 0, slots := 0, locals := 0 } (rpre wC d a z [.ref (a 1)]) (QcRead RR) 0 0 (fun _ => False) := by
  refine Met.ofW (cc := cX1_all) (maxL := 1) (ret := (some .int)) (by decide) rfl ?_
  intro p e s m args below meth c s₁ B hml hv
  obtain ⟨rfl, hE, hP⟩ := hv
  have X : Cx p s m c cX1_all RX1 1 d := ⟨B.exec, B.bytes, hml, findClass_of_methodNamed B.named, hE⟩
  have hl := lv_entry ([.ref (a 1)]) (n := 1) (Nat.le_of_ble_eq_true rfl)
  rw [lg_entry_eq]
  generalize (lg_sl ([.ref (a 1)]) ++ List.replicate (1 - (lg_sl ([.ref (a 1)])).length) Slot.unset).toArray = ls at hl ⊢
  have hl : lv_has ls 1 [(0, .ref (a 1))] := hl
  exact t_X1_all X hP B.returns B.notSynchronized hf ls hl
def f_X5_isIn (z : St) (x0 : Int32) (x1 : Int32) : Option (Int32) := (if ((x1 >>> (x0 &&& 31)) &&& (1 : Int32)) = (1 : Int32) then some (1 : Int32) else some (0 : Int32))
set_option maxHeartbeats 4000000 in
set_option maxRecDepth 100000 in
theorem t_X5_isIn {RR : Int32} (X : Cx p s m c cX5_isIn RX5 2 d) {z : St} (hP : va_P d.1 classes (wC d a z) s.heap) (hr : meth.sig.returnType = (some .boolean)) (hlk : meth.locks = false) : ∀ (x0 : Int32) (x1 : Int32), f_X5_isIn z x0 x1 = some RR → WRd p l e { frames := 0, cells := 0, slots := 0, locals := 0 } s m args below meth c RR 2 [(0, .int x0), (1, .int x1)] 0 [] := by
  intro x0 x1 hf ls hl
  obtain ⟨hx, hb, hml, hown, hE⟩ := id X
  unfold f_X5_isIn at hf
  refine lv_iload_n hx hb dX5_isIn_0 rfl (lv_at hl 1 rfl) ?_
  refine lv_iload_n hx hb dX5_isIn_1 rfl (lv_at hl 0 rfl) ?_
  refine lv_ishr hx hb dX5_isIn_2 ?_
  refine lv_iconst (v := 1) hx hb dX5_isIn_3 (by decide) ?_
  refine lv_iand hx hb dX5_isIn_4 ?_
  refine lv_iconst (v := 1) hx hb dX5_isIn_5 (by decide) ?_
  refine lv_icmp_ne (tgt := 13) hx hb dX5_isIn_6 (by decide) (fun q => ?_) (fun q => ?_)
  · have hf := (if_neg q).symm.trans hf
    refine lv_iconst (v := 0) hx hb dX5_isIn_13 (by decide) ?_
    obtain rfl := Option.some.inj hf
    exact W.zret hx hb hr rfl (fun t ht _ => ⟨rfl, ht⟩) (fun _ h => nomatch h) dX5_isIn_14 hlk
  · have hf := (if_pos q).symm.trans hf
    refine lv_iconst (v := 1) hx hb dX5_isIn_9 (by decide) ?_
    refine lv_goto (tgt := 14) hx hb dX5_isIn_10 (by decide) ?_
    obtain rfl := Option.some.inj hf
    exact W.zret hx hb hr rfl (fun t ht _ => ⟨rfl, ht⟩) (fun _ h => nomatch h) dX5_isIn_14 hlk
set_option maxHeartbeats 4000000 in
set_option maxRecDepth 100000 in
theorem c_X5_isIn (l : Launch) (d : G3) (a : Nat → Nat) (z : St) (x0 : Int32) (x1 : Int32) {RR : Int32} (hf : f_X5_isIn z x0 x1 = some RR) : Met l yX5_isIn [Cond.code yX5_isIn cX5_isIn 2 (some .boolean)] { frames := 0, cells := 0, slots := 0, locals := 0 } (rpre wC d a z [.int x0, .int x1]) (QcRead RR) 0 0 (fun _ => False) := by
  refine Met.ofW (cc := cX5_isIn) (maxL := 2) (ret := (some .boolean)) (by decide) rfl ?_
  intro p e s m args below meth c s₁ B hml hv
  obtain ⟨rfl, hE, hP⟩ := hv
  have X : Cx p s m c cX5_isIn RX5 2 d := ⟨B.exec, B.bytes, hml, findClass_of_methodNamed B.named, hE⟩
  have hl := lv_entry ([.int x0, .int x1]) (n := 2) (Nat.le_of_ble_eq_true rfl)
  rw [lg_entry_eq]
  generalize (lg_sl ([.int x0, .int x1]) ++ List.replicate (2 - (lg_sl ([.int x0, .int x1])).length) Slot.unset).toArray = ls at hl ⊢
  have hl : lv_has ls 2 [(0, .int x0), (1, .int x1)] := hl
  exact t_X5_isIn X hP B.returns B.notSynchronized x0 x1 hf ls hl
def f_X4_breaksDays_5 (z : St) (k5 : Int32 → Int32 → Int32 → Option (Int32)) (x2 : Int32) (x3 : Int32) (x4 : Int32) : Option (Int32) := (if (z.1 3) ≤ x4 then some (0 : Int32) else (f_X5_isIn z x4 x2).bind (fun r_1 => (if r_1 = (0 : Int32) then k5 x2 x3 (x4 + (1 : Int32)) else ck 9 x4 ((if (x3 &&& (z.2 2 x4.toNatClampNeg)) = (0 : Int32) then ck 9 x4 (k5 x2 (x3 ||| (z.2 2 x4.toNatClampNeg)) (x4 + (1 : Int32))) else some (1 : Int32))))))
def l_X4_breaksDays_5 (z : St) : Int32 → Int32 → Int32 → Option (Int32) := iter (fun _ _ _ => none) (f_X4_breaksDays_5 z) FU
set_option maxHeartbeats 4000000 in
set_option maxRecDepth 100000 in
theorem t_X4_breaksDays_5 {RR : Int32} (X : Cx p s m c cX4_breaksDays RX4 5 d) {z : St} (hP : va_P d.1 classes (wC d a z) s.heap) (hr : meth.sig.returnType = (some .boolean)) (hlk : meth.locks = false) {k5 : Int32 → Int32 → Int32 → Option (Int32)} (hk5 : ∀ (x2 : Int32) (x3 : Int32) (x4 : Int32), k5 x2 x3 x4 = some RR → WRd p l e { frames := 1, cells := 0, slots := 0, locals := 21 } s m args below meth c RR 5 [(1, .ref (a 1)), (2, .int x2), (3, .int x3), (4, .int x4)] 5 []) : ∀ (x2 : Int32) (x3 : Int32) (x4 : Int32), f_X4_breaksDays_5 z k5 x2 x3 x4 = some RR → WRd p l e { frames := 1, cells := 0, slots := 0, locals := 21 } s m args below meth c RR 5 [(1, .ref (a 1)), (2, .int x2), (3, .int x3), (4, .int x4)] 5 [] := by
  intro x2 x3 x4 hf ls hl
  obtain ⟨hx, hb, hml, hown, hE⟩ := id X
  unfold f_X4_breaksDays_5 at hf
  refine lv_iload hx hb dX4_breaksDays_5 (lv_at hl 3 rfl) ?_
  refine lv_aload_n hx hb dX4_breaksDays_7 rfl (lv_at hl 0 rfl) ?_
  refine gf_4_44 hx hb hE hown hP dX4_breaksDays_8 ?_
  refine lv_icmp_ge (tgt := 53) hx hb dX4_breaksDays_11 (by decide) (fun q => ?_) (fun q => ?_)
  · have hf := (if_pos q).symm.trans hf
    refine lv_iconst (v := 0) hx hb dX4_breaksDays_53 (by decide) ?_
    obtain rfl := Option.some.inj hf
    exact W.zret hx hb hr rfl (fun t ht _ => ⟨rfl, ht⟩) (fun _ h => nomatch h) dX4_breaksDays_54 hlk
  · have hf := (if_neg q).symm.trans hf
    refine lv_iload hx hb dX4_breaksDays_14 (lv_at hl 3 rfl) ?_
    refine lv_iload_n hx hb dX4_breaksDays_16 rfl (lv_at hl 1 rfl) ?_
    obtain ⟨r_1, hc, hf⟩ := bnd hf
    refine rdSN X (c_X5_isIn l d a z x4 x2 hc) (k_X4_48 hE rfl rfl ⟨Nat.le_of_ble_eq_true rfl, Nat.le_of_ble_eq_true rfl⟩) hP rfl hl.1 rfl (Nat.le_of_ble_eq_true rfl) dX4_breaksDays_17 ?_
    refine lv_if_eq (tgt := 47) hx hb dX4_breaksDays_20 (by decide) (fun q => ?_) (fun q => ?_)
    · have hf := (if_pos q).symm.trans hf
      refine lv_iinc (v := (x4 + (1 : Int32))) (lv' := [(4, .int (x4 + (1 : Int32))), (1, .ref (a 1)), (2, .int x2), (3, .int x3)]) hx hb dX4_breaksDays_47 hl (k := 3) rfl rfl (by decide) rfl (fun ls hl => ?_)
      refine lv_goto (tgt := 5) hx hb dX4_breaksDays_50 (by decide) ?_
      exact hk5 x2 x3 (x4 + (1 : Int32)) hf ls (lv_sub hl [1, 2, 3, 0] rfl)
    · have hf := (if_neg q).symm.trans hf
      refine lv_iload_n hx hb dX4_breaksDays_23 rfl (lv_at hl 2 rfl) ?_
      refine lv_aload_n hx hb dX4_breaksDays_24 rfl (lv_at hl 0 rfl) ?_
      refine gf_4_52 hx hb hE hown hP dX4_breaksDays_25 ?_
      refine lv_iload hx hb dX4_breaksDays_28 (lv_at hl 3 rfl) ?_
      obtain ⟨hi, hf⟩ := ck_some hf
      refine ld_C_4 hx hb hE hP hi dX4_breaksDays_30 ?_
      refine lv_iand hx hb dX4_breaksDays_31 ?_
      refine lv_if_eq (tgt := 37) hx hb dX4_breaksDays_32 (by decide) (fun q => ?_) (fun q => ?_)
      · have hf := (if_pos q).symm.trans hf
        refine lv_iload_n hx hb dX4_breaksDays_37 rfl (lv_at hl 2 rfl) ?_
        refine lv_aload_n hx hb dX4_breaksDays_38 rfl (lv_at hl 0 rfl) ?_
        refine gf_4_52 hx hb hE hown hP dX4_breaksDays_39 ?_
        refine lv_iload hx hb dX4_breaksDays_42 (lv_at hl 3 rfl) ?_
        obtain ⟨hi, hf⟩ := ck_some hf
        refine ld_C_4 hx hb hE hP hi dX4_breaksDays_44 ?_
        refine lv_ior hx hb dX4_breaksDays_45 ?_
        refine lv_istore_n (lv' := [(3, .int (x3 ||| (z.2 2 x4.toNatClampNeg))), (1, .ref (a 1)), (2, .int x2), (4, .int x4)]) hx hb dX4_breaksDays_46 rfl hl (by decide) rfl (fun ls hl => ?_)
        refine lv_iinc (v := (x4 + (1 : Int32))) (lv' := [(4, .int (x4 + (1 : Int32))), (3, .int (x3 ||| (z.2 2 x4.toNatClampNeg))), (1, .ref (a 1)), (2, .int x2)]) hx hb dX4_breaksDays_47 hl (k := 3) rfl rfl (by decide) rfl (fun ls hl => ?_)
        refine lv_goto (tgt := 5) hx hb dX4_breaksDays_50 (by decide) ?_
        exact hk5 x2 (x3 ||| (z.2 2 x4.toNatClampNeg)) (x4 + (1 : Int32)) hf ls (lv_sub hl [2, 3, 1, 0] rfl)
      · have hf := (if_neg q).symm.trans hf
        refine lv_iconst (v := 1) hx hb dX4_breaksDays_35 (by decide) ?_
        obtain rfl := Option.some.inj hf
        exact W.zret hx hb hr rfl (fun t ht _ => ⟨rfl, ht⟩) (fun _ h => nomatch h) dX4_breaksDays_36 hlk
theorem u_X4_breaksDays_5 {RR : Int32} (X : Cx p s m c cX4_breaksDays RX4 5 d) {z : St} (hP : va_P d.1 classes (wC d a z) s.heap) (hr : meth.sig.returnType = (some .boolean)) (hlk : meth.locks = false) : ∀ (x2 : Int32) (x3 : Int32) (x4 : Int32), l_X4_breaksDays_5 z x2 x3 x4 = some RR → WRd p l e { frames := 1, cells := 0, slots := 0, locals := 21 } s m args below meth c RR 5 [(1, .ref (a 1)), (2, .int x2), (3, .int x3), (4, .int x4)] 5 [] := by
  unfold l_X4_breaksDays_5
  generalize FU = n
  induction n with
  | zero => intro x2 x3 x4 hf; exact absurd (show (none : Option (Int32)) = some RR from hf) (by simp)
  | succ n ih => exact t_X4_breaksDays_5 X hP hr hlk ih
def f_X4_breaksDays (z : St) (x2 : Int32) : Option (Int32) := l_X4_breaksDays_5 z x2 (0 : Int32) (0 : Int32)
set_option maxHeartbeats 4000000 in
set_option maxRecDepth 100000 in
theorem t_X4_breaksDays {RR : Int32} (X : Cx p s m c cX4_breaksDays RX4 5 d) {z : St} (hP : va_P d.1 classes (wC d a z) s.heap) (hr : meth.sig.returnType = (some .boolean)) (hlk : meth.locks = false) : ∀ (x2 : Int32), f_X4_breaksDays z x2 = some RR → WRd p l e { frames := 1, cells := 0, slots := 0, locals := 21 } s m args below meth c RR 5 [(0, .ref (a 7)), (1, .ref (a 1)), (2, .int x2)] 0 [] := by
  intro x2 hf ls hl
  obtain ⟨hx, hb, hml, hown, hE⟩ := id X
  unfold f_X4_breaksDays at hf
  refine lv_iconst (v := 0) hx hb dX4_breaksDays_0 (by decide) ?_
  refine lv_istore_n (lv' := [(3, .int (0 : Int32)), (0, .ref (a 7)), (1, .ref (a 1)), (2, .int x2)]) hx hb dX4_breaksDays_1 rfl hl (by decide) rfl (fun ls hl => ?_)
  refine lv_iconst (v := 0) hx hb dX4_breaksDays_2 (by decide) ?_
  refine lv_istore (lv' := [(4, .int (0 : Int32)), (3, .int (0 : Int32)), (0, .ref (a 7)), (1, .ref (a 1)), (2, .int x2)]) hx hb dX4_breaksDays_3 hl (by decide) rfl (fun ls hl => ?_)
  exact u_X4_breaksDays_5 X hP hr hlk x2 (0 : Int32) (0 : Int32) hf ls (lv_sub hl [3, 4, 1, 0] rfl)
set_option maxHeartbeats 4000000 in
set_option maxRecDepth 100000 in
theorem c_X4_breaksDays (l : Launch) (d : G3) (a : Nat → Nat) (z : St) (x2 : Int32) {RR : Int32} (hf : f_X4_breaksDays z x2 = some RR) : Met l yX4_breaksDays [Cond.code yX4_breaksDays cX4_breaksDays 5 (some .boolean)] { frames := 1, cells := 0, slots := 0, locals := 21 } (rpre wC d a z [.ref (a 7), .ref (a 1), .int x2]) (QcRead RR) 0 0 (fun _ => False) := by
  refine Met.ofW (cc := cX4_breaksDays) (maxL := 5) (ret := (some .boolean)) (by decide) rfl ?_
  intro p e s m args below meth c s₁ B hml hv
  obtain ⟨rfl, hE, hP⟩ := hv
  have X : Cx p s m c cX4_breaksDays RX4 5 d := ⟨B.exec, B.bytes, hml, findClass_of_methodNamed B.named, hE⟩
  have hl := lv_entry ([.ref (a 7), .ref (a 1), .int x2]) (n := 5) (Nat.le_of_ble_eq_true rfl)
  rw [lg_entry_eq]
  generalize (lg_sl ([.ref (a 7), .ref (a 1), .int x2]) ++ List.replicate (5 - (lg_sl ([.ref (a 7), .ref (a 1), .int x2])).length) Slot.unset).toArray = ls at hl ⊢
  have hl : lv_has ls 5 [(0, .ref (a 7)), (1, .ref (a 1)), (2, .int x2)] := hl
  exact t_X4_breaksDays X hP B.returns B.notSynchronized x2 hf ls hl
def f_X1_daysOf_4 (z : St) (k4 : Int32 → Int32 → Int32 → Option (Int32)) (x1 : Int32) (x2 : Int32) (x3 : Int32) : Option (Int32) := (if (z.1 3) ≤ x3 then some x2 else (f_X5_isIn z x3 x1).bind (fun r_1 => (if r_1 = (0 : Int32) then k4 x1 x2 (x3 + (1 : Int32)) else ck 9 x3 (k4 x1 (x2 ||| (z.2 2 x3.toNatClampNeg)) (x3 + (1 : Int32))))))
def l_X1_daysOf_4 (z : St) : Int32 → Int32 → Int32 → Option (Int32) := iter (fun _ _ _ => none) (f_X1_daysOf_4 z) FU
set_option maxHeartbeats 4000000 in
set_option maxRecDepth 100000 in
theorem t_X1_daysOf_4 {RR : Int32} (X : Cx p s m c cX1_daysOf RX1 4 d) {z : St} (hP : va_P d.1 classes (wC d a z) s.heap) (hr : meth.sig.returnType = (some .int)) (hlk : meth.locks = false) {k4 : Int32 → Int32 → Int32 → Option (Int32)} (hk4 : ∀ (x1 : Int32) (x2 : Int32) (x3 : Int32), k4 x1 x2 x3 = some RR → WRd p l e { frames := 1, cells := 0, slots := 0, locals := 21 } s m args below meth c RR 4 [(0, .ref (a 1)), (1, .int x1), (2, .int x2), (3, .int x3)] 4 []) : ∀ (x1 : Int32) (x2 : Int32) (x3 : Int32), f_X1_daysOf_4 z k4 x1 x2 x3 = some RR → WRd p l e { frames := 1, cells := 0, slots := 0, locals := 21 } s m args below meth c RR 4 [(0, .ref (a 1)), (1, .int x1), (2, .int x2), (3, .int x3)] 4 [] := by
  intro x1 x2 x3 hf ls hl
  obtain ⟨hx, hb, hml, hown, hE⟩ := id X
  unfold f_X1_daysOf_4 at hf
  refine lv_iload_n hx hb dX1_daysOf_4 rfl (lv_at hl 3 rfl) ?_
  refine lv_aload_n hx hb dX1_daysOf_5 rfl (lv_at hl 0 rfl) ?_
  refine gf_1_27 hx hb hE hown hP dX1_daysOf_6 ?_
  refine lv_icmp_ge (tgt := 35) hx hb dX1_daysOf_9 (by decide) (fun q => ?_) (fun q => ?_)
  · have hf := (if_pos q).symm.trans hf
    refine lv_iload_n hx hb dX1_daysOf_35 rfl (lv_at hl 2 rfl) ?_
    obtain rfl := Option.some.inj hf
    exact W.iret hx hb hr (fun t ht _ => ⟨rfl, ht⟩) (fun _ h => nomatch h) dX1_daysOf_36 hlk
  · have hf := (if_neg q).symm.trans hf
    refine lv_iload_n hx hb dX1_daysOf_12 rfl (lv_at hl 3 rfl) ?_
    refine lv_iload_n hx hb dX1_daysOf_13 rfl (lv_at hl 1 rfl) ?_
    obtain ⟨r_1, hc, hf⟩ := bnd hf
    refine rdSN X (c_X5_isIn l d a z x3 x1 hc) (k_X1_42 hE rfl rfl ⟨Nat.le_of_ble_eq_true rfl, Nat.le_of_ble_eq_true rfl⟩) hP rfl hl.1 rfl (Nat.le_of_ble_eq_true rfl) dX1_daysOf_14 ?_
    refine lv_if_eq (tgt := 29) hx hb dX1_daysOf_17 (by decide) (fun q => ?_) (fun q => ?_)
    · have hf := (if_pos q).symm.trans hf
      refine lv_iinc (v := (x3 + (1 : Int32))) (lv' := [(3, .int (x3 + (1 : Int32))), (0, .ref (a 1)), (1, .int x1), (2, .int x2)]) hx hb dX1_daysOf_29 hl (k := 3) rfl rfl (by decide) rfl (fun ls hl => ?_)
      refine lv_goto (tgt := 4) hx hb dX1_daysOf_32 (by decide) ?_
      exact hk4 x1 x2 (x3 + (1 : Int32)) hf ls (lv_sub hl [1, 2, 3, 0] rfl)
    · have hf := (if_neg q).symm.trans hf
      refine lv_iload_n hx hb dX1_daysOf_20 rfl (lv_at hl 2 rfl) ?_
      refine lv_aload_n hx hb dX1_daysOf_21 rfl (lv_at hl 0 rfl) ?_
      refine gf_1_18 hx hb hE hown hP dX1_daysOf_22 ?_
      refine lv_iload_n hx hb dX1_daysOf_25 rfl (lv_at hl 3 rfl) ?_
      obtain ⟨hi, hf⟩ := ck_some hf
      refine ld_C_4 hx hb hE hP hi dX1_daysOf_26 ?_
      refine lv_ior hx hb dX1_daysOf_27 ?_
      refine lv_istore_n (lv' := [(2, .int (x2 ||| (z.2 2 x3.toNatClampNeg))), (0, .ref (a 1)), (1, .int x1), (3, .int x3)]) hx hb dX1_daysOf_28 rfl hl (by decide) rfl (fun ls hl => ?_)
      refine lv_iinc (v := (x3 + (1 : Int32))) (lv' := [(3, .int (x3 + (1 : Int32))), (2, .int (x2 ||| (z.2 2 x3.toNatClampNeg))), (0, .ref (a 1)), (1, .int x1)]) hx hb dX1_daysOf_29 hl (k := 3) rfl rfl (by decide) rfl (fun ls hl => ?_)
      refine lv_goto (tgt := 4) hx hb dX1_daysOf_32 (by decide) ?_
      exact hk4 x1 (x2 ||| (z.2 2 x3.toNatClampNeg)) (x3 + (1 : Int32)) hf ls (lv_sub hl [2, 3, 1, 0] rfl)
theorem u_X1_daysOf_4 {RR : Int32} (X : Cx p s m c cX1_daysOf RX1 4 d) {z : St} (hP : va_P d.1 classes (wC d a z) s.heap) (hr : meth.sig.returnType = (some .int)) (hlk : meth.locks = false) : ∀ (x1 : Int32) (x2 : Int32) (x3 : Int32), l_X1_daysOf_4 z x1 x2 x3 = some RR → WRd p l e { frames := 1, cells := 0, slots := 0, locals := 21 } s m args below meth c RR 4 [(0, .ref (a 1)), (1, .int x1), (2, .int x2), (3, .int x3)] 4 [] := by
  unfold l_X1_daysOf_4
  generalize FU = n
  induction n with
  | zero => intro x1 x2 x3 hf; exact absurd (show (none : Option (Int32)) = some RR from hf) (by simp)
  | succ n ih => exact t_X1_daysOf_4 X hP hr hlk ih
def f_X1_daysOf (z : St) (x1 : Int32) : Option (Int32) := l_X1_daysOf_4 z x1 (0 : Int32) (0 : Int32)
set_option maxHeartbeats 4000000 in
set_option maxRecDepth 100000 in
theorem t_X1_daysOf {RR : Int32} (X : Cx p s m c cX1_daysOf RX1 4 d) {z : St} (hP : va_P d.1 classes (wC d a z) s.heap) (hr : meth.sig.returnType = (some .int)) (hlk : meth.locks = false) : ∀ (x1 : Int32), f_X1_daysOf z x1 = some RR → WRd p l e { frames := 1, cells := 0, slots := 0, locals := 21 } s m args below meth c RR 4 [(0, .ref (a 1)), (1, .int x1)] 0 [] := by
  intro x1 hf ls hl
  obtain ⟨hx, hb, hml, hown, hE⟩ := id X
  unfold f_X1_daysOf at hf
  refine lv_iconst (v := 0) hx hb dX1_daysOf_0 (by decide) ?_
  refine lv_istore_n (lv' := [(2, .int (0 : Int32)), (0, .ref (a 1)), (1, .int x1)]) hx hb dX1_daysOf_1 rfl hl (by decide) rfl (fun ls hl => ?_)
  refine lv_iconst (v := 0) hx hb dX1_daysOf_2 (by decide) ?_
  refine lv_istore_n (lv' := [(3, .int (0 : Int32)), (2, .int (0 : Int32)), (0, .ref (a 1)), (1, .int x1)]) hx hb dX1_daysOf_3 rfl hl (by decide) rfl (fun ls hl => ?_)
  exact u_X1_daysOf_4 X hP hr hlk x1 (0 : Int32) (0 : Int32) hf ls (lv_sub hl [2, 3, 1, 0] rfl)
set_option maxHeartbeats 4000000 in
set_option maxRecDepth 100000 in
theorem c_X1_daysOf (l : Launch) (d : G3) (a : Nat → Nat) (z : St) (x1 : Int32) {RR : Int32} (hf : f_X1_daysOf z x1 = some RR) : Met l yX1_daysOf [Cond.code yX1_daysOf cX1_daysOf 4 (some .int)] { frames := 1, cells := 0, slots := 0, locals := 21 } (rpre wC d a z [.ref (a 1), .int x1]) (QcRead RR) 0 0 (fun _ => False) := by
  refine Met.ofW (cc := cX1_daysOf) (maxL := 4) (ret := (some .int)) (by decide) rfl ?_
  intro p e s m args below meth c s₁ B hml hv
  obtain ⟨rfl, hE, hP⟩ := hv
  have X : Cx p s m c cX1_daysOf RX1 4 d := ⟨B.exec, B.bytes, hml, findClass_of_methodNamed B.named, hE⟩
  have hl := lv_entry ([.ref (a 1), .int x1]) (n := 4) (Nat.le_of_ble_eq_true rfl)
  rw [lg_entry_eq]
  generalize (lg_sl ([.ref (a 1), .int x1]) ++ List.replicate (4 - (lg_sl ([.ref (a 1), .int x1])).length) Slot.unset).toArray = ls at hl ⊢
  have hl : lv_has ls 4 [(0, .ref (a 1)), (1, .int x1)] := hl
  exact t_X1_daysOf X hP B.returns B.notSynchronized x1 hf ls hl
def f_X4_restBehind_21 (z : St) (x2 : Int32) (s0 : Int32) : Option (Int32) := ck 9 x2 ((if (z.2 1 x2.toNatClampNeg) < (2 : Int32) then some (if s0 < (0 : Int32) then (0 : Int32) else s0) else ck 4 (1 : Int32) (some (if s0 < (z.2 5 (1 : Int32).toNatClampNeg) then (z.2 5 (1 : Int32).toNatClampNeg) else s0))))
set_option maxHeartbeats 4000000 in
set_option maxRecDepth 100000 in
theorem t_X4_restBehind_21 {RR : Int32} (X : Cx p s m c cX4_restBehind RX4 5 d) {z : St} (hP : va_P d.1 classes (wC d a z) s.heap) (hr : meth.sig.returnType = (some .int)) (hlk : meth.locks = false) : ∀ (x2 : Int32) (s0 : Int32), f_X4_restBehind_21 z x2 s0 = some RR → WRd p l e { frames := 1, cells := 0, slots := 0, locals := 21 } s m args below meth c RR 5 [(0, .ref (a 7)), (1, .ref (a 1)), (2, .int x2)] 21 [.int s0] := by
  intro x2 s0 hf ls hl
  obtain ⟨hx, hb, hml, hown, hE⟩ := id X
  unfold f_X4_restBehind_21 at hf
  refine lv_istore_n (lv' := [(3, .int s0), (0, .ref (a 7)), (1, .ref (a 1)), (2, .int x2)]) hx hb dX4_restBehind_21 rfl hl (by decide) rfl (fun ls hl => ?_)
  refine lv_aload_n hx hb dX4_restBehind_22 rfl (lv_at hl 2 rfl) ?_
  refine gf_4_58 hx hb hE hown hP dX4_restBehind_23 ?_
  refine lv_iload_n hx hb dX4_restBehind_26 rfl (lv_at hl 3 rfl) ?_
  obtain ⟨hi, hf⟩ := ck_some hf
  refine ld_C_3 hx hb hE hP hi dX4_restBehind_27 ?_
  refine lv_iconst (v := 2) hx hb dX4_restBehind_28 (by decide) ?_
  refine lv_icmp_lt (tgt := 41) hx hb dX4_restBehind_29 (by decide) (fun q => ?_) (fun q => ?_)
  · have hf := (if_pos q).symm.trans hf
    refine lv_iconst (v := 0) hx hb dX4_restBehind_41 (by decide) ?_
    refine lv_istore (lv' := [(4, .int (0 : Int32)), (3, .int s0), (0, .ref (a 7)), (1, .ref (a 1)), (2, .int x2)]) hx hb dX4_restBehind_42 hl (by decide) rfl (fun ls hl => ?_)
    refine lv_iload_n hx hb dX4_restBehind_44 rfl (lv_at hl 1 rfl) ?_
    refine lv_iload hx hb dX4_restBehind_45 (lv_at hl 0 rfl) ?_
    refine va_mmax hx hb (by rw [hml]; exact hl.1.symm) hown (hE.1 _ q280 _) (hE.1 _ q281 _) (hE.1 _ q8 _) (hE.1 _ q282 _) (Nat.le_of_ble_eq_true rfl) (Nat.le_of_ble_eq_true rfl) (Nat.zero_le _) (Nat.zero_le _) dX4_restBehind_47 ?_
    obtain rfl := Option.some.inj hf
    exact W.iret hx hb hr (fun t ht _ => ⟨rfl, ht⟩) (fun _ h => nomatch h) dX4_restBehind_50 hlk
  · have hf := (if_neg q).symm.trans hf
    refine lv_aload_n hx hb dX4_restBehind_32 rfl (lv_at hl 1 rfl) ?_
    refine gf_4_18 hx hb hE hown hP dX4_restBehind_33 ?_
    refine lv_iconst (v := 1) hx hb dX4_restBehind_36 (by decide) ?_
    obtain ⟨hi, hf⟩ := ck_some hf
    refine ld_C_8 hx hb hE hP hi dX4_restBehind_37 ?_
    refine lv_goto (tgt := 42) hx hb dX4_restBehind_38 (by decide) ?_
    refine lv_istore (lv' := [(4, .int (z.2 5 (1 : Int32).toNatClampNeg)), (3, .int s0), (0, .ref (a 7)), (1, .ref (a 1)), (2, .int x2)]) hx hb dX4_restBehind_42 hl (by decide) rfl (fun ls hl => ?_)
    refine lv_iload_n hx hb dX4_restBehind_44 rfl (lv_at hl 1 rfl) ?_
    refine lv_iload hx hb dX4_restBehind_45 (lv_at hl 0 rfl) ?_
    refine va_mmax hx hb (by rw [hml]; exact hl.1.symm) hown (hE.1 _ q280 _) (hE.1 _ q281 _) (hE.1 _ q8 _) (hE.1 _ q282 _) (Nat.le_of_ble_eq_true rfl) (Nat.le_of_ble_eq_true rfl) (Nat.zero_le _) (Nat.zero_le _) dX4_restBehind_47 ?_
    obtain rfl := Option.some.inj hf
    exact W.iret hx hb hr (fun t ht _ => ⟨rfl, ht⟩) (fun _ h => nomatch h) dX4_restBehind_50 hlk
def f_X4_restBehind (z : St) (x2 : Int32) : Option (Int32) := (f_X5_isIn z x2 (z.1 2)).bind (fun r_1 => (if r_1 = (0 : Int32) then f_X4_restBehind_21 z x2 (0 : Int32) else ck 4 (0 : Int32) (f_X4_restBehind_21 z x2 (z.2 5 (0 : Int32).toNatClampNeg))))
set_option maxHeartbeats 4000000 in
set_option maxRecDepth 100000 in
theorem t_X4_restBehind {RR : Int32} (X : Cx p s m c cX4_restBehind RX4 5 d) {z : St} (hP : va_P d.1 classes (wC d a z) s.heap) (hr : meth.sig.returnType = (some .int)) (hlk : meth.locks = false) : ∀ (x2 : Int32), f_X4_restBehind z x2 = some RR → WRd p l e { frames := 1, cells := 0, slots := 0, locals := 21 } s m args below meth c RR 5 [(0, .ref (a 7)), (1, .ref (a 1)), (2, .int x2)] 0 [] := by
  intro x2 hf ls hl
  obtain ⟨hx, hb, hml, hown, hE⟩ := id X
  unfold f_X4_restBehind at hf
  refine lv_iload_n hx hb dX4_restBehind_0 rfl (lv_at hl 2 rfl) ?_
  refine lv_aload_n hx hb dX4_restBehind_1 rfl (lv_at hl 1 rfl) ?_
  refine gf_4_65 hx hb hE hown hP dX4_restBehind_2 ?_
  obtain ⟨r_1, hc, hf⟩ := bnd hf
  refine rdSN X (c_X5_isIn l d a z x2 (z.1 2) hc) (k_X4_48 hE rfl rfl ⟨Nat.le_of_ble_eq_true rfl, Nat.le_of_ble_eq_true rfl⟩) hP rfl hl.1 rfl (Nat.le_of_ble_eq_true rfl) dX4_restBehind_5 ?_
  refine lv_if_eq (tgt := 20) hx hb dX4_restBehind_8 (by decide) (fun q => ?_) (fun q => ?_)
  · have hf := (if_pos q).symm.trans hf
    refine lv_iconst (v := 0) hx hb dX4_restBehind_20 (by decide) ?_
    exact t_X4_restBehind_21 X hP hr hlk x2 (0 : Int32) hf ls (lv_sub hl [0, 1, 2] rfl)
  · have hf := (if_neg q).symm.trans hf
    refine lv_aload_n hx hb dX4_restBehind_11 rfl (lv_at hl 0 rfl) ?_
    refine gf_4_18 hx hb hE hown hP dX4_restBehind_12 ?_
    refine lv_iconst (v := 0) hx hb dX4_restBehind_15 (by decide) ?_
    obtain ⟨hi, hf⟩ := ck_some hf
    refine ld_C_8 hx hb hE hP hi dX4_restBehind_16 ?_
    refine lv_goto (tgt := 21) hx hb dX4_restBehind_17 (by decide) ?_
    exact t_X4_restBehind_21 X hP hr hlk x2 (z.2 5 (0 : Int32).toNatClampNeg) hf ls (lv_sub hl [0, 1, 2] rfl)
set_option maxHeartbeats 4000000 in
set_option maxRecDepth 100000 in
theorem c_X4_restBehind (l : Launch) (d : G3) (a : Nat → Nat) (z : St) (x2 : Int32) {RR : Int32} (hf : f_X4_restBehind z x2 = some RR) : Met l yX4_restBehind [Cond.code yX4_restBehind cX4_restBehind 5 (some .int)] { frames := 1, cells := 0, slots := 0, locals := 21 } (rpre wC d a z [.ref (a 7), .ref (a 1), .int x2]) (QcRead RR) 0 0 (fun _ => False) := by
  refine Met.ofW (cc := cX4_restBehind) (maxL := 5) (ret := (some .int)) (by decide) rfl ?_
  intro p e s m args below meth c s₁ B hml hv
  obtain ⟨rfl, hE, hP⟩ := hv
  have X : Cx p s m c cX4_restBehind RX4 5 d := ⟨B.exec, B.bytes, hml, findClass_of_methodNamed B.named, hE⟩
  have hl := lv_entry ([.ref (a 7), .ref (a 1), .int x2]) (n := 5) (Nat.le_of_ble_eq_true rfl)
  rw [lg_entry_eq]
  generalize (lg_sl ([.ref (a 7), .ref (a 1), .int x2]) ++ List.replicate (5 - (lg_sl ([.ref (a 7), .ref (a 1), .int x2])).length) Slot.unset).toArray = ls at hl ⊢
  have hl : lv_has ls 5 [(0, .ref (a 7)), (1, .ref (a 1)), (2, .int x2)] := hl
  exact t_X4_restBehind X hP B.returns B.notSynchronized x2 hf ls hl
def f_X4_breaksRest_3 (z : St) (k3 : Int32 → Int32 → Int32 → Option (Int32)) (x2 : Int32) (x3 : Int32) (x4 : Int32) : Option (Int32) := (if (z.1 3) ≤ x4 then some (0 : Int32) else (f_X5_isIn z x4 x2).bind (fun r_1 => (if r_1 = (0 : Int32) then k3 x2 x3 (x4 + (1 : Int32)) else ck 9 x4 (ck 9 x4 ((f_X4_restBehind z x4).bind (fun r_2 => (if (x3 &&& ((((1 : Int32) <<< (r_2 &&& 31)) - (1 : Int32)) <<< (((z.2 0 x4.toNatClampNeg) + (z.2 1 x4.toNatClampNeg)) &&& 31))) = (0 : Int32) then k3 x2 x3 (x4 + (1 : Int32)) else some (1 : Int32))))))))
def l_X4_breaksRest_3 (z : St) : Int32 → Int32 → Int32 → Option (Int32) := iter (fun _ _ _ => none) (f_X4_breaksRest_3 z) FU
set_option maxHeartbeats 4000000 in
set_option maxRecDepth 100000 in
theorem t_X4_breaksRest_3 {RR : Int32} (X : Cx p s m c cX4_breaksRest RX4 7 d) {z : St} (hP : va_P d.1 classes (wC d a z) s.heap) (hr : meth.sig.returnType = (some .boolean)) (hlk : meth.locks = false) {k3 : Int32 → Int32 → Int32 → Option (Int32)} (hk3 : ∀ (x2 : Int32) (x3 : Int32) (x4 : Int32), k3 x2 x3 x4 = some RR → WRd p l e { frames := 2, cells := 0, slots := 0, locals := 45 } s m args below meth c RR 7 [(0, .ref (a 7)), (1, .ref (a 1)), (2, .int x2), (3, .int x3), (4, .int x4)] 3 []) : ∀ (x2 : Int32) (x3 : Int32) (x4 : Int32), f_X4_breaksRest_3 z k3 x2 x3 x4 = some RR → WRd p l e { frames := 2, cells := 0, slots := 0, locals := 45 } s m args below meth c RR 7 [(0, .ref (a 7)), (1, .ref (a 1)), (2, .int x2), (3, .int x3), (4, .int x4)] 3 [] := by
  intro x2 x3 x4 hf ls hl
  obtain ⟨hx, hb, hml, hown, hE⟩ := id X
  unfold f_X4_breaksRest_3 at hf
  refine lv_iload hx hb dX4_breaksRest_3 (lv_at hl 4 rfl) ?_
  refine lv_aload_n hx hb dX4_breaksRest_5 rfl (lv_at hl 1 rfl) ?_
  refine gf_4_44 hx hb hE hown hP dX4_breaksRest_6 ?_
  refine lv_icmp_ge (tgt := 69) hx hb dX4_breaksRest_9 (by decide) (fun q => ?_) (fun q => ?_)
  · have hf := (if_pos q).symm.trans hf
    refine lv_iconst (v := 0) hx hb dX4_breaksRest_69 (by decide) ?_
    obtain rfl := Option.some.inj hf
    exact W.zret hx hb hr rfl (fun t ht _ => ⟨rfl, ht⟩) (fun _ h => nomatch h) dX4_breaksRest_70 hlk
  · have hf := (if_neg q).symm.trans hf
    refine lv_iload hx hb dX4_breaksRest_12 (lv_at hl 4 rfl) ?_
    refine lv_iload_n hx hb dX4_breaksRest_14 rfl (lv_at hl 2 rfl) ?_
    obtain ⟨r_1, hc, hf⟩ := bnd hf
    refine rdSN X (c_X5_isIn l d a z x4 x2 hc) (k_X4_48 hE rfl rfl ⟨Nat.le_of_ble_eq_true rfl, Nat.le_of_ble_eq_true rfl⟩) hP rfl hl.1 rfl (Nat.le_of_ble_eq_true rfl) dX4_breaksRest_15 ?_
    refine lv_if_eq (tgt := 63) hx hb dX4_breaksRest_18 (by decide) (fun q => ?_) (fun q => ?_)
    · have hf := (if_pos q).symm.trans hf
      refine lv_iinc (v := (x4 + (1 : Int32))) (lv' := [(4, .int (x4 + (1 : Int32))), (0, .ref (a 7)), (1, .ref (a 1)), (2, .int x2), (3, .int x3)]) hx hb dX4_breaksRest_63 hl (k := 4) rfl rfl (by decide) rfl (fun ls hl => ?_)
      refine lv_goto (tgt := 3) hx hb dX4_breaksRest_66 (by decide) ?_
      exact hk3 x2 x3 (x4 + (1 : Int32)) hf ls (lv_sub hl [1, 2, 3, 4, 0] rfl)
    · have hf := (if_neg q).symm.trans hf
      refine lv_aload_n hx hb dX4_breaksRest_21 rfl (lv_at hl 1 rfl) ?_
      refine gf_4_55 hx hb hE hown hP dX4_breaksRest_22 ?_
      refine lv_iload hx hb dX4_breaksRest_25 (lv_at hl 4 rfl) ?_
      obtain ⟨hi, hf⟩ := ck_some hf
      refine ld_C_2 hx hb hE hP hi dX4_breaksRest_27 ?_
      refine lv_aload_n hx hb dX4_breaksRest_28 rfl (lv_at hl 1 rfl) ?_
      refine gf_4_58 hx hb hE hown hP dX4_breaksRest_29 ?_
      refine lv_iload hx hb dX4_breaksRest_32 (lv_at hl 4 rfl) ?_
      obtain ⟨hi, hf⟩ := ck_some hf
      refine ld_C_3 hx hb hE hP hi dX4_breaksRest_34 ?_
      refine lv_iadd hx hb dX4_breaksRest_35 ?_
      refine lv_istore (lv' := [(5, .int ((z.2 0 x4.toNatClampNeg) + (z.2 1 x4.toNatClampNeg))), (0, .ref (a 7)), (1, .ref (a 1)), (2, .int x2), (3, .int x3), (4, .int x4)]) hx hb dX4_breaksRest_36 hl (by decide) rfl (fun ls hl => ?_)
      refine lv_iconst (v := 1) hx hb dX4_breaksRest_38 (by decide) ?_
      refine lv_aload_n hx hb dX4_breaksRest_39 rfl (lv_at hl 1 rfl) ?_
      refine lv_aload_n hx hb dX4_breaksRest_40 rfl (lv_at hl 2 rfl) ?_
      refine lv_iload hx hb dX4_breaksRest_41 (lv_at hl 5 rfl) ?_
      obtain ⟨r_2, hc, hf⟩ := bnd hf
      refine rdV X (c_X4_restBehind l d a z x4 hc) (k_X4_61 hE rfl rfl ⟨Nat.le_of_ble_eq_true rfl, Nat.le_of_ble_eq_true rfl⟩) hP (va_recv (q := (RX4, TX4, 1)) hE.2 hP (ci := 4) (q0 := 7) rfl rfl) rfl hl.1 rfl (Nat.le_of_ble_eq_true rfl) dX4_breaksRest_43 ?_
      refine lv_ishl hx hb dX4_breaksRest_46 ?_
      refine lv_iconst (v := 1) hx hb dX4_breaksRest_47 (by decide) ?_
      refine lv_isub hx hb dX4_breaksRest_48 ?_
      refine lv_iload hx hb dX4_breaksRest_49 (lv_at hl 0 rfl) ?_
      refine lv_ishl hx hb dX4_breaksRest_51 ?_
      refine lv_istore (lv' := [(6, .int ((((1 : Int32) <<< (r_2 &&& 31)) - (1 : Int32)) <<< (((z.2 0 x4.toNatClampNeg) + (z.2 1 x4.toNatClampNeg)) &&& 31))), (5, .int ((z.2 0 x4.toNatClampNeg) + (z.2 1 x4.toNatClampNeg))), (0, .ref (a 7)), (1, .ref (a 1)), (2, .int x2), (3, .int x3), (4, .int x4)]) hx hb dX4_breaksRest_52 hl (by decide) rfl (fun ls hl => ?_)
      refine lv_iload_n hx hb dX4_breaksRest_54 rfl (lv_at hl 5 rfl) ?_
      refine lv_iload hx hb dX4_breaksRest_55 (lv_at hl 0 rfl) ?_
      refine lv_iand hx hb dX4_breaksRest_57 ?_
      refine lv_if_eq (tgt := 63) hx hb dX4_breaksRest_58 (by decide) (fun q => ?_) (fun q => ?_)
      · have hf := (if_pos q).symm.trans hf
        refine lv_iinc (v := (x4 + (1 : Int32))) (lv' := [(4, .int (x4 + (1 : Int32))), (6, .int ((((1 : Int32) <<< (r_2 &&& 31)) - (1 : Int32)) <<< (((z.2 0 x4.toNatClampNeg) + (z.2 1 x4.toNatClampNeg)) &&& 31))), (5, .int ((z.2 0 x4.toNatClampNeg) + (z.2 1 x4.toNatClampNeg))), (0, .ref (a 7)), (1, .ref (a 1)), (2, .int x2), (3, .int x3)]) hx hb dX4_breaksRest_63 hl (k := 6) rfl rfl (by decide) rfl (fun ls hl => ?_)
        refine lv_goto (tgt := 3) hx hb dX4_breaksRest_66 (by decide) ?_
        exact hk3 x2 x3 (x4 + (1 : Int32)) hf ls (lv_sub hl [3, 4, 5, 6, 0] rfl)
      · have hf := (if_neg q).symm.trans hf
        refine lv_iconst (v := 1) hx hb dX4_breaksRest_61 (by decide) ?_
        obtain rfl := Option.some.inj hf
        exact W.zret hx hb hr rfl (fun t ht _ => ⟨rfl, ht⟩) (fun _ h => nomatch h) dX4_breaksRest_62 hlk
theorem u_X4_breaksRest_3 {RR : Int32} (X : Cx p s m c cX4_breaksRest RX4 7 d) {z : St} (hP : va_P d.1 classes (wC d a z) s.heap) (hr : meth.sig.returnType = (some .boolean)) (hlk : meth.locks = false) : ∀ (x2 : Int32) (x3 : Int32) (x4 : Int32), l_X4_breaksRest_3 z x2 x3 x4 = some RR → WRd p l e { frames := 2, cells := 0, slots := 0, locals := 45 } s m args below meth c RR 7 [(0, .ref (a 7)), (1, .ref (a 1)), (2, .int x2), (3, .int x3), (4, .int x4)] 3 [] := by
  unfold l_X4_breaksRest_3
  generalize FU = n
  induction n with
  | zero => intro x2 x3 x4 hf; exact absurd (show (none : Option (Int32)) = some RR from hf) (by simp)
  | succ n ih => exact t_X4_breaksRest_3 X hP hr hlk ih
def f_X4_breaksRest (z : St) (x2 : Int32) (x3 : Int32) : Option (Int32) := l_X4_breaksRest_3 z x2 x3 (0 : Int32)
set_option maxHeartbeats 4000000 in
set_option maxRecDepth 100000 in
theorem t_X4_breaksRest {RR : Int32} (X : Cx p s m c cX4_breaksRest RX4 7 d) {z : St} (hP : va_P d.1 classes (wC d a z) s.heap) (hr : meth.sig.returnType = (some .boolean)) (hlk : meth.locks = false) : ∀ (x2 : Int32) (x3 : Int32), f_X4_breaksRest z x2 x3 = some RR → WRd p l e { frames := 2, cells := 0, slots := 0, locals := 45 } s m args below meth c RR 7 [(0, .ref (a 7)), (1, .ref (a 1)), (2, .int x2), (3, .int x3)] 0 [] := by
  intro x2 x3 hf ls hl
  obtain ⟨hx, hb, hml, hown, hE⟩ := id X
  unfold f_X4_breaksRest at hf
  refine lv_iconst (v := 0) hx hb dX4_breaksRest_0 (by decide) ?_
  refine lv_istore (lv' := [(4, .int (0 : Int32)), (0, .ref (a 7)), (1, .ref (a 1)), (2, .int x2), (3, .int x3)]) hx hb dX4_breaksRest_1 hl (by decide) rfl (fun ls hl => ?_)
  exact u_X4_breaksRest_3 X hP hr hlk x2 x3 (0 : Int32) hf ls (lv_sub hl [1, 2, 3, 4, 0] rfl)
set_option maxHeartbeats 4000000 in
set_option maxRecDepth 100000 in
theorem c_X4_breaksRest (l : Launch) (d : G3) (a : Nat → Nat) (z : St) (x2 : Int32) (x3 : Int32) {RR : Int32} (hf : f_X4_breaksRest z x2 x3 = some RR) : Met l yX4_breaksRest [Cond.code yX4_breaksRest cX4_breaksRest 7 (some .boolean)] { frames := 2, cells := 0, slots := 0, locals := 45 } (rpre wC d a z [.ref (a 7), .ref (a 1), .int x2, .int x3]) (QcRead RR) 0 0 (fun _ => False) := by
  refine Met.ofW (cc := cX4_breaksRest) (maxL := 7) (ret := (some .boolean)) (by decide) rfl ?_
  intro p e s m args below meth c s₁ B hml hv
  obtain ⟨rfl, hE, hP⟩ := hv
  have X : Cx p s m c cX4_breaksRest RX4 7 d := ⟨B.exec, B.bytes, hml, findClass_of_methodNamed B.named, hE⟩
  have hl := lv_entry ([.ref (a 7), .ref (a 1), .int x2, .int x3]) (n := 7) (Nat.le_of_ble_eq_true rfl)
  rw [lg_entry_eq]
  generalize (lg_sl ([.ref (a 7), .ref (a 1), .int x2, .int x3]) ++ List.replicate (7 - (lg_sl ([.ref (a 7), .ref (a 1), .int x2, .int x3])).length) Slot.unset).toArray = ls at hl ⊢
  have hl : lv_has ls 7 [(0, .ref (a 7)), (1, .ref (a 1)), (2, .int x2), (3, .int x3)] := hl
  exact t_X4_breaksRest X hP B.returns B.notSynchronized x2 x3 hf ls hl
end GEN
