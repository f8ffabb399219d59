section GEN
variable {p : Program} {l : Launch} {e : Env} {s : State} {m : MethodId} {args : Array Value} {below : List Frame} {meth : Method} {c : Code} {d : G3} {a : Nat → Nat}
def f_X5_denied (z : St) (x1 : Int32) (x2 : Int32) : Option (Int32) := (f_X2_has z x1).bind (fun r_1 => (if r_1 = (0 : Int32) then some (-1 : Int32) else ck 4 x1 ((f_X3_hasWish z x1.toNatClampNeg x2).bind (fun r_3 => (if r_3 = (0 : Int32) then some (-1 : Int32) else (if (z.1 0) = (0 : Int32) then some (-3 : Int32) else (if (z.1 1) = (0 : Int32) then ck 4 x1 ((f_X3_isMet z x1.toNatClampNeg x2 (z.1 (14 + 6 * x1.toNatClampNeg))).bind (fun r_5 => (if r_5 = (0 : Int32) then (f_X1_all z).bind (fun r_6 => (f_X5_couldMeet z x1 x2 r_6).bind (fun r_7 => (if r_7 = (0 : Int32) then some (1 : Int32) else (f_X5_couldMeet z x1 x2 (z.1 (13 + 6 * x1.toNatClampNeg))).bind (fun r_8 => (if r_8 = (0 : Int32) then some (2 : Int32) else some (3 : Int32)))))) else some (0 : Int32)))) else some (-3 : Int32))))))))
set_option maxHeartbeats 4000000 in
set_option maxRecDepth 100000 in
theorem t_X5_denied {RR : Int32} (X : Cx p s m c cX5_denied RX5 4 d) {z : St} (hP : va_P d.1 classes (wC d a z) s.heap) (hr : meth.sig.returnType = (some .int)) (hlk : meth.locks = false) : ∀ (x1 : Int32) (x2 : Int32), f_X5_denied z x1 x2 = some RR → WRd p l e { frames := 5, cells := 0, slots := 0, locals := 119 } s m args below meth c RR 4 [(0, .ref (a 0)), (1, .int x1), (2, .int x2)] 0 [] := by
  intro x1 x2 hf ls hl
  obtain ⟨hx, hb, hml, hown, hE⟩ := id X
  unfold f_X5_denied at hf
  refine lv_aload_n hx hb dX5_denied_0 rfl (lv_at hl 0 rfl) ?_
  refine gf_5_26 hx hb hE hown hP dX5_denied_1 ?_
  refine lv_iload_n hx hb dX5_denied_4 rfl (lv_at hl 1 rfl) ?_
  obtain ⟨r_1, hc, hf⟩ := bnd hf
  refine rdV X (c_X2_has l d a z x1 hc) (k_X5_72 hE rfl rfl ⟨Nat.le_of_ble_eq_true rfl, Nat.le_of_ble_eq_true rfl⟩) hP (va_recv (q := (RX2, TX2, 2)) hE.2 hP (ci := 2) (q0 := 9) rfl rfl) rfl hl.1 rfl (Nat.le_of_ble_eq_true rfl) dX5_denied_5 ?_
  refine lv_if_eq (tgt := 27) hx hb dX5_denied_8 (by decide) (fun q => ?_) (fun q => ?_)
  · have hf := (if_pos q).symm.trans hf
    refine lv_iconst (v := -1) hx hb dX5_denied_27 (by decide) ?_
    obtain rfl := Option.some.inj hf
    exact W.iret hx hb hr (fun t ht _ => ⟨rfl, ht⟩) (fun _ h => nomatch h) dX5_denied_28 hlk
  · have hf := (if_neg q).symm.trans hf
    refine lv_aload_n hx hb dX5_denied_11 rfl (lv_at hl 0 rfl) ?_
    refine gf_5_26 hx hb hE hown hP dX5_denied_12 ?_
    refine gf_5_76 hx hb hE hown hP dX5_denied_15 ?_
    refine lv_iload_n hx hb dX5_denied_18 rfl (lv_at hl 1 rfl) ?_
    obtain ⟨hi_2, hf⟩ := ck_some hf
    refine al_rank hx hb hE hP hi_2 dX5_denied_19 ?_
    refine lv_iload_n hx hb dX5_denied_20 rfl (lv_at hl 2 rfl) ?_
    obtain ⟨r_3, hc, hf⟩ := bnd hf
    refine rdV X (c_X3_hasWish l d a z x1.toNatClampNeg x2 (vp_lt hi_2) hc) (k_X5_106 hE rfl rfl ⟨Nat.le_of_ble_eq_true rfl, Nat.le_of_ble_eq_true rfl⟩) hP (recvP hE hP (vp_lt hi_2)) rfl hl.1 rfl (Nat.le_of_ble_eq_true rfl) dX5_denied_21 ?_
    refine lv_if_ne (tgt := 29) hx hb dX5_denied_24 (by decide) (fun q => ?_) (fun q => ?_)
    · have hf := (if_neg q).symm.trans hf
      refine lv_aload_n hx hb dX5_denied_29 rfl (lv_at hl 0 rfl) ?_
      refine gf_5_85 hx hb hE hown hP dX5_denied_30 ?_
      refine lv_if_eq (tgt := 43) hx hb dX5_denied_33 (by decide) (fun q => ?_) (fun q => ?_)
      · have hf := (if_pos q).symm.trans hf
        refine lv_bipush (v := -3) hx hb dX5_denied_43 (by decide) ?_
        obtain rfl := Option.some.inj hf
        exact W.iret hx hb hr (fun t ht _ => ⟨rfl, ht⟩) (fun _ h => nomatch h) dX5_denied_45 hlk
      · have hf := (if_neg q).symm.trans hf
        refine lv_aload_n hx hb dX5_denied_36 rfl (lv_at hl 0 rfl) ?_
        refine gf_5_150 hx hb hE hown hP dX5_denied_37 ?_
        refine lv_if_eq (tgt := 46) hx hb dX5_denied_40 (by decide) (fun q => ?_) (fun q => ?_)
        · have hf := (if_pos q).symm.trans hf
          refine lv_aload_n hx hb dX5_denied_46 rfl (lv_at hl 0 rfl) ?_
          refine gf_5_26 hx hb hE hown hP dX5_denied_47 ?_
          refine gf_5_76 hx hb hE hown hP dX5_denied_50 ?_
          refine lv_iload_n hx hb dX5_denied_53 rfl (lv_at hl 1 rfl) ?_
          obtain ⟨hi_4, hf⟩ := ck_some hf
          refine al_rank hx hb hE hP hi_4 dX5_denied_54 ?_
          refine lv_astore_n (lv' := [(3, .ref (a (14 + 3 * x1.toNatClampNeg))), (0, .ref (a 0)), (1, .int x1), (2, .int x2)]) hx hb dX5_denied_55 rfl hl (by decide) rfl (fun ls hl => ?_)
          refine lv_aload_n hx hb dX5_denied_56 rfl (lv_at hl 0 rfl) ?_
          refine lv_aload_n hx hb dX5_denied_57 rfl (lv_at hl 1 rfl) ?_
          refine gf_5_12 hx hb hE hown hP dX5_denied_58 ?_
          refine lv_iload_n hx hb dX5_denied_61 rfl (lv_at hl 3 rfl) ?_
          refine lv_aload_n hx hb dX5_denied_62 rfl (lv_at hl 0 rfl) ?_
          refine gf_5_144 hx hb hE hown hP (vp_lt hi_4) dX5_denied_63 ?_
          obtain ⟨r_5, hc, hf⟩ := bnd hf
          refine rdV X (c_X3_isMet l d a z x1.toNatClampNeg x2 (z.1 (14 + 6 * x1.toNatClampNeg)) (vp_lt hi_4) hc) (k_X5_109 hE rfl rfl ⟨Nat.le_of_ble_eq_true rfl, Nat.le_of_ble_eq_true rfl⟩) hP (recvP hE hP (vp_lt hi_4)) rfl hl.1 rfl (Nat.le_of_ble_eq_true rfl) dX5_denied_66 ?_
          refine lv_if_eq (tgt := 74) hx hb dX5_denied_69 (by decide) (fun q => ?_) (fun q => ?_)
          · have hf := (if_pos q).symm.trans hf
            refine lv_aload_n hx hb dX5_denied_74 rfl (lv_at hl 1 rfl) ?_
            refine lv_iload_n hx hb dX5_denied_75 rfl (lv_at hl 2 rfl) ?_
            refine lv_iload_n hx hb dX5_denied_76 rfl (lv_at hl 3 rfl) ?_
            refine lv_aload_n hx hb dX5_denied_77 rfl (lv_at hl 1 rfl) ?_
            refine gf_5_12 hx hb hE hown hP dX5_denied_78 ?_
            obtain ⟨r_6, hc, hf⟩ := bnd hf
            refine rdV X (c_X1_all l d a z hc) (k_X5_116 hE rfl rfl ⟨Nat.le_of_ble_eq_true rfl, Nat.le_of_ble_eq_true rfl⟩) hP (va_recv (q := (RX1, TX1, 7)) hE.2 hP (ci := 1) (q0 := 1) rfl rfl) rfl hl.1 rfl (Nat.le_of_ble_eq_true rfl) dX5_denied_81 ?_
            obtain ⟨r_7, hc, hf⟩ := bnd hf
            refine rdV X (c_X5_couldMeet l d a z x1 x2 r_6 hc) (k_X5_171 hE rfl rfl ⟨Nat.le_of_ble_eq_true rfl, Nat.le_of_ble_eq_true rfl⟩) hP (va_recv (q := (RX5, TX5, 6)) hE.2 hP (ci := 5) (q0 := 0) rfl rfl) rfl hl.1 rfl (Nat.le_of_ble_eq_true rfl) dX5_denied_84 ?_
            refine lv_if_ne (tgt := 92) hx hb dX5_denied_87 (by decide) (fun q => ?_) (fun q => ?_)
            · have hf := (if_neg q).symm.trans hf
              refine lv_aload_n hx hb dX5_denied_92 rfl (lv_at hl 1 rfl) ?_
              refine lv_iload_n hx hb dX5_denied_93 rfl (lv_at hl 2 rfl) ?_
              refine lv_iload_n hx hb dX5_denied_94 rfl (lv_at hl 3 rfl) ?_
              refine lv_aload_n hx hb dX5_denied_95 rfl (lv_at hl 0 rfl) ?_
              refine gf_5_137 hx hb hE hown hP (vp_lt hi_4) dX5_denied_96 ?_
              obtain ⟨r_8, hc, hf⟩ := bnd hf
              refine rdV X (c_X5_couldMeet l d a z x1 x2 (z.1 (13 + 6 * x1.toNatClampNeg)) hc) (k_X5_171 hE rfl rfl ⟨Nat.le_of_ble_eq_true rfl, Nat.le_of_ble_eq_true rfl⟩) hP (va_recv (q := (RX5, TX5, 6)) hE.2 hP (ci := 5) (q0 := 0) rfl rfl) rfl hl.1 rfl (Nat.le_of_ble_eq_true rfl) dX5_denied_99 ?_
              refine lv_if_eq (tgt := 109) hx hb dX5_denied_102 (by decide) (fun q => ?_) (fun q => ?_)
              · have hf := (if_pos q).symm.trans hf
                refine lv_iconst (v := 2) hx hb dX5_denied_109 (by decide) ?_
                obtain rfl := Option.some.inj hf
                exact W.iret hx hb hr (fun t ht _ => ⟨rfl, ht⟩) (fun _ h => nomatch h) dX5_denied_110 hlk
              · have hf := (if_neg q).symm.trans hf
                refine lv_iconst (v := 3) hx hb dX5_denied_105 (by decide) ?_
                refine lv_goto (tgt := 110) hx hb dX5_denied_106 (by decide) ?_
                obtain rfl := Option.some.inj hf
                exact W.iret hx hb hr (fun t ht _ => ⟨rfl, ht⟩) (fun _ h => nomatch h) dX5_denied_110 hlk
            · have hf := (if_pos q).symm.trans hf
              refine lv_iconst (v := 1) hx hb dX5_denied_90 (by decide) ?_
              obtain rfl := Option.some.inj hf
              exact W.iret hx hb hr (fun t ht _ => ⟨rfl, ht⟩) (fun _ h => nomatch h) dX5_denied_91 hlk
          · have hf := (if_neg q).symm.trans hf
            refine lv_iconst (v := 0) hx hb dX5_denied_72 (by decide) ?_
            obtain rfl := Option.some.inj hf
            exact W.iret hx hb hr (fun t ht _ => ⟨rfl, ht⟩) (fun _ h => nomatch h) dX5_denied_73 hlk
        · have hf := (if_neg q).symm.trans hf
          refine lv_bipush (v := -3) hx hb dX5_denied_43 (by decide) ?_
          obtain rfl := Option.some.inj hf
          exact W.iret hx hb hr (fun t ht _ => ⟨rfl, ht⟩) (fun _ h => nomatch h) dX5_denied_45 hlk
    · have hf := (if_pos q).symm.trans hf
      refine lv_iconst (v := -1) hx hb dX5_denied_27 (by decide) ?_
      obtain rfl := Option.some.inj hf
      exact W.iret hx hb hr (fun t ht _ => ⟨rfl, ht⟩) (fun _ h => nomatch h) dX5_denied_28 hlk
set_option maxHeartbeats 4000000 in
set_option maxRecDepth 100000 in
theorem c_X5_denied (l : Launch) (d : G3) (a : Nat → Nat) (z : St) (x1 : Int32) (x2 : Int32) {RR : Int32} (hf : f_X5_denied z x1 x2 = some RR) : Met l yX5_denied [Cond.code yX5_denied cX5_denied 4 (some .int)] { frames := 5, cells := 0, slots := 0, locals := 119 } (rpre wC d a z [.ref (a 0), .int x1, .int x2]) (QcRead RR) 0 0 (fun _ => False) := by
  refine Met.ofW (cc := cX5_denied) (maxL := 4) (ret := (some .int)) (by decide) rfl ?_
  intro p e s m args below meth c s₁ B hml hv
  obtain ⟨rfl, hE, hP⟩ := hv
  have X : Cx p s m c cX5_denied RX5 4 d := ⟨B.exec, B.bytes, hml, findClass_of_methodNamed B.named, hE⟩
  have hl := lv_entry ([.ref (a 0), .int x1, .int x2]) (n := 4) (Nat.le_of_ble_eq_true rfl)
  rw [lg_entry_eq]
  generalize (lg_sl ([.ref (a 0), .int x1, .int x2]) ++ List.replicate (4 - (lg_sl ([.ref (a 0), .int x1, .int x2])).length) Slot.unset).toArray = ls at hl ⊢
  have hl : lv_has ls 4 [(0, .ref (a 0)), (1, .int x1), (2, .int x2)] := hl
  exact t_X5_denied X hP B.returns B.notSynchronized x1 x2 hf ls hl
def f_X5_otherAt (z : St) (x0 : Int32) (x1 : Int32) : Option (Int32) := (if x1 ≤ x0 then some (x0 + (1 : Int32)) else some x0)
set_option maxHeartbeats 4000000 in
set_option maxRecDepth 100000 in
theorem t_X5_otherAt {RR : Int32} (X : Cx p s m c cX5_otherAt RX5 2 d) {z : St} (hP : va_P d.1 classes (wC d a z) s.heap) (hr : meth.sig.returnType = (some .int)) (hlk : meth.locks = false) : ∀ (x0 : Int32) (x1 : Int32), f_X5_otherAt z x0 x1 = some RR → WRd p l e { frames := 0, cells := 0, slots := 0, locals := 0 } s m args below meth c RR 2 [(0, .int x0), (1, .int x1)] 0 [] := by
  intro x0 x1 hf ls hl
  obtain ⟨hx, hb, hml, hown, hE⟩ := id X
  unfold f_X5_otherAt at hf
  refine lv_iload_n hx hb dX5_otherAt_0 rfl (lv_at hl 0 rfl) ?_
  refine lv_iload_n hx hb dX5_otherAt_1 rfl (lv_at hl 1 rfl) ?_
  refine lv_icmp_ge (tgt := 9) hx hb dX5_otherAt_2 (by decide) (fun q => ?_) (fun q => ?_)
  · have hf := (if_pos q).symm.trans hf
    refine lv_iload_n hx hb dX5_otherAt_9 rfl (lv_at hl 0 rfl) ?_
    refine lv_iconst (v := 1) hx hb dX5_otherAt_10 (by decide) ?_
    refine lv_iadd hx hb dX5_otherAt_11 ?_
    obtain rfl := Option.some.inj hf
    exact W.iret hx hb hr (fun t ht _ => ⟨rfl, ht⟩) (fun _ h => nomatch h) dX5_otherAt_12 hlk
  · have hf := (if_neg q).symm.trans hf
    refine lv_iload_n hx hb dX5_otherAt_5 rfl (lv_at hl 0 rfl) ?_
    refine lv_goto (tgt := 12) hx hb dX5_otherAt_6 (by decide) ?_
    obtain rfl := Option.some.inj hf
    exact W.iret hx hb hr (fun t ht _ => ⟨rfl, ht⟩) (fun _ h => nomatch h) dX5_otherAt_12 hlk
set_option maxHeartbeats 4000000 in
set_option maxRecDepth 100000 in
theorem c_X5_otherAt (l : Launch) (d : G3) (a : Nat → Nat) (z : St) (x0 : Int32) (x1 : Int32) {RR : Int32} (hf : f_X5_otherAt z x0 x1 = some RR) : Met l yX5_otherAt [Cond.code yX5_otherAt cX5_otherAt 2 (some .int)] { frames := 0, cells := 0, slots := 0, locals := 0 } (rpre wC d a z [.int x0, .int x1]) (QcRead RR) 0 0 (fun _ => False) := by
  refine Met.ofW (cc := cX5_otherAt) (maxL := 2) (ret := (some .int)) (by decide) rfl ?_
  intro p e s m args below meth c s₁ B hml hv
  obtain ⟨rfl, hE, hP⟩ := hv
  have X : Cx p s m c cX5_otherAt RX5 2 d := ⟨B.exec, B.bytes, hml, findClass_of_methodNamed B.named, hE⟩
  have hl := lv_entry ([.int x0, .int x1]) (n := 2) (Nat.le_of_ble_eq_true rfl)
  rw [lg_entry_eq]
  generalize (lg_sl ([.int x0, .int x1]) ++ List.replicate (2 - (lg_sl ([.int x0, .int x1])).length) Slot.unset).toArray = ls at hl ⊢
  have hl : lv_has ls 2 [(0, .int x0), (1, .int x1)] := hl
  exact t_X5_otherAt X hP B.returns B.notSynchronized x0 x1 hf ls hl
def f_X5_ahead_52 (k52 : Int32 → Int32 → Int32 → Int32 → Int32 → St → Option (Int32 × St)) (x1 : Int32) (x2 : Int32) (x3 : Int32) (x4 : Int32) (x5 : Int32) (z : St) : Option (Int32 × St) := (if x2 ≤ x5 then (f_X5_bestLine x1 x3 (x4 &&& (((1 : Int32) <<< (x1 &&& 31)) ^^^ (-1 : Int32))) z).bind (fun r_1 => some (r_1.1, r_1.2)) else (f_X5_otherAt z x5 x1).bind (fun r_2 => (f_X5_bestLine r_2 x3 (x4 &&& (((1 : Int32) <<< (r_2 &&& 31)) ^^^ (-1 : Int32))) z).bind (fun r_3 => k52 x1 x2 (x3 &&& (r_3.1 ^^^ (-1 : Int32))) (x4 &&& (((1 : Int32) <<< (r_2 &&& 31)) ^^^ (-1 : Int32))) (x5 + (1 : Int32)) r_3.2)))
def l_X5_ahead_52 : Int32 → Int32 → Int32 → Int32 → Int32 → St → Option (Int32 × St) := iter (fun _ _ _ _ _ _ => none) (f_X5_ahead_52) FU
set_option maxHeartbeats 4000000 in
set_option maxRecDepth 100000 in
theorem t_X5_ahead_52 {RR : Int32 × St} (X : Cx p s m c cX5_ahead RX5 7 d) (hJ : Inj 26 a) (hr : meth.sig.returnType = (some .int)) (hlk : meth.locks = false) {k52 : Int32 → Int32 → Int32 → Int32 → Int32 → St → Option (Int32 × St)} (hk52 : ∀ (x1 : Int32) (x2 : Int32) (x3 : Int32) (x4 : Int32) (x5 : Int32) (z : St), k52 x1 x2 x3 x4 x5 z = some RR → WWr wC 26 d a p l e { frames := 6, cells := 0, slots := 0, locals := 148 } s m args below meth c RR z 7 [(0, .ref (a 0)), (1, .int x1), (2, .int x2), (3, .int x3), (4, .int x4), (5, .int x5)] 52 []) : ∀ (x1 : Int32) (x2 : Int32) (x3 : Int32) (x4 : Int32) (x5 : Int32) (z : St), f_X5_ahead_52 k52 x1 x2 x3 x4 x5 z = some RR → WWr wC 26 d a p l e { frames := 6, cells := 0, slots := 0, locals := 148 } s m args below meth c RR z 7 [(0, .ref (a 0)), (1, .int x1), (2, .int x2), (3, .int x3), (4, .int x4), (5, .int x5)] 52 [] := by
  intro x1 x2 x3 x4 x5 z hf H locs ls hP hS hl
  obtain ⟨hx, hb, hml, hown, hE⟩ := id X
  unfold f_X5_ahead_52 at hf
  refine lv_iload hx hb dX5_ahead_52 (lv_at hl 5 rfl) ?_
  refine lv_iload_n hx hb dX5_ahead_54 rfl (lv_at hl 2 rfl) ?_
  refine lv_icmp_ge (tgt := 97) hx hb dX5_ahead_55 (by decide) (fun q => ?_) (fun q => ?_)
  · have hf := (if_pos q).symm.trans hf
    refine lv_aload_n hx hb dX5_ahead_97 rfl (lv_at hl 0 rfl) ?_
    refine lv_iload_n hx hb dX5_ahead_98 rfl (lv_at hl 1 rfl) ?_
    refine lv_iload_n hx hb dX5_ahead_99 rfl (lv_at hl 3 rfl) ?_
    refine lv_iload hx hb dX5_ahead_100 (lv_at hl 4 rfl) ?_
    refine lv_iconst (v := 1) hx hb dX5_ahead_102 (by decide) ?_
    refine lv_iload_n hx hb dX5_ahead_103 rfl (lv_at hl 1 rfl) ?_
    refine lv_ishl hx hb dX5_ahead_104 ?_
    refine lv_iconst (v := -1) hx hb dX5_ahead_105 (by decide) ?_
    refine lv_ixor hx hb dX5_ahead_106 ?_
    refine lv_iand hx hb dX5_ahead_107 ?_
    obtain ⟨r_1, hc, hf⟩ := bnd hf
    refine wrV X (c_X5_bestLine l d a z x1 x3 (x4 &&& (((1 : Int32) <<< (x1 &&& 31)) ^^^ (-1 : Int32))) hc) (k_X5_140 hE rfl rfl ⟨Nat.le_of_ble_eq_true rfl, Nat.le_of_ble_eq_true rfl⟩) hP hJ hS (va_recv (q := (RX5, TX5, 6)) hE.2 hP (ci := 5) (q0 := 0) rfl rfl) rfl hl.1 rfl (Nat.le_of_ble_eq_true rfl) dX5_ahead_108 (fun H locs hP hS => ?_)
    obtain rfl := Option.some.inj hf
    exact W.iret hx hb hr (fun t ht _ => ⟨rfl, by rw [ht]; exact hP, hS.F ht⟩) hS.2.2 dX5_ahead_111 hlk
  · have hf := (if_neg q).symm.trans hf
    refine lv_iload hx hb dX5_ahead_58 (lv_at hl 5 rfl) ?_
    refine lv_iload_n hx hb dX5_ahead_60 rfl (lv_at hl 1 rfl) ?_
    obtain ⟨r_2, hc, hf⟩ := bnd hf
    refine rdS X (c_X5_otherAt l d a z x5 x1 hc) (k_X5_174 hE rfl rfl ⟨Nat.le_of_ble_eq_true rfl, Nat.le_of_ble_eq_true rfl⟩) hP rfl hl.1 rfl (Nat.le_of_ble_eq_true rfl) dX5_ahead_61 ?_
    refine lv_istore (lv' := [(6, .int r_2), (0, .ref (a 0)), (1, .int x1), (2, .int x2), (3, .int x3), (4, .int x4), (5, .int x5)]) hx hb dX5_ahead_64 hl (by decide) rfl (fun ls hl => ?_)
    refine lv_iload hx hb dX5_ahead_66 (lv_at hl 5 rfl) ?_
    refine lv_iconst (v := 1) hx hb dX5_ahead_68 (by decide) ?_
    refine lv_iload hx hb dX5_ahead_69 (lv_at hl 0 rfl) ?_
    refine lv_ishl hx hb dX5_ahead_71 ?_
    refine lv_iconst (v := -1) hx hb dX5_ahead_72 (by decide) ?_
    refine lv_ixor hx hb dX5_ahead_73 ?_
    refine lv_iand hx hb dX5_ahead_74 ?_
    refine lv_istore (lv' := [(4, .int (x4 &&& (((1 : Int32) <<< (r_2 &&& 31)) ^^^ (-1 : Int32)))), (6, .int r_2), (0, .ref (a 0)), (1, .int x1), (2, .int x2), (3, .int x3), (5, .int x5)]) hx hb dX5_ahead_75 hl (by decide) rfl (fun ls hl => ?_)
    refine lv_iload_n hx hb dX5_ahead_77 rfl (lv_at hl 5 rfl) ?_
    refine lv_aload_n hx hb dX5_ahead_78 rfl (lv_at hl 2 rfl) ?_
    refine lv_iload hx hb dX5_ahead_79 (lv_at hl 1 rfl) ?_
    refine lv_iload_n hx hb dX5_ahead_81 rfl (lv_at hl 5 rfl) ?_
    refine lv_iload hx hb dX5_ahead_82 (lv_at hl 0 rfl) ?_
    obtain ⟨r_3, hc, hf⟩ := bnd hf
    refine wrV X (c_X5_bestLine l d a z r_2 x3 (x4 &&& (((1 : Int32) <<< (r_2 &&& 31)) ^^^ (-1 : Int32))) hc) (k_X5_140 hE rfl rfl ⟨Nat.le_of_ble_eq_true rfl, Nat.le_of_ble_eq_true rfl⟩) hP hJ hS (va_recv (q := (RX5, TX5, 6)) hE.2 hP (ci := 5) (q0 := 0) rfl rfl) rfl hl.1 rfl (Nat.le_of_ble_eq_true rfl) dX5_ahead_84 (fun H locs hP hS => ?_)
    refine lv_iconst (v := -1) hx hb dX5_ahead_87 (by decide) ?_
    refine lv_ixor hx hb dX5_ahead_88 ?_
    refine lv_iand hx hb dX5_ahead_89 ?_
    refine lv_istore_n (lv' := [(3, .int (x3 &&& (r_3.1 ^^^ (-1 : Int32)))), (4, .int (x4 &&& (((1 : Int32) <<< (r_2 &&& 31)) ^^^ (-1 : Int32)))), (6, .int r_2), (0, .ref (a 0)), (1, .int x1), (2, .int x2), (5, .int x5)]) hx hb dX5_ahead_90 rfl hl (by decide) rfl (fun ls hl => ?_)
    refine lv_iinc (v := (x5 + (1 : Int32))) (lv' := [(5, .int (x5 + (1 : Int32))), (3, .int (x3 &&& (r_3.1 ^^^ (-1 : Int32)))), (4, .int (x4 &&& (((1 : Int32) <<< (r_2 &&& 31)) ^^^ (-1 : Int32)))), (6, .int r_2), (0, .ref (a 0)), (1, .int x1), (2, .int x2)]) hx hb dX5_ahead_91 hl (k := 6) rfl rfl (by decide) rfl (fun ls hl => ?_)
    refine lv_goto (tgt := 52) hx hb dX5_ahead_94 (by decide) ?_
    exact hk52 x1 x2 (x3 &&& (r_3.1 ^^^ (-1 : Int32))) (x4 &&& (((1 : Int32) <<< (r_2 &&& 31)) ^^^ (-1 : Int32))) (x5 + (1 : Int32)) r_3.2 hf H locs ls hP hS (lv_sub hl [4, 5, 6, 1, 2, 0] rfl)
theorem u_X5_ahead_52 {RR : Int32 × St} (X : Cx p s m c cX5_ahead RX5 7 d) (hJ : Inj 26 a) (hr : meth.sig.returnType = (some .int)) (hlk : meth.locks = false) : ∀ (x1 : Int32) (x2 : Int32) (x3 : Int32) (x4 : Int32) (x5 : Int32) (z : St), l_X5_ahead_52 x1 x2 x3 x4 x5 z = some RR → WWr wC 26 d a p l e { frames := 6, cells := 0, slots := 0, locals := 148 } s m args below meth c RR z 7 [(0, .ref (a 0)), (1, .int x1), (2, .int x2), (3, .int x3), (4, .int x4), (5, .int x5)] 52 [] := by
  unfold l_X5_ahead_52
  generalize FU = n
  induction n with
  | zero => intro x1 x2 x3 x4 x5 z hf; exact absurd (show (none : Option (Int32 × St)) = some RR from hf) (by simp)
  | succ n ih => exact t_X5_ahead_52 X hJ hr hlk ih
def f_X5_ahead (x1 : Int32) (x2 : Int32) (z : St) : Option (Int32 × St) := (f_X2_has z x1).bind (fun r_1 => (if r_1 = (0 : Int32) then some ((-1 : Int32), z) else (f_X2_has z x2).bind (fun r_2 => (if r_2 = (0 : Int32) then some ((-1 : Int32), z) else (f_X0_refresh z).bind (fun r_3 => (f_X1_all r_3).bind (fun r_4 => (f_X2_from r_3 (0 : Int32)).bind (fun r_5 => l_X5_ahead_52 x1 x2 r_4 r_5 (0 : Int32) r_3)))))))
set_option maxHeartbeats 4000000 in
set_option maxRecDepth 100000 in
theorem t_X5_ahead {RR : Int32 × St} (X : Cx p s m c cX5_ahead RX5 7 d) (hJ : Inj 26 a) (hr : meth.sig.returnType = (some .int)) (hlk : meth.locks = false) : ∀ (x1 : Int32) (x2 : Int32) (z : St), f_X5_ahead x1 x2 z = some RR → WWr wC 26 d a p l e { frames := 6, cells := 0, slots := 0, locals := 148 } s m args below meth c RR z 7 [(0, .ref (a 0)), (1, .int x1), (2, .int x2)] 0 [] := by
  intro x1 x2 z hf H locs ls hP hS hl
  obtain ⟨hx, hb, hml, hown, hE⟩ := id X
  unfold f_X5_ahead at hf
  refine lv_aload_n hx hb dX5_ahead_0 rfl (lv_at hl 0 rfl) ?_
  refine gf_5_26 hx hb hE hown hP dX5_ahead_1 ?_
  refine lv_iload_n hx hb dX5_ahead_4 rfl (lv_at hl 1 rfl) ?_
  obtain ⟨r_1, hc, hf⟩ := bnd hf
  refine rdV X (c_X2_has l d a z x1 hc) (k_X5_72 hE rfl rfl ⟨Nat.le_of_ble_eq_true rfl, Nat.le_of_ble_eq_true rfl⟩) hP (va_recv (q := (RX2, TX2, 2)) hE.2 hP (ci := 2) (q0 := 9) rfl rfl) rfl hl.1 rfl (Nat.le_of_ble_eq_true rfl) dX5_ahead_5 ?_
  refine lv_if_eq (tgt := 22) hx hb dX5_ahead_8 (by decide) (fun q => ?_) (fun q => ?_)
  · have hf := (if_pos q).symm.trans hf
    refine lv_iconst (v := -1) hx hb dX5_ahead_22 (by decide) ?_
    obtain rfl := Option.some.inj hf
    exact W.iret hx hb hr (fun t ht _ => ⟨rfl, by rw [ht]; exact hP, hS.F ht⟩) hS.2.2 dX5_ahead_23 hlk
  · have hf := (if_neg q).symm.trans hf
    refine lv_aload_n hx hb dX5_ahead_11 rfl (lv_at hl 0 rfl) ?_
    refine gf_5_26 hx hb hE hown hP dX5_ahead_12 ?_
    refine lv_iload_n hx hb dX5_ahead_15 rfl (lv_at hl 2 rfl) ?_
    obtain ⟨r_2, hc, hf⟩ := bnd hf
    refine rdV X (c_X2_has l d a z x2 hc) (k_X5_72 hE rfl rfl ⟨Nat.le_of_ble_eq_true rfl, Nat.le_of_ble_eq_true rfl⟩) hP (va_recv (q := (RX2, TX2, 2)) hE.2 hP (ci := 2) (q0 := 9) rfl rfl) rfl hl.1 rfl (Nat.le_of_ble_eq_true rfl) dX5_ahead_16 ?_
    refine lv_if_ne (tgt := 24) hx hb dX5_ahead_19 (by decide) (fun q => ?_) (fun q => ?_)
    · have hf := (if_neg q).symm.trans hf
      refine lv_aload_n hx hb dX5_ahead_24 rfl (lv_at hl 0 rfl) ?_
      refine gf_5_35 hx hb hE hown hP dX5_ahead_25 ?_
      obtain ⟨r_3, hc, hf⟩ := bnd hf
      refine wrVv X (c_X0_refresh l d a z hc) (k_X5_113 hE rfl rfl ⟨Nat.le_of_ble_eq_true rfl, Nat.le_of_ble_eq_true rfl⟩) hP hJ hS (va_recv (q := (RX0, TX0, 7)) hE.2 hP (ci := 0) (q0 := 11) rfl rfl) rfl hl.1 rfl (Nat.le_of_ble_eq_true rfl) dX5_ahead_28 (fun H locs hP hS => ?_)
      refine lv_aload_n hx hb dX5_ahead_31 rfl (lv_at hl 0 rfl) ?_
      refine gf_5_12 hx hb hE hown hP dX5_ahead_32 ?_
      obtain ⟨r_4, hc, hf⟩ := bnd hf
      refine rdV X (c_X1_all l d a r_3 hc) (k_X5_116 hE rfl rfl ⟨Nat.le_of_ble_eq_true rfl, Nat.le_of_ble_eq_true rfl⟩) hP (va_recv (q := (RX1, TX1, 7)) hE.2 hP (ci := 1) (q0 := 1) rfl rfl) rfl hl.1 rfl (Nat.le_of_ble_eq_true rfl) dX5_ahead_35 ?_
      refine lv_istore_n (lv' := [(3, .int r_4), (0, .ref (a 0)), (1, .int x1), (2, .int x2)]) hx hb dX5_ahead_38 rfl hl (by decide) rfl (fun ls hl => ?_)
      refine lv_aload_n hx hb dX5_ahead_39 rfl (lv_at hl 1 rfl) ?_
      refine gf_5_26 hx hb hE hown hP dX5_ahead_40 ?_
      refine lv_iconst (v := 0) hx hb dX5_ahead_43 (by decide) ?_
      obtain ⟨r_5, hc, hf⟩ := bnd hf
      refine rdV X (c_X2_from l d a r_3 (0 : Int32) hc) (k_X5_124 hE rfl rfl ⟨Nat.le_of_ble_eq_true rfl, Nat.le_of_ble_eq_true rfl⟩) hP (va_recv (q := (RX2, TX2, 2)) hE.2 hP (ci := 2) (q0 := 9) rfl rfl) rfl hl.1 rfl (Nat.le_of_ble_eq_true rfl) dX5_ahead_44 ?_
      refine lv_istore (lv' := [(4, .int r_5), (3, .int r_4), (0, .ref (a 0)), (1, .int x1), (2, .int x2)]) hx hb dX5_ahead_47 hl (by decide) rfl (fun ls hl => ?_)
      refine lv_iconst (v := 0) hx hb dX5_ahead_49 (by decide) ?_
      refine lv_istore (lv' := [(5, .int (0 : Int32)), (4, .int r_5), (3, .int r_4), (0, .ref (a 0)), (1, .int x1), (2, .int x2)]) hx hb dX5_ahead_50 hl (by decide) rfl (fun ls hl => ?_)
      exact u_X5_ahead_52 X hJ hr hlk x1 x2 r_4 r_5 (0 : Int32) r_3 hf H locs ls hP hS (lv_sub hl [3, 4, 5, 2, 1, 0] rfl)
    · have hf := (if_pos q).symm.trans hf
      refine lv_iconst (v := -1) hx hb dX5_ahead_22 (by decide) ?_
      obtain rfl := Option.some.inj hf
      exact W.iret hx hb hr (fun t ht _ => ⟨rfl, by rw [ht]; exact hP, hS.F ht⟩) hS.2.2 dX5_ahead_23 hlk
set_option maxHeartbeats 4000000 in
set_option maxRecDepth 100000 in
theorem c_X5_ahead (l : Launch) (d : G3) (a : Nat → Nat) (z : St) (x1 : Int32) (x2 : Int32) {RR : Int32 × St} (hf : f_X5_ahead x1 x2 z = some RR) : Met l yX5_ahead [Cond.code yX5_ahead cX5_ahead 7 (some .int)] { frames := 6, cells := 0, slots := 0, locals := 148 } (wpre wC 26 d a z [.ref (a 0), .int x1, .int x2]) (QW wC 26 d a RR) 0 0 (AD 26 a) := by
  refine Met.ofW (cc := cX5_ahead) (maxL := 7) (ret := (some .int)) (by decide) rfl ?_
  intro p e s m args below meth c s₁ B hml hv
  obtain ⟨rfl, hE, hP, hJ⟩ := hv
  have X : Cx p s m c cX5_ahead RX5 7 d := ⟨B.exec, B.bytes, hml, findClass_of_methodNamed B.named, hE⟩
  have hl := lv_entry ([.ref (a 0), .int x1, .int x2]) (n := 7) (Nat.le_of_ble_eq_true rfl)
  rw [lg_entry_eq]
  generalize (lg_sl ([.ref (a 0), .int x1, .int x2]) ++ List.replicate (7 - (lg_sl ([.ref (a 0), .int x1, .int x2])).length) Slot.unset).toArray = ls at hl ⊢
  have hl : lv_has ls 7 [(0, .ref (a 0)), (1, .int x1), (2, .int x2)] := hl
  exact t_X5_ahead X hJ B.returns B.notSynchronized x1 x2 z hf s.heap [] ls hP va_S.rf hl
def f_X5_isDutyOrNo (z : St) (x1 : Int32) : Option (Int32) := (if x1 = (-1 : Int32) then some (1 : Int32) else (f_X1_has z x1).bind (fun r_1 => (if r_1 = (0 : Int32) then some (0 : Int32) else some (1 : Int32))))
set_option maxHeartbeats 4000000 in
set_option maxRecDepth 100000 in
theorem t_X5_isDutyOrNo {RR : Int32} (X : Cx p s m c cX5_isDutyOrNo RX5 2 d) {z : St} (hP : va_P d.1 classes (wC d a z) s.heap) (hr : meth.sig.returnType = (some .boolean)) (hlk : meth.locks = false) : ∀ (x1 : Int32), f_X5_isDutyOrNo z x1 = some RR → WRd p l e { frames := 2, cells := 0, slots := 0, locals := 43 } s m args below meth c RR 2 [(0, .ref (a 0)), (1, .int x1)] 0 [] := by
  intro x1 hf ls hl
  obtain ⟨hx, hb, hml, hown, hE⟩ := id X
  unfold f_X5_isDutyOrNo at hf
  refine lv_iload_n hx hb dX5_isDutyOrNo_0 rfl (lv_at hl 1 rfl) ?_
  refine lv_iconst (v := -1) hx hb dX5_isDutyOrNo_1 (by decide) ?_
  refine lv_icmp_eq (tgt := 16) hx hb dX5_isDutyOrNo_2 (by decide) (fun q => ?_) (fun q => ?_)
  · have hf := (if_pos q).symm.trans hf
    refine lv_iconst (v := 1) hx hb dX5_isDutyOrNo_16 (by decide) ?_
    refine lv_goto (tgt := 21) hx hb dX5_isDutyOrNo_17 (by decide) ?_
    obtain rfl := Option.some.inj hf
    exact W.zret hx hb hr rfl (fun t ht _ => ⟨rfl, ht⟩) (fun _ h => nomatch h) dX5_isDutyOrNo_21 hlk
  · have hf := (if_neg q).symm.trans hf
    refine lv_aload_n hx hb dX5_isDutyOrNo_5 rfl (lv_at hl 0 rfl) ?_
    refine gf_5_12 hx hb hE hown hP dX5_isDutyOrNo_6 ?_
    refine lv_iload_n hx hb dX5_isDutyOrNo_9 rfl (lv_at hl 1 rfl) ?_
    obtain ⟨r_1, hc, hf⟩ := bnd hf
    refine rdV X (c_X1_has l d a z x1 hc) (k_X5_75 hE rfl rfl ⟨Nat.le_of_ble_eq_true rfl, Nat.le_of_ble_eq_true rfl⟩) hP (va_recv (q := (RX1, TX1, 7)) hE.2 hP (ci := 1) (q0 := 1) rfl rfl) rfl hl.1 rfl (Nat.le_of_ble_eq_true rfl) dX5_isDutyOrNo_10 ?_
    refine lv_if_eq (tgt := 20) hx hb dX5_isDutyOrNo_13 (by decide) (fun q => ?_) (fun q => ?_)
    · have hf := (if_pos q).symm.trans hf
      refine lv_iconst (v := 0) hx hb dX5_isDutyOrNo_20 (by decide) ?_
      obtain rfl := Option.some.inj hf
      exact W.zret hx hb hr rfl (fun t ht _ => ⟨rfl, ht⟩) (fun _ h => nomatch h) dX5_isDutyOrNo_21 hlk
    · have hf := (if_neg q).symm.trans hf
      refine lv_iconst (v := 1) hx hb dX5_isDutyOrNo_16 (by decide) ?_
      refine lv_goto (tgt := 21) hx hb dX5_isDutyOrNo_17 (by decide) ?_
      obtain rfl := Option.some.inj hf
      exact W.zret hx hb hr rfl (fun t ht _ => ⟨rfl, ht⟩) (fun _ h => nomatch h) dX5_isDutyOrNo_21 hlk
set_option maxHeartbeats 4000000 in
set_option maxRecDepth 100000 in
theorem c_X5_isDutyOrNo (l : Launch) (d : G3) (a : Nat → Nat) (z : St) (x1 : Int32) {RR : Int32} (hf : f_X5_isDutyOrNo z x1 = some RR) : Met l yX5_isDutyOrNo [Cond.code yX5_isDutyOrNo cX5_isDutyOrNo 2 (some .boolean)] { frames := 2, cells := 0, slots := 0, locals := 43 } (rpre wC d a z [.ref (a 0), .int x1]) (QcRead RR) 0 0 (fun _ => False) := by
  refine Met.ofW (cc := cX5_isDutyOrNo) (maxL := 2) (ret := (some .boolean)) (by decide) rfl ?_
  intro p e s m args below meth c s₁ B hml hv
  obtain ⟨rfl, hE, hP⟩ := hv
  have X : Cx p s m c cX5_isDutyOrNo RX5 2 d := ⟨B.exec, B.bytes, hml, findClass_of_methodNamed B.named, hE⟩
  have hl := lv_entry ([.ref (a 0), .int x1]) (n := 2) (Nat.le_of_ble_eq_true rfl)
  rw [lg_entry_eq]
  generalize (lg_sl ([.ref (a 0), .int x1]) ++ List.replicate (2 - (lg_sl ([.ref (a 0), .int x1])).length) Slot.unset).toArray = ls at hl ⊢
  have hl : lv_has ls 2 [(0, .ref (a 0)), (1, .int x1)] := hl
  exact t_X5_isDutyOrNo X hP B.returns B.notSynchronized x1 hf ls hl
def f_X5_lineOf (z : St) (x0 : Int32) : Option (Int32) := (if x0 = (-1 : Int32) then some (0 : Int32) else some ((1 : Int32) <<< (x0 &&& 31)))
set_option maxHeartbeats 4000000 in
set_option maxRecDepth 100000 in
theorem t_X5_lineOf {RR : Int32} (X : Cx p s m c cX5_lineOf RX5 1 d) {z : St} (hP : va_P d.1 classes (wC d a z) s.heap) (hr : meth.sig.returnType = (some .int)) (hlk : meth.locks = false) : ∀ (x0 : Int32), f_X5_lineOf z x0 = some RR → WRd p l e { frames := 0, cells := 0, slots := 0, locals := 0 } s m args below meth c RR 1 [(0, .int x0)] 0 [] := by
  intro x0 hf ls hl
  obtain ⟨hx, hb, hml, hown, hE⟩ := id X
  unfold f_X5_lineOf at hf
  refine lv_iload_n hx hb dX5_lineOf_0 rfl (lv_at hl 0 rfl) ?_
  refine lv_iconst (v := -1) hx hb dX5_lineOf_1 (by decide) ?_
  refine lv_icmp_ne (tgt := 9) hx hb dX5_lineOf_2 (by decide) (fun q => ?_) (fun q => ?_)
  · have hf := (if_neg q).symm.trans hf
    refine lv_iconst (v := 1) hx hb dX5_lineOf_9 (by decide) ?_
    refine lv_iload_n hx hb dX5_lineOf_10 rfl (lv_at hl 0 rfl) ?_
    refine lv_ishl hx hb dX5_lineOf_11 ?_
    obtain rfl := Option.some.inj hf
    exact W.iret hx hb hr (fun t ht _ => ⟨rfl, ht⟩) (fun _ h => nomatch h) dX5_lineOf_12 hlk
  · have hf := (if_pos q).symm.trans hf
    refine lv_iconst (v := 0) hx hb dX5_lineOf_5 (by decide) ?_
    refine lv_goto (tgt := 12) hx hb dX5_lineOf_6 (by decide) ?_
    obtain rfl := Option.some.inj hf
    exact W.iret hx hb hr (fun t ht _ => ⟨rfl, ht⟩) (fun _ h => nomatch h) dX5_lineOf_12 hlk
set_option maxHeartbeats 4000000 in
set_option maxRecDepth 100000 in
theorem c_X5_lineOf (l : Launch) (d : G3) (a : Nat → Nat) (z : St) (x0 : Int32) {RR : Int32} (hf : f_X5_lineOf z x0 = some RR) : Met l yX5_lineOf [Cond.code yX5_lineOf cX5_lineOf 1 (some .int)] { frames := 0, cells := 0, slots := 0, locals := 0 } (rpre wC d a z [.int x0]) (QcRead RR) 0 0 (fun _ => False) := by
  refine Met.ofW (cc := cX5_lineOf) (maxL := 1) (ret := (some .int)) (by decide) rfl ?_
  intro p e s m args below meth c s₁ B hml hv
  obtain ⟨rfl, hE, hP⟩ := hv
  have X : Cx p s m c cX5_lineOf RX5 1 d := ⟨B.exec, B.bytes, hml, findClass_of_methodNamed B.named, hE⟩
  have hl := lv_entry ([.int x0]) (n := 1) (Nat.le_of_ble_eq_true rfl)
  rw [lg_entry_eq]
  generalize (lg_sl ([.int x0]) ++ List.replicate (1 - (lg_sl ([.int x0])).length) Slot.unset).toArray = ls at hl ⊢
  have hl : lv_has ls 1 [(0, .int x0)] := hl
  exact t_X5_lineOf X hP B.returns B.notSynchronized x0 hf ls hl
end GEN
