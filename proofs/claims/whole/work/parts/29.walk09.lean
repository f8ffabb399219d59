section GEN
variable {p : Program} {l : Launch} {e : Env} {s : State} {m : MethodId} {args : Array Value} {below : List Frame} {meth : Method} {c : Code} {d : G3} {a : Nat → Nat}
def f_X5_bestLine_35 (k35 : Int32 → Int32 → Int32 → Nat → Int32 → Int32 → Int32 → Int32 → St → Option (Int32 × St)) (x1 : Int32) (x2 : Int32) (x3 : Int32) (p4 : Nat) (x5 : Int32) (x6 : Int32) (x7 : Int32) (x8 : Int32) (z : St) : Option (Int32 × St) := (if x2 < x8 then some (x6, z) else (if (x8 &&& (x2 ^^^ (-1 : Int32))) = (0 : Int32) then (f_X0_isLegal z x1 x8).bind (fun r_1 => (if r_1 = (0 : Int32) then k35 x1 x2 x3 p4 x5 x6 x7 (x8 + (1 : Int32)) z else (f_J6_bitCount_0f7a4 z x8).bind (fun r_2 => (f_X0_coverBy x3 (x2 &&& (x8 ^^^ (-1 : Int32))) z).bind (fun r_3 => (if x5 ≤ (r_2 + r_3.1) then (f_X3_score r_3.2 p4 x8).bind (fun r_4 => (if x7 < r_4 then k35 x1 x2 x3 p4 x5 x8 r_4 (x8 + (1 : Int32)) r_3.2 else (if r_4 = x7 then (f_X5_isAheadByDuties r_3.2 x8 x6).bind (fun r_5 => (if r_5 = (0 : Int32) then k35 x1 x2 x3 p4 x5 x6 x7 (x8 + (1 : Int32)) r_3.2 else k35 x1 x2 x3 p4 x5 x8 r_4 (x8 + (1 : Int32)) r_3.2)) else k35 x1 x2 x3 p4 x5 x6 x7 (x8 + (1 : Int32)) r_3.2))) else k35 x1 x2 x3 p4 x5 x6 x7 (x8 + (1 : Int32)) r_3.2))))) else k35 x1 x2 x3 p4 x5 x6 x7 (x8 + (1 : Int32)) z))
def l_X5_bestLine_35 : Int32 → Int32 → Int32 → Nat → Int32 → Int32 → Int32 → Int32 → St → Option (Int32 × St) := iter (fun _ _ _ _ _ _ _ _ _ => none) (f_X5_bestLine_35) FU
set_option maxHeartbeats 4000000 in
set_option maxRecDepth 100000 in
theorem t_X5_bestLine_35 {RR : Int32 × St} (X : Cx p s m c cX5_bestLine RX5 10 d) (hJ : Inj 26 a) (hr : meth.sig.returnType = (some .int)) (hlk : meth.locks = false) {k35 : Int32 → Int32 → Int32 → Nat → Int32 → Int32 → Int32 → Int32 → St → Option (Int32 × St)} (hk35 : ∀ (x1 : Int32) (x2 : Int32) (x3 : Int32) (p4 : Nat) (x5 : Int32) (x6 : Int32) (x7 : Int32) (x8 : Int32) (z : St) (hp4 : p4 < 4), k35 x1 x2 x3 p4 x5 x6 x7 x8 z = some RR → WWr wC 26 d a p l e { frames := 5, cells := 0, slots := 0, locals := 119 } s m args below meth c RR z 10 [(0, .ref (a 0)), (1, .int x1), (2, .int x2), (3, .int x3), (4, .ref (a (14 + 3 * p4))), (5, .int x5), (6, .int x6), (7, .int x7), (8, .int x8)] 35 []) : ∀ (x1 : Int32) (x2 : Int32) (x3 : Int32) (p4 : Nat) (x5 : Int32) (x6 : Int32) (x7 : Int32) (x8 : Int32) (z : St) (hp4 : p4 < 4), f_X5_bestLine_35 k35 x1 x2 x3 p4 x5 x6 x7 x8 z = some RR → WWr wC 26 d a p l e { frames := 5, cells := 0, slots := 0, locals := 119 } s m args below meth c RR z 10 [(0, .ref (a 0)), (1, .int x1), (2, .int x2), (3, .int x3), (4, .ref (a (14 + 3 * p4))), (5, .int x5), (6, .int x6), (7, .int x7), (8, .int x8)] 35 [] := by
  intro x1 x2 x3 p4 x5 x6 x7 x8 z hp4 hf H locs ls hP hS hl
  obtain ⟨hx, hb, hml, hown, hE⟩ := id X
  unfold f_X5_bestLine_35 at hf
  refine lv_iload hx hb dX5_bestLine_35 (lv_at hl 8 rfl) ?_
  refine lv_iload_n hx hb dX5_bestLine_37 rfl (lv_at hl 2 rfl) ?_
  refine lv_icmp_gt (tgt := 145) hx hb dX5_bestLine_38 (by decide) (fun q => ?_) (fun q => ?_)
  · have hf := (if_pos q).symm.trans hf
    refine lv_iload hx hb dX5_bestLine_145 (lv_at hl 6 rfl) ?_
    obtain rfl := Option.some.inj hf
    exact W.iret hx hb hr (fun t ht _ => ⟨rfl, by rw [ht]; exact hP, hS.F ht⟩) hS.2.2 dX5_bestLine_147 hlk
  · have hf := (if_neg q).symm.trans hf
    refine lv_iload hx hb dX5_bestLine_41 (lv_at hl 8 rfl) ?_
    refine lv_iload_n hx hb dX5_bestLine_43 rfl (lv_at hl 2 rfl) ?_
    refine lv_iconst (v := -1) hx hb dX5_bestLine_44 (by decide) ?_
    refine lv_ixor hx hb dX5_bestLine_45 ?_
    refine lv_iand hx hb dX5_bestLine_46 ?_
    refine lv_if_ne (tgt := 139) hx hb dX5_bestLine_47 (by decide) (fun q => ?_) (fun q => ?_)
    · have hf := (if_neg q).symm.trans hf
      refine lv_iinc (v := (x8 + (1 : Int32))) (lv' := [(8, .int (x8 + (1 : Int32))), (0, .ref (a 0)), (1, .int x1), (2, .int x2), (3, .int x3), (4, .ref (a (14 + 3 * p4))), (5, .int x5), (6, .int x6), (7, .int x7)]) hx hb dX5_bestLine_139 hl (k := 8) rfl rfl (by decide) rfl (fun ls hl => ?_)
      refine lv_goto (tgt := 35) hx hb dX5_bestLine_142 (by decide) ?_
      exact hk35 x1 x2 x3 p4 x5 x6 x7 (x8 + (1 : Int32)) z hp4 hf H locs ls hP hS (lv_sub hl [1, 2, 3, 4, 5, 6, 7, 8, 0] rfl)
    · have hf := (if_pos q).symm.trans hf
      refine lv_aload_n hx hb dX5_bestLine_50 rfl (lv_at hl 0 rfl) ?_
      refine gf_5_35 hx hb hE hown hP dX5_bestLine_51 ?_
      refine lv_iload_n hx hb dX5_bestLine_54 rfl (lv_at hl 1 rfl) ?_
      refine lv_iload hx hb dX5_bestLine_55 (lv_at hl 8 rfl) ?_
      obtain ⟨r_1, hc, hf⟩ := bnd hf
      refine rdV X (c_X0_isLegal l d a z x1 x8 hc) (k_X5_120 hE rfl rfl ⟨Nat.le_of_ble_eq_true rfl, Nat.le_of_ble_eq_true rfl⟩) hP (va_recv (q := (RX0, TX0, 7)) hE.2 hP (ci := 0) (q0 := 11) rfl rfl) rfl hl.1 rfl (Nat.le_of_ble_eq_true rfl) dX5_bestLine_57 ?_
      refine lv_if_ne (tgt := 66) hx hb dX5_bestLine_60 (by decide) (fun q => ?_) (fun q => ?_)
      · have hf := (if_neg q).symm.trans hf
        refine lv_iload hx hb dX5_bestLine_66 (lv_at hl 8 rfl) ?_
        obtain ⟨r_2, hc, hf⟩ := bnd hf
        refine rdS X (c_J6_bitCount_0f7a4 l d a z x8 hc) (k_X5_153 hE rfl rfl ⟨Nat.le_of_ble_eq_true rfl, Nat.le_of_ble_eq_true rfl⟩) hP rfl hl.1 rfl (Nat.le_of_ble_eq_true rfl) dX5_bestLine_68 ?_
        refine lv_aload_n hx hb dX5_bestLine_71 rfl (lv_at hl 0 rfl) ?_
        refine gf_5_35 hx hb hE hown hP dX5_bestLine_72 ?_
        refine lv_iload_n hx hb dX5_bestLine_75 rfl (lv_at hl 3 rfl) ?_
        refine lv_iload_n hx hb dX5_bestLine_76 rfl (lv_at hl 2 rfl) ?_
        refine lv_iload hx hb dX5_bestLine_77 (lv_at hl 8 rfl) ?_
        refine lv_iconst (v := -1) hx hb dX5_bestLine_79 (by decide) ?_
        refine lv_ixor hx hb dX5_bestLine_80 ?_
        refine lv_iand hx hb dX5_bestLine_81 ?_
        obtain ⟨r_3, hc, hf⟩ := bnd hf
        refine wrV X (c_X0_coverBy l d a z x3 (x2 &&& (x8 ^^^ (-1 : Int32))) hc) (k_X5_128 hE rfl rfl ⟨Nat.le_of_ble_eq_true rfl, Nat.le_of_ble_eq_true rfl⟩) hP hJ hS (va_recv (q := (RX0, TX0, 7)) hE.2 hP (ci := 0) (q0 := 11) rfl rfl) rfl hl.1 rfl (Nat.le_of_ble_eq_true rfl) dX5_bestLine_82 (fun H locs hP hS => ?_)
        refine lv_iadd hx hb dX5_bestLine_85 ?_
        refine lv_iload hx hb dX5_bestLine_86 (lv_at hl 5 rfl) ?_
        refine lv_icmp_ge (tgt := 94) hx hb dX5_bestLine_88 (by decide) (fun q => ?_) (fun q => ?_)
        · have hf := (if_pos q).symm.trans hf
          refine lv_aload hx hb dX5_bestLine_94 (lv_at hl 4 rfl) ?_
          refine lv_aload_n hx hb dX5_bestLine_96 rfl (lv_at hl 0 rfl) ?_
          refine gf_5_12 hx hb hE hown hP dX5_bestLine_97 ?_
          refine lv_iload hx hb dX5_bestLine_100 (lv_at hl 8 rfl) ?_
          obtain ⟨r_4, hc, hf⟩ := bnd hf
          refine rdV X (c_X3_score l d a r_3.2 p4 x8 hp4 hc) (k_X5_131 hE rfl rfl ⟨Nat.le_of_ble_eq_true rfl, Nat.le_of_ble_eq_true rfl⟩) hP (recvP hE hP hp4) rfl hl.1 rfl (Nat.le_of_ble_eq_true rfl) dX5_bestLine_102 ?_
          refine lv_istore (lv' := [(9, .int r_4), (0, .ref (a 0)), (1, .int x1), (2, .int x2), (3, .int x3), (4, .ref (a (14 + 3 * p4))), (5, .int x5), (6, .int x6), (7, .int x7), (8, .int x8)]) hx hb dX5_bestLine_105 hl (by decide) rfl (fun ls hl => ?_)
          refine lv_iload hx hb dX5_bestLine_107 (lv_at hl 0 rfl) ?_
          refine lv_iload hx hb dX5_bestLine_109 (lv_at hl 8 rfl) ?_
          refine lv_icmp_gt (tgt := 131) hx hb dX5_bestLine_111 (by decide) (fun q => ?_) (fun q => ?_)
          · have hf := (if_pos q).symm.trans hf
            refine lv_iload hx hb dX5_bestLine_131 (lv_at hl 9 rfl) ?_
            refine lv_istore (lv' := [(6, .int x8), (9, .int r_4), (0, .ref (a 0)), (1, .int x1), (2, .int x2), (3, .int x3), (4, .ref (a (14 + 3 * p4))), (5, .int x5), (7, .int x7), (8, .int x8)]) hx hb dX5_bestLine_133 hl (by decide) rfl (fun ls hl => ?_)
            refine lv_iload hx hb dX5_bestLine_135 (lv_at hl 1 rfl) ?_
            refine lv_istore (lv' := [(7, .int r_4), (6, .int x8), (9, .int r_4), (0, .ref (a 0)), (1, .int x1), (2, .int x2), (3, .int x3), (4, .ref (a (14 + 3 * p4))), (5, .int x5), (8, .int x8)]) hx hb dX5_bestLine_137 hl (by decide) rfl (fun ls hl => ?_)
            refine lv_iinc (v := (x8 + (1 : Int32))) (lv' := [(8, .int (x8 + (1 : Int32))), (7, .int r_4), (6, .int x8), (9, .int r_4), (0, .ref (a 0)), (1, .int x1), (2, .int x2), (3, .int x3), (4, .ref (a (14 + 3 * p4))), (5, .int x5)]) hx hb dX5_bestLine_139 hl (k := 9) rfl rfl (by decide) rfl (fun ls hl => ?_)
            refine lv_goto (tgt := 35) hx hb dX5_bestLine_142 (by decide) ?_
            exact hk35 x1 x2 x3 p4 x5 x8 r_4 (x8 + (1 : Int32)) r_3.2 hp4 hf H locs ls hP hS (lv_sub hl [4, 5, 6, 7, 8, 9, 2, 1, 0] rfl)
          · have hf := (if_neg q).symm.trans hf
            refine lv_iload hx hb dX5_bestLine_114 (lv_at hl 0 rfl) ?_
            refine lv_iload hx hb dX5_bestLine_116 (lv_at hl 8 rfl) ?_
            refine lv_icmp_ne (tgt := 139) hx hb dX5_bestLine_118 (by decide) (fun q => ?_) (fun q => ?_)
            · have hf := (if_neg q).symm.trans hf
              refine lv_iinc (v := (x8 + (1 : Int32))) (lv' := [(8, .int (x8 + (1 : Int32))), (9, .int r_4), (0, .ref (a 0)), (1, .int x1), (2, .int x2), (3, .int x3), (4, .ref (a (14 + 3 * p4))), (5, .int x5), (6, .int x6), (7, .int x7)]) hx hb dX5_bestLine_139 hl (k := 9) rfl rfl (by decide) rfl (fun ls hl => ?_)
              refine lv_goto (tgt := 35) hx hb dX5_bestLine_142 (by decide) ?_
              exact hk35 x1 x2 x3 p4 x5 x6 x7 (x8 + (1 : Int32)) r_3.2 hp4 hf H locs ls hP hS (lv_sub hl [2, 3, 4, 5, 6, 7, 8, 9, 0] rfl)
            · have hf := (if_pos q).symm.trans hf
              refine lv_iload hx hb dX5_bestLine_121 (lv_at hl 9 rfl) ?_
              refine lv_iload hx hb dX5_bestLine_123 (lv_at hl 7 rfl) ?_
              obtain ⟨r_5, hc, hf⟩ := bnd hf
              refine rdS X (c_X5_isAheadByDuties l d a r_3.2 x8 x6 hc) (k_X5_134 hE rfl rfl ⟨Nat.le_of_ble_eq_true rfl, Nat.le_of_ble_eq_true rfl⟩) hP rfl hl.1 rfl (Nat.le_of_ble_eq_true rfl) dX5_bestLine_125 ?_
              refine lv_if_eq (tgt := 139) hx hb dX5_bestLine_128 (by decide) (fun q => ?_) (fun q => ?_)
              · have hf := (if_pos q).symm.trans hf
                refine lv_iinc (v := (x8 + (1 : Int32))) (lv' := [(8, .int (x8 + (1 : Int32))), (9, .int r_4), (0, .ref (a 0)), (1, .int x1), (2, .int x2), (3, .int x3), (4, .ref (a (14 + 3 * p4))), (5, .int x5), (6, .int x6), (7, .int x7)]) hx hb dX5_bestLine_139 hl (k := 9) rfl rfl (by decide) rfl (fun ls hl => ?_)
                refine lv_goto (tgt := 35) hx hb dX5_bestLine_142 (by decide) ?_
                exact hk35 x1 x2 x3 p4 x5 x6 x7 (x8 + (1 : Int32)) r_3.2 hp4 hf H locs ls hP hS (lv_sub hl [2, 3, 4, 5, 6, 7, 8, 9, 0] rfl)
              · have hf := (if_neg q).symm.trans hf
                refine lv_iload hx hb dX5_bestLine_131 (lv_at hl 9 rfl) ?_
                refine lv_istore (lv' := [(6, .int x8), (9, .int r_4), (0, .ref (a 0)), (1, .int x1), (2, .int x2), (3, .int x3), (4, .ref (a (14 + 3 * p4))), (5, .int x5), (7, .int x7), (8, .int x8)]) hx hb dX5_bestLine_133 hl (by decide) rfl (fun ls hl => ?_)
                refine lv_iload hx hb dX5_bestLine_135 (lv_at hl 1 rfl) ?_
                refine lv_istore (lv' := [(7, .int r_4), (6, .int x8), (9, .int r_4), (0, .ref (a 0)), (1, .int x1), (2, .int x2), (3, .int x3), (4, .ref (a (14 + 3 * p4))), (5, .int x5), (8, .int x8)]) hx hb dX5_bestLine_137 hl (by decide) rfl (fun ls hl => ?_)
                refine lv_iinc (v := (x8 + (1 : Int32))) (lv' := [(8, .int (x8 + (1 : Int32))), (7, .int r_4), (6, .int x8), (9, .int r_4), (0, .ref (a 0)), (1, .int x1), (2, .int x2), (3, .int x3), (4, .ref (a (14 + 3 * p4))), (5, .int x5)]) hx hb dX5_bestLine_139 hl (k := 9) rfl rfl (by decide) rfl (fun ls hl => ?_)
                refine lv_goto (tgt := 35) hx hb dX5_bestLine_142 (by decide) ?_
                exact hk35 x1 x2 x3 p4 x5 x8 r_4 (x8 + (1 : Int32)) r_3.2 hp4 hf H locs ls hP hS (lv_sub hl [4, 5, 6, 7, 8, 9, 2, 1, 0] rfl)
        · have hf := (if_neg q).symm.trans hf
          refine lv_goto (tgt := 139) hx hb dX5_bestLine_91 (by decide) ?_
          refine lv_iinc (v := (x8 + (1 : Int32))) (lv' := [(8, .int (x8 + (1 : Int32))), (0, .ref (a 0)), (1, .int x1), (2, .int x2), (3, .int x3), (4, .ref (a (14 + 3 * p4))), (5, .int x5), (6, .int x6), (7, .int x7)]) hx hb dX5_bestLine_139 hl (k := 8) rfl rfl (by decide) rfl (fun ls hl => ?_)
          refine lv_goto (tgt := 35) hx hb dX5_bestLine_142 (by decide) ?_
          exact hk35 x1 x2 x3 p4 x5 x6 x7 (x8 + (1 : Int32)) r_3.2 hp4 hf H locs ls hP hS (lv_sub hl [1, 2, 3, 4, 5, 6, 7, 8, 0] rfl)
      · have hf := (if_pos q).symm.trans hf
        refine lv_goto (tgt := 139) hx hb dX5_bestLine_63 (by decide) ?_
        refine lv_iinc (v := (x8 + (1 : Int32))) (lv' := [(8, .int (x8 + (1 : Int32))), (0, .ref (a 0)), (1, .int x1), (2, .int x2), (3, .int x3), (4, .ref (a (14 + 3 * p4))), (5, .int x5), (6, .int x6), (7, .int x7)]) hx hb dX5_bestLine_139 hl (k := 8) rfl rfl (by decide) rfl (fun ls hl => ?_)
        refine lv_goto (tgt := 35) hx hb dX5_bestLine_142 (by decide) ?_
        exact hk35 x1 x2 x3 p4 x5 x6 x7 (x8 + (1 : Int32)) z hp4 hf H locs ls hP hS (lv_sub hl [1, 2, 3, 4, 5, 6, 7, 8, 0] rfl)
theorem u_X5_bestLine_35 {RR : Int32 × St} (X : Cx p s m c cX5_bestLine RX5 10 d) (hJ : Inj 26 a) (hr : meth.sig.returnType = (some .int)) (hlk : meth.locks = false) : ∀ (x1 : Int32) (x2 : Int32) (x3 : Int32) (p4 : Nat) (x5 : Int32) (x6 : Int32) (x7 : Int32) (x8 : Int32) (z : St) (hp4 : p4 < 4), l_X5_bestLine_35 x1 x2 x3 p4 x5 x6 x7 x8 z = some RR → WWr wC 26 d a p l e { frames := 5, cells := 0, slots := 0, locals := 119 } s m args below meth c RR z 10 [(0, .ref (a 0)), (1, .int x1), (2, .int x2), (3, .int x3), (4, .ref (a (14 + 3 * p4))), (5, .int x5), (6, .int x6), (7, .int x7), (8, .int x8)] 35 [] := by
  unfold l_X5_bestLine_35
  generalize FU = n
  induction n with
  | zero => intro x1 x2 x3 p4 x5 x6 x7 x8 z hp4 hf; exact absurd (show (none : Option (Int32 × St)) = some RR from hf) (by simp)
  | succ n ih => exact t_X5_bestLine_35 X hJ hr hlk ih
def f_X5_bestLine (x1 : Int32) (x2 : Int32) (x3 : Int32) (z : St) : Option (Int32 × St) := ck 4 x1 ((f_X0_coverBy (x3 ||| ((1 : Int32) <<< (x1 &&& 31))) x2 z).bind (fun r_2 => l_X5_bestLine_35 x1 x2 x3 x1.toNatClampNeg r_2.1 (0 : Int32) (-1 : Int32) (0 : Int32) r_2.2))
set_option maxHeartbeats 4000000 in
set_option maxRecDepth 100000 in
theorem t_X5_bestLine {RR : Int32 × St} (X : Cx p s m c cX5_bestLine RX5 10 d) (hJ : Inj 26 a) (hr : meth.sig.returnType = (some .int)) (hlk : meth.locks = false) : ∀ (x1 : Int32) (x2 : Int32) (x3 : Int32) (z : St), f_X5_bestLine x1 x2 x3 z = some RR → WWr wC 26 d a p l e { frames := 5, cells := 0, slots := 0, locals := 119 } s m args below meth c RR z 10 [(0, .ref (a 0)), (1, .int x1), (2, .int x2), (3, .int x3)] 0 [] := by
  intro x1 x2 x3 z hf H locs ls hP hS hl
  obtain ⟨hx, hb, hml, hown, hE⟩ := id X
  unfold f_X5_bestLine at hf
  refine lv_aload_n hx hb dX5_bestLine_0 rfl (lv_at hl 0 rfl) ?_
  refine gf_5_26 hx hb hE hown hP dX5_bestLine_1 ?_
  refine gf_5_76 hx hb hE hown hP dX5_bestLine_4 ?_
  refine lv_iload_n hx hb dX5_bestLine_7 rfl (lv_at hl 1 rfl) ?_
  obtain ⟨hi_1, hf⟩ := ck_some hf
  refine al_rank hx hb hE hP hi_1 dX5_bestLine_8 ?_
  refine lv_astore (lv' := [(4, .ref (a (14 + 3 * x1.toNatClampNeg))), (0, .ref (a 0)), (1, .int x1), (2, .int x2), (3, .int x3)]) hx hb dX5_bestLine_9 hl (by decide) rfl (fun ls hl => ?_)
  refine lv_aload_n hx hb dX5_bestLine_11 rfl (lv_at hl 1 rfl) ?_
  refine gf_5_35 hx hb hE hown hP dX5_bestLine_12 ?_
  refine lv_iload_n hx hb dX5_bestLine_15 rfl (lv_at hl 4 rfl) ?_
  refine lv_iconst (v := 1) hx hb dX5_bestLine_16 (by decide) ?_
  refine lv_iload_n hx hb dX5_bestLine_17 rfl (lv_at hl 2 rfl) ?_
  refine lv_ishl hx hb dX5_bestLine_18 ?_
  refine lv_ior hx hb dX5_bestLine_19 ?_
  refine lv_iload_n hx hb dX5_bestLine_20 rfl (lv_at hl 3 rfl) ?_
  obtain ⟨r_2, hc, hf⟩ := bnd hf
  refine wrV X (c_X0_coverBy l d a z (x3 ||| ((1 : Int32) <<< (x1 &&& 31))) x2 hc) (k_X5_128 hE rfl rfl ⟨Nat.le_of_ble_eq_true rfl, Nat.le_of_ble_eq_true rfl⟩) hP hJ hS (va_recv (q := (RX0, TX0, 7)) hE.2 hP (ci := 0) (q0 := 11) rfl rfl) rfl hl.1 rfl (Nat.le_of_ble_eq_true rfl) dX5_bestLine_21 (fun H locs hP hS => ?_)
  refine lv_istore (lv' := [(5, .int r_2.1), (4, .ref (a (14 + 3 * x1.toNatClampNeg))), (0, .ref (a 0)), (1, .int x1), (2, .int x2), (3, .int x3)]) hx hb dX5_bestLine_24 hl (by decide) rfl (fun ls hl => ?_)
  refine lv_iconst (v := 0) hx hb dX5_bestLine_26 (by decide) ?_
  refine lv_istore (lv' := [(6, .int (0 : Int32)), (5, .int r_2.1), (4, .ref (a (14 + 3 * x1.toNatClampNeg))), (0, .ref (a 0)), (1, .int x1), (2, .int x2), (3, .int x3)]) hx hb dX5_bestLine_27 hl (by decide) rfl (fun ls hl => ?_)
  refine lv_iconst (v := -1) hx hb dX5_bestLine_29 (by decide) ?_
  refine lv_istore (lv' := [(7, .int (-1 : Int32)), (6, .int (0 : Int32)), (5, .int r_2.1), (4, .ref (a (14 + 3 * x1.toNatClampNeg))), (0, .ref (a 0)), (1, .int x1), (2, .int x2), (3, .int x3)]) hx hb dX5_bestLine_30 hl (by decide) rfl (fun ls hl => ?_)
  refine lv_iconst (v := 0) hx hb dX5_bestLine_32 (by decide) ?_
  refine lv_istore (lv' := [(8, .int (0 : Int32)), (7, .int (-1 : Int32)), (6, .int (0 : Int32)), (5, .int r_2.1), (4, .ref (a (14 + 3 * x1.toNatClampNeg))), (0, .ref (a 0)), (1, .int x1), (2, .int x2), (3, .int x3)]) hx hb dX5_bestLine_33 hl (by decide) rfl (fun ls hl => ?_)
  exact u_X5_bestLine_35 X hJ hr hlk x1 x2 x3 x1.toNatClampNeg r_2.1 (0 : Int32) (-1 : Int32) (0 : Int32) r_2.2 (vp_lt hi_1) hf H locs ls hP hS (lv_sub hl [5, 6, 7, 8, 4, 3, 2, 1, 0] rfl)
set_option maxHeartbeats 4000000 in
set_option maxRecDepth 100000 in
theorem c_X5_bestLine (l : Launch) (d : G3) (a : Nat → Nat) (z : St) (x1 : Int32) (x2 : Int32) (x3 : Int32) {RR : Int32 × St} (hf : f_X5_bestLine x1 x2 x3 z = some RR) : Met l yX5_bestLine [Cond.code yX5_bestLine cX5_bestLine 10 (some .int)] { frames := 5, cells := 0, slots := 0, locals := 119 } (wpre wC 26 d a z [.ref (a 0), .int x1, .int x2, .int x3]) (QW wC 26 d a RR) 0 0 (AD 26 a) := by
  refine Met.ofW (cc := cX5_bestLine) (maxL := 10) (ret := (some .int)) (by decide) rfl ?_
  intro p e s m args below meth c s₁ B hml hv
  obtain ⟨rfl, hE, hP, hJ⟩ := hv
  have X : Cx p s m c cX5_bestLine RX5 10 d := ⟨B.exec, B.bytes, hml, findClass_of_methodNamed B.named, hE⟩
  have hl := lv_entry ([.ref (a 0), .int x1, .int x2, .int x3]) (n := 10) (Nat.le_of_ble_eq_true rfl)
  rw [lg_entry_eq]
  generalize (lg_sl ([.ref (a 0), .int x1, .int x2, .int x3]) ++ List.replicate (10 - (lg_sl ([.ref (a 0), .int x1, .int x2, .int x3])).length) Slot.unset).toArray = ls at hl ⊢
  have hl : lv_has ls 10 [(0, .ref (a 0)), (1, .int x1), (2, .int x2), (3, .int x3)] := hl
  exact t_X5_bestLine X hJ B.returns B.notSynchronized x1 x2 x3 z hf s.heap [] ls hP va_S.rf hl
def f_X5_give_17 (k17 : Int32 → Int32 → St → Option (Int32 × St)) (x1 : Int32) (x2 : Int32) (z : St) : Option (Int32 × St) := (if (z.1 4) ≤ x2 then (f_J6_bitCount_0f7a4 (pS (pS z 0 (1 : Int32)) 1 (0 : Int32)) x1).bind (fun r_1 => some (r_1, (pS (pS z 0 (1 : Int32)) 1 (0 : Int32)))) else ck 4 x2 ((f_X2_from (pS z (13 + 6 * x2.toNatClampNeg) x1) (x2 + (1 : Int32))).bind (fun r_3 => (f_X5_bestLine x2 x1 r_3 (pS z (13 + 6 * x2.toNatClampNeg) x1)).bind (fun r_4 => k17 (x1 &&& (((pS (pS r_4.2 (14 + 6 * x2.toNatClampNeg) r_4.1) (15 + 6 * x2.toNatClampNeg) (0 : Int32)).1 (14 + 6 * x2.toNatClampNeg)) ^^^ (-1 : Int32))) (x2 + (1 : Int32)) (pS (pS r_4.2 (14 + 6 * x2.toNatClampNeg) r_4.1) (15 + 6 * x2.toNatClampNeg) (0 : Int32))))))
def l_X5_give_17 : Int32 → Int32 → St → Option (Int32 × St) := iter (fun _ _ _ => none) (f_X5_give_17) FU
set_option maxHeartbeats 4000000 in
set_option maxRecDepth 100000 in
theorem t_X5_give_17 {RR : Int32 × St} (X : Cx p s m c cX5_give RX5 4 d) (hJ : Inj 26 a) (hr : meth.sig.returnType = (some .int)) (hlk : meth.locks = false) {k17 : Int32 → Int32 → St → Option (Int32 × St)} (hk17 : ∀ (x1 : Int32) (x2 : Int32) (z : St), k17 x1 x2 z = some RR → WWr wC 26 d a p l e { frames := 6, cells := 0, slots := 0, locals := 148 } s m args below meth c RR z 4 [(0, .ref (a 0)), (1, .int x1), (2, .int x2)] 17 []) : ∀ (x1 : Int32) (x2 : Int32) (z : St), f_X5_give_17 k17 x1 x2 z = some RR → WWr wC 26 d a p l e { frames := 6, cells := 0, slots := 0, locals := 148 } s m args below meth c RR z 4 [(0, .ref (a 0)), (1, .int x1), (2, .int x2)] 17 [] := by
  intro x1 x2 z hf H locs ls hP hS hl
  obtain ⟨hx, hb, hml, hown, hE⟩ := id X
  unfold f_X5_give_17 at hf
  refine lv_iload_n hx hb dX5_give_17 rfl (lv_at hl 2 rfl) ?_
  refine lv_aload_n hx hb dX5_give_18 rfl (lv_at hl 0 rfl) ?_
  refine gf_5_26 hx hb hE hown hP dX5_give_19 ?_
  refine gf_5_58 hx hb hE hown hP dX5_give_22 ?_
  refine lv_icmp_ge (tgt := 83) hx hb dX5_give_25 (by decide) (fun q => ?_) (fun q => ?_)
  · have hf := (if_pos q).symm.trans hf
    refine lv_aload_n hx hb dX5_give_83 rfl (lv_at hl 0 rfl) ?_
    refine lv_iconst (v := 1) hx hb dX5_give_84 (by decide) ?_
    refine pf_5_85 hx hb hE hown hP hJ hS rfl rfl dX5_give_85 (fun H locs hP hS => ?_)
    refine lv_aload_n hx hb dX5_give_88 rfl (lv_at hl 0 rfl) ?_
    refine lv_iconst (v := 0) hx hb dX5_give_89 (by decide) ?_
    refine pf_5_150 hx hb hE hown hP hJ hS rfl rfl dX5_give_90 (fun H locs hP hS => ?_)
    refine lv_iload_n hx hb dX5_give_93 rfl (lv_at hl 1 rfl) ?_
    obtain ⟨r_1, hc, hf⟩ := bnd hf
    refine rdS X (c_J6_bitCount_0f7a4 l d a (pS (pS z 0 (1 : Int32)) 1 (0 : Int32)) x1 hc) (k_X5_153 hE rfl rfl ⟨Nat.le_of_ble_eq_true rfl, Nat.le_of_ble_eq_true rfl⟩) hP rfl hl.1 rfl (Nat.le_of_ble_eq_true rfl) dX5_give_94 ?_
    obtain rfl := Option.some.inj hf
    exact W.iret hx hb hr (fun t ht _ => ⟨rfl, by rw [ht]; exact hP, hS.F ht⟩) hS.2.2 dX5_give_97 hlk
  · have hf := (if_neg q).symm.trans hf
    refine lv_aload_n hx hb dX5_give_28 rfl (lv_at hl 0 rfl) ?_
    refine gf_5_26 hx hb hE hown hP dX5_give_29 ?_
    refine gf_5_76 hx hb hE hown hP dX5_give_32 ?_
    refine lv_iload_n hx hb dX5_give_35 rfl (lv_at hl 2 rfl) ?_
    obtain ⟨hi_2, hf⟩ := ck_some hf
    refine al_rank hx hb hE hP hi_2 dX5_give_36 ?_
    refine lv_astore_n (lv' := [(3, .ref (a (14 + 3 * x2.toNatClampNeg))), (0, .ref (a 0)), (1, .int x1), (2, .int x2)]) hx hb dX5_give_37 rfl hl (by decide) rfl (fun ls hl => ?_)
    refine lv_aload_n hx hb dX5_give_38 rfl (lv_at hl 0 rfl) ?_
    refine lv_iload_n hx hb dX5_give_39 rfl (lv_at hl 2 rfl) ?_
    refine pf_5_137 hx hb hE hown hP hJ hS (vp_lt hi_2) dX5_give_40 (fun H locs hP hS => ?_)
    refine lv_aload_n hx hb dX5_give_43 rfl (lv_at hl 0 rfl) ?_
    refine lv_aload_n hx hb dX5_give_44 rfl (lv_at hl 1 rfl) ?_
    refine lv_iload_n hx hb dX5_give_45 rfl (lv_at hl 3 rfl) ?_
    refine lv_iload_n hx hb dX5_give_46 rfl (lv_at hl 2 rfl) ?_
    refine lv_aload_n hx hb dX5_give_47 rfl (lv_at hl 1 rfl) ?_
    refine gf_5_26 hx hb hE hown hP dX5_give_48 ?_
    refine lv_iload_n hx hb dX5_give_51 rfl (lv_at hl 3 rfl) ?_
    refine lv_iconst (v := 1) hx hb dX5_give_52 (by decide) ?_
    refine lv_iadd hx hb dX5_give_53 ?_
    obtain ⟨r_3, hc, hf⟩ := bnd hf
    refine rdV X (c_X2_from l d a (pS z (13 + 6 * x2.toNatClampNeg) x1) (x2 + (1 : Int32)) hc) (k_X5_124 hE rfl rfl ⟨Nat.le_of_ble_eq_true rfl, Nat.le_of_ble_eq_true rfl⟩) hP (va_recv (q := (RX2, TX2, 2)) hE.2 hP (ci := 2) (q0 := 9) rfl rfl) rfl hl.1 rfl (Nat.le_of_ble_eq_true rfl) dX5_give_54 ?_
    obtain ⟨r_4, hc, hf⟩ := bnd hf
    refine wrV X (c_X5_bestLine l d a (pS z (13 + 6 * x2.toNatClampNeg) x1) x2 x1 r_3 hc) (k_X5_140 hE rfl rfl ⟨Nat.le_of_ble_eq_true rfl, Nat.le_of_ble_eq_true rfl⟩) hP hJ hS (va_recv (q := (RX5, TX5, 6)) hE.2 hP (ci := 5) (q0 := 0) rfl rfl) rfl hl.1 rfl (Nat.le_of_ble_eq_true rfl) dX5_give_57 (fun H locs hP hS => ?_)
    refine pf_5_144 hx hb hE hown hP hJ hS (vp_lt hi_2) dX5_give_60 (fun H locs hP hS => ?_)
    refine lv_aload_n hx hb dX5_give_63 rfl (lv_at hl 0 rfl) ?_
    refine lv_iconst (v := 0) hx hb dX5_give_64 (by decide) ?_
    refine pf_5_147 hx hb hE hown hP hJ hS (vp_lt hi_2) rfl rfl dX5_give_65 (fun H locs hP hS => ?_)
    refine lv_iload_n hx hb dX5_give_68 rfl (lv_at hl 2 rfl) ?_
    refine lv_aload_n hx hb dX5_give_69 rfl (lv_at hl 0 rfl) ?_
    refine gf_5_144 hx hb hE hown hP (vp_lt hi_2) dX5_give_70 ?_
    refine lv_iconst (v := -1) hx hb dX5_give_73 (by decide) ?_
    refine lv_ixor hx hb dX5_give_74 ?_
    refine lv_iand hx hb dX5_give_75 ?_
    refine lv_istore_n (lv' := [(1, .int (x1 &&& (((pS (pS r_4.2 (14 + 6 * x2.toNatClampNeg) r_4.1) (15 + 6 * x2.toNatClampNeg) (0 : Int32)).1 (14 + 6 * x2.toNatClampNeg)) ^^^ (-1 : Int32)))), (3, .ref (a (14 + 3 * x2.toNatClampNeg))), (0, .ref (a 0)), (2, .int x2)]) hx hb dX5_give_76 rfl hl (by decide) rfl (fun ls hl => ?_)
    refine lv_iinc (v := (x2 + (1 : Int32))) (lv' := [(2, .int (x2 + (1 : Int32))), (1, .int (x1 &&& (((pS (pS r_4.2 (14 + 6 * x2.toNatClampNeg) r_4.1) (15 + 6 * x2.toNatClampNeg) (0 : Int32)).1 (14 + 6 * x2.toNatClampNeg)) ^^^ (-1 : Int32)))), (3, .ref (a (14 + 3 * x2.toNatClampNeg))), (0, .ref (a 0))]) hx hb dX5_give_77 hl (k := 3) rfl rfl (by decide) rfl (fun ls hl => ?_)
    refine lv_goto (tgt := 17) hx hb dX5_give_80 (by decide) ?_
    exact hk17 (x1 &&& (((pS (pS r_4.2 (14 + 6 * x2.toNatClampNeg) r_4.1) (15 + 6 * x2.toNatClampNeg) (0 : Int32)).1 (14 + 6 * x2.toNatClampNeg)) ^^^ (-1 : Int32))) (x2 + (1 : Int32)) (pS (pS r_4.2 (14 + 6 * x2.toNatClampNeg) r_4.1) (15 + 6 * x2.toNatClampNeg) (0 : Int32)) hf H locs ls hP hS (lv_sub hl [3, 1, 0] rfl)
theorem u_X5_give_17 {RR : Int32 × St} (X : Cx p s m c cX5_give RX5 4 d) (hJ : Inj 26 a) (hr : meth.sig.returnType = (some .int)) (hlk : meth.locks = false) : ∀ (x1 : Int32) (x2 : Int32) (z : St), l_X5_give_17 x1 x2 z = some RR → WWr wC 26 d a p l e { frames := 6, cells := 0, slots := 0, locals := 148 } s m args below meth c RR z 4 [(0, .ref (a 0)), (1, .int x1), (2, .int x2)] 17 [] := by
  unfold l_X5_give_17
  generalize FU = n
  induction n with
  | zero => intro x1 x2 z hf; exact absurd (show (none : Option (Int32 × St)) = some RR from hf) (by simp)
  | succ n ih => exact t_X5_give_17 X hJ hr hlk ih
def f_X5_give (z : St) : Option (Int32 × St) := (f_X0_refresh z).bind (fun r_1 => (f_X1_all r_1).bind (fun r_2 => l_X5_give_17 r_2 (0 : Int32) r_1))
set_option maxHeartbeats 4000000 in
set_option maxRecDepth 100000 in
theorem t_X5_give {RR : Int32 × St} (X : Cx p s m c cX5_give RX5 4 d) (hJ : Inj 26 a) (hr : meth.sig.returnType = (some .int)) (hlk : meth.locks = false) : ∀ (z : St), f_X5_give z = some RR → WWr wC 26 d a p l e { frames := 6, cells := 0, slots := 0, locals := 148 } s m args below meth c RR z 4 [(0, .ref (a 0))] 0 [] := by
  intro z hf H locs ls hP hS hl
  obtain ⟨hx, hb, hml, hown, hE⟩ := id X
  unfold f_X5_give at hf
  refine lv_aload_n hx hb dX5_give_0 rfl (lv_at hl 0 rfl) ?_
  refine gf_5_35 hx hb hE hown hP dX5_give_1 ?_
  obtain ⟨r_1, hc, hf⟩ := bnd hf
  refine wrVv X (c_X0_refresh l d a z hc) (k_X5_113 hE rfl rfl ⟨Nat.le_of_ble_eq_true rfl, Nat.le_of_ble_eq_true rfl⟩) hP hJ hS (va_recv (q := (RX0, TX0, 7)) hE.2 hP (ci := 0) (q0 := 11) rfl rfl) rfl hl.1 rfl (Nat.le_of_ble_eq_true rfl) dX5_give_4 (fun H locs hP hS => ?_)
  refine lv_aload_n hx hb dX5_give_7 rfl (lv_at hl 0 rfl) ?_
  refine gf_5_12 hx hb hE hown hP dX5_give_8 ?_
  obtain ⟨r_2, hc, hf⟩ := bnd hf
  refine rdV X (c_X1_all l d a r_1 hc) (k_X5_116 hE rfl rfl ⟨Nat.le_of_ble_eq_true rfl, Nat.le_of_ble_eq_true rfl⟩) hP (va_recv (q := (RX1, TX1, 7)) hE.2 hP (ci := 1) (q0 := 1) rfl rfl) rfl hl.1 rfl (Nat.le_of_ble_eq_true rfl) dX5_give_11 ?_
  refine lv_istore_n (lv' := [(1, .int r_2), (0, .ref (a 0))]) hx hb dX5_give_14 rfl hl (by decide) rfl (fun ls hl => ?_)
  refine lv_iconst (v := 0) hx hb dX5_give_15 (by decide) ?_
  refine lv_istore_n (lv' := [(2, .int (0 : Int32)), (1, .int r_2), (0, .ref (a 0))]) hx hb dX5_give_16 rfl hl (by decide) rfl (fun ls hl => ?_)
  exact u_X5_give_17 X hJ hr hlk r_2 (0 : Int32) r_1 hf H locs ls hP hS (lv_sub hl [2, 1, 0] rfl)
set_option maxHeartbeats 4000000 in
set_option maxRecDepth 100000 in
theorem c_X5_give (l : Launch) (d : G3) (a : Nat → Nat) (z : St) {RR : Int32 × St} (hf : f_X5_give z = some RR) : Met l yX5_give [Cond.code yX5_give cX5_give 4 (some .int)] { frames := 6, cells := 0, slots := 0, locals := 148 } (wpre wC 26 d a z [.ref (a 0)]) (QW wC 26 d a RR) 0 0 (AD 26 a) := by
  refine Met.ofW (cc := cX5_give) (maxL := 4) (ret := (some .int)) (by decide) rfl ?_
  intro p e s m args below meth c s₁ B hml hv
  obtain ⟨rfl, hE, hP, hJ⟩ := hv
  have X : Cx p s m c cX5_give RX5 4 d := ⟨B.exec, B.bytes, hml, findClass_of_methodNamed B.named, hE⟩
  have hl := lv_entry ([.ref (a 0)]) (n := 4) (Nat.le_of_ble_eq_true rfl)
  rw [lg_entry_eq]
  generalize (lg_sl ([.ref (a 0)]) ++ List.replicate (4 - (lg_sl ([.ref (a 0)])).length) Slot.unset).toArray = ls at hl ⊢
  have hl : lv_has ls 4 [(0, .ref (a 0))] := hl
  exact t_X5_give X hJ B.returns B.notSynchronized z hf s.heap [] ls hP va_S.rf hl
def f_X5_line (z : St) (x1 : Int32) : Option (Int32) := (f_X2_has z x1).bind (fun r_1 => (if r_1 = (0 : Int32) then some (-1 : Int32) else (if (z.1 0) = (0 : Int32) then some (-3 : Int32) else ck 4 x1 (some (z.1 (14 + 6 * x1.toNatClampNeg))))))
set_option maxHeartbeats 4000000 in
set_option maxRecDepth 100000 in
theorem t_X5_line {RR : Int32} (X : Cx p s m c cX5_line RX5 2 d) {z : St} (hP : va_P d.1 classes (wC d a z) s.heap) (hr : meth.sig.returnType = (some .int)) (hlk : meth.locks = false) : ∀ (x1 : Int32), f_X5_line z x1 = some RR → WRd p l e { frames := 2, cells := 0, slots := 0, locals := 43 } s m args below meth c RR 2 [(0, .ref (a 0)), (1, .int x1)] 0 [] := by
  intro x1 hf ls hl
  obtain ⟨hx, hb, hml, hown, hE⟩ := id X
  unfold f_X5_line at hf
  refine lv_aload_n hx hb dX5_line_0 rfl (lv_at hl 0 rfl) ?_
  refine gf_5_26 hx hb hE hown hP dX5_line_1 ?_
  refine lv_iload_n hx hb dX5_line_4 rfl (lv_at hl 1 rfl) ?_
  obtain ⟨r_1, hc, hf⟩ := bnd hf
  refine rdV X (c_X2_has l d a z x1 hc) (k_X5_72 hE rfl rfl ⟨Nat.le_of_ble_eq_true rfl, Nat.le_of_ble_eq_true rfl⟩) hP (va_recv (q := (RX2, TX2, 2)) hE.2 hP (ci := 2) (q0 := 9) rfl rfl) rfl hl.1 rfl (Nat.le_of_ble_eq_true rfl) dX5_line_5 ?_
  refine lv_if_ne (tgt := 13) hx hb dX5_line_8 (by decide) (fun q => ?_) (fun q => ?_)
  · have hf := (if_neg q).symm.trans hf
    refine lv_aload_n hx hb dX5_line_13 rfl (lv_at hl 0 rfl) ?_
    refine gf_5_85 hx hb hE hown hP dX5_line_14 ?_
    refine lv_if_eq (tgt := 35) hx hb dX5_line_17 (by decide) (fun q => ?_) (fun q => ?_)
    · have hf := (if_pos q).symm.trans hf
      refine lv_bipush (v := -3) hx hb dX5_line_35 (by decide) ?_
      obtain rfl := Option.some.inj hf
      exact W.iret hx hb hr (fun t ht _ => ⟨rfl, ht⟩) (fun _ h => nomatch h) dX5_line_37 hlk
    · have hf := (if_neg q).symm.trans hf
      refine lv_aload_n hx hb dX5_line_20 rfl (lv_at hl 0 rfl) ?_
      refine gf_5_26 hx hb hE hown hP dX5_line_21 ?_
      refine gf_5_76 hx hb hE hown hP dX5_line_24 ?_
      refine lv_iload_n hx hb dX5_line_27 rfl (lv_at hl 1 rfl) ?_
      obtain ⟨hi_2, hf⟩ := ck_some hf
      refine al_rank hx hb hE hP hi_2 dX5_line_28 ?_
      refine gf_5_144 hx hb hE hown hP (vp_lt hi_2) dX5_line_29 ?_
      refine lv_goto (tgt := 37) hx hb dX5_line_32 (by decide) ?_
      obtain rfl := Option.some.inj hf
      exact W.iret hx hb hr (fun t ht _ => ⟨rfl, ht⟩) (fun _ h => nomatch h) dX5_line_37 hlk
  · have hf := (if_pos q).symm.trans hf
    refine lv_iconst (v := -1) hx hb dX5_line_11 (by decide) ?_
    obtain rfl := Option.some.inj hf
    exact W.iret hx hb hr (fun t ht _ => ⟨rfl, ht⟩) (fun _ h => nomatch h) dX5_line_12 hlk
set_option maxHeartbeats 4000000 in
set_option maxRecDepth 100000 in
theorem c_X5_line (l : Launch) (d : G3) (a : Nat → Nat) (z : St) (x1 : Int32) {RR : Int32} (hf : f_X5_line z x1 = some RR) : Met l yX5_line [Cond.code yX5_line cX5_line 2 (some .int)] { frames := 2, cells := 0, slots := 0, locals := 43 } (rpre wC d a z [.ref (a 0), .int x1]) (QcRead RR) 0 0 (fun _ => False) := by
  refine Met.ofW (cc := cX5_line) (maxL := 2) (ret := (some .int)) (by decide) rfl ?_
  intro p e s m args below meth c s₁ B hml hv
  obtain ⟨rfl, hE, hP⟩ := hv
  have X : Cx p s m c cX5_line RX5 2 d := ⟨B.exec, B.bytes, hml, findClass_of_methodNamed B.named, hE⟩
  have hl := lv_entry ([.ref (a 0), .int x1]) (n := 2) (Nat.le_of_ble_eq_true rfl)
  rw [lg_entry_eq]
  generalize (lg_sl ([.ref (a 0), .int x1]) ++ List.replicate (2 - (lg_sl ([.ref (a 0), .int x1])).length) Slot.unset).toArray = ls at hl ⊢
  have hl : lv_has ls 2 [(0, .ref (a 0)), (1, .int x1)] := hl
  exact t_X5_line X hP B.returns B.notSynchronized x1 hf ls hl
end GEN
