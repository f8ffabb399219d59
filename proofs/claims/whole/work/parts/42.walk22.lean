section GEN
variable {p : Program} {l : Launch} {e : Env} {s : State} {m : MethodId} {args : Array Value} {below : List Frame} {meth : Method} {c : Code} {d : G3} {a : Nat → Nat}
def f_X6_denied_67 (k67 : Int32 → Int32 → Int32 → Int32 → St → Option (Int32 × St)) (x1 : Int32) (x2 : Int32) (x3 : Int32) (x4 : Int32) (z : St) : Option (Int32 × St) := (if ((1 : Int32) <<< ((z.1 0) &&& 31)) ≤ x4 then some (x3, z) else ck 2048 (((512 : Int32) * x1) + x4) ((if (z.2 10 (((512 : Int32) * x1) + x4).toNatClampNeg) = (0 : Int32) then k67 x1 x2 x3 (x4 + (1 : Int32)) z else (f_X6_serves z x1 x2 x4).bind (fun r_1 => (if r_1 = (0 : Int32) then k67 x1 x2 x3 (x4 + (1 : Int32)) z else ck 4 x1 ((if (x4 &&& ((z.2 17 x1.toNatClampNeg) ^^^ (-1 : Int32))) = (0 : Int32) then some ((3 : Int32), z) else k67 x1 x2 (2 : Int32) (x4 + (1 : Int32)) z)))))))
def l_X6_denied_67 : Int32 → Int32 → Int32 → Int32 → St → Option (Int32 × St) := iter (fun _ _ _ _ _ => none) (f_X6_denied_67) FU
set_option maxHeartbeats 4000000 in
set_option maxRecDepth 100000 in
theorem t_X6_denied_67 {RR : Int32 × St} (X : Cx p s m c cX6_denied RX6 5 d) (hJ : Inj 20 a) (hr : meth.sig.returnType = (some .int)) (hlk : meth.locks = false) {k67 : Int32 → Int32 → Int32 → Int32 → St → Option (Int32 × St)} (hk67 : ∀ (x1 : Int32) (x2 : Int32) (x3 : Int32) (x4 : Int32) (z : St), k67 x1 x2 x3 x4 z = some RR → WWr wM 20 d a p l e { frames := 4, cells := 0, slots := 0, locals := 94 } s m args below meth c RR z 5 [(0, .ref (a 0)), (1, .int x1), (2, .int x2), (3, .int x3), (4, .int x4)] 67 []) : ∀ (x1 : Int32) (x2 : Int32) (x3 : Int32) (x4 : Int32) (z : St), f_X6_denied_67 k67 x1 x2 x3 x4 z = some RR → WWr wM 20 d a p l e { frames := 4, cells := 0, slots := 0, locals := 94 } s m args below meth c RR z 5 [(0, .ref (a 0)), (1, .int x1), (2, .int x2), (3, .int x3), (4, .int x4)] 67 [] := by
  intro x1 x2 x3 x4 z hf H locs ls hP hS hl
  obtain ⟨hx, hb, hml, hown, hE⟩ := id X
  unfold f_X6_denied_67 at hf
  refine lv_iload hx hb dX6_denied_67 (lv_at hl 4 rfl) ?_
  refine lv_iconst (v := 1) hx hb dX6_denied_69 (by decide) ?_
  refine lv_aload_n hx hb dX6_denied_70 rfl (lv_at hl 0 rfl) ?_
  refine gf_6_84 hx hb hE hown hP dX6_denied_71 ?_
  refine lv_ishl hx hb dX6_denied_74 ?_
  refine lv_icmp_ge (tgt := 132) hx hb dX6_denied_75 (by decide) (fun q => ?_) (fun q => ?_)
  · have hf := (if_pos q).symm.trans hf
    refine lv_iload_n hx hb dX6_denied_132 rfl (lv_at hl 3 rfl) ?_
    obtain rfl := Option.some.inj hf
    exact W.iret hx hb hr (fun t ht _ => ⟨rfl, by rw [ht]; exact hP, hS.F ht⟩) hS.2.2 dX6_denied_133 hlk
  · have hf := (if_neg q).symm.trans hf
    refine lv_aload_n hx hb dX6_denied_78 rfl (lv_at hl 0 rfl) ?_
    refine gf_6_53 hx hb hE hown hP dX6_denied_79 ?_
    refine lv_sipush (v := 512) hx hb dX6_denied_82 (by decide) ?_
    refine lv_iload_n hx hb dX6_denied_85 rfl (lv_at hl 1 rfl) ?_
    refine lv_imul hx hb dX6_denied_86 ?_
    refine lv_iload hx hb dX6_denied_87 (lv_at hl 4 rfl) ?_
    refine lv_iadd hx hb dX6_denied_89 ?_
    obtain ⟨hi, hf⟩ := ck_some hf
    refine ld_M_11 hx hb hE hP hi dX6_denied_90 ?_
    refine lv_if_eq (tgt := 126) hx hb dX6_denied_91 (by decide) (fun q => ?_) (fun q => ?_)
    · have hf := (if_pos q).symm.trans hf
      refine lv_iinc (v := (x4 + (1 : Int32))) (lv' := [(4, .int (x4 + (1 : Int32))), (0, .ref (a 0)), (1, .int x1), (2, .int x2), (3, .int x3)]) hx hb dX6_denied_126 hl (k := 4) rfl rfl (by decide) rfl (fun ls hl => ?_)
      refine lv_goto (tgt := 67) hx hb dX6_denied_129 (by decide) ?_
      exact hk67 x1 x2 x3 (x4 + (1 : Int32)) z hf H locs ls hP hS (lv_sub hl [1, 2, 3, 4, 0] rfl)
    · have hf := (if_neg q).symm.trans hf
      refine lv_aload_n hx hb dX6_denied_94 rfl (lv_at hl 0 rfl) ?_
      refine lv_iload_n hx hb dX6_denied_95 rfl (lv_at hl 1 rfl) ?_
      refine lv_iload_n hx hb dX6_denied_96 rfl (lv_at hl 2 rfl) ?_
      refine lv_iload hx hb dX6_denied_97 (lv_at hl 4 rfl) ?_
      obtain ⟨r_1, hc, hf⟩ := bnd hf
      refine rdV X (c_X6_serves l d a z x1 x2 x4 hc) (k_X6_158 hE rfl rfl ⟨Nat.le_of_ble_eq_true rfl, Nat.le_of_ble_eq_true rfl⟩) hP (va_recv (q := (RX6, TX6, 28)) hE.2 hP (ci := 6) (q0 := 0) rfl rfl) rfl hl.1 rfl (Nat.le_of_ble_eq_true rfl) dX6_denied_99 ?_
      refine lv_if_ne (tgt := 108) hx hb dX6_denied_102 (by decide) (fun q => ?_) (fun q => ?_)
      · have hf := (if_neg q).symm.trans hf
        refine lv_iload hx hb dX6_denied_108 (lv_at hl 4 rfl) ?_
        refine lv_aload_n hx hb dX6_denied_110 rfl (lv_at hl 0 rfl) ?_
        refine gf_6_75 hx hb hE hown hP dX6_denied_111 ?_
        refine lv_iload_n hx hb dX6_denied_114 rfl (lv_at hl 1 rfl) ?_
        obtain ⟨hi, hf⟩ := ck_some hf
        refine ld_M_18 hx hb hE hP hi dX6_denied_115 ?_
        refine lv_iconst (v := -1) hx hb dX6_denied_116 (by decide) ?_
        refine lv_ixor hx hb dX6_denied_117 ?_
        refine lv_iand hx hb dX6_denied_118 ?_
        refine lv_if_ne (tgt := 124) hx hb dX6_denied_119 (by decide) (fun q => ?_) (fun q => ?_)
        · have hf := (if_neg q).symm.trans hf
          refine lv_iconst (v := 2) hx hb dX6_denied_124 (by decide) ?_
          refine lv_istore_n (lv' := [(3, .int (2 : Int32)), (0, .ref (a 0)), (1, .int x1), (2, .int x2), (4, .int x4)]) hx hb dX6_denied_125 rfl hl (by decide) rfl (fun ls hl => ?_)
          refine lv_iinc (v := (x4 + (1 : Int32))) (lv' := [(4, .int (x4 + (1 : Int32))), (3, .int (2 : Int32)), (0, .ref (a 0)), (1, .int x1), (2, .int x2)]) hx hb dX6_denied_126 hl (k := 4) rfl rfl (by decide) rfl (fun ls hl => ?_)
          refine lv_goto (tgt := 67) hx hb dX6_denied_129 (by decide) ?_
          exact hk67 x1 x2 (2 : Int32) (x4 + (1 : Int32)) z hf H locs ls hP hS (lv_sub hl [2, 3, 4, 1, 0] rfl)
        · have hf := (if_pos q).symm.trans hf
          refine lv_iconst (v := 3) hx hb dX6_denied_122 (by decide) ?_
          obtain rfl := Option.some.inj hf
          exact W.iret hx hb hr (fun t ht _ => ⟨rfl, by rw [ht]; exact hP, hS.F ht⟩) hS.2.2 dX6_denied_123 hlk
      · have hf := (if_pos q).symm.trans hf
        refine lv_goto (tgt := 126) hx hb dX6_denied_105 (by decide) ?_
        refine lv_iinc (v := (x4 + (1 : Int32))) (lv' := [(4, .int (x4 + (1 : Int32))), (0, .ref (a 0)), (1, .int x1), (2, .int x2), (3, .int x3)]) hx hb dX6_denied_126 hl (k := 4) rfl rfl (by decide) rfl (fun ls hl => ?_)
        refine lv_goto (tgt := 67) hx hb dX6_denied_129 (by decide) ?_
        exact hk67 x1 x2 x3 (x4 + (1 : Int32)) z hf H locs ls hP hS (lv_sub hl [1, 2, 3, 4, 0] rfl)
theorem u_X6_denied_67 {RR : Int32 × St} (X : Cx p s m c cX6_denied RX6 5 d) (hJ : Inj 20 a) (hr : meth.sig.returnType = (some .int)) (hlk : meth.locks = false) : ∀ (x1 : Int32) (x2 : Int32) (x3 : Int32) (x4 : Int32) (z : St), l_X6_denied_67 x1 x2 x3 x4 z = some RR → WWr wM 20 d a p l e { frames := 4, cells := 0, slots := 0, locals := 94 } s m args below meth c RR z 5 [(0, .ref (a 0)), (1, .int x1), (2, .int x2), (3, .int x3), (4, .int x4)] 67 [] := by
  unfold l_X6_denied_67
  generalize FU = n
  induction n with
  | zero => intro x1 x2 x3 x4 z hf; exact absurd (show (none : Option (Int32 × St)) = some RR from hf) (by simp)
  | succ n ih => exact t_X6_denied_67 X hJ hr hlk ih
def f_X6_denied (x1 : Int32) (x2 : Int32) (z : St) : Option (Int32 × St) := (f_X6_isPerson z x1).bind (fun r_1 => (if r_1 = (0 : Int32) then some ((-1 : Int32), z) else (if x2 < (0 : Int32) then some ((-1 : Int32), z) else ck 4 x1 ((if x2 < (z.2 7 x1.toNatClampNeg) then (if (z.1 7) = (0 : Int32) then some ((-3 : Int32), z) else (if (z.1 8) = (0 : Int32) then some ((-3 : Int32), z) else ck 4 x1 ((f_X6_isMet z x1 x2 (z.2 16 x1.toNatClampNeg)).bind (fun r_2 => (if r_2 = (0 : Int32) then (f_X6_marks z).bind (fun r_3 => l_X6_denied_67 x1 x2 (1 : Int32) (0 : Int32) r_3) else some ((0 : Int32), z)))))) else some ((-1 : Int32), z))))))
set_option maxHeartbeats 4000000 in
set_option maxRecDepth 100000 in
theorem t_X6_denied {RR : Int32 × St} (X : Cx p s m c cX6_denied RX6 5 d) (hJ : Inj 20 a) (hr : meth.sig.returnType = (some .int)) (hlk : meth.locks = false) : ∀ (x1 : Int32) (x2 : Int32) (z : St), f_X6_denied x1 x2 z = some RR → WWr wM 20 d a p l e { frames := 4, cells := 0, slots := 0, locals := 94 } s m args below meth c RR z 5 [(0, .ref (a 0)), (1, .int x1), (2, .int x2)] 0 [] := by
  intro x1 x2 z hf H locs ls hP hS hl
  obtain ⟨hx, hb, hml, hown, hE⟩ := id X
  unfold f_X6_denied at hf
  refine lv_aload_n hx hb dX6_denied_0 rfl (lv_at hl 0 rfl) ?_
  refine lv_iload_n hx hb dX6_denied_1 rfl (lv_at hl 1 rfl) ?_
  obtain ⟨r_1, hc, hf⟩ := bnd hf
  refine rdV X (c_X6_isPerson l d a z x1 hc) (k_X6_101 hE rfl rfl ⟨Nat.le_of_ble_eq_true rfl, Nat.le_of_ble_eq_true rfl⟩) hP (va_recv (q := (RX6, TX6, 28)) hE.2 hP (ci := 6) (q0 := 0) rfl rfl) rfl hl.1 rfl (Nat.le_of_ble_eq_true rfl) dX6_denied_2 ?_
  refine lv_if_eq (tgt := 22) hx hb dX6_denied_5 (by decide) (fun q => ?_) (fun q => ?_)
  · have hf := (if_pos q).symm.trans hf
    refine lv_iconst (v := -1) hx hb dX6_denied_22 (by decide) ?_
    obtain rfl := Option.some.inj hf
    exact W.iret hx hb hr (fun t ht _ => ⟨rfl, by rw [ht]; exact hP, hS.F ht⟩) hS.2.2 dX6_denied_23 hlk
  · have hf := (if_neg q).symm.trans hf
    refine lv_iload_n hx hb dX6_denied_8 rfl (lv_at hl 2 rfl) ?_
    refine lv_if_lt (tgt := 22) hx hb dX6_denied_9 (by decide) (fun q => ?_) (fun q => ?_)
    · have hf := (if_pos q).symm.trans hf
      refine lv_iconst (v := -1) hx hb dX6_denied_22 (by decide) ?_
      obtain rfl := Option.some.inj hf
      exact W.iret hx hb hr (fun t ht _ => ⟨rfl, by rw [ht]; exact hP, hS.F ht⟩) hS.2.2 dX6_denied_23 hlk
    · have hf := (if_neg q).symm.trans hf
      refine lv_iload_n hx hb dX6_denied_12 rfl (lv_at hl 2 rfl) ?_
      refine lv_aload_n hx hb dX6_denied_13 rfl (lv_at hl 0 rfl) ?_
      refine gf_6_31 hx hb hE hown hP dX6_denied_14 ?_
      refine lv_iload_n hx hb dX6_denied_17 rfl (lv_at hl 1 rfl) ?_
      obtain ⟨hi, hf⟩ := ck_some hf
      refine ld_M_8 hx hb hE hP hi dX6_denied_18 ?_
      refine lv_icmp_lt (tgt := 24) hx hb dX6_denied_19 (by decide) (fun q => ?_) (fun q => ?_)
      · have hf := (if_pos q).symm.trans hf
        refine lv_aload_n hx hb dX6_denied_24 rfl (lv_at hl 0 rfl) ?_
        refine gf_6_95 hx hb hE hown hP dX6_denied_25 ?_
        refine lv_if_eq (tgt := 38) hx hb dX6_denied_28 (by decide) (fun q => ?_) (fun q => ?_)
        · have hf := (if_pos q).symm.trans hf
          refine lv_bipush (v := -3) hx hb dX6_denied_38 (by decide) ?_
          obtain rfl := Option.some.inj hf
          exact W.iret hx hb hr (fun t ht _ => ⟨rfl, by rw [ht]; exact hP, hS.F ht⟩) hS.2.2 dX6_denied_40 hlk
        · have hf := (if_neg q).symm.trans hf
          refine lv_aload_n hx hb dX6_denied_31 rfl (lv_at hl 0 rfl) ?_
          refine gf_6_148 hx hb hE hown hP dX6_denied_32 ?_
          refine lv_if_ne (tgt := 41) hx hb dX6_denied_35 (by decide) (fun q => ?_) (fun q => ?_)
          · have hf := (if_neg q).symm.trans hf
            refine lv_aload_n hx hb dX6_denied_41 rfl (lv_at hl 0 rfl) ?_
            refine lv_iload_n hx hb dX6_denied_42 rfl (lv_at hl 1 rfl) ?_
            refine lv_iload_n hx hb dX6_denied_43 rfl (lv_at hl 2 rfl) ?_
            refine lv_aload_n hx hb dX6_denied_44 rfl (lv_at hl 0 rfl) ?_
            refine gf_6_72 hx hb hE hown hP dX6_denied_45 ?_
            refine lv_iload_n hx hb dX6_denied_48 rfl (lv_at hl 1 rfl) ?_
            obtain ⟨hi, hf⟩ := ck_some hf
            refine ld_M_17 hx hb hE hP hi dX6_denied_49 ?_
            obtain ⟨r_2, hc, hf⟩ := bnd hf
            refine rdV X (c_X6_isMet l d a z x1 x2 (z.2 16 x1.toNatClampNeg) hc) (k_X6_119 hE rfl rfl ⟨Nat.le_of_ble_eq_true rfl, Nat.le_of_ble_eq_true rfl⟩) hP (va_recv (q := (RX6, TX6, 28)) hE.2 hP (ci := 6) (q0 := 0) rfl rfl) rfl hl.1 rfl (Nat.le_of_ble_eq_true rfl) dX6_denied_50 ?_
            refine lv_if_eq (tgt := 58) hx hb dX6_denied_53 (by decide) (fun q => ?_) (fun q => ?_)
            · have hf := (if_pos q).symm.trans hf
              refine lv_aload_n hx hb dX6_denied_58 rfl (lv_at hl 0 rfl) ?_
              obtain ⟨r_3, hc, hf⟩ := bnd hf
              refine wrVv X (c_X6_marks l d a z hc) (k_X6_126 hE rfl rfl ⟨Nat.le_of_ble_eq_true rfl, Nat.le_of_ble_eq_true rfl⟩) hP hJ hS (va_recv (q := (RX6, TX6, 28)) hE.2 hP (ci := 6) (q0 := 0) rfl rfl) rfl hl.1 rfl (Nat.le_of_ble_eq_true rfl) dX6_denied_59 (fun H locs hP hS => ?_)
              refine lv_iconst (v := 1) hx hb dX6_denied_62 (by decide) ?_
              refine lv_istore_n (lv' := [(3, .int (1 : Int32)), (0, .ref (a 0)), (1, .int x1), (2, .int x2)]) hx hb dX6_denied_63 rfl hl (by decide) rfl (fun ls hl => ?_)
              refine lv_iconst (v := 0) hx hb dX6_denied_64 (by decide) ?_
              refine lv_istore (lv' := [(4, .int (0 : Int32)), (3, .int (1 : Int32)), (0, .ref (a 0)), (1, .int x1), (2, .int x2)]) hx hb dX6_denied_65 hl (by decide) rfl (fun ls hl => ?_)
              exact u_X6_denied_67 X hJ hr hlk x1 x2 (1 : Int32) (0 : Int32) r_3 hf H locs ls hP hS (lv_sub hl [2, 3, 4, 1, 0] rfl)
            · have hf := (if_neg q).symm.trans hf
              refine lv_iconst (v := 0) hx hb dX6_denied_56 (by decide) ?_
              obtain rfl := Option.some.inj hf
              exact W.iret hx hb hr (fun t ht _ => ⟨rfl, by rw [ht]; exact hP, hS.F ht⟩) hS.2.2 dX6_denied_57 hlk
          · have hf := (if_pos q).symm.trans hf
            refine lv_bipush (v := -3) hx hb dX6_denied_38 (by decide) ?_
            obtain rfl := Option.some.inj hf
            exact W.iret hx hb hr (fun t ht _ => ⟨rfl, by rw [ht]; exact hP, hS.F ht⟩) hS.2.2 dX6_denied_40 hlk
      · have hf := (if_neg q).symm.trans hf
        refine lv_iconst (v := -1) hx hb dX6_denied_22 (by decide) ?_
        obtain rfl := Option.some.inj hf
        exact W.iret hx hb hr (fun t ht _ => ⟨rfl, by rw [ht]; exact hP, hS.F ht⟩) hS.2.2 dX6_denied_23 hlk
set_option maxHeartbeats 4000000 in
set_option maxRecDepth 100000 in
theorem c_X6_denied (l : Launch) (d : G3) (a : Nat → Nat) (z : St) (x1 : Int32) (x2 : Int32) {RR : Int32 × St} (hf : f_X6_denied x1 x2 z = some RR) : Met l yX6_denied [Cond.code yX6_denied cX6_denied 5 (some .int)] { frames := 4, cells := 0, slots := 0, locals := 94 } (wpre wM 20 d a z [.ref (a 0), .int x1, .int x2]) (QW wM 20 d a RR) 0 0 (AD 20 a) := by
  refine Met.ofW (cc := cX6_denied) (maxL := 5) (ret := (some .int)) (by decide) rfl ?_
  intro p e s m args below meth c s₁ B hml hv
  obtain ⟨rfl, hE, hP, hJ⟩ := hv
  have X : Cx p s m c cX6_denied RX6 5 d := ⟨B.exec, B.bytes, hml, findClass_of_methodNamed B.named, hE⟩
  have hl := lv_entry ([.ref (a 0), .int x1, .int x2]) (n := 5) (Nat.le_of_ble_eq_true rfl)
  rw [lg_entry_eq]
  generalize (lg_sl ([.ref (a 0), .int x1, .int x2]) ++ List.replicate (5 - (lg_sl ([.ref (a 0), .int x1, .int x2])).length) Slot.unset).toArray = ls at hl ⊢
  have hl : lv_has ls 5 [(0, .ref (a 0)), (1, .int x1), (2, .int x2)] := hl
  exact t_X6_denied X hJ B.returns B.notSynchronized x1 x2 z hf s.heap [] ls hP va_S.rf hl
def f_X6_ahead_61 (k61 : Int32 → Int32 → Int32 → Int32 → St → Option (Int32 × St)) (x1 : Int32) (x2 : Int32) (x4 : Int32) (x5 : Int32) (z : St) : Option (Int32 × St) := (if (z.1 1) ≤ x5 then (f_X6_gives z).bind (fun r_1 => ck 4 x1 (some ((r_1.2 14 x1.toNatClampNeg), r_1))) else (if x5 = x2 then ck 4 x5 (k61 x1 x2 x4 (x5 + (1 : Int32)) (pA z 12 x5.toNatClampNeg x1)) else ck 4 x4 (ck 4 x5 (k61 x1 x2 (x4 + (1 : Int32)) (x5 + (1 : Int32)) (pA z 12 x5.toNatClampNeg (z.2 13 x4.toNatClampNeg))))))
def l_X6_ahead_61 : Int32 → Int32 → Int32 → Int32 → St → Option (Int32 × St) := iter (fun _ _ _ _ _ => none) (f_X6_ahead_61) FU
set_option maxHeartbeats 4000000 in
set_option maxRecDepth 100000 in
theorem t_X6_ahead_61 {RR : Int32 × St} (X : Cx p s m c cX6_ahead RX6 6 d) (hJ : Inj 20 a) (hr : meth.sig.returnType = (some .int)) (hlk : meth.locks = false) {k61 : Int32 → Int32 → Int32 → Int32 → St → Option (Int32 × St)} (hk61 : ∀ (x1 : Int32) (x2 : Int32) (x4 : Int32) (x5 : Int32) (z : St), k61 x1 x2 x4 x5 z = some RR → WWr wM 20 d a p l e { frames := 6, cells := 0, slots := 0, locals := 145 } s m args below meth c RR z 6 [(0, .ref (a 0)), (1, .int x1), (2, .int x2), (4, .int x4), (5, .int x5)] 61 []) : ∀ (x1 : Int32) (x2 : Int32) (x4 : Int32) (x5 : Int32) (z : St), f_X6_ahead_61 k61 x1 x2 x4 x5 z = some RR → WWr wM 20 d a p l e { frames := 6, cells := 0, slots := 0, locals := 145 } s m args below meth c RR z 6 [(0, .ref (a 0)), (1, .int x1), (2, .int x2), (4, .int x4), (5, .int x5)] 61 [] := by
  intro x1 x2 x4 x5 z hf H locs ls hP hS hl
  obtain ⟨hx, hb, hml, hown, hE⟩ := id X
  unfold f_X6_ahead_61 at hf
  refine lv_iload hx hb dX6_ahead_61 (lv_at hl 4 rfl) ?_
  refine lv_aload_n hx hb dX6_ahead_63 rfl (lv_at hl 0 rfl) ?_
  refine gf_6_81 hx hb hE hown hP dX6_ahead_64 ?_
  refine lv_icmp_ge (tgt := 103) hx hb dX6_ahead_67 (by decide) (fun q => ?_) (fun q => ?_)
  · have hf := (if_pos q).symm.trans hf
    refine lv_aload_n hx hb dX6_ahead_103 rfl (lv_at hl 0 rfl) ?_
    obtain ⟨r_1, hc, hf⟩ := bnd hf
    refine wrVv X (c_X6_gives l d a z hc) (k_X6_145 hE rfl rfl ⟨Nat.le_of_ble_eq_true rfl, Nat.le_of_ble_eq_true rfl⟩) hP hJ hS (va_recv (q := (RX6, TX6, 28)) hE.2 hP (ci := 6) (q0 := 0) rfl rfl) rfl hl.1 rfl (Nat.le_of_ble_eq_true rfl) dX6_ahead_104 (fun H locs hP hS => ?_)
    refine lv_aload_n hx hb dX6_ahead_107 rfl (lv_at hl 0 rfl) ?_
    refine gf_6_66 hx hb hE hown hP dX6_ahead_108 ?_
    refine lv_iload_n hx hb dX6_ahead_111 rfl (lv_at hl 1 rfl) ?_
    obtain ⟨hi, hf⟩ := ck_some hf
    refine ld_M_15 hx hb hE hP hi dX6_ahead_112 ?_
    obtain rfl := Option.some.inj hf
    exact W.iret hx hb hr (fun t ht _ => ⟨rfl, by rw [ht]; exact hP, hS.F ht⟩) hS.2.2 dX6_ahead_113 hlk
  · have hf := (if_neg q).symm.trans hf
    refine lv_aload_n hx hb dX6_ahead_70 rfl (lv_at hl 0 rfl) ?_
    refine gf_6_60 hx hb hE hown hP dX6_ahead_71 ?_
    refine lv_iload hx hb dX6_ahead_74 (lv_at hl 4 rfl) ?_
    refine lv_iload hx hb dX6_ahead_76 (lv_at hl 4 rfl) ?_
    refine lv_iload_n hx hb dX6_ahead_78 rfl (lv_at hl 2 rfl) ?_
    refine lv_icmp_ne (tgt := 86) hx hb dX6_ahead_79 (by decide) (fun q => ?_) (fun q => ?_)
    · have hf := (if_neg q).symm.trans hf
      refine lv_aload_n hx hb dX6_ahead_86 rfl (lv_at hl 0 rfl) ?_
      refine gf_6_63 hx hb hE hown hP dX6_ahead_87 ?_
      refine lv_iload hx hb dX6_ahead_90 (lv_at hl 3 rfl) ?_
      refine lv_iinc (v := (x4 + (1 : Int32))) (lv' := [(4, .int (x4 + (1 : Int32))), (0, .ref (a 0)), (1, .int x1), (2, .int x2), (5, .int x5)]) hx hb dX6_ahead_92 hl (k := 3) rfl rfl (by decide) rfl (fun ls hl => ?_)
      obtain ⟨hi, hf⟩ := ck_some hf
      refine ld_M_14 hx hb hE hP hi dX6_ahead_95 ?_
      obtain ⟨hi, hf⟩ := ck_some hf
      refine st_M_13 hx hb hE hP hJ hS hi dX6_ahead_96 (fun H locs hP hS => ?_)
      refine lv_iinc (v := (x5 + (1 : Int32))) (lv' := [(5, .int (x5 + (1 : Int32))), (4, .int (x4 + (1 : Int32))), (0, .ref (a 0)), (1, .int x1), (2, .int x2)]) hx hb dX6_ahead_97 hl (k := 4) rfl rfl (by decide) rfl (fun ls hl => ?_)
      refine lv_goto (tgt := 61) hx hb dX6_ahead_100 (by decide) ?_
      exact hk61 x1 x2 (x4 + (1 : Int32)) (x5 + (1 : Int32)) (pA z 12 x5.toNatClampNeg (z.2 13 x4.toNatClampNeg)) hf H locs ls hP hS (lv_sub hl [2, 3, 4, 1, 0] rfl)
    · have hf := (if_pos q).symm.trans hf
      refine lv_iload_n hx hb dX6_ahead_82 rfl (lv_at hl 1 rfl) ?_
      refine lv_goto (tgt := 96) hx hb dX6_ahead_83 (by decide) ?_
      obtain ⟨hi, hf⟩ := ck_some hf
      refine st_M_13 hx hb hE hP hJ hS hi dX6_ahead_96 (fun H locs hP hS => ?_)
      refine lv_iinc (v := (x5 + (1 : Int32))) (lv' := [(5, .int (x5 + (1 : Int32))), (0, .ref (a 0)), (1, .int x1), (2, .int x2), (4, .int x4)]) hx hb dX6_ahead_97 hl (k := 4) rfl rfl (by decide) rfl (fun ls hl => ?_)
      refine lv_goto (tgt := 61) hx hb dX6_ahead_100 (by decide) ?_
      exact hk61 x1 x2 x4 (x5 + (1 : Int32)) (pA z 12 x5.toNatClampNeg x1) hf H locs ls hP hS (lv_sub hl [1, 2, 3, 4, 0] rfl)
theorem u_X6_ahead_61 {RR : Int32 × St} (X : Cx p s m c cX6_ahead RX6 6 d) (hJ : Inj 20 a) (hr : meth.sig.returnType = (some .int)) (hlk : meth.locks = false) : ∀ (x1 : Int32) (x2 : Int32) (x4 : Int32) (x5 : Int32) (z : St), l_X6_ahead_61 x1 x2 x4 x5 z = some RR → WWr wM 20 d a p l e { frames := 6, cells := 0, slots := 0, locals := 145 } s m args below meth c RR z 6 [(0, .ref (a 0)), (1, .int x1), (2, .int x2), (4, .int x4), (5, .int x5)] 61 [] := by
  unfold l_X6_ahead_61
  generalize FU = n
  induction n with
  | zero => intro x1 x2 x4 x5 z hf; exact absurd (show (none : Option (Int32 × St)) = some RR from hf) (by simp)
  | succ n ih => exact t_X6_ahead_61 X hJ hr hlk ih
def f_X6_ahead_23 (k23 : Int32 → Int32 → Int32 → Int32 → St → Option (Int32 × St)) (x1 : Int32) (x2 : Int32) (x3 : Int32) (x4 : Int32) (z : St) : Option (Int32 × St) := (if (z.1 1) ≤ x4 then l_X6_ahead_61 x1 x2 (0 : Int32) (0 : Int32) z else (if x4 = x1 then k23 x1 x2 x3 (x4 + (1 : Int32)) z else ck 4 x3 (k23 x1 x2 (x3 + (1 : Int32)) (x4 + (1 : Int32)) (pA z 13 x3.toNatClampNeg x4))))
def l_X6_ahead_23 : Int32 → Int32 → Int32 → Int32 → St → Option (Int32 × St) := iter (fun _ _ _ _ _ => none) (f_X6_ahead_23) FU
set_option maxHeartbeats 4000000 in
set_option maxRecDepth 100000 in
theorem t_X6_ahead_23 {RR : Int32 × St} (X : Cx p s m c cX6_ahead RX6 6 d) (hJ : Inj 20 a) (hr : meth.sig.returnType = (some .int)) (hlk : meth.locks = false) {k23 : Int32 → Int32 → Int32 → Int32 → St → Option (Int32 × St)} (hk23 : ∀ (x1 : Int32) (x2 : Int32) (x3 : Int32) (x4 : Int32) (z : St), k23 x1 x2 x3 x4 z = some RR → WWr wM 20 d a p l e { frames := 6, cells := 0, slots := 0, locals := 145 } s m args below meth c RR z 6 [(0, .ref (a 0)), (1, .int x1), (2, .int x2), (3, .int x3), (4, .int x4)] 23 []) : ∀ (x1 : Int32) (x2 : Int32) (x3 : Int32) (x4 : Int32) (z : St), f_X6_ahead_23 k23 x1 x2 x3 x4 z = some RR → WWr wM 20 d a p l e { frames := 6, cells := 0, slots := 0, locals := 145 } s m args below meth c RR z 6 [(0, .ref (a 0)), (1, .int x1), (2, .int x2), (3, .int x3), (4, .int x4)] 23 [] := by
  intro x1 x2 x3 x4 z hf H locs ls hP hS hl
  obtain ⟨hx, hb, hml, hown, hE⟩ := id X
  unfold f_X6_ahead_23 at hf
  refine lv_iload hx hb dX6_ahead_23 (lv_at hl 4 rfl) ?_
  refine lv_aload_n hx hb dX6_ahead_25 rfl (lv_at hl 0 rfl) ?_
  refine gf_6_81 hx hb hE hown hP dX6_ahead_26 ?_
  refine lv_icmp_ge (tgt := 55) hx hb dX6_ahead_29 (by decide) (fun q => ?_) (fun q => ?_)
  · have hf := (if_pos q).symm.trans hf
    refine lv_iconst (v := 0) hx hb dX6_ahead_55 (by decide) ?_
    refine lv_istore (lv' := [(4, .int (0 : Int32)), (0, .ref (a 0)), (1, .int x1), (2, .int x2), (3, .int x3)]) hx hb dX6_ahead_56 hl (by decide) rfl (fun ls hl => ?_)
    refine lv_iconst (v := 0) hx hb dX6_ahead_58 (by decide) ?_
    refine lv_istore (lv' := [(5, .int (0 : Int32)), (4, .int (0 : Int32)), (0, .ref (a 0)), (1, .int x1), (2, .int x2), (3, .int x3)]) hx hb dX6_ahead_59 hl (by decide) rfl (fun ls hl => ?_)
    exact u_X6_ahead_61 X hJ hr hlk x1 x2 (0 : Int32) (0 : Int32) z hf H locs ls hP hS (lv_sub hl [2, 3, 4, 1, 0] rfl)
  · have hf := (if_neg q).symm.trans hf
    refine lv_iload hx hb dX6_ahead_32 (lv_at hl 4 rfl) ?_
    refine lv_iload_n hx hb dX6_ahead_34 rfl (lv_at hl 1 rfl) ?_
    refine lv_icmp_eq (tgt := 49) hx hb dX6_ahead_35 (by decide) (fun q => ?_) (fun q => ?_)
    · have hf := (if_pos q).symm.trans hf
      refine lv_iinc (v := (x4 + (1 : Int32))) (lv' := [(4, .int (x4 + (1 : Int32))), (0, .ref (a 0)), (1, .int x1), (2, .int x2), (3, .int x3)]) hx hb dX6_ahead_49 hl (k := 4) rfl rfl (by decide) rfl (fun ls hl => ?_)
      refine lv_goto (tgt := 23) hx hb dX6_ahead_52 (by decide) ?_
      exact hk23 x1 x2 x3 (x4 + (1 : Int32)) z hf H locs ls hP hS (lv_sub hl [1, 2, 3, 4, 0] rfl)
    · have hf := (if_neg q).symm.trans hf
      refine lv_aload_n hx hb dX6_ahead_38 rfl (lv_at hl 0 rfl) ?_
      refine gf_6_63 hx hb hE hown hP dX6_ahead_39 ?_
      refine lv_iload_n hx hb dX6_ahead_42 rfl (lv_at hl 3 rfl) ?_
      refine lv_iinc (v := (x3 + (1 : Int32))) (lv' := [(3, .int (x3 + (1 : Int32))), (0, .ref (a 0)), (1, .int x1), (2, .int x2), (4, .int x4)]) hx hb dX6_ahead_43 hl (k := 3) rfl rfl (by decide) rfl (fun ls hl => ?_)
      refine lv_iload hx hb dX6_ahead_46 (lv_at hl 4 rfl) ?_
      obtain ⟨hi, hf⟩ := ck_some hf
      refine st_M_14 hx hb hE hP hJ hS hi dX6_ahead_48 (fun H locs hP hS => ?_)
      refine lv_iinc (v := (x4 + (1 : Int32))) (lv' := [(4, .int (x4 + (1 : Int32))), (3, .int (x3 + (1 : Int32))), (0, .ref (a 0)), (1, .int x1), (2, .int x2)]) hx hb dX6_ahead_49 hl (k := 4) rfl rfl (by decide) rfl (fun ls hl => ?_)
      refine lv_goto (tgt := 23) hx hb dX6_ahead_52 (by decide) ?_
      exact hk23 x1 x2 (x3 + (1 : Int32)) (x4 + (1 : Int32)) (pA z 13 x3.toNatClampNeg x4) hf H locs ls hP hS (lv_sub hl [2, 3, 4, 1, 0] rfl)
theorem u_X6_ahead_23 {RR : Int32 × St} (X : Cx p s m c cX6_ahead RX6 6 d) (hJ : Inj 20 a) (hr : meth.sig.returnType = (some .int)) (hlk : meth.locks = false) : ∀ (x1 : Int32) (x2 : Int32) (x3 : Int32) (x4 : Int32) (z : St), l_X6_ahead_23 x1 x2 x3 x4 z = some RR → WWr wM 20 d a p l e { frames := 6, cells := 0, slots := 0, locals := 145 } s m args below meth c RR z 6 [(0, .ref (a 0)), (1, .int x1), (2, .int x2), (3, .int x3), (4, .int x4)] 23 [] := by
  unfold l_X6_ahead_23
  generalize FU = n
  induction n with
  | zero => intro x1 x2 x3 x4 z hf; exact absurd (show (none : Option (Int32 × St)) = some RR from hf) (by simp)
  | succ n ih => exact t_X6_ahead_23 X hJ hr hlk ih
def f_X6_ahead (x1 : Int32) (x2 : Int32) (z : St) : Option (Int32 × St) := (f_X6_isPerson z x1).bind (fun r_1 => (if r_1 = (0 : Int32) then some ((-1 : Int32), z) else (f_X6_isPerson z x2).bind (fun r_2 => (if r_2 = (0 : Int32) then some ((-1 : Int32), z) else l_X6_ahead_23 x1 x2 (0 : Int32) (0 : Int32) z))))
set_option maxHeartbeats 4000000 in
set_option maxRecDepth 100000 in
theorem t_X6_ahead {RR : Int32 × St} (X : Cx p s m c cX6_ahead RX6 6 d) (hJ : Inj 20 a) (hr : meth.sig.returnType = (some .int)) (hlk : meth.locks = false) : ∀ (x1 : Int32) (x2 : Int32) (z : St), f_X6_ahead x1 x2 z = some RR → WWr wM 20 d a p l e { frames := 6, cells := 0, slots := 0, locals := 145 } s m args below meth c RR z 6 [(0, .ref (a 0)), (1, .int x1), (2, .int x2)] 0 [] := by
  intro x1 x2 z hf H locs ls hP hS hl
  obtain ⟨hx, hb, hml, hown, hE⟩ := id X
  unfold f_X6_ahead at hf
  refine lv_aload_n hx hb dX6_ahead_0 rfl (lv_at hl 0 rfl) ?_
  refine lv_iload_n hx hb dX6_ahead_1 rfl (lv_at hl 1 rfl) ?_
  obtain ⟨r_1, hc, hf⟩ := bnd hf
  refine rdV X (c_X6_isPerson l d a z x1 hc) (k_X6_101 hE rfl rfl ⟨Nat.le_of_ble_eq_true rfl, Nat.le_of_ble_eq_true rfl⟩) hP (va_recv (q := (RX6, TX6, 28)) hE.2 hP (ci := 6) (q0 := 0) rfl rfl) rfl hl.1 rfl (Nat.le_of_ble_eq_true rfl) dX6_ahead_2 ?_
  refine lv_if_eq (tgt := 16) hx hb dX6_ahead_5 (by decide) (fun q => ?_) (fun q => ?_)
  · have hf := (if_pos q).symm.trans hf
    refine lv_iconst (v := -1) hx hb dX6_ahead_16 (by decide) ?_
    obtain rfl := Option.some.inj hf
    exact W.iret hx hb hr (fun t ht _ => ⟨rfl, by rw [ht]; exact hP, hS.F ht⟩) hS.2.2 dX6_ahead_17 hlk
  · have hf := (if_neg q).symm.trans hf
    refine lv_aload_n hx hb dX6_ahead_8 rfl (lv_at hl 0 rfl) ?_
    refine lv_iload_n hx hb dX6_ahead_9 rfl (lv_at hl 2 rfl) ?_
    obtain ⟨r_2, hc, hf⟩ := bnd hf
    refine rdV X (c_X6_isPerson l d a z x2 hc) (k_X6_101 hE rfl rfl ⟨Nat.le_of_ble_eq_true rfl, Nat.le_of_ble_eq_true rfl⟩) hP (va_recv (q := (RX6, TX6, 28)) hE.2 hP (ci := 6) (q0 := 0) rfl rfl) rfl hl.1 rfl (Nat.le_of_ble_eq_true rfl) dX6_ahead_10 ?_
    refine lv_if_ne (tgt := 18) hx hb dX6_ahead_13 (by decide) (fun q => ?_) (fun q => ?_)
    · have hf := (if_neg q).symm.trans hf
      refine lv_iconst (v := 0) hx hb dX6_ahead_18 (by decide) ?_
      refine lv_istore_n (lv' := [(3, .int (0 : Int32)), (0, .ref (a 0)), (1, .int x1), (2, .int x2)]) hx hb dX6_ahead_19 rfl hl (by decide) rfl (fun ls hl => ?_)
      refine lv_iconst (v := 0) hx hb dX6_ahead_20 (by decide) ?_
      refine lv_istore (lv' := [(4, .int (0 : Int32)), (3, .int (0 : Int32)), (0, .ref (a 0)), (1, .int x1), (2, .int x2)]) hx hb dX6_ahead_21 hl (by decide) rfl (fun ls hl => ?_)
      exact u_X6_ahead_23 X hJ hr hlk x1 x2 (0 : Int32) (0 : Int32) z hf H locs ls hP hS (lv_sub hl [2, 3, 4, 1, 0] rfl)
    · have hf := (if_pos q).symm.trans hf
      refine lv_iconst (v := -1) hx hb dX6_ahead_16 (by decide) ?_
      obtain rfl := Option.some.inj hf
      exact W.iret hx hb hr (fun t ht _ => ⟨rfl, by rw [ht]; exact hP, hS.F ht⟩) hS.2.2 dX6_ahead_17 hlk
set_option maxHeartbeats 4000000 in
set_option maxRecDepth 100000 in
theorem c_X6_ahead (l : Launch) (d : G3) (a : Nat → Nat) (z : St) (x1 : Int32) (x2 : Int32) {RR : Int32 × St} (hf : f_X6_ahead x1 x2 z = some RR) : Met l yX6_ahead [Cond.code yX6_ahead cX6_ahead 6 (some .int)] { frames := 6, cells := 0, slots := 0, locals := 145 } (wpre wM 20 d a z [.ref (a 0), .int x1, .int x2]) (QW wM 20 d a RR) 0 0 (AD 20 a) := by
  refine Met.ofW (cc := cX6_ahead) (maxL := 6) (ret := (some .int)) (by decide) rfl ?_
  intro p e s m args below meth c s₁ B hml hv
  obtain ⟨rfl, hE, hP, hJ⟩ := hv
  have X : Cx p s m c cX6_ahead RX6 6 d := ⟨B.exec, B.bytes, hml, findClass_of_methodNamed B.named, hE⟩
  have hl := lv_entry ([.ref (a 0), .int x1, .int x2]) (n := 6) (Nat.le_of_ble_eq_true rfl)
  rw [lg_entry_eq]
  generalize (lg_sl ([.ref (a 0), .int x1, .int x2]) ++ List.replicate (6 - (lg_sl ([.ref (a 0), .int x1, .int x2])).length) Slot.unset).toArray = ls at hl ⊢
  have hl : lv_has ls 6 [(0, .ref (a 0)), (1, .int x1), (2, .int x2)] := hl
  exact t_X6_ahead X hJ B.returns B.notSynchronized x1 x2 z hf s.heap [] ls hP va_S.rf hl
end GEN
