section GEN
variable {p : Program} {l : Launch} {e : Env} {s : State} {m : MethodId} {args : Array Value} {below : List Frame} {meth : Method} {c : Code} {d : G3} {a : Nat → Nat}
def f_X6_gives_43 (k15 : Int32 → Int32 → St → Option (St)) (k43 : Int32 → Int32 → Int32 → Int32 → Int32 → St → Option (St)) (x1 : Int32) (x2 : Int32) (x3 : Int32) (x4 : Int32) (x5 : Int32) (z : St) : Option (St) := (if ((1 : Int32) <<< ((z.1 0) &&& 31)) ≤ x5 then ck 4 x3 (k15 (x1 ^^^ x4) (x2 + (1 : Int32)) (pA z 14 x3.toNatClampNeg x4)) else (if (x5 &&& (x1 ^^^ (-1 : Int32))) = (0 : Int32) then ck 2048 (((512 : Int32) * x3) + x5) ((if (z.2 10 (((512 : Int32) * x3) + x5).toNatClampNeg) = (0 : Int32) then k43 x1 x2 x3 x4 (x5 + (1 : Int32)) z else (f_X6_size z x5).bind (fun r_1 => ck 2560 (((512 : Int32) * (x2 + (1 : Int32))) + (x1 ^^^ x5)) (ck 2560 (((512 : Int32) * x2) + x1) ((if (z.2 11 (((512 : Int32) * x2) + x1).toNatClampNeg) ≤ (r_1 + (z.2 11 (((512 : Int32) * (x2 + (1 : Int32))) + (x1 ^^^ x5)).toNatClampNeg)) then (if x4 < (0 : Int32) then k43 x1 x2 x3 x5 (x5 + (1 : Int32)) z else (f_X6_compares z x3 x5 x4).bind (fun r_2 => (if r_2 ≤ (0 : Int32) then k43 x1 x2 x3 x4 (x5 + (1 : Int32)) z else k43 x1 x2 x3 x5 (x5 + (1 : Int32)) z))) else k43 x1 x2 x3 x4 (x5 + (1 : Int32)) z)))))) else k43 x1 x2 x3 x4 (x5 + (1 : Int32)) z))
def l_X6_gives_43 (k15 : Int32 → Int32 → St → Option (St)) : Int32 → Int32 → Int32 → Int32 → Int32 → St → Option (St) := iter (fun _ _ _ _ _ _ => none) (f_X6_gives_43 k15) FU
set_option maxHeartbeats 4000000 in
set_option maxRecDepth 100000 in
theorem t_X6_gives_43 {RR : St} (X : Cx p s m c cX6_gives RX6 6 d) (hJ : Inj 20 a) (hr : meth.sig.returnType = none) (hlk : meth.locks = false) {k15 : Int32 → Int32 → St → Option (St)} {k43 : Int32 → Int32 → Int32 → Int32 → Int32 → St → Option (St)} (hk15 : ∀ (x1 : Int32) (x2 : Int32) (z : St), k15 x1 x2 z = some RR → WWv wM 20 d a p l e { frames := 5, cells := 0, slots := 0, locals := 120 } s m args below meth c RR z 6 [(0, .ref (a 0)), (1, .int x1), (2, .int x2)] 15 []) (hk43 : ∀ (x1 : Int32) (x2 : Int32) (x3 : Int32) (x4 : Int32) (x5 : Int32) (z : St), k43 x1 x2 x3 x4 x5 z = some RR → WWv wM 20 d a p l e { frames := 5, cells := 0, slots := 0, locals := 120 } s m args below meth c RR z 6 [(0, .ref (a 0)), (1, .int x1), (2, .int x2), (3, .int x3), (4, .int x4), (5, .int x5)] 43 []) : ∀ (x1 : Int32) (x2 : Int32) (x3 : Int32) (x4 : Int32) (x5 : Int32) (z : St), f_X6_gives_43 k15 k43 x1 x2 x3 x4 x5 z = some RR → WWv wM 20 d a p l e { frames := 5, cells := 0, slots := 0, locals := 120 } s m args below meth c RR z 6 [(0, .ref (a 0)), (1, .int x1), (2, .int x2), (3, .int x3), (4, .int x4), (5, .int x5)] 43 [] := by
  intro x1 x2 x3 x4 x5 z hf H locs ls hP hS hl
  obtain ⟨hx, hb, hml, hown, hE⟩ := id X
  unfold f_X6_gives_43 at hf
  refine lv_iload hx hb dX6_gives_43 (lv_at hl 5 rfl) ?_
  refine lv_iconst (v := 1) hx hb dX6_gives_45 (by decide) ?_
  refine lv_aload_n hx hb dX6_gives_46 rfl (lv_at hl 0 rfl) ?_
  refine gf_6_84 hx hb hE hown hP dX6_gives_47 ?_
  refine lv_ishl hx hb dX6_gives_50 ?_
  refine lv_icmp_ge (tgt := 150) hx hb dX6_gives_51 (by decide) (fun q => ?_) (fun q => ?_)
  · have hf := (if_pos q).symm.trans hf
    refine lv_aload_n hx hb dX6_gives_150 rfl (lv_at hl 0 rfl) ?_
    refine gf_6_66 hx hb hE hown hP dX6_gives_151 ?_
    refine lv_iload_n hx hb dX6_gives_154 rfl (lv_at hl 3 rfl) ?_
    refine lv_iload hx hb dX6_gives_155 (lv_at hl 4 rfl) ?_
    obtain ⟨hi, hf⟩ := ck_some hf
    refine st_M_15 hx hb hE hP hJ hS hi dX6_gives_157 (fun H locs hP hS => ?_)
    refine lv_iload_n hx hb dX6_gives_158 rfl (lv_at hl 1 rfl) ?_
    refine lv_iload hx hb dX6_gives_159 (lv_at hl 4 rfl) ?_
    refine lv_ixor hx hb dX6_gives_161 ?_
    refine lv_istore_n (lv' := [(1, .int (x1 ^^^ x4)), (0, .ref (a 0)), (2, .int x2), (3, .int x3), (4, .int x4), (5, .int x5)]) hx hb dX6_gives_162 rfl hl (by decide) rfl (fun ls hl => ?_)
    refine lv_iinc (v := (x2 + (1 : Int32))) (lv' := [(2, .int (x2 + (1 : Int32))), (1, .int (x1 ^^^ x4)), (0, .ref (a 0)), (3, .int x3), (4, .int x4), (5, .int x5)]) hx hb dX6_gives_163 hl (k := 2) rfl rfl (by decide) rfl (fun ls hl => ?_)
    refine lv_goto (tgt := 15) hx hb dX6_gives_166 (by decide) ?_
    exact hk15 (x1 ^^^ x4) (x2 + (1 : Int32)) (pA z 14 x3.toNatClampNeg x4) hf H locs ls hP hS (lv_sub hl [2, 1, 0] rfl)
  · have hf := (if_neg q).symm.trans hf
    refine lv_iload hx hb dX6_gives_54 (lv_at hl 5 rfl) ?_
    refine lv_iload_n hx hb dX6_gives_56 rfl (lv_at hl 1 rfl) ?_
    refine lv_iconst (v := -1) hx hb dX6_gives_57 (by decide) ?_
    refine lv_ixor hx hb dX6_gives_58 ?_
    refine lv_iand hx hb dX6_gives_59 ?_
    refine lv_if_ne (tgt := 144) hx hb dX6_gives_60 (by decide) (fun q => ?_) (fun q => ?_)
    · have hf := (if_neg q).symm.trans hf
      refine lv_iinc (v := (x5 + (1 : Int32))) (lv' := [(5, .int (x5 + (1 : Int32))), (0, .ref (a 0)), (1, .int x1), (2, .int x2), (3, .int x3), (4, .int x4)]) hx hb dX6_gives_144 hl (k := 5) rfl rfl (by decide) rfl (fun ls hl => ?_)
      refine lv_goto (tgt := 43) hx hb dX6_gives_147 (by decide) ?_
      exact hk43 x1 x2 x3 x4 (x5 + (1 : Int32)) z hf H locs ls hP hS (lv_sub hl [1, 2, 3, 4, 5, 0] rfl)
    · have hf := (if_pos q).symm.trans hf
      refine lv_aload_n hx hb dX6_gives_63 rfl (lv_at hl 0 rfl) ?_
      refine gf_6_53 hx hb hE hown hP dX6_gives_64 ?_
      refine lv_sipush (v := 512) hx hb dX6_gives_67 (by decide) ?_
      refine lv_iload_n hx hb dX6_gives_70 rfl (lv_at hl 3 rfl) ?_
      refine lv_imul hx hb dX6_gives_71 ?_
      refine lv_iload hx hb dX6_gives_72 (lv_at hl 5 rfl) ?_
      refine lv_iadd hx hb dX6_gives_74 ?_
      obtain ⟨hi, hf⟩ := ck_some hf
      refine ld_M_11 hx hb hE hP hi dX6_gives_75 ?_
      refine lv_if_ne (tgt := 82) hx hb dX6_gives_76 (by decide) (fun q => ?_) (fun q => ?_)
      · have hf := (if_neg q).symm.trans hf
        refine lv_iload hx hb dX6_gives_82 (lv_at hl 5 rfl) ?_
        obtain ⟨r_1, hc, hf⟩ := bnd hf
        refine rdS X (c_X6_size l d a z x5 hc) (k_X6_129 hE rfl rfl ⟨Nat.le_of_ble_eq_true rfl, Nat.le_of_ble_eq_true rfl⟩) hP rfl hl.1 rfl (Nat.le_of_ble_eq_true rfl) dX6_gives_84 ?_
        refine lv_aload_n hx hb dX6_gives_87 rfl (lv_at hl 0 rfl) ?_
        refine gf_6_57 hx hb hE hown hP dX6_gives_88 ?_
        refine lv_sipush (v := 512) hx hb dX6_gives_91 (by decide) ?_
        refine lv_iload_n hx hb dX6_gives_94 rfl (lv_at hl 2 rfl) ?_
        refine lv_iconst (v := 1) hx hb dX6_gives_95 (by decide) ?_
        refine lv_iadd hx hb dX6_gives_96 ?_
        refine lv_imul hx hb dX6_gives_97 ?_
        refine lv_iload_n hx hb dX6_gives_98 rfl (lv_at hl 1 rfl) ?_
        refine lv_iload hx hb dX6_gives_99 (lv_at hl 5 rfl) ?_
        refine lv_ixor hx hb dX6_gives_101 ?_
        refine lv_iadd hx hb dX6_gives_102 ?_
        obtain ⟨hi, hf⟩ := ck_some hf
        refine ld_M_12 hx hb hE hP hi dX6_gives_103 ?_
        refine lv_iadd hx hb dX6_gives_104 ?_
        refine lv_aload_n hx hb dX6_gives_105 rfl (lv_at hl 0 rfl) ?_
        refine gf_6_57 hx hb hE hown hP dX6_gives_106 ?_
        refine lv_sipush (v := 512) hx hb dX6_gives_109 (by decide) ?_
        refine lv_iload_n hx hb dX6_gives_112 rfl (lv_at hl 2 rfl) ?_
        refine lv_imul hx hb dX6_gives_113 ?_
        refine lv_iload_n hx hb dX6_gives_114 rfl (lv_at hl 1 rfl) ?_
        refine lv_iadd hx hb dX6_gives_115 ?_
        obtain ⟨hi, hf⟩ := ck_some hf
        refine ld_M_12 hx hb hE hP hi dX6_gives_116 ?_
        refine lv_icmp_ge (tgt := 123) hx hb dX6_gives_117 (by decide) (fun q => ?_) (fun q => ?_)
        · have hf := (if_pos q).symm.trans hf
          refine lv_iload hx hb dX6_gives_123 (lv_at hl 4 rfl) ?_
          refine lv_if_lt (tgt := 140) hx hb dX6_gives_125 (by decide) (fun q => ?_) (fun q => ?_)
          · have hf := (if_pos q).symm.trans hf
            refine lv_iload hx hb dX6_gives_140 (lv_at hl 5 rfl) ?_
            refine lv_istore (lv' := [(4, .int x5), (0, .ref (a 0)), (1, .int x1), (2, .int x2), (3, .int x3), (5, .int x5)]) hx hb dX6_gives_142 hl (by decide) rfl (fun ls hl => ?_)
            refine lv_iinc (v := (x5 + (1 : Int32))) (lv' := [(5, .int (x5 + (1 : Int32))), (4, .int x5), (0, .ref (a 0)), (1, .int x1), (2, .int x2), (3, .int x3)]) hx hb dX6_gives_144 hl (k := 5) rfl rfl (by decide) rfl (fun ls hl => ?_)
            refine lv_goto (tgt := 43) hx hb dX6_gives_147 (by decide) ?_
            exact hk43 x1 x2 x3 x5 (x5 + (1 : Int32)) z hf H locs ls hP hS (lv_sub hl [2, 3, 4, 5, 1, 0] rfl)
          · have hf := (if_neg q).symm.trans hf
            refine lv_aload_n hx hb dX6_gives_128 rfl (lv_at hl 0 rfl) ?_
            refine lv_iload_n hx hb dX6_gives_129 rfl (lv_at hl 3 rfl) ?_
            refine lv_iload hx hb dX6_gives_130 (lv_at hl 5 rfl) ?_
            refine lv_iload hx hb dX6_gives_132 (lv_at hl 4 rfl) ?_
            obtain ⟨r_2, hc, hf⟩ := bnd hf
            refine rdV X (c_X6_compares l d a z x3 x5 x4 hc) (k_X6_135 hE rfl rfl ⟨Nat.le_of_ble_eq_true rfl, Nat.le_of_ble_eq_true rfl⟩) hP (va_recv (q := (RX6, TX6, 28)) hE.2 hP (ci := 6) (q0 := 0) rfl rfl) rfl hl.1 rfl (Nat.le_of_ble_eq_true rfl) dX6_gives_134 ?_
            refine lv_if_le (tgt := 144) hx hb dX6_gives_137 (by decide) (fun q => ?_) (fun q => ?_)
            · have hf := (if_pos q).symm.trans hf
              refine lv_iinc (v := (x5 + (1 : Int32))) (lv' := [(5, .int (x5 + (1 : Int32))), (0, .ref (a 0)), (1, .int x1), (2, .int x2), (3, .int x3), (4, .int x4)]) hx hb dX6_gives_144 hl (k := 5) rfl rfl (by decide) rfl (fun ls hl => ?_)
              refine lv_goto (tgt := 43) hx hb dX6_gives_147 (by decide) ?_
              exact hk43 x1 x2 x3 x4 (x5 + (1 : Int32)) z hf H locs ls hP hS (lv_sub hl [1, 2, 3, 4, 5, 0] rfl)
            · have hf := (if_neg q).symm.trans hf
              refine lv_iload hx hb dX6_gives_140 (lv_at hl 5 rfl) ?_
              refine lv_istore (lv' := [(4, .int x5), (0, .ref (a 0)), (1, .int x1), (2, .int x2), (3, .int x3), (5, .int x5)]) hx hb dX6_gives_142 hl (by decide) rfl (fun ls hl => ?_)
              refine lv_iinc (v := (x5 + (1 : Int32))) (lv' := [(5, .int (x5 + (1 : Int32))), (4, .int x5), (0, .ref (a 0)), (1, .int x1), (2, .int x2), (3, .int x3)]) hx hb dX6_gives_144 hl (k := 5) rfl rfl (by decide) rfl (fun ls hl => ?_)
              refine lv_goto (tgt := 43) hx hb dX6_gives_147 (by decide) ?_
              exact hk43 x1 x2 x3 x5 (x5 + (1 : Int32)) z hf H locs ls hP hS (lv_sub hl [2, 3, 4, 5, 1, 0] rfl)
        · have hf := (if_neg q).symm.trans hf
          refine lv_goto (tgt := 144) hx hb dX6_gives_120 (by decide) ?_
          refine lv_iinc (v := (x5 + (1 : Int32))) (lv' := [(5, .int (x5 + (1 : Int32))), (0, .ref (a 0)), (1, .int x1), (2, .int x2), (3, .int x3), (4, .int x4)]) hx hb dX6_gives_144 hl (k := 5) rfl rfl (by decide) rfl (fun ls hl => ?_)
          refine lv_goto (tgt := 43) hx hb dX6_gives_147 (by decide) ?_
          exact hk43 x1 x2 x3 x4 (x5 + (1 : Int32)) z hf H locs ls hP hS (lv_sub hl [1, 2, 3, 4, 5, 0] rfl)
      · have hf := (if_pos q).symm.trans hf
        refine lv_goto (tgt := 144) hx hb dX6_gives_79 (by decide) ?_
        refine lv_iinc (v := (x5 + (1 : Int32))) (lv' := [(5, .int (x5 + (1 : Int32))), (0, .ref (a 0)), (1, .int x1), (2, .int x2), (3, .int x3), (4, .int x4)]) hx hb dX6_gives_144 hl (k := 5) rfl rfl (by decide) rfl (fun ls hl => ?_)
        refine lv_goto (tgt := 43) hx hb dX6_gives_147 (by decide) ?_
        exact hk43 x1 x2 x3 x4 (x5 + (1 : Int32)) z hf H locs ls hP hS (lv_sub hl [1, 2, 3, 4, 5, 0] rfl)
theorem u_X6_gives_43 {RR : St} (X : Cx p s m c cX6_gives RX6 6 d) (hJ : Inj 20 a) (hr : meth.sig.returnType = none) (hlk : meth.locks = false) {k15 : Int32 → Int32 → St → Option (St)} (hk15 : ∀ (x1 : Int32) (x2 : Int32) (z : St), k15 x1 x2 z = some RR → WWv wM 20 d a p l e { frames := 5, cells := 0, slots := 0, locals := 120 } s m args below meth c RR z 6 [(0, .ref (a 0)), (1, .int x1), (2, .int x2)] 15 []) : ∀ (x1 : Int32) (x2 : Int32) (x3 : Int32) (x4 : Int32) (x5 : Int32) (z : St), l_X6_gives_43 k15 x1 x2 x3 x4 x5 z = some RR → WWv wM 20 d a p l e { frames := 5, cells := 0, slots := 0, locals := 120 } s m args below meth c RR z 6 [(0, .ref (a 0)), (1, .int x1), (2, .int x2), (3, .int x3), (4, .int x4), (5, .int x5)] 43 [] := by
  unfold l_X6_gives_43
  generalize FU = n
  induction n with
  | zero => intro x1 x2 x3 x4 x5 z hf; exact absurd (show (none : Option (St)) = some RR from hf) (by simp)
  | succ n ih => exact t_X6_gives_43 X hJ hr hlk hk15 ih
def f_X6_gives_15 (k15 : Int32 → Int32 → St → Option (St)) (x1 : Int32) (x2 : Int32) (z : St) : Option (St) := (if (z.1 1) ≤ x2 then some z else ck 4 x2 (ck 4 (z.2 12 x2.toNatClampNeg) (l_X6_gives_43 k15 x1 x2 (z.2 12 x2.toNatClampNeg) (-1 : Int32) (0 : Int32) (pA z 15 (z.2 12 x2.toNatClampNeg).toNatClampNeg x1))))
def l_X6_gives_15 : Int32 → Int32 → St → Option (St) := iter (fun _ _ _ => none) (f_X6_gives_15) FU
set_option maxHeartbeats 4000000 in
set_option maxRecDepth 100000 in
theorem t_X6_gives_15 {RR : St} (X : Cx p s m c cX6_gives RX6 6 d) (hJ : Inj 20 a) (hr : meth.sig.returnType = none) (hlk : meth.locks = false) {k15 : Int32 → Int32 → St → Option (St)} (hk15 : ∀ (x1 : Int32) (x2 : Int32) (z : St), k15 x1 x2 z = some RR → WWv wM 20 d a p l e { frames := 5, cells := 0, slots := 0, locals := 120 } s m args below meth c RR z 6 [(0, .ref (a 0)), (1, .int x1), (2, .int x2)] 15 []) : ∀ (x1 : Int32) (x2 : Int32) (z : St), f_X6_gives_15 k15 x1 x2 z = some RR → WWv wM 20 d a p l e { frames := 5, cells := 0, slots := 0, locals := 120 } s m args below meth c RR z 6 [(0, .ref (a 0)), (1, .int x1), (2, .int x2)] 15 [] := by
  intro x1 x2 z hf H locs ls hP hS hl
  obtain ⟨hx, hb, hml, hown, hE⟩ := id X
  unfold f_X6_gives_15 at hf
  refine lv_iload_n hx hb dX6_gives_15 rfl (lv_at hl 2 rfl) ?_
  refine lv_aload_n hx hb dX6_gives_16 rfl (lv_at hl 0 rfl) ?_
  refine gf_6_81 hx hb hE hown hP dX6_gives_17 ?_
  refine lv_icmp_ge (tgt := 169) hx hb dX6_gives_20 (by decide) (fun q => ?_) (fun q => ?_)
  · have hf := (if_pos q).symm.trans hf
    obtain rfl := Option.some.inj hf
    exact W.vret hx hb hr (fun t ht _ => ⟨rfl, by rw [ht]; exact hP, hS.F ht⟩) hS.2.2 dX6_gives_169 hlk
  · have hf := (if_neg q).symm.trans hf
    refine lv_aload_n hx hb dX6_gives_23 rfl (lv_at hl 0 rfl) ?_
    refine gf_6_60 hx hb hE hown hP dX6_gives_24 ?_
    refine lv_iload_n hx hb dX6_gives_27 rfl (lv_at hl 2 rfl) ?_
    obtain ⟨hi, hf⟩ := ck_some hf
    refine ld_M_13 hx hb hE hP hi dX6_gives_28 ?_
    refine lv_istore_n (lv' := [(3, .int (z.2 12 x2.toNatClampNeg)), (0, .ref (a 0)), (1, .int x1), (2, .int x2)]) hx hb dX6_gives_29 rfl hl (by decide) rfl (fun ls hl => ?_)
    refine lv_aload_n hx hb dX6_gives_30 rfl (lv_at hl 1 rfl) ?_
    refine gf_6_69 hx hb hE hown hP dX6_gives_31 ?_
    refine lv_iload_n hx hb dX6_gives_34 rfl (lv_at hl 0 rfl) ?_
    refine lv_iload_n hx hb dX6_gives_35 rfl (lv_at hl 2 rfl) ?_
    obtain ⟨hi, hf⟩ := ck_some hf
    refine st_M_16 hx hb hE hP hJ hS hi dX6_gives_36 (fun H locs hP hS => ?_)
    refine lv_iconst (v := -1) hx hb dX6_gives_37 (by decide) ?_
    refine lv_istore (lv' := [(4, .int (-1 : Int32)), (3, .int (z.2 12 x2.toNatClampNeg)), (0, .ref (a 0)), (1, .int x1), (2, .int x2)]) hx hb dX6_gives_38 hl (by decide) rfl (fun ls hl => ?_)
    refine lv_iconst (v := 0) hx hb dX6_gives_40 (by decide) ?_
    refine lv_istore (lv' := [(5, .int (0 : Int32)), (4, .int (-1 : Int32)), (3, .int (z.2 12 x2.toNatClampNeg)), (0, .ref (a 0)), (1, .int x1), (2, .int x2)]) hx hb dX6_gives_41 hl (by decide) rfl (fun ls hl => ?_)
    exact u_X6_gives_43 X hJ hr hlk hk15 x1 x2 (z.2 12 x2.toNatClampNeg) (-1 : Int32) (0 : Int32) (pA z 15 (z.2 12 x2.toNatClampNeg).toNatClampNeg x1) hf H locs ls hP hS (lv_sub hl [3, 4, 5, 2, 1, 0] rfl)
theorem u_X6_gives_15 {RR : St} (X : Cx p s m c cX6_gives RX6 6 d) (hJ : Inj 20 a) (hr : meth.sig.returnType = none) (hlk : meth.locks = false) : ∀ (x1 : Int32) (x2 : Int32) (z : St), l_X6_gives_15 x1 x2 z = some RR → WWv wM 20 d a p l e { frames := 5, cells := 0, slots := 0, locals := 120 } s m args below meth c RR z 6 [(0, .ref (a 0)), (1, .int x1), (2, .int x2)] 15 [] := by
  unfold l_X6_gives_15
  generalize FU = n
  induction n with
  | zero => intro x1 x2 z hf; exact absurd (show (none : Option (St)) = some RR from hf) (by simp)
  | succ n ih => exact t_X6_gives_15 X hJ hr hlk ih
def f_X6_gives (z : St) : Option (St) := (f_X6_covers z).bind (fun r_1 => l_X6_gives_15 (((1 : Int32) <<< ((r_1.1 0) &&& 31)) - (1 : Int32)) (0 : Int32) r_1)
set_option maxHeartbeats 4000000 in
set_option maxRecDepth 100000 in
theorem t_X6_gives {RR : St} (X : Cx p s m c cX6_gives RX6 6 d) (hJ : Inj 20 a) (hr : meth.sig.returnType = none) (hlk : meth.locks = false) : ∀ (z : St), f_X6_gives z = some RR → WWv wM 20 d a p l e { frames := 5, cells := 0, slots := 0, locals := 120 } s m args below meth c RR z 6 [(0, .ref (a 0))] 0 [] := by
  intro z hf H locs ls hP hS hl
  obtain ⟨hx, hb, hml, hown, hE⟩ := id X
  unfold f_X6_gives at hf
  refine lv_aload_n hx hb dX6_gives_0 rfl (lv_at hl 0 rfl) ?_
  obtain ⟨r_1, hc, hf⟩ := bnd hf
  refine wrVv X (c_X6_covers l d a z hc) (k_X6_132 hE rfl rfl ⟨Nat.le_of_ble_eq_true rfl, Nat.le_of_ble_eq_true rfl⟩) hP hJ hS (va_recv (q := (RX6, TX6, 28)) hE.2 hP (ci := 6) (q0 := 0) rfl rfl) rfl hl.1 rfl (Nat.le_of_ble_eq_true rfl) dX6_gives_1 (fun H locs hP hS => ?_)
  refine lv_iconst (v := 1) hx hb dX6_gives_4 (by decide) ?_
  refine lv_aload_n hx hb dX6_gives_5 rfl (lv_at hl 0 rfl) ?_
  refine gf_6_84 hx hb hE hown hP dX6_gives_6 ?_
  refine lv_ishl hx hb dX6_gives_9 ?_
  refine lv_iconst (v := 1) hx hb dX6_gives_10 (by decide) ?_
  refine lv_isub hx hb dX6_gives_11 ?_
  refine lv_istore_n (lv' := [(1, .int (((1 : Int32) <<< ((r_1.1 0) &&& 31)) - (1 : Int32))), (0, .ref (a 0))]) hx hb dX6_gives_12 rfl hl (by decide) rfl (fun ls hl => ?_)
  refine lv_iconst (v := 0) hx hb dX6_gives_13 (by decide) ?_
  refine lv_istore_n (lv' := [(2, .int (0 : Int32)), (1, .int (((1 : Int32) <<< ((r_1.1 0) &&& 31)) - (1 : Int32))), (0, .ref (a 0))]) hx hb dX6_gives_14 rfl hl (by decide) rfl (fun ls hl => ?_)
  exact u_X6_gives_15 X hJ hr hlk (((1 : Int32) <<< ((r_1.1 0) &&& 31)) - (1 : Int32)) (0 : Int32) r_1 hf H locs ls hP hS (lv_sub hl [2, 1, 0] rfl)
set_option maxHeartbeats 4000000 in
set_option maxRecDepth 100000 in
theorem c_X6_gives (l : Launch) (d : G3) (a : Nat → Nat) (z : St) {RR : St} (hf : f_X6_gives z = some RR) : Met l yX6_gives [Cond.code yX6_gives cX6_gives 6 none] { frames := 5, cells := 0, slots := 0, locals := 120 } (wpre wM 20 d a z [.ref (a 0)]) (QV wM 20 d a RR) 0 0 (AD 20 a) := by
  refine Met.ofW (cc := cX6_gives) (maxL := 6) (ret := none) (by decide) rfl ?_
  intro p e s m args below meth c s₁ B hml hv
  obtain ⟨rfl, hE, hP, hJ⟩ := hv
  have X : Cx p s m c cX6_gives RX6 6 d := ⟨B.exec, B.bytes, hml, findClass_of_methodNamed B.named, hE⟩
  have hl := lv_entry ([.ref (a 0)]) (n := 6) (Nat.le_of_ble_eq_true rfl)
  rw [lg_entry_eq]
  generalize (lg_sl ([.ref (a 0)]) ++ List.replicate (6 - (lg_sl ([.ref (a 0)])).length) Slot.unset).toArray = ls at hl ⊢
  have hl : lv_has ls 6 [(0, .ref (a 0))] := hl
  exact t_X6_gives X hJ B.returns B.notSynchronized z hf s.heap [] ls hP va_S.rf hl
def f_X6_byNumbers_2 (k2 : Int32 → St → Option (St)) (x1 : Int32) (z : St) : Option (St) := (if (z.1 1) ≤ x1 then some z else ck 4 x1 (k2 (x1 + (1 : Int32)) (pA z 12 x1.toNatClampNeg x1)))
def l_X6_byNumbers_2 : Int32 → St → Option (St) := iter (fun _ _ => none) (f_X6_byNumbers_2) FU
set_option maxHeartbeats 4000000 in
set_option maxRecDepth 100000 in
theorem t_X6_byNumbers_2 {RR : St} (X : Cx p s m c cX6_byNumbers RX6 2 d) (hJ : Inj 20 a) (hr : meth.sig.returnType = none) (hlk : meth.locks = false) {k2 : Int32 → St → Option (St)} (hk2 : ∀ (x1 : Int32) (z : St), k2 x1 z = some RR → WWv wM 20 d a p l e { frames := 0, cells := 0, slots := 0, locals := 0 } s m args below meth c RR z 2 [(0, .ref (a 0)), (1, .int x1)] 2 []) : ∀ (x1 : Int32) (z : St), f_X6_byNumbers_2 k2 x1 z = some RR → WWv wM 20 d a p l e { frames := 0, cells := 0, slots := 0, locals := 0 } s m args below meth c RR z 2 [(0, .ref (a 0)), (1, .int x1)] 2 [] := by
  intro x1 z hf H locs ls hP hS hl
  obtain ⟨hx, hb, hml, hown, hE⟩ := id X
  unfold f_X6_byNumbers_2 at hf
  refine lv_iload_n hx hb dX6_byNumbers_2 rfl (lv_at hl 1 rfl) ?_
  refine lv_aload_n hx hb dX6_byNumbers_3 rfl (lv_at hl 0 rfl) ?_
  refine gf_6_81 hx hb hE hown hP dX6_byNumbers_4 ?_
  refine lv_icmp_ge (tgt := 23) hx hb dX6_byNumbers_7 (by decide) (fun q => ?_) (fun q => ?_)
  · have hf := (if_pos q).symm.trans hf
    obtain rfl := Option.some.inj hf
    exact W.vret hx hb hr (fun t ht _ => ⟨rfl, by rw [ht]; exact hP, hS.F ht⟩) hS.2.2 dX6_byNumbers_23 hlk
  · have hf := (if_neg q).symm.trans hf
    refine lv_aload_n hx hb dX6_byNumbers_10 rfl (lv_at hl 0 rfl) ?_
    refine gf_6_60 hx hb hE hown hP dX6_byNumbers_11 ?_
    refine lv_iload_n hx hb dX6_byNumbers_14 rfl (lv_at hl 1 rfl) ?_
    refine lv_iload_n hx hb dX6_byNumbers_15 rfl (lv_at hl 1 rfl) ?_
    obtain ⟨hi, hf⟩ := ck_some hf
    refine st_M_13 hx hb hE hP hJ hS hi dX6_byNumbers_16 (fun H locs hP hS => ?_)
    refine lv_iinc (v := (x1 + (1 : Int32))) (lv' := [(1, .int (x1 + (1 : Int32))), (0, .ref (a 0))]) hx hb dX6_byNumbers_17 hl (k := 1) rfl rfl (by decide) rfl (fun ls hl => ?_)
    refine lv_goto (tgt := 2) hx hb dX6_byNumbers_20 (by decide) ?_
    exact hk2 (x1 + (1 : Int32)) (pA z 12 x1.toNatClampNeg x1) hf H locs ls hP hS (lv_sub hl [1, 0] rfl)
theorem u_X6_byNumbers_2 {RR : St} (X : Cx p s m c cX6_byNumbers RX6 2 d) (hJ : Inj 20 a) (hr : meth.sig.returnType = none) (hlk : meth.locks = false) : ∀ (x1 : Int32) (z : St), l_X6_byNumbers_2 x1 z = some RR → WWv wM 20 d a p l e { frames := 0, cells := 0, slots := 0, locals := 0 } s m args below meth c RR z 2 [(0, .ref (a 0)), (1, .int x1)] 2 [] := by
  unfold l_X6_byNumbers_2
  generalize FU = n
  induction n with
  | zero => intro x1 z hf; exact absurd (show (none : Option (St)) = some RR from hf) (by simp)
  | succ n ih => exact t_X6_byNumbers_2 X hJ hr hlk ih
def f_X6_byNumbers (z : St) : Option (St) := l_X6_byNumbers_2 (0 : Int32) z
set_option maxHeartbeats 4000000 in
set_option maxRecDepth 100000 in
theorem t_X6_byNumbers {RR : St} (X : Cx p s m c cX6_byNumbers RX6 2 d) (hJ : Inj 20 a) (hr : meth.sig.returnType = none) (hlk : meth.locks = false) : ∀ (z : St), f_X6_byNumbers z = some RR → WWv wM 20 d a p l e { frames := 0, cells := 0, slots := 0, locals := 0 } s m args below meth c RR z 2 [(0, .ref (a 0))] 0 [] := by
  intro z hf H locs ls hP hS hl
  obtain ⟨hx, hb, hml, hown, hE⟩ := id X
  unfold f_X6_byNumbers at hf
  refine lv_iconst (v := 0) hx hb dX6_byNumbers_0 (by decide) ?_
  refine lv_istore_n (lv' := [(1, .int (0 : Int32)), (0, .ref (a 0))]) hx hb dX6_byNumbers_1 rfl hl (by decide) rfl (fun ls hl => ?_)
  exact u_X6_byNumbers_2 X hJ hr hlk (0 : Int32) z hf H locs ls hP hS (lv_sub hl [1, 0] rfl)
set_option maxHeartbeats 4000000 in
set_option maxRecDepth 100000 in
theorem c_X6_byNumbers (l : Launch) (d : G3) (a : Nat → Nat) (z : St) {RR : St} (hf : f_X6_byNumbers z = some RR) : Met l yX6_byNumbers [Cond.code yX6_byNumbers cX6_byNumbers 2 none] { frames := 0, cells := 0, slots := 0, locals := 0 } (wpre wM 20 d a z [.ref (a 0)]) (QV wM 20 d a RR) 0 0 (AD 20 a) := by
  refine Met.ofW (cc := cX6_byNumbers) (maxL := 2) (ret := none) (by decide) rfl ?_
  intro p e s m args below meth c s₁ B hml hv
  obtain ⟨rfl, hE, hP, hJ⟩ := hv
  have X : Cx p s m c cX6_byNumbers RX6 2 d := ⟨B.exec, B.bytes, hml, findClass_of_methodNamed B.named, hE⟩
  have hl := lv_entry ([.ref (a 0)]) (n := 2) (Nat.le_of_ble_eq_true rfl)
  rw [lg_entry_eq]
  generalize (lg_sl ([.ref (a 0)]) ++ List.replicate (2 - (lg_sl ([.ref (a 0)])).length) Slot.unset).toArray = ls at hl ⊢
  have hl : lv_has ls 2 [(0, .ref (a 0))] := hl
  exact t_X6_byNumbers X hJ B.returns B.notSynchronized z hf s.heap [] ls hP va_S.rf hl
def f_X6_why (z : St) (x1 : Int32) (x2 : Int32) : Option (Int32) := (f_X6_isPerson z x1).bind (fun r_1 => (if r_1 = (0 : Int32) then some (-1 : Int32) else (f_X6_isSet z x2).bind (fun r_2 => (if r_2 = (0 : Int32) then some (-2 : Int32) else (f_X6_whyNot z x1 x2).bind (fun r_3 => some r_3)))))
set_option maxHeartbeats 4000000 in
set_option maxRecDepth 100000 in
theorem t_X6_why {RR : Int32} (X : Cx p s m c cX6_why RX6 3 d) {z : St} (hP : va_P d.1 classes (wM d a z) s.heap) (hr : meth.sig.returnType = (some .int)) (hlk : meth.locks = false) : ∀ (x1 : Int32) (x2 : Int32), f_X6_why z x1 x2 = some RR → WRd p l e { frames := 3, cells := 0, slots := 0, locals := 71 } s m args below meth c RR 3 [(0, .ref (a 0)), (1, .int x1), (2, .int x2)] 0 [] := by
  intro x1 x2 hf ls hl
  obtain ⟨hx, hb, hml, hown, hE⟩ := id X
  unfold f_X6_why at hf
  refine lv_aload_n hx hb dX6_why_0 rfl (lv_at hl 0 rfl) ?_
  refine lv_iload_n hx hb dX6_why_1 rfl (lv_at hl 1 rfl) ?_
  obtain ⟨r_1, hc, hf⟩ := bnd hf
  refine rdV X (c_X6_isPerson l d a z x1 hc) (k_X6_101 hE rfl rfl ⟨Nat.le_of_ble_eq_true rfl, Nat.le_of_ble_eq_true rfl⟩) hP (va_recv (q := (RX6, TX6, 28)) hE.2 hP (ci := 6) (q0 := 0) rfl rfl) rfl hl.1 rfl (Nat.le_of_ble_eq_true rfl) dX6_why_2 ?_
  refine lv_if_ne (tgt := 10) hx hb dX6_why_5 (by decide) (fun q => ?_) (fun q => ?_)
  · have hf := (if_neg q).symm.trans hf
    refine lv_aload_n hx hb dX6_why_10 rfl (lv_at hl 0 rfl) ?_
    refine lv_iload_n hx hb dX6_why_11 rfl (lv_at hl 2 rfl) ?_
    obtain ⟨r_2, hc, hf⟩ := bnd hf
    refine rdV X (c_X6_isSet l d a z x2 hc) (k_X6_139 hE rfl rfl ⟨Nat.le_of_ble_eq_true rfl, Nat.le_of_ble_eq_true rfl⟩) hP (va_recv (q := (RX6, TX6, 28)) hE.2 hP (ci := 6) (q0 := 0) rfl rfl) rfl hl.1 rfl (Nat.le_of_ble_eq_true rfl) dX6_why_12 ?_
    refine lv_if_eq (tgt := 27) hx hb dX6_why_15 (by decide) (fun q => ?_) (fun q => ?_)
    · have hf := (if_pos q).symm.trans hf
      refine lv_bipush (v := -2) hx hb dX6_why_27 (by decide) ?_
      obtain rfl := Option.some.inj hf
      exact W.iret hx hb hr (fun t ht _ => ⟨rfl, ht⟩) (fun _ h => nomatch h) dX6_why_29 hlk
    · have hf := (if_neg q).symm.trans hf
      refine lv_aload_n hx hb dX6_why_18 rfl (lv_at hl 0 rfl) ?_
      refine lv_iload_n hx hb dX6_why_19 rfl (lv_at hl 1 rfl) ?_
      refine lv_iload_n hx hb dX6_why_20 rfl (lv_at hl 2 rfl) ?_
      obtain ⟨r_3, hc, hf⟩ := bnd hf
      refine rdV X (c_X6_whyNot l d a z x1 x2 hc) (k_X6_123 hE rfl rfl ⟨Nat.le_of_ble_eq_true rfl, Nat.le_of_ble_eq_true rfl⟩) hP (va_recv (q := (RX6, TX6, 28)) hE.2 hP (ci := 6) (q0 := 0) rfl rfl) rfl hl.1 rfl (Nat.le_of_ble_eq_true rfl) dX6_why_21 ?_
      refine lv_goto (tgt := 29) hx hb dX6_why_24 (by decide) ?_
      obtain rfl := Option.some.inj hf
      exact W.iret hx hb hr (fun t ht _ => ⟨rfl, ht⟩) (fun _ h => nomatch h) dX6_why_29 hlk
  · have hf := (if_pos q).symm.trans hf
    refine lv_iconst (v := -1) hx hb dX6_why_8 (by decide) ?_
    obtain rfl := Option.some.inj hf
    exact W.iret hx hb hr (fun t ht _ => ⟨rfl, ht⟩) (fun _ h => nomatch h) dX6_why_9 hlk
set_option maxHeartbeats 4000000 in
set_option maxRecDepth 100000 in
theorem c_X6_why (l : Launch) (d : G3) (a : Nat → Nat) (z : St) (x1 : Int32) (x2 : Int32) {RR : Int32} (hf : f_X6_why z x1 x2 = some RR) : Met l yX6_why [Cond.code yX6_why cX6_why 3 (some .int)] { frames := 3, cells := 0, slots := 0, locals := 71 } (rpre wM d a z [.ref (a 0), .int x1, .int x2]) (QcRead RR) 0 0 (fun _ => False) := by
  refine Met.ofW (cc := cX6_why) (maxL := 3) (ret := (some .int)) (by decide) rfl ?_
  intro p e s m args below meth c s₁ B hml hv
  obtain ⟨rfl, hE, hP⟩ := hv
  have X : Cx p s m c cX6_why RX6 3 d := ⟨B.exec, B.bytes, hml, findClass_of_methodNamed B.named, hE⟩
  have hl := lv_entry ([.ref (a 0), .int x1, .int x2]) (n := 3) (Nat.le_of_ble_eq_true rfl)
  rw [lg_entry_eq]
  generalize (lg_sl ([.ref (a 0), .int x1, .int x2]) ++ List.replicate (3 - (lg_sl ([.ref (a 0), .int x1, .int x2])).length) Slot.unset).toArray = ls at hl ⊢
  have hl : lv_has ls 3 [(0, .ref (a 0)), (1, .int x1), (2, .int x2)] := hl
  exact t_X6_why X hP B.returns B.notSynchronized x1 x2 hf ls hl
def f_X6_meets (z : St) (x1 : Int32) (x2 : Int32) (x3 : Int32) : Option (Int32) := (f_X6_isPerson z x1).bind (fun r_1 => (if r_1 = (0 : Int32) then some (-1 : Int32) else (if x2 < (0 : Int32) then some (-1 : Int32) else ck 4 x1 ((if x2 < (z.2 7 x1.toNatClampNeg) then (f_X6_isSet z x3).bind (fun r_2 => (if r_2 = (0 : Int32) then some (-2 : Int32) else (f_X6_isMet z x1 x2 x3).bind (fun r_3 => (if r_3 = (0 : Int32) then some (0 : Int32) else some (1 : Int32))))) else some (-1 : Int32))))))
set_option maxHeartbeats 4000000 in
set_option maxRecDepth 100000 in
theorem t_X6_meets {RR : Int32} (X : Cx p s m c cX6_meets RX6 4 d) {z : St} (hP : va_P d.1 classes (wM d a z) s.heap) (hr : meth.sig.returnType = (some .int)) (hlk : meth.locks = false) : ∀ (x1 : Int32) (x2 : Int32) (x3 : Int32), f_X6_meets z x1 x2 x3 = some RR → WRd p l e { frames := 3, cells := 0, slots := 0, locals := 70 } s m args below meth c RR 4 [(0, .ref (a 0)), (1, .int x1), (2, .int x2), (3, .int x3)] 0 [] := by
  intro x1 x2 x3 hf ls hl
  obtain ⟨hx, hb, hml, hown, hE⟩ := id X
  unfold f_X6_meets at hf
  refine lv_aload_n hx hb dX6_meets_0 rfl (lv_at hl 0 rfl) ?_
  refine lv_iload_n hx hb dX6_meets_1 rfl (lv_at hl 1 rfl) ?_
  obtain ⟨r_1, hc, hf⟩ := bnd hf
  refine rdV X (c_X6_isPerson l d a z x1 hc) (k_X6_101 hE rfl rfl ⟨Nat.le_of_ble_eq_true rfl, Nat.le_of_ble_eq_true rfl⟩) hP (va_recv (q := (RX6, TX6, 28)) hE.2 hP (ci := 6) (q0 := 0) rfl rfl) rfl hl.1 rfl (Nat.le_of_ble_eq_true rfl) dX6_meets_2 ?_
  refine lv_if_eq (tgt := 22) hx hb dX6_meets_5 (by decide) (fun q => ?_) (fun q => ?_)
  · have hf := (if_pos q).symm.trans hf
    refine lv_iconst (v := -1) hx hb dX6_meets_22 (by decide) ?_
    obtain rfl := Option.some.inj hf
    exact W.iret hx hb hr (fun t ht _ => ⟨rfl, ht⟩) (fun _ h => nomatch h) dX6_meets_23 hlk
  · have hf := (if_neg q).symm.trans hf
    refine lv_iload_n hx hb dX6_meets_8 rfl (lv_at hl 2 rfl) ?_
    refine lv_if_lt (tgt := 22) hx hb dX6_meets_9 (by decide) (fun q => ?_) (fun q => ?_)
    · have hf := (if_pos q).symm.trans hf
      refine lv_iconst (v := -1) hx hb dX6_meets_22 (by decide) ?_
      obtain rfl := Option.some.inj hf
      exact W.iret hx hb hr (fun t ht _ => ⟨rfl, ht⟩) (fun _ h => nomatch h) dX6_meets_23 hlk
    · have hf := (if_neg q).symm.trans hf
      refine lv_iload_n hx hb dX6_meets_12 rfl (lv_at hl 2 rfl) ?_
      refine lv_aload_n hx hb dX6_meets_13 rfl (lv_at hl 0 rfl) ?_
      refine gf_6_31 hx hb hE hown hP dX6_meets_14 ?_
      refine lv_iload_n hx hb dX6_meets_17 rfl (lv_at hl 1 rfl) ?_
      obtain ⟨hi, hf⟩ := ck_some hf
      refine ld_M_8 hx hb hE hP hi dX6_meets_18 ?_
      refine lv_icmp_lt (tgt := 24) hx hb dX6_meets_19 (by decide) (fun q => ?_) (fun q => ?_)
      · have hf := (if_pos q).symm.trans hf
        refine lv_aload_n hx hb dX6_meets_24 rfl (lv_at hl 0 rfl) ?_
        refine lv_iload_n hx hb dX6_meets_25 rfl (lv_at hl 3 rfl) ?_
        obtain ⟨r_2, hc, hf⟩ := bnd hf
        refine rdV X (c_X6_isSet l d a z x3 hc) (k_X6_139 hE rfl rfl ⟨Nat.le_of_ble_eq_true rfl, Nat.le_of_ble_eq_true rfl⟩) hP (va_recv (q := (RX6, TX6, 28)) hE.2 hP (ci := 6) (q0 := 0) rfl rfl) rfl hl.1 rfl (Nat.le_of_ble_eq_true rfl) dX6_meets_26 ?_
        refine lv_if_ne (tgt := 37) hx hb dX6_meets_29 (by decide) (fun q => ?_) (fun q => ?_)
        · have hf := (if_neg q).symm.trans hf
          refine lv_aload_n hx hb dX6_meets_37 rfl (lv_at hl 0 rfl) ?_
          refine lv_iload_n hx hb dX6_meets_38 rfl (lv_at hl 1 rfl) ?_
          refine lv_iload_n hx hb dX6_meets_39 rfl (lv_at hl 2 rfl) ?_
          refine lv_iload_n hx hb dX6_meets_40 rfl (lv_at hl 3 rfl) ?_
          obtain ⟨r_3, hc, hf⟩ := bnd hf
          refine rdV X (c_X6_isMet l d a z x1 x2 x3 hc) (k_X6_119 hE rfl rfl ⟨Nat.le_of_ble_eq_true rfl, Nat.le_of_ble_eq_true rfl⟩) hP (va_recv (q := (RX6, TX6, 28)) hE.2 hP (ci := 6) (q0 := 0) rfl rfl) rfl hl.1 rfl (Nat.le_of_ble_eq_true rfl) dX6_meets_41 ?_
          refine lv_if_eq (tgt := 51) hx hb dX6_meets_44 (by decide) (fun q => ?_) (fun q => ?_)
          · have hf := (if_pos q).symm.trans hf
            refine lv_iconst (v := 0) hx hb dX6_meets_51 (by decide) ?_
            obtain rfl := Option.some.inj hf
            exact W.iret hx hb hr (fun t ht _ => ⟨rfl, ht⟩) (fun _ h => nomatch h) dX6_meets_52 hlk
          · have hf := (if_neg q).symm.trans hf
            refine lv_iconst (v := 1) hx hb dX6_meets_47 (by decide) ?_
            refine lv_goto (tgt := 52) hx hb dX6_meets_48 (by decide) ?_
            obtain rfl := Option.some.inj hf
            exact W.iret hx hb hr (fun t ht _ => ⟨rfl, ht⟩) (fun _ h => nomatch h) dX6_meets_52 hlk
        · have hf := (if_pos q).symm.trans hf
          refine lv_bipush (v := -2) hx hb dX6_meets_32 (by decide) ?_
          refine lv_goto (tgt := 52) hx hb dX6_meets_34 (by decide) ?_
          obtain rfl := Option.some.inj hf
          exact W.iret hx hb hr (fun t ht _ => ⟨rfl, ht⟩) (fun _ h => nomatch h) dX6_meets_52 hlk
      · have hf := (if_neg q).symm.trans hf
        refine lv_iconst (v := -1) hx hb dX6_meets_22 (by decide) ?_
        obtain rfl := Option.some.inj hf
        exact W.iret hx hb hr (fun t ht _ => ⟨rfl, ht⟩) (fun _ h => nomatch h) dX6_meets_23 hlk
set_option maxHeartbeats 4000000 in
set_option maxRecDepth 100000 in
theorem c_X6_meets (l : Launch) (d : G3) (a : Nat → Nat) (z : St) (x1 : Int32) (x2 : Int32) (x3 : Int32) {RR : Int32} (hf : f_X6_meets z x1 x2 x3 = some RR) : Met l yX6_meets [Cond.code yX6_meets cX6_meets 4 (some .int)] { frames := 3, cells := 0, slots := 0, locals := 70 } (rpre wM d a z [.ref (a 0), .int x1, .int x2, .int x3]) (QcRead RR) 0 0 (fun _ => False) := by
  refine Met.ofW (cc := cX6_meets) (maxL := 4) (ret := (some .int)) (by decide) rfl ?_
  intro p e s m args below meth c s₁ B hml hv
  obtain ⟨rfl, hE, hP⟩ := hv
  have X : Cx p s m c cX6_meets RX6 4 d := ⟨B.exec, B.bytes, hml, findClass_of_methodNamed B.named, hE⟩
  have hl := lv_entry ([.ref (a 0), .int x1, .int x2, .int x3]) (n := 4) (Nat.le_of_ble_eq_true rfl)
  rw [lg_entry_eq]
  generalize (lg_sl ([.ref (a 0), .int x1, .int x2, .int x3]) ++ List.replicate (4 - (lg_sl ([.ref (a 0), .int x1, .int x2, .int x3])).length) Slot.unset).toArray = ls at hl ⊢
  have hl : lv_has ls 4 [(0, .ref (a 0)), (1, .int x1), (2, .int x2), (3, .int x3)] := hl
  exact t_X6_meets X hP B.returns B.notSynchronized x1 x2 x3 hf ls hl
end GEN
