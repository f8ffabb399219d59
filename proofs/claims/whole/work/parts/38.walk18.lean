section GEN
variable {p : Program} {l : Launch} {e : Env} {s : State} {m : MethodId} {args : Array Value} {below : List Frame} {meth : Method} {c : Code} {d : G3} {a : Nat → Nat}
def f_X6_covers_139 (k47 : Int32 → Int32 → St → Option (St)) (k53 : Int32 → Int32 → Int32 → St → Option (St)) (k67 : Int32 → Int32 → Int32 → Int32 → Int32 → Int32 → St → Option (St)) (x1 : Int32) (x2 : Int32) (x3 : Int32) (x4 : Int32) (x5 : Int32) (s0 : Int32) (z : St) : Option (St) := k67 x1 x2 x3 x4 ((x5 - (1 : Int32)) &&& x3) s0 z
set_option maxHeartbeats 4000000 in
set_option maxRecDepth 100000 in
theorem t_X6_covers_139 {RR : St} (X : Cx p s m c cX6_covers RX6 8 d) (hJ : Inj 20 a) (hr : meth.sig.returnType = none) (hlk : meth.locks = false) {k47 : Int32 → Int32 → St → Option (St)} {k53 : Int32 → Int32 → Int32 → St → Option (St)} {k67 : Int32 → Int32 → Int32 → Int32 → Int32 → Int32 → St → Option (St)} (hk47 : ∀ (x1 : Int32) (x2 : Int32) (z : St), k47 x1 x2 z = some RR → WWv wM 20 d a p l e { frames := 4, cells := 0, slots := 0, locals := 93 } s m args below meth c RR z 8 [(0, .ref (a 0)), (1, .int x1), (2, .int x2)] 47 []) (hk53 : ∀ (x1 : Int32) (x2 : Int32) (x3 : Int32) (z : St), k53 x1 x2 x3 z = some RR → WWv wM 20 d a p l e { frames := 4, cells := 0, slots := 0, locals := 93 } s m args below meth c RR z 8 [(0, .ref (a 0)), (1, .int x1), (2, .int x2), (3, .int x3)] 53 []) (hk67 : ∀ (x1 : Int32) (x2 : Int32) (x3 : Int32) (x4 : Int32) (x5 : Int32) (x6 : Int32) (z : St), k67 x1 x2 x3 x4 x5 x6 z = some RR → WWv wM 20 d a p l e { frames := 4, cells := 0, slots := 0, locals := 93 } s m args below meth c RR z 8 [(0, .ref (a 0)), (1, .int x1), (2, .int x2), (3, .int x3), (4, .int x4), (5, .int x5), (6, .int x6)] 67 []) : ∀ (x1 : Int32) (x2 : Int32) (x3 : Int32) (x4 : Int32) (x5 : Int32) (s0 : Int32) (z : St), f_X6_covers_139 k47 k53 k67 x1 x2 x3 x4 x5 s0 z = some RR → WWv wM 20 d a p l e { frames := 4, cells := 0, slots := 0, locals := 93 } s m args below meth c RR z 8 [(0, .ref (a 0)), (1, .int x1), (2, .int x2), (3, .int x3), (4, .int x4), (5, .int x5)] 139 [.int s0] := by
  intro x1 x2 x3 x4 x5 s0 z hf H locs ls hP hS hl
  obtain ⟨hx, hb, hml, hown, hE⟩ := id X
  unfold f_X6_covers_139 at hf
  refine lv_istore (lv' := [(6, .int s0), (0, .ref (a 0)), (1, .int x1), (2, .int x2), (3, .int x3), (4, .int x4), (5, .int x5)]) hx hb dX6_covers_139 hl (by decide) rfl (fun ls hl => ?_)
  refine lv_iload hx hb dX6_covers_141 (lv_at hl 6 rfl) ?_
  refine lv_iconst (v := 1) hx hb dX6_covers_143 (by decide) ?_
  refine lv_isub hx hb dX6_covers_144 ?_
  refine lv_iload_n hx hb dX6_covers_145 rfl (lv_at hl 4 rfl) ?_
  refine lv_iand hx hb dX6_covers_146 ?_
  refine lv_istore (lv' := [(5, .int ((x5 - (1 : Int32)) &&& x3)), (6, .int s0), (0, .ref (a 0)), (1, .int x1), (2, .int x2), (3, .int x3), (4, .int x4)]) hx hb dX6_covers_147 hl (by decide) rfl (fun ls hl => ?_)
  refine lv_goto (tgt := 67) hx hb dX6_covers_149 (by decide) ?_
  exact hk67 x1 x2 x3 x4 ((x5 - (1 : Int32)) &&& x3) s0 z hf H locs ls hP hS (lv_sub hl [2, 3, 4, 5, 6, 0, 1] rfl)
def f_X6_covers_67 (k47 : Int32 → Int32 → St → Option (St)) (k53 : Int32 → Int32 → Int32 → St → Option (St)) (k67 : Int32 → Int32 → Int32 → Int32 → Int32 → Int32 → St → Option (St)) (x1 : Int32) (x2 : Int32) (x3 : Int32) (x4 : Int32) (x5 : Int32) (x6 : Int32) (z : St) : Option (St) := (if x6 = (0 : Int32) then ck 2560 (((512 : Int32) * x2) + x3) (k53 x1 x2 (x3 + (1 : Int32)) (pA z 11 (((512 : Int32) * x2) + x3).toNatClampNeg x4)) else ck 4 x2 (ck 2048 (((512 : Int32) * (z.2 12 x2.toNatClampNeg)) + x5) ((if (z.2 10 (((512 : Int32) * (z.2 12 x2.toNatClampNeg)) + x5).toNatClampNeg) = (0 : Int32) then (if x5 ≤ (0 : Int32) then f_X6_covers_139 k47 k53 k67 x1 x2 x3 x4 x5 (0 : Int32) z else f_X6_covers_139 k47 k53 k67 x1 x2 x3 x4 x5 (1 : Int32) z) else (f_X6_size z x5).bind (fun r_1 => ck 2560 (((512 : Int32) * (x2 + (1 : Int32))) + (x3 ^^^ x5)) ((if (r_1 + (z.2 11 (((512 : Int32) * (x2 + (1 : Int32))) + (x3 ^^^ x5)).toNatClampNeg)) ≤ x4 then (if x5 ≤ (0 : Int32) then f_X6_covers_139 k47 k53 k67 x1 x2 x3 x4 x5 (0 : Int32) z else f_X6_covers_139 k47 k53 k67 x1 x2 x3 x4 x5 (1 : Int32) z) else (if x5 ≤ (0 : Int32) then f_X6_covers_139 k47 k53 k67 x1 x2 x3 (r_1 + (z.2 11 (((512 : Int32) * (x2 + (1 : Int32))) + (x3 ^^^ x5)).toNatClampNeg)) x5 (0 : Int32) z else f_X6_covers_139 k47 k53 k67 x1 x2 x3 (r_1 + (z.2 11 (((512 : Int32) * (x2 + (1 : Int32))) + (x3 ^^^ x5)).toNatClampNeg)) x5 (1 : Int32) z))))))))
def l_X6_covers_67 (k47 : Int32 → Int32 → St → Option (St)) (k53 : Int32 → Int32 → Int32 → St → Option (St)) : Int32 → Int32 → Int32 → Int32 → Int32 → Int32 → St → Option (St) := iter (fun _ _ _ _ _ _ _ => none) (f_X6_covers_67 k47 k53) FU
set_option maxHeartbeats 4000000 in
set_option maxRecDepth 100000 in
theorem t_X6_covers_67 {RR : St} (X : Cx p s m c cX6_covers RX6 8 d) (hJ : Inj 20 a) (hr : meth.sig.returnType = none) (hlk : meth.locks = false) {k47 : Int32 → Int32 → St → Option (St)} {k53 : Int32 → Int32 → Int32 → St → Option (St)} {k67 : Int32 → Int32 → Int32 → Int32 → Int32 → Int32 → St → Option (St)} (hk47 : ∀ (x1 : Int32) (x2 : Int32) (z : St), k47 x1 x2 z = some RR → WWv wM 20 d a p l e { frames := 4, cells := 0, slots := 0, locals := 93 } s m args below meth c RR z 8 [(0, .ref (a 0)), (1, .int x1), (2, .int x2)] 47 []) (hk53 : ∀ (x1 : Int32) (x2 : Int32) (x3 : Int32) (z : St), k53 x1 x2 x3 z = some RR → WWv wM 20 d a p l e { frames := 4, cells := 0, slots := 0, locals := 93 } s m args below meth c RR z 8 [(0, .ref (a 0)), (1, .int x1), (2, .int x2), (3, .int x3)] 53 []) (hk67 : ∀ (x1 : Int32) (x2 : Int32) (x3 : Int32) (x4 : Int32) (x5 : Int32) (x6 : Int32) (z : St), k67 x1 x2 x3 x4 x5 x6 z = some RR → WWv wM 20 d a p l e { frames := 4, cells := 0, slots := 0, locals := 93 } s m args below meth c RR z 8 [(0, .ref (a 0)), (1, .int x1), (2, .int x2), (3, .int x3), (4, .int x4), (5, .int x5), (6, .int x6)] 67 []) : ∀ (x1 : Int32) (x2 : Int32) (x3 : Int32) (x4 : Int32) (x5 : Int32) (x6 : Int32) (z : St), f_X6_covers_67 k47 k53 k67 x1 x2 x3 x4 x5 x6 z = some RR → WWv wM 20 d a p l e { frames := 4, cells := 0, slots := 0, locals := 93 } s m args below meth c RR z 8 [(0, .ref (a 0)), (1, .int x1), (2, .int x2), (3, .int x3), (4, .int x4), (5, .int x5), (6, .int x6)] 67 [] := by
  intro x1 x2 x3 x4 x5 x6 z hf H locs ls hP hS hl
  obtain ⟨hx, hb, hml, hown, hE⟩ := id X
  unfold f_X6_covers_67 at hf
  refine lv_iload hx hb dX6_covers_67 (lv_at hl 6 rfl) ?_
  refine lv_if_eq (tgt := 152) hx hb dX6_covers_69 (by decide) (fun q => ?_) (fun q => ?_)
  · have hf := (if_pos q).symm.trans hf
    refine lv_aload_n hx hb dX6_covers_152 rfl (lv_at hl 0 rfl) ?_
    refine gf_6_57 hx hb hE hown hP dX6_covers_153 ?_
    refine lv_sipush (v := 512) hx hb dX6_covers_156 (by decide) ?_
    refine lv_iload_n hx hb dX6_covers_159 rfl (lv_at hl 2 rfl) ?_
    refine lv_imul hx hb dX6_covers_160 ?_
    refine lv_iload_n hx hb dX6_covers_161 rfl (lv_at hl 3 rfl) ?_
    refine lv_iadd hx hb dX6_covers_162 ?_
    refine lv_iload hx hb dX6_covers_163 (lv_at hl 4 rfl) ?_
    obtain ⟨hi, hf⟩ := ck_some hf
    refine st_M_12 hx hb hE hP hJ hS hi dX6_covers_165 (fun H locs hP hS => ?_)
    refine lv_iinc (v := (x3 + (1 : Int32))) (lv' := [(3, .int (x3 + (1 : Int32))), (0, .ref (a 0)), (1, .int x1), (2, .int x2), (4, .int x4), (5, .int x5), (6, .int x6)]) hx hb dX6_covers_166 hl (k := 3) rfl rfl (by decide) rfl (fun ls hl => ?_)
    refine lv_goto (tgt := 53) hx hb dX6_covers_169 (by decide) ?_
    exact hk53 x1 x2 (x3 + (1 : Int32)) (pA z 11 (((512 : Int32) * x2) + x3).toNatClampNeg x4) hf H locs ls hP hS (lv_sub hl [1, 2, 3, 0] rfl)
  · have hf := (if_neg q).symm.trans hf
    refine lv_aload_n hx hb dX6_covers_72 rfl (lv_at hl 0 rfl) ?_
    refine gf_6_53 hx hb hE hown hP dX6_covers_73 ?_
    refine lv_sipush (v := 512) hx hb dX6_covers_76 (by decide) ?_
    refine lv_aload_n hx hb dX6_covers_79 rfl (lv_at hl 0 rfl) ?_
    refine gf_6_60 hx hb hE hown hP dX6_covers_80 ?_
    refine lv_iload_n hx hb dX6_covers_83 rfl (lv_at hl 2 rfl) ?_
    obtain ⟨hi, hf⟩ := ck_some hf
    refine ld_M_13 hx hb hE hP hi dX6_covers_84 ?_
    refine lv_imul hx hb dX6_covers_85 ?_
    refine lv_iload hx hb dX6_covers_86 (lv_at hl 5 rfl) ?_
    refine lv_iadd hx hb dX6_covers_88 ?_
    obtain ⟨hi, hf⟩ := ck_some hf
    refine ld_M_11 hx hb hE hP hi dX6_covers_89 ?_
    refine lv_if_eq (tgt := 129) hx hb dX6_covers_90 (by decide) (fun q => ?_) (fun q => ?_)
    · have hf := (if_pos q).symm.trans hf
      refine lv_iload hx hb dX6_covers_129 (lv_at hl 5 rfl) ?_
      refine lv_if_le (tgt := 138) hx hb dX6_covers_131 (by decide) (fun q => ?_) (fun q => ?_)
      · have hf := (if_pos q).symm.trans hf
        refine lv_iconst (v := 0) hx hb dX6_covers_138 (by decide) ?_
        exact t_X6_covers_139 X hJ hr hlk hk47 hk53 hk67 x1 x2 x3 x4 x5 (0 : Int32) z hf H locs ls hP hS (lv_sub hl [0, 1, 2, 3, 4, 5] rfl)
      · have hf := (if_neg q).symm.trans hf
        refine lv_iconst (v := 1) hx hb dX6_covers_134 (by decide) ?_
        refine lv_goto (tgt := 139) hx hb dX6_covers_135 (by decide) ?_
        exact t_X6_covers_139 X hJ hr hlk hk47 hk53 hk67 x1 x2 x3 x4 x5 (1 : Int32) z hf H locs ls hP hS (lv_sub hl [0, 1, 2, 3, 4, 5] rfl)
    · have hf := (if_neg q).symm.trans hf
      refine lv_iload hx hb dX6_covers_93 (lv_at hl 5 rfl) ?_
      obtain ⟨r_1, hc, hf⟩ := bnd hf
      refine rdS X (c_X6_size l d a z x5 hc) (k_X6_129 hE rfl rfl ⟨Nat.le_of_ble_eq_true rfl, Nat.le_of_ble_eq_true rfl⟩) hP rfl hl.1 rfl (Nat.le_of_ble_eq_true rfl) dX6_covers_95 ?_
      refine lv_aload_n hx hb dX6_covers_98 rfl (lv_at hl 0 rfl) ?_
      refine gf_6_57 hx hb hE hown hP dX6_covers_99 ?_
      refine lv_sipush (v := 512) hx hb dX6_covers_102 (by decide) ?_
      refine lv_iload_n hx hb dX6_covers_105 rfl (lv_at hl 2 rfl) ?_
      refine lv_iconst (v := 1) hx hb dX6_covers_106 (by decide) ?_
      refine lv_iadd hx hb dX6_covers_107 ?_
      refine lv_imul hx hb dX6_covers_108 ?_
      refine lv_iload_n hx hb dX6_covers_109 rfl (lv_at hl 3 rfl) ?_
      refine lv_iload hx hb dX6_covers_110 (lv_at hl 5 rfl) ?_
      refine lv_ixor hx hb dX6_covers_112 ?_
      refine lv_iadd hx hb dX6_covers_113 ?_
      obtain ⟨hi, hf⟩ := ck_some hf
      refine ld_M_12 hx hb hE hP hi dX6_covers_114 ?_
      refine lv_iadd hx hb dX6_covers_115 ?_
      refine lv_istore (lv' := [(7, .int (r_1 + (z.2 11 (((512 : Int32) * (x2 + (1 : Int32))) + (x3 ^^^ x5)).toNatClampNeg))), (0, .ref (a 0)), (1, .int x1), (2, .int x2), (3, .int x3), (4, .int x4), (5, .int x5), (6, .int x6)]) hx hb dX6_covers_116 hl (by decide) rfl (fun ls hl => ?_)
      refine lv_iload hx hb dX6_covers_118 (lv_at hl 0 rfl) ?_
      refine lv_iload hx hb dX6_covers_120 (lv_at hl 5 rfl) ?_
      refine lv_icmp_le (tgt := 129) hx hb dX6_covers_122 (by decide) (fun q => ?_) (fun q => ?_)
      · have hf := (if_pos q).symm.trans hf
        refine lv_iload hx hb dX6_covers_129 (lv_at hl 6 rfl) ?_
        refine lv_if_le (tgt := 138) hx hb dX6_covers_131 (by decide) (fun q => ?_) (fun q => ?_)
        · have hf := (if_pos q).symm.trans hf
          refine lv_iconst (v := 0) hx hb dX6_covers_138 (by decide) ?_
          exact t_X6_covers_139 X hJ hr hlk hk47 hk53 hk67 x1 x2 x3 x4 x5 (0 : Int32) z hf H locs ls hP hS (lv_sub hl [1, 2, 3, 4, 5, 6] rfl)
        · have hf := (if_neg q).symm.trans hf
          refine lv_iconst (v := 1) hx hb dX6_covers_134 (by decide) ?_
          refine lv_goto (tgt := 139) hx hb dX6_covers_135 (by decide) ?_
          exact t_X6_covers_139 X hJ hr hlk hk47 hk53 hk67 x1 x2 x3 x4 x5 (1 : Int32) z hf H locs ls hP hS (lv_sub hl [1, 2, 3, 4, 5, 6] rfl)
      · have hf := (if_neg q).symm.trans hf
        refine lv_iload hx hb dX6_covers_125 (lv_at hl 0 rfl) ?_
        refine lv_istore (lv' := [(4, .int (r_1 + (z.2 11 (((512 : Int32) * (x2 + (1 : Int32))) + (x3 ^^^ x5)).toNatClampNeg))), (7, .int (r_1 + (z.2 11 (((512 : Int32) * (x2 + (1 : Int32))) + (x3 ^^^ x5)).toNatClampNeg))), (0, .ref (a 0)), (1, .int x1), (2, .int x2), (3, .int x3), (5, .int x5), (6, .int x6)]) hx hb dX6_covers_127 hl (by decide) rfl (fun ls hl => ?_)
        refine lv_iload hx hb dX6_covers_129 (lv_at hl 6 rfl) ?_
        refine lv_if_le (tgt := 138) hx hb dX6_covers_131 (by decide) (fun q => ?_) (fun q => ?_)
        · have hf := (if_pos q).symm.trans hf
          refine lv_iconst (v := 0) hx hb dX6_covers_138 (by decide) ?_
          exact t_X6_covers_139 X hJ hr hlk hk47 hk53 hk67 x1 x2 x3 (r_1 + (z.2 11 (((512 : Int32) * (x2 + (1 : Int32))) + (x3 ^^^ x5)).toNatClampNeg)) x5 (0 : Int32) z hf H locs ls hP hS (lv_sub hl [2, 3, 4, 5, 0, 6] rfl)
        · have hf := (if_neg q).symm.trans hf
          refine lv_iconst (v := 1) hx hb dX6_covers_134 (by decide) ?_
          refine lv_goto (tgt := 139) hx hb dX6_covers_135 (by decide) ?_
          exact t_X6_covers_139 X hJ hr hlk hk47 hk53 hk67 x1 x2 x3 (r_1 + (z.2 11 (((512 : Int32) * (x2 + (1 : Int32))) + (x3 ^^^ x5)).toNatClampNeg)) x5 (1 : Int32) z hf H locs ls hP hS (lv_sub hl [2, 3, 4, 5, 0, 6] rfl)
theorem u_X6_covers_67 {RR : St} (X : Cx p s m c cX6_covers RX6 8 d) (hJ : Inj 20 a) (hr : meth.sig.returnType = none) (hlk : meth.locks = false) {k47 : Int32 → Int32 → St → Option (St)} {k53 : Int32 → Int32 → Int32 → St → Option (St)} (hk47 : ∀ (x1 : Int32) (x2 : Int32) (z : St), k47 x1 x2 z = some RR → WWv wM 20 d a p l e { frames := 4, cells := 0, slots := 0, locals := 93 } s m args below meth c RR z 8 [(0, .ref (a 0)), (1, .int x1), (2, .int x2)] 47 []) (hk53 : ∀ (x1 : Int32) (x2 : Int32) (x3 : Int32) (z : St), k53 x1 x2 x3 z = some RR → WWv wM 20 d a p l e { frames := 4, cells := 0, slots := 0, locals := 93 } s m args below meth c RR z 8 [(0, .ref (a 0)), (1, .int x1), (2, .int x2), (3, .int x3)] 53 []) : ∀ (x1 : Int32) (x2 : Int32) (x3 : Int32) (x4 : Int32) (x5 : Int32) (x6 : Int32) (z : St), l_X6_covers_67 k47 k53 x1 x2 x3 x4 x5 x6 z = some RR → WWv wM 20 d a p l e { frames := 4, cells := 0, slots := 0, locals := 93 } s m args below meth c RR z 8 [(0, .ref (a 0)), (1, .int x1), (2, .int x2), (3, .int x3), (4, .int x4), (5, .int x5), (6, .int x6)] 67 [] := by
  unfold l_X6_covers_67
  generalize FU = n
  induction n with
  | zero => intro x1 x2 x3 x4 x5 x6 z hf; exact absurd (show (none : Option (St)) = some RR from hf) (by simp)
  | succ n ih => exact t_X6_covers_67 X hJ hr hlk hk47 hk53 ih
def f_X6_covers_53 (k47 : Int32 → Int32 → St → Option (St)) (k53 : Int32 → Int32 → Int32 → St → Option (St)) (x1 : Int32) (x2 : Int32) (x3 : Int32) (z : St) : Option (St) := (if x1 ≤ x3 then k47 x1 (x2 + (-1 : Int32)) z else l_X6_covers_67 k47 k53 x1 x2 x3 (0 : Int32) x3 (1 : Int32) z)
def l_X6_covers_53 (k47 : Int32 → Int32 → St → Option (St)) : Int32 → Int32 → Int32 → St → Option (St) := iter (fun _ _ _ _ => none) (f_X6_covers_53 k47) FU
set_option maxHeartbeats 4000000 in
set_option maxRecDepth 100000 in
theorem t_X6_covers_53 {RR : St} (X : Cx p s m c cX6_covers RX6 8 d) (hJ : Inj 20 a) (hr : meth.sig.returnType = none) (hlk : meth.locks = false) {k47 : Int32 → Int32 → St → Option (St)} {k53 : Int32 → Int32 → Int32 → St → Option (St)} (hk47 : ∀ (x1 : Int32) (x2 : Int32) (z : St), k47 x1 x2 z = some RR → WWv wM 20 d a p l e { frames := 4, cells := 0, slots := 0, locals := 93 } s m args below meth c RR z 8 [(0, .ref (a 0)), (1, .int x1), (2, .int x2)] 47 []) (hk53 : ∀ (x1 : Int32) (x2 : Int32) (x3 : Int32) (z : St), k53 x1 x2 x3 z = some RR → WWv wM 20 d a p l e { frames := 4, cells := 0, slots := 0, locals := 93 } s m args below meth c RR z 8 [(0, .ref (a 0)), (1, .int x1), (2, .int x2), (3, .int x3)] 53 []) : ∀ (x1 : Int32) (x2 : Int32) (x3 : Int32) (z : St), f_X6_covers_53 k47 k53 x1 x2 x3 z = some RR → WWv wM 20 d a p l e { frames := 4, cells := 0, slots := 0, locals := 93 } s m args below meth c RR z 8 [(0, .ref (a 0)), (1, .int x1), (2, .int x2), (3, .int x3)] 53 [] := by
  intro x1 x2 x3 z hf H locs ls hP hS hl
  obtain ⟨hx, hb, hml, hown, hE⟩ := id X
  unfold f_X6_covers_53 at hf
  refine lv_iload_n hx hb dX6_covers_53 rfl (lv_at hl 3 rfl) ?_
  refine lv_iload_n hx hb dX6_covers_54 rfl (lv_at hl 1 rfl) ?_
  refine lv_icmp_ge (tgt := 172) hx hb dX6_covers_55 (by decide) (fun q => ?_) (fun q => ?_)
  · have hf := (if_pos q).symm.trans hf
    refine lv_iinc (v := (x2 + (-1 : Int32))) (lv' := [(2, .int (x2 + (-1 : Int32))), (0, .ref (a 0)), (1, .int x1), (3, .int x3)]) hx hb dX6_covers_172 hl (k := 2) rfl rfl (by decide) rfl (fun ls hl => ?_)
    refine lv_goto (tgt := 47) hx hb dX6_covers_175 (by decide) ?_
    exact hk47 x1 (x2 + (-1 : Int32)) z hf H locs ls hP hS (lv_sub hl [1, 2, 0] rfl)
  · have hf := (if_neg q).symm.trans hf
    refine lv_iconst (v := 0) hx hb dX6_covers_58 (by decide) ?_
    refine lv_istore (lv' := [(4, .int (0 : Int32)), (0, .ref (a 0)), (1, .int x1), (2, .int x2), (3, .int x3)]) hx hb dX6_covers_59 hl (by decide) rfl (fun ls hl => ?_)
    refine lv_iload_n hx hb dX6_covers_61 rfl (lv_at hl 4 rfl) ?_
    refine lv_istore (lv' := [(5, .int x3), (4, .int (0 : Int32)), (0, .ref (a 0)), (1, .int x1), (2, .int x2), (3, .int x3)]) hx hb dX6_covers_62 hl (by decide) rfl (fun ls hl => ?_)
    refine lv_iconst (v := 1) hx hb dX6_covers_64 (by decide) ?_
    refine lv_istore (lv' := [(6, .int (1 : Int32)), (5, .int x3), (4, .int (0 : Int32)), (0, .ref (a 0)), (1, .int x1), (2, .int x2), (3, .int x3)]) hx hb dX6_covers_65 hl (by decide) rfl (fun ls hl => ?_)
    exact u_X6_covers_67 X hJ hr hlk hk47 hk53 x1 x2 x3 (0 : Int32) x3 (1 : Int32) z hf H locs ls hP hS (lv_sub hl [3, 4, 5, 6, 2, 1, 0] rfl)
theorem u_X6_covers_53 {RR : St} (X : Cx p s m c cX6_covers RX6 8 d) (hJ : Inj 20 a) (hr : meth.sig.returnType = none) (hlk : meth.locks = false) {k47 : Int32 → Int32 → St → Option (St)} (hk47 : ∀ (x1 : Int32) (x2 : Int32) (z : St), k47 x1 x2 z = some RR → WWv wM 20 d a p l e { frames := 4, cells := 0, slots := 0, locals := 93 } s m args below meth c RR z 8 [(0, .ref (a 0)), (1, .int x1), (2, .int x2)] 47 []) : ∀ (x1 : Int32) (x2 : Int32) (x3 : Int32) (z : St), l_X6_covers_53 k47 x1 x2 x3 z = some RR → WWv wM 20 d a p l e { frames := 4, cells := 0, slots := 0, locals := 93 } s m args below meth c RR z 8 [(0, .ref (a 0)), (1, .int x1), (2, .int x2), (3, .int x3)] 53 [] := by
  unfold l_X6_covers_53
  generalize FU = n
  induction n with
  | zero => intro x1 x2 x3 z hf; exact absurd (show (none : Option (St)) = some RR from hf) (by simp)
  | succ n ih => exact t_X6_covers_53 X hJ hr hlk hk47 ih
def f_X6_covers_47 (k47 : Int32 → Int32 → St → Option (St)) (x1 : Int32) (x2 : Int32) (z : St) : Option (St) := (if x2 < (0 : Int32) then some z else l_X6_covers_53 k47 x1 x2 (0 : Int32) z)
def l_X6_covers_47 : Int32 → Int32 → St → Option (St) := iter (fun _ _ _ => none) (f_X6_covers_47) FU
set_option maxHeartbeats 4000000 in
set_option maxRecDepth 100000 in
theorem t_X6_covers_47 {RR : St} (X : Cx p s m c cX6_covers RX6 8 d) (hJ : Inj 20 a) (hr : meth.sig.returnType = none) (hlk : meth.locks = false) {k47 : Int32 → Int32 → St → Option (St)} (hk47 : ∀ (x1 : Int32) (x2 : Int32) (z : St), k47 x1 x2 z = some RR → WWv wM 20 d a p l e { frames := 4, cells := 0, slots := 0, locals := 93 } s m args below meth c RR z 8 [(0, .ref (a 0)), (1, .int x1), (2, .int x2)] 47 []) : ∀ (x1 : Int32) (x2 : Int32) (z : St), f_X6_covers_47 k47 x1 x2 z = some RR → WWv wM 20 d a p l e { frames := 4, cells := 0, slots := 0, locals := 93 } s m args below meth c RR z 8 [(0, .ref (a 0)), (1, .int x1), (2, .int x2)] 47 [] := by
  intro x1 x2 z hf H locs ls hP hS hl
  obtain ⟨hx, hb, hml, hown, hE⟩ := id X
  unfold f_X6_covers_47 at hf
  refine lv_iload_n hx hb dX6_covers_47 rfl (lv_at hl 2 rfl) ?_
  refine lv_if_lt (tgt := 178) hx hb dX6_covers_48 (by decide) (fun q => ?_) (fun q => ?_)
  · have hf := (if_pos q).symm.trans hf
    obtain rfl := Option.some.inj hf
    exact W.vret hx hb hr (fun t ht _ => ⟨rfl, by rw [ht]; exact hP, hS.F ht⟩) hS.2.2 dX6_covers_178 hlk
  · have hf := (if_neg q).symm.trans hf
    refine lv_iconst (v := 0) hx hb dX6_covers_51 (by decide) ?_
    refine lv_istore_n (lv' := [(3, .int (0 : Int32)), (0, .ref (a 0)), (1, .int x1), (2, .int x2)]) hx hb dX6_covers_52 rfl hl (by decide) rfl (fun ls hl => ?_)
    exact u_X6_covers_53 X hJ hr hlk hk47 x1 x2 (0 : Int32) z hf H locs ls hP hS (lv_sub hl [1, 2, 3, 0] rfl)
theorem u_X6_covers_47 {RR : St} (X : Cx p s m c cX6_covers RX6 8 d) (hJ : Inj 20 a) (hr : meth.sig.returnType = none) (hlk : meth.locks = false) : ∀ (x1 : Int32) (x2 : Int32) (z : St), l_X6_covers_47 x1 x2 z = some RR → WWv wM 20 d a p l e { frames := 4, cells := 0, slots := 0, locals := 93 } s m args below meth c RR z 8 [(0, .ref (a 0)), (1, .int x1), (2, .int x2)] 47 [] := by
  unfold l_X6_covers_47
  generalize FU = n
  induction n with
  | zero => intro x1 x2 z hf; exact absurd (show (none : Option (St)) = some RR from hf) (by simp)
  | succ n ih => exact t_X6_covers_47 X hJ hr hlk ih
def f_X6_covers_13 (k13 : Int32 → Int32 → St → Option (St)) (x1 : Int32) (x2 : Int32) (z : St) : Option (St) := (if x1 ≤ x2 then l_X6_covers_47 x1 ((z.1 1) - (1 : Int32)) z else ck 2560 (((512 : Int32) * (z.1 1)) + x2) (k13 x1 (x2 + (1 : Int32)) (pA z 11 (((512 : Int32) * (z.1 1)) + x2).toNatClampNeg (0 : Int32))))
def l_X6_covers_13 : Int32 → Int32 → St → Option (St) := iter (fun _ _ _ => none) (f_X6_covers_13) FU
set_option maxHeartbeats 4000000 in
set_option maxRecDepth 100000 in
theorem t_X6_covers_13 {RR : St} (X : Cx p s m c cX6_covers RX6 8 d) (hJ : Inj 20 a) (hr : meth.sig.returnType = none) (hlk : meth.locks = false) {k13 : Int32 → Int32 → St → Option (St)} (hk13 : ∀ (x1 : Int32) (x2 : Int32) (z : St), k13 x1 x2 z = some RR → WWv wM 20 d a p l e { frames := 4, cells := 0, slots := 0, locals := 93 } s m args below meth c RR z 8 [(0, .ref (a 0)), (1, .int x1), (2, .int x2)] 13 []) : ∀ (x1 : Int32) (x2 : Int32) (z : St), f_X6_covers_13 k13 x1 x2 z = some RR → WWv wM 20 d a p l e { frames := 4, cells := 0, slots := 0, locals := 93 } s m args below meth c RR z 8 [(0, .ref (a 0)), (1, .int x1), (2, .int x2)] 13 [] := by
  intro x1 x2 z hf H locs ls hP hS hl
  obtain ⟨hx, hb, hml, hown, hE⟩ := id X
  unfold f_X6_covers_13 at hf
  refine lv_iload_n hx hb dX6_covers_13 rfl (lv_at hl 2 rfl) ?_
  refine lv_iload_n hx hb dX6_covers_14 rfl (lv_at hl 1 rfl) ?_
  refine lv_icmp_ge (tgt := 40) hx hb dX6_covers_15 (by decide) (fun q => ?_) (fun q => ?_)
  · have hf := (if_pos q).symm.trans hf
    refine lv_aload_n hx hb dX6_covers_40 rfl (lv_at hl 0 rfl) ?_
    refine gf_6_81 hx hb hE hown hP dX6_covers_41 ?_
    refine lv_iconst (v := 1) hx hb dX6_covers_44 (by decide) ?_
    refine lv_isub hx hb dX6_covers_45 ?_
    refine lv_istore_n (lv' := [(2, .int ((z.1 1) - (1 : Int32))), (0, .ref (a 0)), (1, .int x1)]) hx hb dX6_covers_46 rfl hl (by decide) rfl (fun ls hl => ?_)
    exact u_X6_covers_47 X hJ hr hlk x1 ((z.1 1) - (1 : Int32)) z hf H locs ls hP hS (lv_sub hl [1, 2, 0] rfl)
  · have hf := (if_neg q).symm.trans hf
    refine lv_aload_n hx hb dX6_covers_18 rfl (lv_at hl 0 rfl) ?_
    refine gf_6_57 hx hb hE hown hP dX6_covers_19 ?_
    refine lv_sipush (v := 512) hx hb dX6_covers_22 (by decide) ?_
    refine lv_aload_n hx hb dX6_covers_25 rfl (lv_at hl 0 rfl) ?_
    refine gf_6_81 hx hb hE hown hP dX6_covers_26 ?_
    refine lv_imul hx hb dX6_covers_29 ?_
    refine lv_iload_n hx hb dX6_covers_30 rfl (lv_at hl 2 rfl) ?_
    refine lv_iadd hx hb dX6_covers_31 ?_
    refine lv_iconst (v := 0) hx hb dX6_covers_32 (by decide) ?_
    obtain ⟨hi, hf⟩ := ck_some hf
    refine st_M_12 hx hb hE hP hJ hS hi dX6_covers_33 (fun H locs hP hS => ?_)
    refine lv_iinc (v := (x2 + (1 : Int32))) (lv' := [(2, .int (x2 + (1 : Int32))), (0, .ref (a 0)), (1, .int x1)]) hx hb dX6_covers_34 hl (k := 2) rfl rfl (by decide) rfl (fun ls hl => ?_)
    refine lv_goto (tgt := 13) hx hb dX6_covers_37 (by decide) ?_
    exact hk13 x1 (x2 + (1 : Int32)) (pA z 11 (((512 : Int32) * (z.1 1)) + x2).toNatClampNeg (0 : Int32)) hf H locs ls hP hS (lv_sub hl [1, 2, 0] rfl)
theorem u_X6_covers_13 {RR : St} (X : Cx p s m c cX6_covers RX6 8 d) (hJ : Inj 20 a) (hr : meth.sig.returnType = none) (hlk : meth.locks = false) : ∀ (x1 : Int32) (x2 : Int32) (z : St), l_X6_covers_13 x1 x2 z = some RR → WWv wM 20 d a p l e { frames := 4, cells := 0, slots := 0, locals := 93 } s m args below meth c RR z 8 [(0, .ref (a 0)), (1, .int x1), (2, .int x2)] 13 [] := by
  unfold l_X6_covers_13
  generalize FU = n
  induction n with
  | zero => intro x1 x2 z hf; exact absurd (show (none : Option (St)) = some RR from hf) (by simp)
  | succ n ih => exact t_X6_covers_13 X hJ hr hlk ih
def f_X6_covers (z : St) : Option (St) := (f_X6_marks z).bind (fun r_1 => l_X6_covers_13 ((1 : Int32) <<< ((r_1.1 0) &&& 31)) (0 : Int32) r_1)
set_option maxHeartbeats 4000000 in
set_option maxRecDepth 100000 in
theorem t_X6_covers {RR : St} (X : Cx p s m c cX6_covers RX6 8 d) (hJ : Inj 20 a) (hr : meth.sig.returnType = none) (hlk : meth.locks = false) : ∀ (z : St), f_X6_covers z = some RR → WWv wM 20 d a p l e { frames := 4, cells := 0, slots := 0, locals := 93 } s m args below meth c RR z 8 [(0, .ref (a 0))] 0 [] := by
  intro z hf H locs ls hP hS hl
  obtain ⟨hx, hb, hml, hown, hE⟩ := id X
  unfold f_X6_covers at hf
  refine lv_aload_n hx hb dX6_covers_0 rfl (lv_at hl 0 rfl) ?_
  obtain ⟨r_1, hc, hf⟩ := bnd hf
  refine wrVv X (c_X6_marks l d a z hc) (k_X6_126 hE rfl rfl ⟨Nat.le_of_ble_eq_true rfl, Nat.le_of_ble_eq_true rfl⟩) hP hJ hS (va_recv (q := (RX6, TX6, 28)) hE.2 hP (ci := 6) (q0 := 0) rfl rfl) rfl hl.1 rfl (Nat.le_of_ble_eq_true rfl) dX6_covers_1 (fun H locs hP hS => ?_)
  refine lv_iconst (v := 1) hx hb dX6_covers_4 (by decide) ?_
  refine lv_aload_n hx hb dX6_covers_5 rfl (lv_at hl 0 rfl) ?_
  refine gf_6_84 hx hb hE hown hP dX6_covers_6 ?_
  refine lv_ishl hx hb dX6_covers_9 ?_
  refine lv_istore_n (lv' := [(1, .int ((1 : Int32) <<< ((r_1.1 0) &&& 31))), (0, .ref (a 0))]) hx hb dX6_covers_10 rfl hl (by decide) rfl (fun ls hl => ?_)
  refine lv_iconst (v := 0) hx hb dX6_covers_11 (by decide) ?_
  refine lv_istore_n (lv' := [(2, .int (0 : Int32)), (1, .int ((1 : Int32) <<< ((r_1.1 0) &&& 31))), (0, .ref (a 0))]) hx hb dX6_covers_12 rfl hl (by decide) rfl (fun ls hl => ?_)
  exact u_X6_covers_13 X hJ hr hlk ((1 : Int32) <<< ((r_1.1 0) &&& 31)) (0 : Int32) r_1 hf H locs ls hP hS (lv_sub hl [2, 1, 0] rfl)
set_option maxHeartbeats 4000000 in
set_option maxRecDepth 100000 in
theorem c_X6_covers (l : Launch) (d : G3) (a : Nat → Nat) (z : St) {RR : St} (hf : f_X6_covers z = some RR) : Met l yX6_covers [Cond.code yX6_covers cX6_covers 8 none] { frames := 4, cells := 0, slots := 0, locals := 93 } (wpre wM 20 d a z [.ref (a 0)]) (QV wM 20 d a RR) 0 0 (AD 20 a) := by
  refine Met.ofW (cc := cX6_covers) (maxL := 8) (ret := none) (by decide) rfl ?_
  intro p e s m args below meth c s₁ B hml hv
  obtain ⟨rfl, hE, hP, hJ⟩ := hv
  have X : Cx p s m c cX6_covers RX6 8 d := ⟨B.exec, B.bytes, hml, findClass_of_methodNamed B.named, hE⟩
  have hl := lv_entry ([.ref (a 0)]) (n := 8) (Nat.le_of_ble_eq_true rfl)
  rw [lg_entry_eq]
  generalize (lg_sl ([.ref (a 0)]) ++ List.replicate (8 - (lg_sl ([.ref (a 0)])).length) Slot.unset).toArray = ls at hl ⊢
  have hl : lv_has ls 8 [(0, .ref (a 0))] := hl
  exact t_X6_covers X hJ B.returns B.notSynchronized z hf s.heap [] ls hP va_S.rf hl
end GEN
