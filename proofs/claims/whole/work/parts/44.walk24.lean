section GEN
variable {p : Program} {l : Launch} {e : Env} {s : State} {m : MethodId} {args : Array Value} {below : List Frame} {meth : Method} {c : Code} {d : G3} {a : Nat → Nat}
def f_X6_sick_145 (k118 : Int32 → Int32 → St → Option (Int32 × St)) (k145 : Int32 → Int32 → Int32 → Int32 → St → Option (Int32 × St)) (x3 : Int32) (x4 : Int32) (x5 : Int32) (x6 : Int32) (z : St) : Option (Int32 × St) := (if (z.1 1) ≤ x6 then (if x5 < (0 : Int32) then k118 x3 (x4 + (1 : Int32)) z else ck 4 x5 (ck 4 x5 (k118 x3 (x4 + (1 : Int32)) (pA z 16 x5.toNatClampNeg ((z.2 16 x5.toNatClampNeg) ||| ((1 : Int32) <<< (x4 &&& 31))))))) else ck 4 x6 ((if (z.2 18 x6.toNatClampNeg) = (0 : Int32) then ck 4 x6 ((f_X6_whyNot z x6 ((z.2 16 x6.toNatClampNeg) ||| ((1 : Int32) <<< (x4 &&& 31)))).bind (fun r_1 => (if r_1 = (0 : Int32) then (if x5 < (0 : Int32) then k145 x3 x4 x6 (x6 + (1 : Int32)) z else ck 4 x6 ((f_X6_hoursOf z (z.2 16 x6.toNatClampNeg)).bind (fun r_2 => ck 4 x5 ((f_X6_hoursOf z (z.2 16 x5.toNatClampNeg)).bind (fun r_3 => (if r_3 ≤ r_2 then k145 x3 x4 x5 (x6 + (1 : Int32)) z else k145 x3 x4 x6 (x6 + (1 : Int32)) z)))))) else k145 x3 x4 x5 (x6 + (1 : Int32)) z))) else k145 x3 x4 x5 (x6 + (1 : Int32)) z)))
def l_X6_sick_145 (k118 : Int32 → Int32 → St → Option (Int32 × St)) : Int32 → Int32 → Int32 → Int32 → St → Option (Int32 × St) := iter (fun _ _ _ _ _ => none) (f_X6_sick_145 k118) FU
set_option maxHeartbeats 4000000 in
set_option maxRecDepth 100000 in
theorem t_X6_sick_145 {RR : Int32 × St} (X : Cx p s m c cX6_sick RX6 7 d) (hJ : Inj 20 a) (hr : meth.sig.returnType = (some .int)) (hlk : meth.locks = false) {k118 : Int32 → Int32 → St → Option (Int32 × St)} {k145 : Int32 → Int32 → Int32 → Int32 → St → Option (Int32 × St)} (hk118 : ∀ (x3 : Int32) (x4 : Int32) (z : St), k118 x3 x4 z = some RR → WWr wM 20 d a p l e { frames := 3, cells := 0, slots := 0, locals := 71 } s m args below meth c RR z 7 [(0, .ref (a 0)), (3, .int x3), (4, .int x4)] 118 []) (hk145 : ∀ (x3 : Int32) (x4 : Int32) (x5 : Int32) (x6 : Int32) (z : St), k145 x3 x4 x5 x6 z = some RR → WWr wM 20 d a p l e { frames := 3, cells := 0, slots := 0, locals := 71 } s m args below meth c RR z 7 [(0, .ref (a 0)), (3, .int x3), (4, .int x4), (5, .int x5), (6, .int x6)] 145 []) : ∀ (x3 : Int32) (x4 : Int32) (x5 : Int32) (x6 : Int32) (z : St), f_X6_sick_145 k118 k145 x3 x4 x5 x6 z = some RR → WWr wM 20 d a p l e { frames := 3, cells := 0, slots := 0, locals := 71 } s m args below meth c RR z 7 [(0, .ref (a 0)), (3, .int x3), (4, .int x4), (5, .int x5), (6, .int x6)] 145 [] := by
  intro x3 x4 x5 x6 z hf H locs ls hP hS hl
  obtain ⟨hx, hb, hml, hown, hE⟩ := id X
  unfold f_X6_sick_145 at hf
  refine lv_iload hx hb dX6_sick_145 (lv_at hl 4 rfl) ?_
  refine lv_aload_n hx hb dX6_sick_147 rfl (lv_at hl 0 rfl) ?_
  refine gf_6_81 hx hb hE hown hP dX6_sick_148 ?_
  refine lv_icmp_ge (tgt := 228) hx hb dX6_sick_151 (by decide) (fun q => ?_) (fun q => ?_)
  · have hf := (if_pos q).symm.trans hf
    refine lv_iload hx hb dX6_sick_228 (lv_at hl 3 rfl) ?_
    refine lv_if_lt (tgt := 247) hx hb dX6_sick_230 (by decide) (fun q => ?_) (fun q => ?_)
    · have hf := (if_pos q).symm.trans hf
      refine lv_iinc (v := (x4 + (1 : Int32))) (lv' := [(4, .int (x4 + (1 : Int32))), (0, .ref (a 0)), (3, .int x3), (5, .int x5), (6, .int x6)]) hx hb dX6_sick_247 hl (k := 2) rfl rfl (by decide) rfl (fun ls hl => ?_)
      refine lv_goto (tgt := 118) hx hb dX6_sick_250 (by decide) ?_
      exact hk118 x3 (x4 + (1 : Int32)) z hf H locs ls hP hS (lv_sub hl [1, 2, 0] rfl)
    · have hf := (if_neg q).symm.trans hf
      refine lv_aload_n hx hb dX6_sick_233 rfl (lv_at hl 0 rfl) ?_
      refine gf_6_72 hx hb hE hown hP dX6_sick_234 ?_
      refine lv_iload hx hb dX6_sick_237 (lv_at hl 3 rfl) ?_
      refine lv_dup2_11 hx hb dX6_sick_239 rfl rfl ?_
      obtain ⟨hi, hf⟩ := ck_some hf
      refine ld_M_17 hx hb hE hP hi dX6_sick_240 ?_
      refine lv_iconst (v := 1) hx hb dX6_sick_241 (by decide) ?_
      refine lv_iload hx hb dX6_sick_242 (lv_at hl 2 rfl) ?_
      refine lv_ishl hx hb dX6_sick_244 ?_
      refine lv_ior hx hb dX6_sick_245 ?_
      obtain ⟨hi, hf⟩ := ck_some hf
      refine st_M_17 hx hb hE hP hJ hS hi dX6_sick_246 (fun H locs hP hS => ?_)
      refine lv_iinc (v := (x4 + (1 : Int32))) (lv' := [(4, .int (x4 + (1 : Int32))), (0, .ref (a 0)), (3, .int x3), (5, .int x5), (6, .int x6)]) hx hb dX6_sick_247 hl (k := 2) rfl rfl (by decide) rfl (fun ls hl => ?_)
      refine lv_goto (tgt := 118) hx hb dX6_sick_250 (by decide) ?_
      exact hk118 x3 (x4 + (1 : Int32)) (pA z 16 x5.toNatClampNeg ((z.2 16 x5.toNatClampNeg) ||| ((1 : Int32) <<< (x4 &&& 31)))) hf H locs ls hP hS (lv_sub hl [1, 2, 0] rfl)
  · have hf := (if_neg q).symm.trans hf
    refine lv_aload_n hx hb dX6_sick_154 rfl (lv_at hl 0 rfl) ?_
    refine gf_6_78 hx hb hE hown hP dX6_sick_155 ?_
    refine lv_iload hx hb dX6_sick_158 (lv_at hl 4 rfl) ?_
    obtain ⟨hi, hf⟩ := ck_some hf
    refine ld_M_19 hx hb hE hP hi dX6_sick_160 ?_
    refine lv_if_ne (tgt := 222) hx hb dX6_sick_161 (by decide) (fun q => ?_) (fun q => ?_)
    · have hf := (if_neg q).symm.trans hf
      refine lv_iinc (v := (x6 + (1 : Int32))) (lv' := [(6, .int (x6 + (1 : Int32))), (0, .ref (a 0)), (3, .int x3), (4, .int x4), (5, .int x5)]) hx hb dX6_sick_222 hl (k := 4) rfl rfl (by decide) rfl (fun ls hl => ?_)
      refine lv_goto (tgt := 145) hx hb dX6_sick_225 (by decide) ?_
      exact hk145 x3 x4 x5 (x6 + (1 : Int32)) z hf H locs ls hP hS (lv_sub hl [1, 2, 3, 4, 0] rfl)
    · have hf := (if_pos q).symm.trans hf
      refine lv_aload_n hx hb dX6_sick_164 rfl (lv_at hl 0 rfl) ?_
      refine lv_iload hx hb dX6_sick_165 (lv_at hl 4 rfl) ?_
      refine lv_aload_n hx hb dX6_sick_167 rfl (lv_at hl 0 rfl) ?_
      refine gf_6_72 hx hb hE hown hP dX6_sick_168 ?_
      refine lv_iload hx hb dX6_sick_171 (lv_at hl 4 rfl) ?_
      obtain ⟨hi, hf⟩ := ck_some hf
      refine ld_M_17 hx hb hE hP hi dX6_sick_173 ?_
      refine lv_iconst (v := 1) hx hb dX6_sick_174 (by decide) ?_
      refine lv_iload hx hb dX6_sick_175 (lv_at hl 2 rfl) ?_
      refine lv_ishl hx hb dX6_sick_177 ?_
      refine lv_ior hx hb dX6_sick_178 ?_
      obtain ⟨r_1, hc, hf⟩ := bnd hf
      refine rdV X (c_X6_whyNot l d a z x6 ((z.2 16 x6.toNatClampNeg) ||| ((1 : Int32) <<< (x4 &&& 31))) hc) (k_X6_123 hE rfl rfl ⟨Nat.le_of_ble_eq_true rfl, Nat.le_of_ble_eq_true rfl⟩) hP (va_recv (q := (RX6, TX6, 28)) hE.2 hP (ci := 6) (q0 := 0) rfl rfl) rfl hl.1 rfl (Nat.le_of_ble_eq_true rfl) dX6_sick_179 ?_
      refine lv_if_eq (tgt := 188) hx hb dX6_sick_182 (by decide) (fun q => ?_) (fun q => ?_)
      · have hf := (if_pos q).symm.trans hf
        refine lv_iload hx hb dX6_sick_188 (lv_at hl 3 rfl) ?_
        refine lv_if_lt (tgt := 218) hx hb dX6_sick_190 (by decide) (fun q => ?_) (fun q => ?_)
        · have hf := (if_pos q).symm.trans hf
          refine lv_iload hx hb dX6_sick_218 (lv_at hl 4 rfl) ?_
          refine lv_istore (lv' := [(5, .int x6), (0, .ref (a 0)), (3, .int x3), (4, .int x4), (6, .int x6)]) hx hb dX6_sick_220 hl (by decide) rfl (fun ls hl => ?_)
          refine lv_iinc (v := (x6 + (1 : Int32))) (lv' := [(6, .int (x6 + (1 : Int32))), (5, .int x6), (0, .ref (a 0)), (3, .int x3), (4, .int x4)]) hx hb dX6_sick_222 hl (k := 4) rfl rfl (by decide) rfl (fun ls hl => ?_)
          refine lv_goto (tgt := 145) hx hb dX6_sick_225 (by decide) ?_
          exact hk145 x3 x4 x6 (x6 + (1 : Int32)) z hf H locs ls hP hS (lv_sub hl [2, 3, 4, 1, 0] rfl)
        · have hf := (if_neg q).symm.trans hf
          refine lv_aload_n hx hb dX6_sick_193 rfl (lv_at hl 0 rfl) ?_
          refine lv_aload_n hx hb dX6_sick_194 rfl (lv_at hl 0 rfl) ?_
          refine gf_6_72 hx hb hE hown hP dX6_sick_195 ?_
          refine lv_iload hx hb dX6_sick_198 (lv_at hl 4 rfl) ?_
          obtain ⟨hi, hf⟩ := ck_some hf
          refine ld_M_17 hx hb hE hP hi dX6_sick_200 ?_
          obtain ⟨r_2, hc, hf⟩ := bnd hf
          refine rdV X (c_X6_hoursOf l d a z (z.2 16 x6.toNatClampNeg) hc) (k_X6_116 hE rfl rfl ⟨Nat.le_of_ble_eq_true rfl, Nat.le_of_ble_eq_true rfl⟩) hP (va_recv (q := (RX6, TX6, 28)) hE.2 hP (ci := 6) (q0 := 0) rfl rfl) rfl hl.1 rfl (Nat.le_of_ble_eq_true rfl) dX6_sick_201 ?_
          refine lv_aload_n hx hb dX6_sick_204 rfl (lv_at hl 0 rfl) ?_
          refine lv_aload_n hx hb dX6_sick_205 rfl (lv_at hl 0 rfl) ?_
          refine gf_6_72 hx hb hE hown hP dX6_sick_206 ?_
          refine lv_iload hx hb dX6_sick_209 (lv_at hl 3 rfl) ?_
          obtain ⟨hi, hf⟩ := ck_some hf
          refine ld_M_17 hx hb hE hP hi dX6_sick_211 ?_
          obtain ⟨r_3, hc, hf⟩ := bnd hf
          refine rdV X (c_X6_hoursOf l d a z (z.2 16 x5.toNatClampNeg) hc) (k_X6_116 hE rfl rfl ⟨Nat.le_of_ble_eq_true rfl, Nat.le_of_ble_eq_true rfl⟩) hP (va_recv (q := (RX6, TX6, 28)) hE.2 hP (ci := 6) (q0 := 0) rfl rfl) rfl hl.1 rfl (Nat.le_of_ble_eq_true rfl) dX6_sick_212 ?_
          refine lv_icmp_ge (tgt := 222) hx hb dX6_sick_215 (by decide) (fun q => ?_) (fun q => ?_)
          · have hf := (if_pos q).symm.trans hf
            refine lv_iinc (v := (x6 + (1 : Int32))) (lv' := [(6, .int (x6 + (1 : Int32))), (0, .ref (a 0)), (3, .int x3), (4, .int x4), (5, .int x5)]) hx hb dX6_sick_222 hl (k := 4) rfl rfl (by decide) rfl (fun ls hl => ?_)
            refine lv_goto (tgt := 145) hx hb dX6_sick_225 (by decide) ?_
            exact hk145 x3 x4 x5 (x6 + (1 : Int32)) z hf H locs ls hP hS (lv_sub hl [1, 2, 3, 4, 0] rfl)
          · have hf := (if_neg q).symm.trans hf
            refine lv_iload hx hb dX6_sick_218 (lv_at hl 4 rfl) ?_
            refine lv_istore (lv' := [(5, .int x6), (0, .ref (a 0)), (3, .int x3), (4, .int x4), (6, .int x6)]) hx hb dX6_sick_220 hl (by decide) rfl (fun ls hl => ?_)
            refine lv_iinc (v := (x6 + (1 : Int32))) (lv' := [(6, .int (x6 + (1 : Int32))), (5, .int x6), (0, .ref (a 0)), (3, .int x3), (4, .int x4)]) hx hb dX6_sick_222 hl (k := 4) rfl rfl (by decide) rfl (fun ls hl => ?_)
            refine lv_goto (tgt := 145) hx hb dX6_sick_225 (by decide) ?_
            exact hk145 x3 x4 x6 (x6 + (1 : Int32)) z hf H locs ls hP hS (lv_sub hl [2, 3, 4, 1, 0] rfl)
      · have hf := (if_neg q).symm.trans hf
        refine lv_goto (tgt := 222) hx hb dX6_sick_185 (by decide) ?_
        refine lv_iinc (v := (x6 + (1 : Int32))) (lv' := [(6, .int (x6 + (1 : Int32))), (0, .ref (a 0)), (3, .int x3), (4, .int x4), (5, .int x5)]) hx hb dX6_sick_222 hl (k := 4) rfl rfl (by decide) rfl (fun ls hl => ?_)
        refine lv_goto (tgt := 145) hx hb dX6_sick_225 (by decide) ?_
        exact hk145 x3 x4 x5 (x6 + (1 : Int32)) z hf H locs ls hP hS (lv_sub hl [1, 2, 3, 4, 0] rfl)
theorem u_X6_sick_145 {RR : Int32 × St} (X : Cx p s m c cX6_sick RX6 7 d) (hJ : Inj 20 a) (hr : meth.sig.returnType = (some .int)) (hlk : meth.locks = false) {k118 : Int32 → Int32 → St → Option (Int32 × St)} (hk118 : ∀ (x3 : Int32) (x4 : Int32) (z : St), k118 x3 x4 z = some RR → WWr wM 20 d a p l e { frames := 3, cells := 0, slots := 0, locals := 71 } s m args below meth c RR z 7 [(0, .ref (a 0)), (3, .int x3), (4, .int x4)] 118 []) : ∀ (x3 : Int32) (x4 : Int32) (x5 : Int32) (x6 : Int32) (z : St), l_X6_sick_145 k118 x3 x4 x5 x6 z = some RR → WWr wM 20 d a p l e { frames := 3, cells := 0, slots := 0, locals := 71 } s m args below meth c RR z 7 [(0, .ref (a 0)), (3, .int x3), (4, .int x4), (5, .int x5), (6, .int x6)] 145 [] := by
  unfold l_X6_sick_145
  generalize FU = n
  induction n with
  | zero => intro x3 x4 x5 x6 z hf; exact absurd (show (none : Option (Int32 × St)) = some RR from hf) (by simp)
  | succ n ih => exact t_X6_sick_145 X hJ hr hlk hk118 ih
def f_X6_sick_118 (k118 : Int32 → Int32 → St → Option (Int32 × St)) (x3 : Int32) (x4 : Int32) (z : St) : Option (Int32 × St) := (if (z.1 0) ≤ x4 then (f_X6_size z x3).bind (fun r_1 => some (r_1, z)) else (f_X6_has z x3 x4).bind (fun r_2 => (if r_2 = (0 : Int32) then k118 x3 (x4 + (1 : Int32)) z else l_X6_sick_145 k118 x3 x4 (-1 : Int32) (0 : Int32) z)))
def l_X6_sick_118 : Int32 → Int32 → St → Option (Int32 × St) := iter (fun _ _ _ => none) (f_X6_sick_118) FU
set_option maxHeartbeats 4000000 in
set_option maxRecDepth 100000 in
theorem t_X6_sick_118 {RR : Int32 × St} (X : Cx p s m c cX6_sick RX6 7 d) (hJ : Inj 20 a) (hr : meth.sig.returnType = (some .int)) (hlk : meth.locks = false) {k118 : Int32 → Int32 → St → Option (Int32 × St)} (hk118 : ∀ (x3 : Int32) (x4 : Int32) (z : St), k118 x3 x4 z = some RR → WWr wM 20 d a p l e { frames := 3, cells := 0, slots := 0, locals := 71 } s m args below meth c RR z 7 [(0, .ref (a 0)), (3, .int x3), (4, .int x4)] 118 []) : ∀ (x3 : Int32) (x4 : Int32) (z : St), f_X6_sick_118 k118 x3 x4 z = some RR → WWr wM 20 d a p l e { frames := 3, cells := 0, slots := 0, locals := 71 } s m args below meth c RR z 7 [(0, .ref (a 0)), (3, .int x3), (4, .int x4)] 118 [] := by
  intro x3 x4 z hf H locs ls hP hS hl
  obtain ⟨hx, hb, hml, hown, hE⟩ := id X
  unfold f_X6_sick_118 at hf
  refine lv_iload hx hb dX6_sick_118 (lv_at hl 2 rfl) ?_
  refine lv_aload_n hx hb dX6_sick_120 rfl (lv_at hl 0 rfl) ?_
  refine gf_6_84 hx hb hE hown hP dX6_sick_121 ?_
  refine lv_icmp_ge (tgt := 253) hx hb dX6_sick_124 (by decide) (fun q => ?_) (fun q => ?_)
  · have hf := (if_pos q).symm.trans hf
    refine lv_iload_n hx hb dX6_sick_253 rfl (lv_at hl 1 rfl) ?_
    obtain ⟨r_1, hc, hf⟩ := bnd hf
    refine rdS X (c_X6_size l d a z x3 hc) (k_X6_129 hE rfl rfl ⟨Nat.le_of_ble_eq_true rfl, Nat.le_of_ble_eq_true rfl⟩) hP rfl hl.1 rfl (Nat.le_of_ble_eq_true rfl) dX6_sick_254 ?_
    obtain rfl := Option.some.inj hf
    exact W.iret hx hb hr (fun t ht _ => ⟨rfl, by rw [ht]; exact hP, hS.F ht⟩) hS.2.2 dX6_sick_257 hlk
  · have hf := (if_neg q).symm.trans hf
    refine lv_iload_n hx hb dX6_sick_127 rfl (lv_at hl 1 rfl) ?_
    refine lv_iload hx hb dX6_sick_128 (lv_at hl 2 rfl) ?_
    obtain ⟨r_2, hc, hf⟩ := bnd hf
    refine rdS X (c_X6_has l d a z x3 x4 hc) (k_X6_87 hE rfl rfl ⟨Nat.le_of_ble_eq_true rfl, Nat.le_of_ble_eq_true rfl⟩) hP rfl hl.1 rfl (Nat.le_of_ble_eq_true rfl) dX6_sick_130 ?_
    refine lv_if_ne (tgt := 139) hx hb dX6_sick_133 (by decide) (fun q => ?_) (fun q => ?_)
    · have hf := (if_neg q).symm.trans hf
      refine lv_iconst (v := -1) hx hb dX6_sick_139 (by decide) ?_
      refine lv_istore (lv' := [(5, .int (-1 : Int32)), (0, .ref (a 0)), (3, .int x3), (4, .int x4)]) hx hb dX6_sick_140 hl (by decide) rfl (fun ls hl => ?_)
      refine lv_iconst (v := 0) hx hb dX6_sick_142 (by decide) ?_
      refine lv_istore (lv' := [(6, .int (0 : Int32)), (5, .int (-1 : Int32)), (0, .ref (a 0)), (3, .int x3), (4, .int x4)]) hx hb dX6_sick_143 hl (by decide) rfl (fun ls hl => ?_)
      exact u_X6_sick_145 X hJ hr hlk hk118 x3 x4 (-1 : Int32) (0 : Int32) z hf H locs ls hP hS (lv_sub hl [2, 3, 4, 1, 0] rfl)
    · have hf := (if_pos q).symm.trans hf
      refine lv_goto (tgt := 247) hx hb dX6_sick_136 (by decide) ?_
      refine lv_iinc (v := (x4 + (1 : Int32))) (lv' := [(4, .int (x4 + (1 : Int32))), (0, .ref (a 0)), (3, .int x3)]) hx hb dX6_sick_247 hl (k := 2) rfl rfl (by decide) rfl (fun ls hl => ?_)
      refine lv_goto (tgt := 118) hx hb dX6_sick_250 (by decide) ?_
      exact hk118 x3 (x4 + (1 : Int32)) z hf H locs ls hP hS (lv_sub hl [1, 2, 0] rfl)
theorem u_X6_sick_118 {RR : Int32 × St} (X : Cx p s m c cX6_sick RX6 7 d) (hJ : Inj 20 a) (hr : meth.sig.returnType = (some .int)) (hlk : meth.locks = false) : ∀ (x3 : Int32) (x4 : Int32) (z : St), l_X6_sick_118 x3 x4 z = some RR → WWr wM 20 d a p l e { frames := 3, cells := 0, slots := 0, locals := 71 } s m args below meth c RR z 7 [(0, .ref (a 0)), (3, .int x3), (4, .int x4)] 118 [] := by
  unfold l_X6_sick_118
  generalize FU = n
  induction n with
  | zero => intro x3 x4 z hf; exact absurd (show (none : Option (Int32 × St)) = some RR from hf) (by simp)
  | succ n ih => exact t_X6_sick_118 X hJ hr hlk ih
def f_X6_sick_56 (k56 : Int32 → Int32 → Int32 → Int32 → St → Option (Int32 × St)) (x1 : Int32) (x2 : Int32) (x3 : Int32) (x4 : Int32) (z : St) : Option (Int32 × St) := (if (z.1 0) ≤ x4 then ck 4 x1 (ck 4 x1 (l_X6_sick_118 x3 (0 : Int32) (pA z 16 x1.toNatClampNeg ((z.2 16 x1.toNatClampNeg) &&& (x3 ^^^ (-1 : Int32)))))) else ck 4 x1 ((f_X6_has z (z.2 16 x1.toNatClampNeg) x4).bind (fun r_1 => (if r_1 = (0 : Int32) then k56 x1 x2 x3 (x4 + (1 : Int32)) z else ck 9 x4 ((if (z.2 0 x4.toNatClampNeg) < x2 then k56 x1 x2 x3 (x4 + (1 : Int32)) z else k56 x1 x2 (x3 ||| ((1 : Int32) <<< (x4 &&& 31))) (x4 + (1 : Int32)) z))))))
def l_X6_sick_56 : Int32 → Int32 → Int32 → Int32 → St → Option (Int32 × St) := iter (fun _ _ _ _ _ => none) (f_X6_sick_56) FU
set_option maxHeartbeats 4000000 in
set_option maxRecDepth 100000 in
theorem t_X6_sick_56 {RR : Int32 × St} (X : Cx p s m c cX6_sick RX6 7 d) (hJ : Inj 20 a) (hr : meth.sig.returnType = (some .int)) (hlk : meth.locks = false) {k56 : Int32 → Int32 → Int32 → Int32 → St → Option (Int32 × St)} (hk56 : ∀ (x1 : Int32) (x2 : Int32) (x3 : Int32) (x4 : Int32) (z : St), k56 x1 x2 x3 x4 z = some RR → WWr wM 20 d a p l e { frames := 3, cells := 0, slots := 0, locals := 71 } s m args below meth c RR z 7 [(0, .ref (a 0)), (1, .int x1), (2, .int x2), (3, .int x3), (4, .int x4)] 56 []) : ∀ (x1 : Int32) (x2 : Int32) (x3 : Int32) (x4 : Int32) (z : St), f_X6_sick_56 k56 x1 x2 x3 x4 z = some RR → WWr wM 20 d a p l e { frames := 3, cells := 0, slots := 0, locals := 71 } s m args below meth c RR z 7 [(0, .ref (a 0)), (1, .int x1), (2, .int x2), (3, .int x3), (4, .int x4)] 56 [] := by
  intro x1 x2 x3 x4 z hf H locs ls hP hS hl
  obtain ⟨hx, hb, hml, hown, hE⟩ := id X
  unfold f_X6_sick_56 at hf
  refine lv_iload hx hb dX6_sick_56 (lv_at hl 4 rfl) ?_
  refine lv_aload_n hx hb dX6_sick_58 rfl (lv_at hl 0 rfl) ?_
  refine gf_6_84 hx hb hE hown hP dX6_sick_59 ?_
  refine lv_icmp_ge (tgt := 103) hx hb dX6_sick_62 (by decide) (fun q => ?_) (fun q => ?_)
  · have hf := (if_pos q).symm.trans hf
    refine lv_aload_n hx hb dX6_sick_103 rfl (lv_at hl 0 rfl) ?_
    refine gf_6_72 hx hb hE hown hP dX6_sick_104 ?_
    refine lv_iload_n hx hb dX6_sick_107 rfl (lv_at hl 1 rfl) ?_
    refine lv_dup2_11 hx hb dX6_sick_108 rfl rfl ?_
    obtain ⟨hi, hf⟩ := ck_some hf
    refine ld_M_17 hx hb hE hP hi dX6_sick_109 ?_
    refine lv_iload_n hx hb dX6_sick_110 rfl (lv_at hl 3 rfl) ?_
    refine lv_iconst (v := -1) hx hb dX6_sick_111 (by decide) ?_
    refine lv_ixor hx hb dX6_sick_112 ?_
    refine lv_iand hx hb dX6_sick_113 ?_
    obtain ⟨hi, hf⟩ := ck_some hf
    refine st_M_17 hx hb hE hP hJ hS hi dX6_sick_114 (fun H locs hP hS => ?_)
    refine lv_iconst (v := 0) hx hb dX6_sick_115 (by decide) ?_
    refine lv_istore (lv' := [(4, .int (0 : Int32)), (0, .ref (a 0)), (1, .int x1), (2, .int x2), (3, .int x3)]) hx hb dX6_sick_116 hl (by decide) rfl (fun ls hl => ?_)
    exact u_X6_sick_118 X hJ hr hlk x3 (0 : Int32) (pA z 16 x1.toNatClampNeg ((z.2 16 x1.toNatClampNeg) &&& (x3 ^^^ (-1 : Int32)))) hf H locs ls hP hS (lv_sub hl [1, 4, 0] rfl)
  · have hf := (if_neg q).symm.trans hf
    refine lv_aload_n hx hb dX6_sick_65 rfl (lv_at hl 0 rfl) ?_
    refine gf_6_72 hx hb hE hown hP dX6_sick_66 ?_
    refine lv_iload_n hx hb dX6_sick_69 rfl (lv_at hl 1 rfl) ?_
    obtain ⟨hi, hf⟩ := ck_some hf
    refine ld_M_17 hx hb hE hP hi dX6_sick_70 ?_
    refine lv_iload hx hb dX6_sick_71 (lv_at hl 4 rfl) ?_
    obtain ⟨r_1, hc, hf⟩ := bnd hf
    refine rdS X (c_X6_has l d a z (z.2 16 x1.toNatClampNeg) x4 hc) (k_X6_87 hE rfl rfl ⟨Nat.le_of_ble_eq_true rfl, Nat.le_of_ble_eq_true rfl⟩) hP rfl hl.1 rfl (Nat.le_of_ble_eq_true rfl) dX6_sick_73 ?_
    refine lv_if_eq (tgt := 97) hx hb dX6_sick_76 (by decide) (fun q => ?_) (fun q => ?_)
    · have hf := (if_pos q).symm.trans hf
      refine lv_iinc (v := (x4 + (1 : Int32))) (lv' := [(4, .int (x4 + (1 : Int32))), (0, .ref (a 0)), (1, .int x1), (2, .int x2), (3, .int x3)]) hx hb dX6_sick_97 hl (k := 4) rfl rfl (by decide) rfl (fun ls hl => ?_)
      refine lv_goto (tgt := 56) hx hb dX6_sick_100 (by decide) ?_
      exact hk56 x1 x2 x3 (x4 + (1 : Int32)) z hf H locs ls hP hS (lv_sub hl [1, 2, 3, 4, 0] rfl)
    · have hf := (if_neg q).symm.trans hf
      refine lv_aload_n hx hb dX6_sick_79 rfl (lv_at hl 0 rfl) ?_
      refine gf_6_9 hx hb hE hown hP dX6_sick_80 ?_
      refine lv_iload hx hb dX6_sick_83 (lv_at hl 4 rfl) ?_
      obtain ⟨hi, hf⟩ := ck_some hf
      refine ld_M_1 hx hb hE hP hi dX6_sick_85 ?_
      refine lv_iload_n hx hb dX6_sick_86 rfl (lv_at hl 2 rfl) ?_
      refine lv_icmp_lt (tgt := 97) hx hb dX6_sick_87 (by decide) (fun q => ?_) (fun q => ?_)
      · have hf := (if_pos q).symm.trans hf
        refine lv_iinc (v := (x4 + (1 : Int32))) (lv' := [(4, .int (x4 + (1 : Int32))), (0, .ref (a 0)), (1, .int x1), (2, .int x2), (3, .int x3)]) hx hb dX6_sick_97 hl (k := 4) rfl rfl (by decide) rfl (fun ls hl => ?_)
        refine lv_goto (tgt := 56) hx hb dX6_sick_100 (by decide) ?_
        exact hk56 x1 x2 x3 (x4 + (1 : Int32)) z hf H locs ls hP hS (lv_sub hl [1, 2, 3, 4, 0] rfl)
      · have hf := (if_neg q).symm.trans hf
        refine lv_iload_n hx hb dX6_sick_90 rfl (lv_at hl 3 rfl) ?_
        refine lv_iconst (v := 1) hx hb dX6_sick_91 (by decide) ?_
        refine lv_iload hx hb dX6_sick_92 (lv_at hl 4 rfl) ?_
        refine lv_ishl hx hb dX6_sick_94 ?_
        refine lv_ior hx hb dX6_sick_95 ?_
        refine lv_istore_n (lv' := [(3, .int (x3 ||| ((1 : Int32) <<< (x4 &&& 31)))), (0, .ref (a 0)), (1, .int x1), (2, .int x2), (4, .int x4)]) hx hb dX6_sick_96 rfl hl (by decide) rfl (fun ls hl => ?_)
        refine lv_iinc (v := (x4 + (1 : Int32))) (lv' := [(4, .int (x4 + (1 : Int32))), (3, .int (x3 ||| ((1 : Int32) <<< (x4 &&& 31)))), (0, .ref (a 0)), (1, .int x1), (2, .int x2)]) hx hb dX6_sick_97 hl (k := 4) rfl rfl (by decide) rfl (fun ls hl => ?_)
        refine lv_goto (tgt := 56) hx hb dX6_sick_100 (by decide) ?_
        exact hk56 x1 x2 (x3 ||| ((1 : Int32) <<< (x4 &&& 31))) (x4 + (1 : Int32)) z hf H locs ls hP hS (lv_sub hl [2, 3, 4, 1, 0] rfl)
theorem u_X6_sick_56 {RR : Int32 × St} (X : Cx p s m c cX6_sick RX6 7 d) (hJ : Inj 20 a) (hr : meth.sig.returnType = (some .int)) (hlk : meth.locks = false) : ∀ (x1 : Int32) (x2 : Int32) (x3 : Int32) (x4 : Int32) (z : St), l_X6_sick_56 x1 x2 x3 x4 z = some RR → WWr wM 20 d a p l e { frames := 3, cells := 0, slots := 0, locals := 71 } s m args below meth c RR z 7 [(0, .ref (a 0)), (1, .int x1), (2, .int x2), (3, .int x3), (4, .int x4)] 56 [] := by
  unfold l_X6_sick_56
  generalize FU = n
  induction n with
  | zero => intro x1 x2 x3 x4 z hf; exact absurd (show (none : Option (Int32 × St)) = some RR from hf) (by simp)
  | succ n ih => exact t_X6_sick_56 X hJ hr hlk ih
def f_X6_sick (x1 : Int32) (x2 : Int32) (z : St) : Option (Int32 × St) := (f_X6_isPerson z x1).bind (fun r_1 => (if r_1 = (0 : Int32) then some ((-1 : Int32), z) else (if x2 < (0 : Int32) then some ((-1 : Int32), z) else (if x2 ≤ (13 : Int32) then (if (z.1 7) = (0 : Int32) then some ((-3 : Int32), z) else ck 4 x1 ((if (z.2 18 x1.toNatClampNeg) = (0 : Int32) then ck 4 x1 (l_X6_sick_56 x1 x2 (0 : Int32) (0 : Int32) (pS (pA z 18 x1.toNatClampNeg (vp_nar .boolean (1 : Int32))) 8 (0 : Int32))) else some ((-3 : Int32), z)))) else some ((-1 : Int32), z)))))
set_option maxHeartbeats 4000000 in
set_option maxRecDepth 100000 in
theorem t_X6_sick {RR : Int32 × St} (X : Cx p s m c cX6_sick RX6 7 d) (hJ : Inj 20 a) (hr : meth.sig.returnType = (some .int)) (hlk : meth.locks = false) : ∀ (x1 : Int32) (x2 : Int32) (z : St), f_X6_sick x1 x2 z = some RR → WWr wM 20 d a p l e { frames := 3, cells := 0, slots := 0, locals := 71 } s m args below meth c RR z 7 [(0, .ref (a 0)), (1, .int x1), (2, .int x2)] 0 [] := by
  intro x1 x2 z hf H locs ls hP hS hl
  obtain ⟨hx, hb, hml, hown, hE⟩ := id X
  unfold f_X6_sick at hf
  refine lv_aload_n hx hb dX6_sick_0 rfl (lv_at hl 0 rfl) ?_
  refine lv_iload_n hx hb dX6_sick_1 rfl (lv_at hl 1 rfl) ?_
  obtain ⟨r_1, hc, hf⟩ := bnd hf
  refine rdV X (c_X6_isPerson l d a z x1 hc) (k_X6_101 hE rfl rfl ⟨Nat.le_of_ble_eq_true rfl, Nat.le_of_ble_eq_true rfl⟩) hP (va_recv (q := (RX6, TX6, 28)) hE.2 hP (ci := 6) (q0 := 0) rfl rfl) rfl hl.1 rfl (Nat.le_of_ble_eq_true rfl) dX6_sick_2 ?_
  refine lv_if_eq (tgt := 18) hx hb dX6_sick_5 (by decide) (fun q => ?_) (fun q => ?_)
  · have hf := (if_pos q).symm.trans hf
    refine lv_iconst (v := -1) hx hb dX6_sick_18 (by decide) ?_
    obtain rfl := Option.some.inj hf
    exact W.iret hx hb hr (fun t ht _ => ⟨rfl, by rw [ht]; exact hP, hS.F ht⟩) hS.2.2 dX6_sick_19 hlk
  · have hf := (if_neg q).symm.trans hf
    refine lv_iload_n hx hb dX6_sick_8 rfl (lv_at hl 2 rfl) ?_
    refine lv_if_lt (tgt := 18) hx hb dX6_sick_9 (by decide) (fun q => ?_) (fun q => ?_)
    · have hf := (if_pos q).symm.trans hf
      refine lv_iconst (v := -1) hx hb dX6_sick_18 (by decide) ?_
      obtain rfl := Option.some.inj hf
      exact W.iret hx hb hr (fun t ht _ => ⟨rfl, by rw [ht]; exact hP, hS.F ht⟩) hS.2.2 dX6_sick_19 hlk
    · have hf := (if_neg q).symm.trans hf
      refine lv_iload_n hx hb dX6_sick_12 rfl (lv_at hl 2 rfl) ?_
      refine lv_bipush (v := 13) hx hb dX6_sick_13 (by decide) ?_
      refine lv_icmp_le (tgt := 20) hx hb dX6_sick_15 (by decide) (fun q => ?_) (fun q => ?_)
      · have hf := (if_pos q).symm.trans hf
        refine lv_aload_n hx hb dX6_sick_20 rfl (lv_at hl 0 rfl) ?_
        refine gf_6_95 hx hb hE hown hP dX6_sick_21 ?_
        refine lv_if_eq (tgt := 36) hx hb dX6_sick_24 (by decide) (fun q => ?_) (fun q => ?_)
        · have hf := (if_pos q).symm.trans hf
          refine lv_bipush (v := -3) hx hb dX6_sick_36 (by decide) ?_
          obtain rfl := Option.some.inj hf
          exact W.iret hx hb hr (fun t ht _ => ⟨rfl, by rw [ht]; exact hP, hS.F ht⟩) hS.2.2 dX6_sick_38 hlk
        · have hf := (if_neg q).symm.trans hf
          refine lv_aload_n hx hb dX6_sick_27 rfl (lv_at hl 0 rfl) ?_
          refine gf_6_78 hx hb hE hown hP dX6_sick_28 ?_
          refine lv_iload_n hx hb dX6_sick_31 rfl (lv_at hl 1 rfl) ?_
          obtain ⟨hi, hf⟩ := ck_some hf
          refine ld_M_19 hx hb hE hP hi dX6_sick_32 ?_
          refine lv_if_eq (tgt := 39) hx hb dX6_sick_33 (by decide) (fun q => ?_) (fun q => ?_)
          · have hf := (if_pos q).symm.trans hf
            refine lv_aload_n hx hb dX6_sick_39 rfl (lv_at hl 0 rfl) ?_
            refine gf_6_78 hx hb hE hown hP dX6_sick_40 ?_
            refine lv_iload_n hx hb dX6_sick_43 rfl (lv_at hl 1 rfl) ?_
            refine lv_iconst (v := 1) hx hb dX6_sick_44 (by decide) ?_
            obtain ⟨hi, hf⟩ := ck_some hf
            refine st_M_19 hx hb hE hP hJ hS hi dX6_sick_45 (fun H locs hP hS => ?_)
            refine lv_aload_n hx hb dX6_sick_46 rfl (lv_at hl 0 rfl) ?_
            refine lv_iconst (v := 0) hx hb dX6_sick_47 (by decide) ?_
            refine pf_6_148 hx hb hE hown hP hJ hS rfl rfl dX6_sick_48 (fun H locs hP hS => ?_)
            refine lv_iconst (v := 0) hx hb dX6_sick_51 (by decide) ?_
            refine lv_istore_n (lv' := [(3, .int (0 : Int32)), (0, .ref (a 0)), (1, .int x1), (2, .int x2)]) hx hb dX6_sick_52 rfl hl (by decide) rfl (fun ls hl => ?_)
            refine lv_iconst (v := 0) hx hb dX6_sick_53 (by decide) ?_
            refine lv_istore (lv' := [(4, .int (0 : Int32)), (3, .int (0 : Int32)), (0, .ref (a 0)), (1, .int x1), (2, .int x2)]) hx hb dX6_sick_54 hl (by decide) rfl (fun ls hl => ?_)
            exact u_X6_sick_56 X hJ hr hlk x1 x2 (0 : Int32) (0 : Int32) (pS (pA z 18 x1.toNatClampNeg (vp_nar .boolean (1 : Int32))) 8 (0 : Int32)) hf H locs ls hP hS (lv_sub hl [2, 3, 4, 1, 0] rfl)
          · have hf := (if_neg q).symm.trans hf
            refine lv_bipush (v := -3) hx hb dX6_sick_36 (by decide) ?_
            obtain rfl := Option.some.inj hf
            exact W.iret hx hb hr (fun t ht _ => ⟨rfl, by rw [ht]; exact hP, hS.F ht⟩) hS.2.2 dX6_sick_38 hlk
      · have hf := (if_neg q).symm.trans hf
        refine lv_iconst (v := -1) hx hb dX6_sick_18 (by decide) ?_
        obtain rfl := Option.some.inj hf
        exact W.iret hx hb hr (fun t ht _ => ⟨rfl, by rw [ht]; exact hP, hS.F ht⟩) hS.2.2 dX6_sick_19 hlk
set_option maxHeartbeats 4000000 in
set_option maxRecDepth 100000 in
theorem c_X6_sick (l : Launch) (d : G3) (a : Nat → Nat) (z : St) (x1 : Int32) (x2 : Int32) {RR : Int32 × St} (hf : f_X6_sick x1 x2 z = some RR) : Met l yX6_sick [Cond.code yX6_sick cX6_sick 7 (some .int)] { frames := 3, cells := 0, slots := 0, locals := 71 } (wpre wM 20 d a z [.ref (a 0), .int x1, .int x2]) (QW wM 20 d a RR) 0 0 (AD 20 a) := by
  refine Met.ofW (cc := cX6_sick) (maxL := 7) (ret := (some .int)) (by decide) rfl ?_
  intro p e s m args below meth c s₁ B hml hv
  obtain ⟨rfl, hE, hP, hJ⟩ := hv
  have X : Cx p s m c cX6_sick RX6 7 d := ⟨B.exec, B.bytes, hml, findClass_of_methodNamed B.named, hE⟩
  have hl := lv_entry ([.ref (a 0), .int x1, .int x2]) (n := 7) (Nat.le_of_ble_eq_true rfl)
  rw [lg_entry_eq]
  generalize (lg_sl ([.ref (a 0), .int x1, .int x2]) ++ List.replicate (7 - (lg_sl ([.ref (a 0), .int x1, .int x2])).length) Slot.unset).toArray = ls at hl ⊢
  have hl : lv_has ls 7 [(0, .ref (a 0)), (1, .int x1), (2, .int x2)] := hl
  exact t_X6_sick X hJ B.returns B.notSynchronized x1 x2 z hf s.heap [] ls hP va_S.rf hl
def f_X6_who_22 (z : St) (k22 : Int32 → Int32 → Option (Int32)) (x1 : Int32) (x2 : Int32) : Option (Int32) := (if (z.1 1) ≤ x2 then some (-1 : Int32) else ck 4 x2 ((f_X6_has z (z.2 16 x2.toNatClampNeg) x1).bind (fun r_1 => (if r_1 = (0 : Int32) then k22 x1 (x2 + (1 : Int32)) else some x2))))
def l_X6_who_22 (z : St) : Int32 → Int32 → Option (Int32) := iter (fun _ _ => none) (f_X6_who_22 z) FU
set_option maxHeartbeats 4000000 in
set_option maxRecDepth 100000 in
theorem t_X6_who_22 {RR : Int32} (X : Cx p s m c cX6_who RX6 3 d) {z : St} (hP : va_P d.1 classes (wM d a z) s.heap) (hr : meth.sig.returnType = (some .int)) (hlk : meth.locks = false) {k22 : Int32 → Int32 → Option (Int32)} (hk22 : ∀ (x1 : Int32) (x2 : Int32), k22 x1 x2 = some RR → WRd p l e { frames := 1, cells := 0, slots := 0, locals := 21 } s m args below meth c RR 3 [(0, .ref (a 0)), (1, .int x1), (2, .int x2)] 22 []) : ∀ (x1 : Int32) (x2 : Int32), f_X6_who_22 z k22 x1 x2 = some RR → WRd p l e { frames := 1, cells := 0, slots := 0, locals := 21 } s m args below meth c RR 3 [(0, .ref (a 0)), (1, .int x1), (2, .int x2)] 22 [] := by
  intro x1 x2 hf ls hl
  obtain ⟨hx, hb, hml, hown, hE⟩ := id X
  unfold f_X6_who_22 at hf
  refine lv_iload_n hx hb dX6_who_22 rfl (lv_at hl 2 rfl) ?_
  refine lv_aload_n hx hb dX6_who_23 rfl (lv_at hl 0 rfl) ?_
  refine gf_6_81 hx hb hE hown hP dX6_who_24 ?_
  refine lv_icmp_ge (tgt := 51) hx hb dX6_who_27 (by decide) (fun q => ?_) (fun q => ?_)
  · have hf := (if_pos q).symm.trans hf
    refine lv_iconst (v := -1) hx hb dX6_who_51 (by decide) ?_
    obtain rfl := Option.some.inj hf
    exact W.iret hx hb hr (fun t ht _ => ⟨rfl, ht⟩) (fun _ h => nomatch h) dX6_who_52 hlk
  · have hf := (if_neg q).symm.trans hf
    refine lv_aload_n hx hb dX6_who_30 rfl (lv_at hl 0 rfl) ?_
    refine gf_6_72 hx hb hE hown hP dX6_who_31 ?_
    refine lv_iload_n hx hb dX6_who_34 rfl (lv_at hl 2 rfl) ?_
    obtain ⟨hi, hf⟩ := ck_some hf
    refine ld_M_17 hx hb hE hP hi dX6_who_35 ?_
    refine lv_iload_n hx hb dX6_who_36 rfl (lv_at hl 1 rfl) ?_
    obtain ⟨r_1, hc, hf⟩ := bnd hf
    refine rdS X (c_X6_has l d a z (z.2 16 x2.toNatClampNeg) x1 hc) (k_X6_87 hE rfl rfl ⟨Nat.le_of_ble_eq_true rfl, Nat.le_of_ble_eq_true rfl⟩) hP rfl hl.1 rfl (Nat.le_of_ble_eq_true rfl) dX6_who_37 ?_
    refine lv_if_eq (tgt := 45) hx hb dX6_who_40 (by decide) (fun q => ?_) (fun q => ?_)
    · have hf := (if_pos q).symm.trans hf
      refine lv_iinc (v := (x2 + (1 : Int32))) (lv' := [(2, .int (x2 + (1 : Int32))), (0, .ref (a 0)), (1, .int x1)]) hx hb dX6_who_45 hl (k := 2) rfl rfl (by decide) rfl (fun ls hl => ?_)
      refine lv_goto (tgt := 22) hx hb dX6_who_48 (by decide) ?_
      exact hk22 x1 (x2 + (1 : Int32)) hf ls (lv_sub hl [1, 2, 0] rfl)
    · have hf := (if_neg q).symm.trans hf
      refine lv_iload_n hx hb dX6_who_43 rfl (lv_at hl 2 rfl) ?_
      obtain rfl := Option.some.inj hf
      exact W.iret hx hb hr (fun t ht _ => ⟨rfl, ht⟩) (fun _ h => nomatch h) dX6_who_44 hlk
theorem u_X6_who_22 {RR : Int32} (X : Cx p s m c cX6_who RX6 3 d) {z : St} (hP : va_P d.1 classes (wM d a z) s.heap) (hr : meth.sig.returnType = (some .int)) (hlk : meth.locks = false) : ∀ (x1 : Int32) (x2 : Int32), l_X6_who_22 z x1 x2 = some RR → WRd p l e { frames := 1, cells := 0, slots := 0, locals := 21 } s m args below meth c RR 3 [(0, .ref (a 0)), (1, .int x1), (2, .int x2)] 22 [] := by
  unfold l_X6_who_22
  generalize FU = n
  induction n with
  | zero => intro x1 x2 hf; exact absurd (show (none : Option (Int32)) = some RR from hf) (by simp)
  | succ n ih => exact t_X6_who_22 X hP hr hlk ih
def f_X6_who (z : St) (x1 : Int32) : Option (Int32) := (f_X6_isDuty z x1).bind (fun r_1 => (if r_1 = (0 : Int32) then some (-1 : Int32) else (if (z.1 7) = (0 : Int32) then some (-3 : Int32) else l_X6_who_22 z x1 (0 : Int32))))
set_option maxHeartbeats 4000000 in
set_option maxRecDepth 100000 in
theorem t_X6_who {RR : Int32} (X : Cx p s m c cX6_who RX6 3 d) {z : St} (hP : va_P d.1 classes (wM d a z) s.heap) (hr : meth.sig.returnType = (some .int)) (hlk : meth.locks = false) : ∀ (x1 : Int32), f_X6_who z x1 = some RR → WRd p l e { frames := 1, cells := 0, slots := 0, locals := 21 } s m args below meth c RR 3 [(0, .ref (a 0)), (1, .int x1)] 0 [] := by
  intro x1 hf ls hl
  obtain ⟨hx, hb, hml, hown, hE⟩ := id X
  unfold f_X6_who at hf
  refine lv_aload_n hx hb dX6_who_0 rfl (lv_at hl 0 rfl) ?_
  refine lv_iload_n hx hb dX6_who_1 rfl (lv_at hl 1 rfl) ?_
  obtain ⟨r_1, hc, hf⟩ := bnd hf
  refine rdV X (c_X6_isDuty l d a z x1 hc) (k_X6_105 hE rfl rfl ⟨Nat.le_of_ble_eq_true rfl, Nat.le_of_ble_eq_true rfl⟩) hP (va_recv (q := (RX6, TX6, 28)) hE.2 hP (ci := 6) (q0 := 0) rfl rfl) rfl hl.1 rfl (Nat.le_of_ble_eq_true rfl) dX6_who_2 ?_
  refine lv_if_ne (tgt := 10) hx hb dX6_who_5 (by decide) (fun q => ?_) (fun q => ?_)
  · have hf := (if_neg q).symm.trans hf
    refine lv_aload_n hx hb dX6_who_10 rfl (lv_at hl 0 rfl) ?_
    refine gf_6_95 hx hb hE hown hP dX6_who_11 ?_
    refine lv_if_ne (tgt := 20) hx hb dX6_who_14 (by decide) (fun q => ?_) (fun q => ?_)
    · have hf := (if_neg q).symm.trans hf
      refine lv_iconst (v := 0) hx hb dX6_who_20 (by decide) ?_
      refine lv_istore_n (lv' := [(2, .int (0 : Int32)), (0, .ref (a 0)), (1, .int x1)]) hx hb dX6_who_21 rfl hl (by decide) rfl (fun ls hl => ?_)
      exact u_X6_who_22 X hP hr hlk x1 (0 : Int32) hf ls (lv_sub hl [1, 2, 0] rfl)
    · have hf := (if_pos q).symm.trans hf
      refine lv_bipush (v := -3) hx hb dX6_who_17 (by decide) ?_
      obtain rfl := Option.some.inj hf
      exact W.iret hx hb hr (fun t ht _ => ⟨rfl, ht⟩) (fun _ h => nomatch h) dX6_who_19 hlk
  · have hf := (if_pos q).symm.trans hf
    refine lv_iconst (v := -1) hx hb dX6_who_8 (by decide) ?_
    obtain rfl := Option.some.inj hf
    exact W.iret hx hb hr (fun t ht _ => ⟨rfl, ht⟩) (fun _ h => nomatch h) dX6_who_9 hlk
set_option maxHeartbeats 4000000 in
set_option maxRecDepth 100000 in
theorem c_X6_who (l : Launch) (d : G3) (a : Nat → Nat) (z : St) (x1 : Int32) {RR : Int32} (hf : f_X6_who z x1 = some RR) : Met l yX6_who [Cond.code yX6_who cX6_who 3 (some .int)] { frames := 1, cells := 0, slots := 0, locals := 21 } (rpre wM d a z [.ref (a 0), .int x1]) (QcRead RR) 0 0 (fun _ => False) := by
  refine Met.ofW (cc := cX6_who) (maxL := 3) (ret := (some .int)) (by decide) rfl ?_
  intro p e s m args below meth c s₁ B hml hv
  obtain ⟨rfl, hE, hP⟩ := hv
  have X : Cx p s m c cX6_who RX6 3 d := ⟨B.exec, B.bytes, hml, findClass_of_methodNamed B.named, hE⟩
  have hl := lv_entry ([.ref (a 0), .int x1]) (n := 3) (Nat.le_of_ble_eq_true rfl)
  rw [lg_entry_eq]
  generalize (lg_sl ([.ref (a 0), .int x1]) ++ List.replicate (3 - (lg_sl ([.ref (a 0), .int x1])).length) Slot.unset).toArray = ls at hl ⊢
  have hl : lv_has ls 3 [(0, .ref (a 0)), (1, .int x1)] := hl
  exact t_X6_who X hP B.returns B.notSynchronized x1 hf ls hl
end GEN
