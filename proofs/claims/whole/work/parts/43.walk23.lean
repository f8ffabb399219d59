section GEN
variable {p : Program} {l : Launch} {e : Env} {s : State} {m : MethodId} {args : Array Value} {below : List Frame} {meth : Method} {c : Code} {d : G3} {a : Nat → Nat}
def f_X6_swap_237 (x1 : Int32) (x3 : Int32) (x7 : Int32) (x8 : Int32) (s0 : Int32) (z : St) : Option (Int32 × St) := ck 4 x1 (ck 4 x3 ((if s0 = (0 : Int32) then some ((0 : Int32), (pS (pA (pA z 16 x1.toNatClampNeg x7) 16 x3.toNatClampNeg x8) 8 (0 : Int32))) else some ((1 : Int32), (pS (pA (pA z 16 x1.toNatClampNeg x7) 16 x3.toNatClampNeg x8) 8 (0 : Int32))))))
set_option maxHeartbeats 4000000 in
set_option maxRecDepth 100000 in
theorem t_X6_swap_237 {RR : Int32 × St} (X : Cx p s m c cX6_swap RX6 10 d) (hJ : Inj 20 a) (hr : meth.sig.returnType = (some .int)) (hlk : meth.locks = false) : ∀ (x1 : Int32) (x3 : Int32) (x7 : Int32) (x8 : Int32) (s0 : Int32) (z : St), f_X6_swap_237 x1 x3 x7 x8 s0 z = some RR → WWr wM 20 d a p l e { frames := 4, cells := 0, slots := 0, locals := 96 } s m args below meth c RR z 10 [(0, .ref (a 0)), (1, .int x1), (3, .int x3), (7, .int x7), (8, .int x8)] 237 [.int s0] := by
  intro x1 x3 x7 x8 s0 z hf H locs ls hP hS hl
  obtain ⟨hx, hb, hml, hown, hE⟩ := id X
  unfold f_X6_swap_237 at hf
  refine lv_istore (lv' := [(9, .int s0), (0, .ref (a 0)), (1, .int x1), (3, .int x3), (7, .int x7), (8, .int x8)]) hx hb dX6_swap_237 hl (by decide) rfl (fun ls hl => ?_)
  refine lv_aload_n hx hb dX6_swap_239 rfl (lv_at hl 1 rfl) ?_
  refine gf_6_72 hx hb hE hown hP dX6_swap_240 ?_
  refine lv_iload_n hx hb dX6_swap_243 rfl (lv_at hl 2 rfl) ?_
  refine lv_iload hx hb dX6_swap_244 (lv_at hl 4 rfl) ?_
  obtain ⟨hi, hf⟩ := ck_some hf
  refine st_M_17 hx hb hE hP hJ hS hi dX6_swap_246 (fun H locs hP hS => ?_)
  refine lv_aload_n hx hb dX6_swap_247 rfl (lv_at hl 1 rfl) ?_
  refine gf_6_72 hx hb hE hown hP dX6_swap_248 ?_
  refine lv_iload_n hx hb dX6_swap_251 rfl (lv_at hl 3 rfl) ?_
  refine lv_iload hx hb dX6_swap_252 (lv_at hl 5 rfl) ?_
  obtain ⟨hi, hf⟩ := ck_some hf
  refine st_M_17 hx hb hE hP hJ hS hi dX6_swap_254 (fun H locs hP hS => ?_)
  refine lv_aload_n hx hb dX6_swap_255 rfl (lv_at hl 1 rfl) ?_
  refine lv_iconst (v := 0) hx hb dX6_swap_256 (by decide) ?_
  refine pf_6_148 hx hb hE hown hP hJ hS rfl rfl dX6_swap_257 (fun H locs hP hS => ?_)
  refine lv_iload hx hb dX6_swap_260 (lv_at hl 0 rfl) ?_
  refine lv_if_eq (tgt := 269) hx hb dX6_swap_262 (by decide) (fun q => ?_) (fun q => ?_)
  · have hf := (if_pos q).symm.trans hf
    refine lv_iconst (v := 0) hx hb dX6_swap_269 (by decide) ?_
    obtain rfl := Option.some.inj hf
    exact W.iret hx hb hr (fun t ht _ => ⟨rfl, by rw [ht]; exact hP, hS.F ht⟩) hS.2.2 dX6_swap_270 hlk
  · have hf := (if_neg q).symm.trans hf
    refine lv_iconst (v := 1) hx hb dX6_swap_265 (by decide) ?_
    refine lv_goto (tgt := 270) hx hb dX6_swap_266 (by decide) ?_
    obtain rfl := Option.some.inj hf
    exact W.iret hx hb hr (fun t ht _ => ⟨rfl, by rw [ht]; exact hP, hS.F ht⟩) hS.2.2 dX6_swap_270 hlk
def f_X6_swap_141 (x1 : Int32) (x3 : Int32) (x5 : Int32) (s0 : Int32) (z : St) : Option (Int32 × St) := ck 4 x1 (ck 4 x3 ((f_X6_whyNot z x1 (((z.2 16 x1.toNatClampNeg) &&& (x5 ^^^ (-1 : Int32))) ||| s0)).bind (fun r_1 => (if r_1 = (0 : Int32) then (f_X6_whyNot z x3 (((z.2 16 x3.toNatClampNeg) &&& (s0 ^^^ (-1 : Int32))) ||| x5)).bind (fun r_2 => (if r_2 = (0 : Int32) then ck 4 x1 ((f_X6_compares z x1 (z.2 16 x1.toNatClampNeg) (((z.2 16 x1.toNatClampNeg) &&& (x5 ^^^ (-1 : Int32))) ||| s0)).bind (fun r_3 => (if r_3 = (2 : Int32) then f_X6_swap_237 x1 x3 (((z.2 16 x1.toNatClampNeg) &&& (x5 ^^^ (-1 : Int32))) ||| s0) (((z.2 16 x3.toNatClampNeg) &&& (s0 ^^^ (-1 : Int32))) ||| x5) (0 : Int32) z else ck 4 x3 ((f_X6_compares z x3 (z.2 16 x3.toNatClampNeg) (((z.2 16 x3.toNatClampNeg) &&& (s0 ^^^ (-1 : Int32))) ||| x5)).bind (fun r_4 => (if r_4 = (2 : Int32) then f_X6_swap_237 x1 x3 (((z.2 16 x1.toNatClampNeg) &&& (x5 ^^^ (-1 : Int32))) ||| s0) (((z.2 16 x3.toNatClampNeg) &&& (s0 ^^^ (-1 : Int32))) ||| x5) (0 : Int32) z else f_X6_swap_237 x1 x3 (((z.2 16 x1.toNatClampNeg) &&& (x5 ^^^ (-1 : Int32))) ||| s0) (((z.2 16 x3.toNatClampNeg) &&& (s0 ^^^ (-1 : Int32))) ||| x5) (1 : Int32) z)))))) else some ((-3 : Int32), z))) else some ((-3 : Int32), z)))))
set_option maxHeartbeats 4000000 in
set_option maxRecDepth 100000 in
theorem t_X6_swap_141 {RR : Int32 × St} (X : Cx p s m c cX6_swap RX6 10 d) (hJ : Inj 20 a) (hr : meth.sig.returnType = (some .int)) (hlk : meth.locks = false) : ∀ (x1 : Int32) (x3 : Int32) (x5 : Int32) (s0 : Int32) (z : St), f_X6_swap_141 x1 x3 x5 s0 z = some RR → WWr wM 20 d a p l e { frames := 4, cells := 0, slots := 0, locals := 96 } s m args below meth c RR z 10 [(0, .ref (a 0)), (1, .int x1), (3, .int x3), (5, .int x5)] 141 [.int s0] := by
  intro x1 x3 x5 s0 z hf H locs ls hP hS hl
  obtain ⟨hx, hb, hml, hown, hE⟩ := id X
  unfold f_X6_swap_141 at hf
  refine lv_istore (lv' := [(6, .int s0), (0, .ref (a 0)), (1, .int x1), (3, .int x3), (5, .int x5)]) hx hb dX6_swap_141 hl (by decide) rfl (fun ls hl => ?_)
  refine lv_aload_n hx hb dX6_swap_143 rfl (lv_at hl 1 rfl) ?_
  refine gf_6_72 hx hb hE hown hP dX6_swap_144 ?_
  refine lv_iload_n hx hb dX6_swap_147 rfl (lv_at hl 2 rfl) ?_
  obtain ⟨hi, hf⟩ := ck_some hf
  refine ld_M_17 hx hb hE hP hi dX6_swap_148 ?_
  refine lv_iload hx hb dX6_swap_149 (lv_at hl 4 rfl) ?_
  refine lv_iconst (v := -1) hx hb dX6_swap_151 (by decide) ?_
  refine lv_ixor hx hb dX6_swap_152 ?_
  refine lv_iand hx hb dX6_swap_153 ?_
  refine lv_iload hx hb dX6_swap_154 (lv_at hl 0 rfl) ?_
  refine lv_ior hx hb dX6_swap_156 ?_
  refine lv_istore (lv' := [(7, .int (((z.2 16 x1.toNatClampNeg) &&& (x5 ^^^ (-1 : Int32))) ||| s0)), (6, .int s0), (0, .ref (a 0)), (1, .int x1), (3, .int x3), (5, .int x5)]) hx hb dX6_swap_157 hl (by decide) rfl (fun ls hl => ?_)
  refine lv_aload_n hx hb dX6_swap_159 rfl (lv_at hl 2 rfl) ?_
  refine gf_6_72 hx hb hE hown hP dX6_swap_160 ?_
  refine lv_iload_n hx hb dX6_swap_163 rfl (lv_at hl 4 rfl) ?_
  obtain ⟨hi, hf⟩ := ck_some hf
  refine ld_M_17 hx hb hE hP hi dX6_swap_164 ?_
  refine lv_iload hx hb dX6_swap_165 (lv_at hl 1 rfl) ?_
  refine lv_iconst (v := -1) hx hb dX6_swap_167 (by decide) ?_
  refine lv_ixor hx hb dX6_swap_168 ?_
  refine lv_iand hx hb dX6_swap_169 ?_
  refine lv_iload hx hb dX6_swap_170 (lv_at hl 5 rfl) ?_
  refine lv_ior hx hb dX6_swap_172 ?_
  refine lv_istore (lv' := [(8, .int (((z.2 16 x3.toNatClampNeg) &&& (s0 ^^^ (-1 : Int32))) ||| x5)), (7, .int (((z.2 16 x1.toNatClampNeg) &&& (x5 ^^^ (-1 : Int32))) ||| s0)), (6, .int s0), (0, .ref (a 0)), (1, .int x1), (3, .int x3), (5, .int x5)]) hx hb dX6_swap_173 hl (by decide) rfl (fun ls hl => ?_)
  refine lv_aload_n hx hb dX6_swap_175 rfl (lv_at hl 3 rfl) ?_
  refine lv_iload_n hx hb dX6_swap_176 rfl (lv_at hl 4 rfl) ?_
  refine lv_iload hx hb dX6_swap_177 (lv_at hl 1 rfl) ?_
  obtain ⟨r_1, hc, hf⟩ := bnd hf
  refine rdV X (c_X6_whyNot l d a z x1 (((z.2 16 x1.toNatClampNeg) &&& (x5 ^^^ (-1 : Int32))) ||| s0) hc) (k_X6_123 hE rfl rfl ⟨Nat.le_of_ble_eq_true rfl, Nat.le_of_ble_eq_true rfl⟩) hP (va_recv (q := (RX6, TX6, 28)) hE.2 hP (ci := 6) (q0 := 0) rfl rfl) rfl hl.1 rfl (Nat.le_of_ble_eq_true rfl) dX6_swap_179 ?_
  refine lv_if_ne (tgt := 195) hx hb dX6_swap_182 (by decide) (fun q => ?_) (fun q => ?_)
  · have hf := (if_neg q).symm.trans hf
    refine lv_bipush (v := -3) hx hb dX6_swap_195 (by decide) ?_
    obtain rfl := Option.some.inj hf
    exact W.iret hx hb hr (fun t ht _ => ⟨rfl, by rw [ht]; exact hP, hS.F ht⟩) hS.2.2 dX6_swap_197 hlk
  · have hf := (if_pos q).symm.trans hf
    refine lv_aload_n hx hb dX6_swap_185 rfl (lv_at hl 3 rfl) ?_
    refine lv_iload_n hx hb dX6_swap_186 rfl (lv_at hl 5 rfl) ?_
    refine lv_iload hx hb dX6_swap_187 (lv_at hl 0 rfl) ?_
    obtain ⟨r_2, hc, hf⟩ := bnd hf
    refine rdV X (c_X6_whyNot l d a z x3 (((z.2 16 x3.toNatClampNeg) &&& (s0 ^^^ (-1 : Int32))) ||| x5) hc) (k_X6_123 hE rfl rfl ⟨Nat.le_of_ble_eq_true rfl, Nat.le_of_ble_eq_true rfl⟩) hP (va_recv (q := (RX6, TX6, 28)) hE.2 hP (ci := 6) (q0 := 0) rfl rfl) rfl hl.1 rfl (Nat.le_of_ble_eq_true rfl) dX6_swap_189 ?_
    refine lv_if_eq (tgt := 198) hx hb dX6_swap_192 (by decide) (fun q => ?_) (fun q => ?_)
    · have hf := (if_pos q).symm.trans hf
      refine lv_aload_n hx hb dX6_swap_198 rfl (lv_at hl 3 rfl) ?_
      refine lv_iload_n hx hb dX6_swap_199 rfl (lv_at hl 4 rfl) ?_
      refine lv_aload_n hx hb dX6_swap_200 rfl (lv_at hl 3 rfl) ?_
      refine gf_6_72 hx hb hE hown hP dX6_swap_201 ?_
      refine lv_iload_n hx hb dX6_swap_204 rfl (lv_at hl 4 rfl) ?_
      obtain ⟨hi, hf⟩ := ck_some hf
      refine ld_M_17 hx hb hE hP hi dX6_swap_205 ?_
      refine lv_iload hx hb dX6_swap_206 (lv_at hl 1 rfl) ?_
      obtain ⟨r_3, hc, hf⟩ := bnd hf
      refine rdV X (c_X6_compares l d a z x1 (z.2 16 x1.toNatClampNeg) (((z.2 16 x1.toNatClampNeg) &&& (x5 ^^^ (-1 : Int32))) ||| s0) hc) (k_X6_135 hE rfl rfl ⟨Nat.le_of_ble_eq_true rfl, Nat.le_of_ble_eq_true rfl⟩) hP (va_recv (q := (RX6, TX6, 28)) hE.2 hP (ci := 6) (q0 := 0) rfl rfl) rfl hl.1 rfl (Nat.le_of_ble_eq_true rfl) dX6_swap_208 ?_
      refine lv_iconst (v := 2) hx hb dX6_swap_211 (by decide) ?_
      refine lv_icmp_eq (tgt := 236) hx hb dX6_swap_212 (by decide) (fun q => ?_) (fun q => ?_)
      · have hf := (if_pos q).symm.trans hf
        refine lv_iconst (v := 0) hx hb dX6_swap_236 (by decide) ?_
        exact t_X6_swap_237 X hJ hr hlk x1 x3 (((z.2 16 x1.toNatClampNeg) &&& (x5 ^^^ (-1 : Int32))) ||| s0) (((z.2 16 x3.toNatClampNeg) &&& (s0 ^^^ (-1 : Int32))) ||| x5) (0 : Int32) z hf H locs ls hP hS (lv_sub hl [3, 4, 5, 1, 0] rfl)
      · have hf := (if_neg q).symm.trans hf
        refine lv_aload_n hx hb dX6_swap_215 rfl (lv_at hl 3 rfl) ?_
        refine lv_iload_n hx hb dX6_swap_216 rfl (lv_at hl 5 rfl) ?_
        refine lv_aload_n hx hb dX6_swap_217 rfl (lv_at hl 3 rfl) ?_
        refine gf_6_72 hx hb hE hown hP dX6_swap_218 ?_
        refine lv_iload_n hx hb dX6_swap_221 rfl (lv_at hl 5 rfl) ?_
        obtain ⟨hi, hf⟩ := ck_some hf
        refine ld_M_17 hx hb hE hP hi dX6_swap_222 ?_
        refine lv_iload hx hb dX6_swap_223 (lv_at hl 0 rfl) ?_
        obtain ⟨r_4, hc, hf⟩ := bnd hf
        refine rdV X (c_X6_compares l d a z x3 (z.2 16 x3.toNatClampNeg) (((z.2 16 x3.toNatClampNeg) &&& (s0 ^^^ (-1 : Int32))) ||| x5) hc) (k_X6_135 hE rfl rfl ⟨Nat.le_of_ble_eq_true rfl, Nat.le_of_ble_eq_true rfl⟩) hP (va_recv (q := (RX6, TX6, 28)) hE.2 hP (ci := 6) (q0 := 0) rfl rfl) rfl hl.1 rfl (Nat.le_of_ble_eq_true rfl) dX6_swap_225 ?_
        refine lv_iconst (v := 2) hx hb dX6_swap_228 (by decide) ?_
        refine lv_icmp_eq (tgt := 236) hx hb dX6_swap_229 (by decide) (fun q => ?_) (fun q => ?_)
        · have hf := (if_pos q).symm.trans hf
          refine lv_iconst (v := 0) hx hb dX6_swap_236 (by decide) ?_
          exact t_X6_swap_237 X hJ hr hlk x1 x3 (((z.2 16 x1.toNatClampNeg) &&& (x5 ^^^ (-1 : Int32))) ||| s0) (((z.2 16 x3.toNatClampNeg) &&& (s0 ^^^ (-1 : Int32))) ||| x5) (0 : Int32) z hf H locs ls hP hS (lv_sub hl [3, 4, 5, 1, 0] rfl)
        · have hf := (if_neg q).symm.trans hf
          refine lv_iconst (v := 1) hx hb dX6_swap_232 (by decide) ?_
          refine lv_goto (tgt := 237) hx hb dX6_swap_233 (by decide) ?_
          exact t_X6_swap_237 X hJ hr hlk x1 x3 (((z.2 16 x1.toNatClampNeg) &&& (x5 ^^^ (-1 : Int32))) ||| s0) (((z.2 16 x3.toNatClampNeg) &&& (s0 ^^^ (-1 : Int32))) ||| x5) (1 : Int32) z hf H locs ls hP hS (lv_sub hl [3, 4, 5, 1, 0] rfl)
    · have hf := (if_neg q).symm.trans hf
      refine lv_bipush (v := -3) hx hb dX6_swap_195 (by decide) ?_
      obtain rfl := Option.some.inj hf
      exact W.iret hx hb hr (fun t ht _ => ⟨rfl, by rw [ht]; exact hP, hS.F ht⟩) hS.2.2 dX6_swap_197 hlk
def f_X6_swap_125 (x1 : Int32) (x3 : Int32) (x4 : Int32) (s0 : Int32) (z : St) : Option (Int32 × St) := (if x4 = (-1 : Int32) then f_X6_swap_141 x1 x3 s0 (0 : Int32) z else f_X6_swap_141 x1 x3 s0 ((1 : Int32) <<< (x4 &&& 31)) z)
set_option maxHeartbeats 4000000 in
set_option maxRecDepth 100000 in
theorem t_X6_swap_125 {RR : Int32 × St} (X : Cx p s m c cX6_swap RX6 10 d) (hJ : Inj 20 a) (hr : meth.sig.returnType = (some .int)) (hlk : meth.locks = false) : ∀ (x1 : Int32) (x3 : Int32) (x4 : Int32) (s0 : Int32) (z : St), f_X6_swap_125 x1 x3 x4 s0 z = some RR → WWr wM 20 d a p l e { frames := 4, cells := 0, slots := 0, locals := 96 } s m args below meth c RR z 10 [(0, .ref (a 0)), (1, .int x1), (3, .int x3), (4, .int x4)] 125 [.int s0] := by
  intro x1 x3 x4 s0 z hf H locs ls hP hS hl
  obtain ⟨hx, hb, hml, hown, hE⟩ := id X
  unfold f_X6_swap_125 at hf
  refine lv_istore (lv' := [(5, .int s0), (0, .ref (a 0)), (1, .int x1), (3, .int x3), (4, .int x4)]) hx hb dX6_swap_125 hl (by decide) rfl (fun ls hl => ?_)
  refine lv_iload hx hb dX6_swap_127 (lv_at hl 4 rfl) ?_
  refine lv_iconst (v := -1) hx hb dX6_swap_129 (by decide) ?_
  refine lv_icmp_ne (tgt := 137) hx hb dX6_swap_130 (by decide) (fun q => ?_) (fun q => ?_)
  · have hf := (if_neg q).symm.trans hf
    refine lv_iconst (v := 1) hx hb dX6_swap_137 (by decide) ?_
    refine lv_iload hx hb dX6_swap_138 (lv_at hl 4 rfl) ?_
    refine lv_ishl hx hb dX6_swap_140 ?_
    exact t_X6_swap_141 X hJ hr hlk x1 x3 s0 ((1 : Int32) <<< (x4 &&& 31)) z hf H locs ls hP hS (lv_sub hl [1, 2, 3, 0] rfl)
  · have hf := (if_pos q).symm.trans hf
    refine lv_iconst (v := 0) hx hb dX6_swap_133 (by decide) ?_
    refine lv_goto (tgt := 141) hx hb dX6_swap_134 (by decide) ?_
    exact t_X6_swap_141 X hJ hr hlk x1 x3 s0 (0 : Int32) z hf H locs ls hP hS (lv_sub hl [1, 2, 3, 0] rfl)
def f_X6_swap_113 (x1 : Int32) (x2 : Int32) (x3 : Int32) (x4 : Int32) (z : St) : Option (Int32 × St) := (if x2 = (-1 : Int32) then f_X6_swap_125 x1 x3 x4 (0 : Int32) z else f_X6_swap_125 x1 x3 x4 ((1 : Int32) <<< (x2 &&& 31)) z)
set_option maxHeartbeats 4000000 in
set_option maxRecDepth 100000 in
theorem t_X6_swap_113 {RR : Int32 × St} (X : Cx p s m c cX6_swap RX6 10 d) (hJ : Inj 20 a) (hr : meth.sig.returnType = (some .int)) (hlk : meth.locks = false) : ∀ (x1 : Int32) (x2 : Int32) (x3 : Int32) (x4 : Int32) (z : St), f_X6_swap_113 x1 x2 x3 x4 z = some RR → WWr wM 20 d a p l e { frames := 4, cells := 0, slots := 0, locals := 96 } s m args below meth c RR z 10 [(0, .ref (a 0)), (1, .int x1), (2, .int x2), (3, .int x3), (4, .int x4)] 113 [] := by
  intro x1 x2 x3 x4 z hf H locs ls hP hS hl
  obtain ⟨hx, hb, hml, hown, hE⟩ := id X
  unfold f_X6_swap_113 at hf
  refine lv_iload_n hx hb dX6_swap_113 rfl (lv_at hl 2 rfl) ?_
  refine lv_iconst (v := -1) hx hb dX6_swap_114 (by decide) ?_
  refine lv_icmp_ne (tgt := 122) hx hb dX6_swap_115 (by decide) (fun q => ?_) (fun q => ?_)
  · have hf := (if_neg q).symm.trans hf
    refine lv_iconst (v := 1) hx hb dX6_swap_122 (by decide) ?_
    refine lv_iload_n hx hb dX6_swap_123 rfl (lv_at hl 2 rfl) ?_
    refine lv_ishl hx hb dX6_swap_124 ?_
    exact t_X6_swap_125 X hJ hr hlk x1 x3 x4 ((1 : Int32) <<< (x2 &&& 31)) z hf H locs ls hP hS (lv_sub hl [0, 1, 3, 4] rfl)
  · have hf := (if_pos q).symm.trans hf
    refine lv_iconst (v := 0) hx hb dX6_swap_118 (by decide) ?_
    refine lv_goto (tgt := 125) hx hb dX6_swap_119 (by decide) ?_
    exact t_X6_swap_125 X hJ hr hlk x1 x3 x4 (0 : Int32) z hf H locs ls hP hS (lv_sub hl [0, 1, 3, 4] rfl)
def f_X6_swap_90 (x1 : Int32) (x2 : Int32) (x3 : Int32) (x4 : Int32) (z : St) : Option (Int32 × St) := (if x4 = (-1 : Int32) then f_X6_swap_113 x1 x2 x3 x4 z else ck 4 x3 ((f_X6_has z (z.2 16 x3.toNatClampNeg) x4).bind (fun r_1 => (if r_1 = (0 : Int32) then some ((-3 : Int32), z) else f_X6_swap_113 x1 x2 x3 x4 z))))
set_option maxHeartbeats 4000000 in
set_option maxRecDepth 100000 in
theorem t_X6_swap_90 {RR : Int32 × St} (X : Cx p s m c cX6_swap RX6 10 d) (hJ : Inj 20 a) (hr : meth.sig.returnType = (some .int)) (hlk : meth.locks = false) : ∀ (x1 : Int32) (x2 : Int32) (x3 : Int32) (x4 : Int32) (z : St), f_X6_swap_90 x1 x2 x3 x4 z = some RR → WWr wM 20 d a p l e { frames := 4, cells := 0, slots := 0, locals := 96 } s m args below meth c RR z 10 [(0, .ref (a 0)), (1, .int x1), (2, .int x2), (3, .int x3), (4, .int x4)] 90 [] := by
  intro x1 x2 x3 x4 z hf H locs ls hP hS hl
  obtain ⟨hx, hb, hml, hown, hE⟩ := id X
  unfold f_X6_swap_90 at hf
  refine lv_iload hx hb dX6_swap_90 (lv_at hl 4 rfl) ?_
  refine lv_iconst (v := -1) hx hb dX6_swap_92 (by decide) ?_
  refine lv_icmp_eq (tgt := 113) hx hb dX6_swap_93 (by decide) (fun q => ?_) (fun q => ?_)
  · have hf := (if_pos q).symm.trans hf
    exact t_X6_swap_113 X hJ hr hlk x1 x2 x3 x4 z hf H locs ls hP hS (lv_sub hl [0, 1, 2, 3, 4] rfl)
  · have hf := (if_neg q).symm.trans hf
    refine lv_aload_n hx hb dX6_swap_96 rfl (lv_at hl 0 rfl) ?_
    refine gf_6_72 hx hb hE hown hP dX6_swap_97 ?_
    refine lv_iload_n hx hb dX6_swap_100 rfl (lv_at hl 3 rfl) ?_
    obtain ⟨hi, hf⟩ := ck_some hf
    refine ld_M_17 hx hb hE hP hi dX6_swap_101 ?_
    refine lv_iload hx hb dX6_swap_102 (lv_at hl 4 rfl) ?_
    obtain ⟨r_1, hc, hf⟩ := bnd hf
    refine rdS X (c_X6_has l d a z (z.2 16 x3.toNatClampNeg) x4 hc) (k_X6_87 hE rfl rfl ⟨Nat.le_of_ble_eq_true rfl, Nat.le_of_ble_eq_true rfl⟩) hP rfl hl.1 rfl (Nat.le_of_ble_eq_true rfl) dX6_swap_104 ?_
    refine lv_if_ne (tgt := 113) hx hb dX6_swap_107 (by decide) (fun q => ?_) (fun q => ?_)
    · have hf := (if_neg q).symm.trans hf
      exact t_X6_swap_113 X hJ hr hlk x1 x2 x3 x4 z hf H locs ls hP hS (lv_sub hl [0, 1, 2, 3, 4] rfl)
    · have hf := (if_pos q).symm.trans hf
      refine lv_bipush (v := -3) hx hb dX6_swap_110 (by decide) ?_
      obtain rfl := Option.some.inj hf
      exact W.iret hx hb hr (fun t ht _ => ⟨rfl, by rw [ht]; exact hP, hS.F ht⟩) hS.2.2 dX6_swap_112 hlk
def f_X6_swap_65 (x1 : Int32) (x2 : Int32) (x3 : Int32) (x4 : Int32) (z : St) : Option (Int32 × St) := (if (z.1 7) = (0 : Int32) then some ((-3 : Int32), z) else (if x2 = (-1 : Int32) then f_X6_swap_90 x1 x2 x3 x4 z else ck 4 x1 ((f_X6_has z (z.2 16 x1.toNatClampNeg) x2).bind (fun r_1 => (if r_1 = (0 : Int32) then some ((-3 : Int32), z) else f_X6_swap_90 x1 x2 x3 x4 z)))))
set_option maxHeartbeats 4000000 in
set_option maxRecDepth 100000 in
theorem t_X6_swap_65 {RR : Int32 × St} (X : Cx p s m c cX6_swap RX6 10 d) (hJ : Inj 20 a) (hr : meth.sig.returnType = (some .int)) (hlk : meth.locks = false) : ∀ (x1 : Int32) (x2 : Int32) (x3 : Int32) (x4 : Int32) (z : St), f_X6_swap_65 x1 x2 x3 x4 z = some RR → WWr wM 20 d a p l e { frames := 4, cells := 0, slots := 0, locals := 96 } s m args below meth c RR z 10 [(0, .ref (a 0)), (1, .int x1), (2, .int x2), (3, .int x3), (4, .int x4)] 65 [] := by
  intro x1 x2 x3 x4 z hf H locs ls hP hS hl
  obtain ⟨hx, hb, hml, hown, hE⟩ := id X
  unfold f_X6_swap_65 at hf
  refine lv_aload_n hx hb dX6_swap_65 rfl (lv_at hl 0 rfl) ?_
  refine gf_6_95 hx hb hE hown hP dX6_swap_66 ?_
  refine lv_if_eq (tgt := 110) hx hb dX6_swap_69 (by decide) (fun q => ?_) (fun q => ?_)
  · have hf := (if_pos q).symm.trans hf
    refine lv_bipush (v := -3) hx hb dX6_swap_110 (by decide) ?_
    obtain rfl := Option.some.inj hf
    exact W.iret hx hb hr (fun t ht _ => ⟨rfl, by rw [ht]; exact hP, hS.F ht⟩) hS.2.2 dX6_swap_112 hlk
  · have hf := (if_neg q).symm.trans hf
    refine lv_iload_n hx hb dX6_swap_72 rfl (lv_at hl 2 rfl) ?_
    refine lv_iconst (v := -1) hx hb dX6_swap_73 (by decide) ?_
    refine lv_icmp_eq (tgt := 90) hx hb dX6_swap_74 (by decide) (fun q => ?_) (fun q => ?_)
    · have hf := (if_pos q).symm.trans hf
      exact t_X6_swap_90 X hJ hr hlk x1 x2 x3 x4 z hf H locs ls hP hS (lv_sub hl [0, 1, 2, 3, 4] rfl)
    · have hf := (if_neg q).symm.trans hf
      refine lv_aload_n hx hb dX6_swap_77 rfl (lv_at hl 0 rfl) ?_
      refine gf_6_72 hx hb hE hown hP dX6_swap_78 ?_
      refine lv_iload_n hx hb dX6_swap_81 rfl (lv_at hl 1 rfl) ?_
      obtain ⟨hi, hf⟩ := ck_some hf
      refine ld_M_17 hx hb hE hP hi dX6_swap_82 ?_
      refine lv_iload_n hx hb dX6_swap_83 rfl (lv_at hl 2 rfl) ?_
      obtain ⟨r_1, hc, hf⟩ := bnd hf
      refine rdS X (c_X6_has l d a z (z.2 16 x1.toNatClampNeg) x2 hc) (k_X6_87 hE rfl rfl ⟨Nat.le_of_ble_eq_true rfl, Nat.le_of_ble_eq_true rfl⟩) hP rfl hl.1 rfl (Nat.le_of_ble_eq_true rfl) dX6_swap_84 ?_
      refine lv_if_eq (tgt := 110) hx hb dX6_swap_87 (by decide) (fun q => ?_) (fun q => ?_)
      · have hf := (if_pos q).symm.trans hf
        refine lv_bipush (v := -3) hx hb dX6_swap_110 (by decide) ?_
        obtain rfl := Option.some.inj hf
        exact W.iret hx hb hr (fun t ht _ => ⟨rfl, by rw [ht]; exact hP, hS.F ht⟩) hS.2.2 dX6_swap_112 hlk
      · have hf := (if_neg q).symm.trans hf
        exact t_X6_swap_90 X hJ hr hlk x1 x2 x3 x4 z hf H locs ls hP hS (lv_sub hl [0, 1, 2, 3, 4] rfl)
def f_X6_swap_46 (x1 : Int32) (x2 : Int32) (x3 : Int32) (x4 : Int32) (z : St) : Option (Int32 × St) := (if x1 = x3 then some ((-2 : Int32), z) else (if x2 = (-1 : Int32) then (if x4 = (-1 : Int32) then some ((-2 : Int32), z) else f_X6_swap_65 x1 x2 x3 x4 z) else f_X6_swap_65 x1 x2 x3 x4 z))
set_option maxHeartbeats 4000000 in
set_option maxRecDepth 100000 in
theorem t_X6_swap_46 {RR : Int32 × St} (X : Cx p s m c cX6_swap RX6 10 d) (hJ : Inj 20 a) (hr : meth.sig.returnType = (some .int)) (hlk : meth.locks = false) : ∀ (x1 : Int32) (x2 : Int32) (x3 : Int32) (x4 : Int32) (z : St), f_X6_swap_46 x1 x2 x3 x4 z = some RR → WWr wM 20 d a p l e { frames := 4, cells := 0, slots := 0, locals := 96 } s m args below meth c RR z 10 [(0, .ref (a 0)), (1, .int x1), (2, .int x2), (3, .int x3), (4, .int x4)] 46 [] := by
  intro x1 x2 x3 x4 z hf H locs ls hP hS hl
  obtain ⟨hx, hb, hml, hown, hE⟩ := id X
  unfold f_X6_swap_46 at hf
  refine lv_iload_n hx hb dX6_swap_46 rfl (lv_at hl 1 rfl) ?_
  refine lv_iload_n hx hb dX6_swap_47 rfl (lv_at hl 3 rfl) ?_
  refine lv_icmp_eq (tgt := 62) hx hb dX6_swap_48 (by decide) (fun q => ?_) (fun q => ?_)
  · have hf := (if_pos q).symm.trans hf
    refine lv_bipush (v := -2) hx hb dX6_swap_62 (by decide) ?_
    obtain rfl := Option.some.inj hf
    exact W.iret hx hb hr (fun t ht _ => ⟨rfl, by rw [ht]; exact hP, hS.F ht⟩) hS.2.2 dX6_swap_64 hlk
  · have hf := (if_neg q).symm.trans hf
    refine lv_iload_n hx hb dX6_swap_51 rfl (lv_at hl 2 rfl) ?_
    refine lv_iconst (v := -1) hx hb dX6_swap_52 (by decide) ?_
    refine lv_icmp_ne (tgt := 65) hx hb dX6_swap_53 (by decide) (fun q => ?_) (fun q => ?_)
    · have hf := (if_neg q).symm.trans hf
      exact t_X6_swap_65 X hJ hr hlk x1 x2 x3 x4 z hf H locs ls hP hS (lv_sub hl [0, 1, 2, 3, 4] rfl)
    · have hf := (if_pos q).symm.trans hf
      refine lv_iload hx hb dX6_swap_56 (lv_at hl 4 rfl) ?_
      refine lv_iconst (v := -1) hx hb dX6_swap_58 (by decide) ?_
      refine lv_icmp_ne (tgt := 65) hx hb dX6_swap_59 (by decide) (fun q => ?_) (fun q => ?_)
      · have hf := (if_neg q).symm.trans hf
        exact t_X6_swap_65 X hJ hr hlk x1 x2 x3 x4 z hf H locs ls hP hS (lv_sub hl [0, 1, 2, 3, 4] rfl)
      · have hf := (if_pos q).symm.trans hf
        refine lv_bipush (v := -2) hx hb dX6_swap_62 (by decide) ?_
        obtain rfl := Option.some.inj hf
        exact W.iret hx hb hr (fun t ht _ => ⟨rfl, by rw [ht]; exact hP, hS.F ht⟩) hS.2.2 dX6_swap_64 hlk
def f_X6_swap_29 (x1 : Int32) (x2 : Int32) (x3 : Int32) (x4 : Int32) (z : St) : Option (Int32 × St) := (if x4 = (-1 : Int32) then f_X6_swap_46 x1 x2 x3 x4 z else (f_X6_isDuty z x4).bind (fun r_1 => (if r_1 = (0 : Int32) then some ((-1 : Int32), z) else f_X6_swap_46 x1 x2 x3 x4 z)))
set_option maxHeartbeats 4000000 in
set_option maxRecDepth 100000 in
theorem t_X6_swap_29 {RR : Int32 × St} (X : Cx p s m c cX6_swap RX6 10 d) (hJ : Inj 20 a) (hr : meth.sig.returnType = (some .int)) (hlk : meth.locks = false) : ∀ (x1 : Int32) (x2 : Int32) (x3 : Int32) (x4 : Int32) (z : St), f_X6_swap_29 x1 x2 x3 x4 z = some RR → WWr wM 20 d a p l e { frames := 4, cells := 0, slots := 0, locals := 96 } s m args below meth c RR z 10 [(0, .ref (a 0)), (1, .int x1), (2, .int x2), (3, .int x3), (4, .int x4)] 29 [] := by
  intro x1 x2 x3 x4 z hf H locs ls hP hS hl
  obtain ⟨hx, hb, hml, hown, hE⟩ := id X
  unfold f_X6_swap_29 at hf
  refine lv_iload hx hb dX6_swap_29 (lv_at hl 4 rfl) ?_
  refine lv_iconst (v := -1) hx hb dX6_swap_31 (by decide) ?_
  refine lv_icmp_eq (tgt := 46) hx hb dX6_swap_32 (by decide) (fun q => ?_) (fun q => ?_)
  · have hf := (if_pos q).symm.trans hf
    exact t_X6_swap_46 X hJ hr hlk x1 x2 x3 x4 z hf H locs ls hP hS (lv_sub hl [0, 1, 2, 3, 4] rfl)
  · have hf := (if_neg q).symm.trans hf
    refine lv_aload_n hx hb dX6_swap_35 rfl (lv_at hl 0 rfl) ?_
    refine lv_iload hx hb dX6_swap_36 (lv_at hl 4 rfl) ?_
    obtain ⟨r_1, hc, hf⟩ := bnd hf
    refine rdV X (c_X6_isDuty l d a z x4 hc) (k_X6_105 hE rfl rfl ⟨Nat.le_of_ble_eq_true rfl, Nat.le_of_ble_eq_true rfl⟩) hP (va_recv (q := (RX6, TX6, 28)) hE.2 hP (ci := 6) (q0 := 0) rfl rfl) rfl hl.1 rfl (Nat.le_of_ble_eq_true rfl) dX6_swap_38 ?_
    refine lv_if_ne (tgt := 46) hx hb dX6_swap_41 (by decide) (fun q => ?_) (fun q => ?_)
    · have hf := (if_neg q).symm.trans hf
      exact t_X6_swap_46 X hJ hr hlk x1 x2 x3 x4 z hf H locs ls hP hS (lv_sub hl [0, 1, 2, 3, 4] rfl)
    · have hf := (if_pos q).symm.trans hf
      refine lv_iconst (v := -1) hx hb dX6_swap_44 (by decide) ?_
      obtain rfl := Option.some.inj hf
      exact W.iret hx hb hr (fun t ht _ => ⟨rfl, by rw [ht]; exact hP, hS.F ht⟩) hS.2.2 dX6_swap_45 hlk
def f_X6_swap (x1 : Int32) (x2 : Int32) (x3 : Int32) (x4 : Int32) (z : St) : Option (Int32 × St) := (f_X6_isPerson z x1).bind (fun r_1 => (if r_1 = (0 : Int32) then some ((-1 : Int32), z) else (f_X6_isPerson z x3).bind (fun r_2 => (if r_2 = (0 : Int32) then some ((-1 : Int32), z) else (if x2 = (-1 : Int32) then f_X6_swap_29 x1 x2 x3 x4 z else (f_X6_isDuty z x2).bind (fun r_3 => (if r_3 = (0 : Int32) then some ((-1 : Int32), z) else f_X6_swap_29 x1 x2 x3 x4 z)))))))
set_option maxHeartbeats 4000000 in
set_option maxRecDepth 100000 in
theorem t_X6_swap {RR : Int32 × St} (X : Cx p s m c cX6_swap RX6 10 d) (hJ : Inj 20 a) (hr : meth.sig.returnType = (some .int)) (hlk : meth.locks = false) : ∀ (x1 : Int32) (x2 : Int32) (x3 : Int32) (x4 : Int32) (z : St), f_X6_swap x1 x2 x3 x4 z = some RR → WWr wM 20 d a p l e { frames := 4, cells := 0, slots := 0, locals := 96 } s m args below meth c RR z 10 [(0, .ref (a 0)), (1, .int x1), (2, .int x2), (3, .int x3), (4, .int x4)] 0 [] := by
  intro x1 x2 x3 x4 z hf H locs ls hP hS hl
  obtain ⟨hx, hb, hml, hown, hE⟩ := id X
  unfold f_X6_swap at hf
  refine lv_aload_n hx hb dX6_swap_0 rfl (lv_at hl 0 rfl) ?_
  refine lv_iload_n hx hb dX6_swap_1 rfl (lv_at hl 1 rfl) ?_
  obtain ⟨r_1, hc, hf⟩ := bnd hf
  refine rdV X (c_X6_isPerson l d a z x1 hc) (k_X6_101 hE rfl rfl ⟨Nat.le_of_ble_eq_true rfl, Nat.le_of_ble_eq_true rfl⟩) hP (va_recv (q := (RX6, TX6, 28)) hE.2 hP (ci := 6) (q0 := 0) rfl rfl) rfl hl.1 rfl (Nat.le_of_ble_eq_true rfl) dX6_swap_2 ?_
  refine lv_if_eq (tgt := 44) hx hb dX6_swap_5 (by decide) (fun q => ?_) (fun q => ?_)
  · have hf := (if_pos q).symm.trans hf
    refine lv_iconst (v := -1) hx hb dX6_swap_44 (by decide) ?_
    obtain rfl := Option.some.inj hf
    exact W.iret hx hb hr (fun t ht _ => ⟨rfl, by rw [ht]; exact hP, hS.F ht⟩) hS.2.2 dX6_swap_45 hlk
  · have hf := (if_neg q).symm.trans hf
    refine lv_aload_n hx hb dX6_swap_8 rfl (lv_at hl 0 rfl) ?_
    refine lv_iload_n hx hb dX6_swap_9 rfl (lv_at hl 3 rfl) ?_
    obtain ⟨r_2, hc, hf⟩ := bnd hf
    refine rdV X (c_X6_isPerson l d a z x3 hc) (k_X6_101 hE rfl rfl ⟨Nat.le_of_ble_eq_true rfl, Nat.le_of_ble_eq_true rfl⟩) hP (va_recv (q := (RX6, TX6, 28)) hE.2 hP (ci := 6) (q0 := 0) rfl rfl) rfl hl.1 rfl (Nat.le_of_ble_eq_true rfl) dX6_swap_10 ?_
    refine lv_if_eq (tgt := 44) hx hb dX6_swap_13 (by decide) (fun q => ?_) (fun q => ?_)
    · have hf := (if_pos q).symm.trans hf
      refine lv_iconst (v := -1) hx hb dX6_swap_44 (by decide) ?_
      obtain rfl := Option.some.inj hf
      exact W.iret hx hb hr (fun t ht _ => ⟨rfl, by rw [ht]; exact hP, hS.F ht⟩) hS.2.2 dX6_swap_45 hlk
    · have hf := (if_neg q).symm.trans hf
      refine lv_iload_n hx hb dX6_swap_16 rfl (lv_at hl 2 rfl) ?_
      refine lv_iconst (v := -1) hx hb dX6_swap_17 (by decide) ?_
      refine lv_icmp_eq (tgt := 29) hx hb dX6_swap_18 (by decide) (fun q => ?_) (fun q => ?_)
      · have hf := (if_pos q).symm.trans hf
        exact t_X6_swap_29 X hJ hr hlk x1 x2 x3 x4 z hf H locs ls hP hS (lv_sub hl [0, 1, 2, 3, 4] rfl)
      · have hf := (if_neg q).symm.trans hf
        refine lv_aload_n hx hb dX6_swap_21 rfl (lv_at hl 0 rfl) ?_
        refine lv_iload_n hx hb dX6_swap_22 rfl (lv_at hl 2 rfl) ?_
        obtain ⟨r_3, hc, hf⟩ := bnd hf
        refine rdV X (c_X6_isDuty l d a z x2 hc) (k_X6_105 hE rfl rfl ⟨Nat.le_of_ble_eq_true rfl, Nat.le_of_ble_eq_true rfl⟩) hP (va_recv (q := (RX6, TX6, 28)) hE.2 hP (ci := 6) (q0 := 0) rfl rfl) rfl hl.1 rfl (Nat.le_of_ble_eq_true rfl) dX6_swap_23 ?_
        refine lv_if_eq (tgt := 44) hx hb dX6_swap_26 (by decide) (fun q => ?_) (fun q => ?_)
        · have hf := (if_pos q).symm.trans hf
          refine lv_iconst (v := -1) hx hb dX6_swap_44 (by decide) ?_
          obtain rfl := Option.some.inj hf
          exact W.iret hx hb hr (fun t ht _ => ⟨rfl, by rw [ht]; exact hP, hS.F ht⟩) hS.2.2 dX6_swap_45 hlk
        · have hf := (if_neg q).symm.trans hf
          exact t_X6_swap_29 X hJ hr hlk x1 x2 x3 x4 z hf H locs ls hP hS (lv_sub hl [0, 1, 2, 3, 4] rfl)
set_option maxHeartbeats 4000000 in
set_option maxRecDepth 100000 in
theorem c_X6_swap (l : Launch) (d : G3) (a : Nat → Nat) (z : St) (x1 : Int32) (x2 : Int32) (x3 : Int32) (x4 : Int32) {RR : Int32 × St} (hf : f_X6_swap x1 x2 x3 x4 z = some RR) : Met l yX6_swap [Cond.code yX6_swap cX6_swap 10 (some .int)] { frames := 4, cells := 0, slots := 0, locals := 96 } (wpre wM 20 d a z [.ref (a 0), .int x1, .int x2, .int x3, .int x4]) (QW wM 20 d a RR) 0 0 (AD 20 a) := by
  refine Met.ofW (cc := cX6_swap) (maxL := 10) (ret := (some .int)) (by decide) rfl ?_
  intro p e s m args below meth c s₁ B hml hv
  obtain ⟨rfl, hE, hP, hJ⟩ := hv
  have X : Cx p s m c cX6_swap RX6 10 d := ⟨B.exec, B.bytes, hml, findClass_of_methodNamed B.named, hE⟩
  have hl := lv_entry ([.ref (a 0), .int x1, .int x2, .int x3, .int x4]) (n := 10) (Nat.le_of_ble_eq_true rfl)
  rw [lg_entry_eq]
  generalize (lg_sl ([.ref (a 0), .int x1, .int x2, .int x3, .int x4]) ++ List.replicate (10 - (lg_sl ([.ref (a 0), .int x1, .int x2, .int x3, .int x4])).length) Slot.unset).toArray = ls at hl ⊢
  have hl : lv_has ls 10 [(0, .ref (a 0)), (1, .int x1), (2, .int x2), (3, .int x3), (4, .int x4)] := hl
  exact t_X6_swap X hJ B.returns B.notSynchronized x1 x2 x3 x4 z hf s.heap [] ls hP va_S.rf hl
end GEN
