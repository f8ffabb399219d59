section GEN
variable {p : Program} {l : Launch} {e : Env} {s : State} {m : MethodId} {args : Array Value} {below : List Frame} {meth : Method} {c : Code} {d : G3} {a : Nat → Nat}
def f_X5_swap_226 (p5 : Nat) (p6 : Nat) (x9 : Int32) (x10 : Int32) (s0 : Int32) (z : St) : Option (Int32 × St) := (if s0 = (0 : Int32) then some ((0 : Int32), (pS (pS (pS z (14 + 6 * p5) x9) (14 + 6 * p6) x10) 1 (1 : Int32))) else some ((1 : Int32), (pS (pS (pS z (14 + 6 * p5) x9) (14 + 6 * p6) x10) 1 (1 : Int32))))
set_option maxHeartbeats 4000000 in
set_option maxRecDepth 100000 in
theorem t_X5_swap_226 {RR : Int32 × St} (X : Cx p s m c cX5_swap RX5 12 d) (hJ : Inj 26 a) (hr : meth.sig.returnType = (some .int)) (hlk : meth.locks = false) : ∀ (p5 : Nat) (p6 : Nat) (x9 : Int32) (x10 : Int32) (s0 : Int32) (z : St) (hp5 : p5 < 4) (hp6 : p6 < 4), f_X5_swap_226 p5 p6 x9 x10 s0 z = some RR → WWr wC 26 d a p l e { frames := 5, cells := 0, slots := 0, locals := 114 } s m args below meth c RR z 12 [(0, .ref (a 0)), (5, .ref (a (14 + 3 * p5))), (6, .ref (a (14 + 3 * p6))), (9, .int x9), (10, .int x10)] 226 [.int s0] := by
  intro p5 p6 x9 x10 s0 z hp5 hp6 hf H locs ls hP hS hl
  obtain ⟨hx, hb, hml, hown, hE⟩ := id X
  unfold f_X5_swap_226 at hf
  refine lv_istore (lv' := [(11, .int s0), (0, .ref (a 0)), (5, .ref (a (14 + 3 * p5))), (6, .ref (a (14 + 3 * p6))), (9, .int x9), (10, .int x10)]) hx hb dX5_swap_226 hl (by decide) rfl (fun ls hl => ?_)
  refine lv_aload hx hb dX5_swap_228 (lv_at hl 2 rfl) ?_
  refine lv_iload hx hb dX5_swap_230 (lv_at hl 4 rfl) ?_
  refine pf_5_144 hx hb hE hown hP hJ hS hp5 dX5_swap_232 (fun H locs hP hS => ?_)
  refine lv_aload hx hb dX5_swap_235 (lv_at hl 3 rfl) ?_
  refine lv_iload hx hb dX5_swap_237 (lv_at hl 5 rfl) ?_
  refine pf_5_144 hx hb hE hown hP hJ hS hp6 dX5_swap_239 (fun H locs hP hS => ?_)
  refine lv_aload_n hx hb dX5_swap_242 rfl (lv_at hl 1 rfl) ?_
  refine lv_iconst (v := 1) hx hb dX5_swap_243 (by decide) ?_
  refine pf_5_150 hx hb hE hown hP hJ hS rfl rfl dX5_swap_244 (fun H locs hP hS => ?_)
  refine lv_iload hx hb dX5_swap_247 (lv_at hl 0 rfl) ?_
  refine lv_if_eq (tgt := 256) hx hb dX5_swap_249 (by decide) (fun q => ?_) (fun q => ?_)
  · have hf := (if_pos q).symm.trans hf
    refine lv_iconst (v := 0) hx hb dX5_swap_256 (by decide) ?_
    obtain rfl := Option.some.inj hf
    exact W.iret hx hb hr (fun t ht _ => ⟨rfl, by rw [ht]; exact hP, hS.F ht⟩) hS.2.2 dX5_swap_257 hlk
  · have hf := (if_neg q).symm.trans hf
    refine lv_iconst (v := 1) hx hb dX5_swap_252 (by decide) ?_
    refine lv_goto (tgt := 257) hx hb dX5_swap_253 (by decide) ?_
    obtain rfl := Option.some.inj hf
    exact W.iret hx hb hr (fun t ht _ => ⟨rfl, by rw [ht]; exact hP, hS.F ht⟩) hS.2.2 dX5_swap_257 hlk
def f_X5_swap_60 (x1 : Int32) (x2 : Int32) (x3 : Int32) (x4 : Int32) (z : St) : Option (Int32 × St) := (if (z.1 0) = (0 : Int32) then some ((-3 : Int32), z) else ck 4 x1 (ck 4 x3 ((f_X5_lineOf z x2).bind (fun r_3 => (f_X5_lineOf z x4).bind (fun r_4 => (if ((z.1 (14 + 6 * x1.toNatClampNeg)) &&& r_3) = r_3 then (if ((z.1 (14 + 6 * x3.toNatClampNeg)) &&& r_4) = r_4 then (f_X0_isLegal z x1 (((z.1 (14 + 6 * x1.toNatClampNeg)) &&& (r_3 ^^^ (-1 : Int32))) ||| r_4)).bind (fun r_5 => (if r_5 = (0 : Int32) then some ((-3 : Int32), z) else (f_X0_isLegal z x3 (((z.1 (14 + 6 * x3.toNatClampNeg)) &&& (r_4 ^^^ (-1 : Int32))) ||| r_3)).bind (fun r_6 => (if r_6 = (0 : Int32) then some ((-3 : Int32), z) else (f_X3_loses z x1.toNatClampNeg (((z.1 (14 + 6 * x1.toNatClampNeg)) &&& (r_3 ^^^ (-1 : Int32))) ||| r_4)).bind (fun r_7 => (if r_7 = (0 : Int32) then (f_X3_loses z x3.toNatClampNeg (((z.1 (14 + 6 * x3.toNatClampNeg)) &&& (r_4 ^^^ (-1 : Int32))) ||| r_3)).bind (fun r_8 => (if r_8 = (0 : Int32) then f_X5_swap_226 x1.toNatClampNeg x3.toNatClampNeg (((z.1 (14 + 6 * x1.toNatClampNeg)) &&& (r_3 ^^^ (-1 : Int32))) ||| r_4) (((z.1 (14 + 6 * x3.toNatClampNeg)) &&& (r_4 ^^^ (-1 : Int32))) ||| r_3) (1 : Int32) z else f_X5_swap_226 x1.toNatClampNeg x3.toNatClampNeg (((z.1 (14 + 6 * x1.toNatClampNeg)) &&& (r_3 ^^^ (-1 : Int32))) ||| r_4) (((z.1 (14 + 6 * x3.toNatClampNeg)) &&& (r_4 ^^^ (-1 : Int32))) ||| r_3) (0 : Int32) z)) else f_X5_swap_226 x1.toNatClampNeg x3.toNatClampNeg (((z.1 (14 + 6 * x1.toNatClampNeg)) &&& (r_3 ^^^ (-1 : Int32))) ||| r_4) (((z.1 (14 + 6 * x3.toNatClampNeg)) &&& (r_4 ^^^ (-1 : Int32))) ||| r_3) (0 : Int32) z)))))) else some ((-3 : Int32), z)) else some ((-3 : Int32), z)))))))
set_option maxHeartbeats 4000000 in
set_option maxRecDepth 100000 in
theorem t_X5_swap_60 {RR : Int32 × St} (X : Cx p s m c cX5_swap RX5 12 d) (hJ : Inj 26 a) (hr : meth.sig.returnType = (some .int)) (hlk : meth.locks = false) : ∀ (x1 : Int32) (x2 : Int32) (x3 : Int32) (x4 : Int32) (z : St), f_X5_swap_60 x1 x2 x3 x4 z = some RR → WWr wC 26 d a p l e { frames := 5, cells := 0, slots := 0, locals := 114 } s m args below meth c RR z 12 [(0, .ref (a 0)), (1, .int x1), (2, .int x2), (3, .int x3), (4, .int x4)] 60 [] := by
  intro x1 x2 x3 x4 z hf H locs ls hP hS hl
  obtain ⟨hx, hb, hml, hown, hE⟩ := id X
  unfold f_X5_swap_60 at hf
  refine lv_aload_n hx hb dX5_swap_60 rfl (lv_at hl 0 rfl) ?_
  refine gf_5_85 hx hb hE hown hP dX5_swap_61 ?_
  refine lv_if_ne (tgt := 70) hx hb dX5_swap_64 (by decide) (fun q => ?_) (fun q => ?_)
  · have hf := (if_neg q).symm.trans hf
    refine lv_aload_n hx hb dX5_swap_70 rfl (lv_at hl 0 rfl) ?_
    refine gf_5_26 hx hb hE hown hP dX5_swap_71 ?_
    refine gf_5_76 hx hb hE hown hP dX5_swap_74 ?_
    refine lv_iload_n hx hb dX5_swap_77 rfl (lv_at hl 1 rfl) ?_
    obtain ⟨hi_1, hf⟩ := ck_some hf
    refine al_rank hx hb hE hP hi_1 dX5_swap_78 ?_
    refine lv_astore (lv' := [(5, .ref (a (14 + 3 * x1.toNatClampNeg))), (0, .ref (a 0)), (1, .int x1), (2, .int x2), (3, .int x3), (4, .int x4)]) hx hb dX5_swap_79 hl (by decide) rfl (fun ls hl => ?_)
    refine lv_aload_n hx hb dX5_swap_81 rfl (lv_at hl 1 rfl) ?_
    refine gf_5_26 hx hb hE hown hP dX5_swap_82 ?_
    refine gf_5_76 hx hb hE hown hP dX5_swap_85 ?_
    refine lv_iload_n hx hb dX5_swap_88 rfl (lv_at hl 4 rfl) ?_
    obtain ⟨hi_2, hf⟩ := ck_some hf
    refine al_rank hx hb hE hP hi_2 dX5_swap_89 ?_
    refine lv_astore (lv' := [(6, .ref (a (14 + 3 * x3.toNatClampNeg))), (5, .ref (a (14 + 3 * x1.toNatClampNeg))), (0, .ref (a 0)), (1, .int x1), (2, .int x2), (3, .int x3), (4, .int x4)]) hx hb dX5_swap_90 hl (by decide) rfl (fun ls hl => ?_)
    refine lv_iload_n hx hb dX5_swap_92 rfl (lv_at hl 4 rfl) ?_
    obtain ⟨r_3, hc, hf⟩ := bnd hf
    refine rdS X (c_X5_lineOf l d a z x2 hc) (k_X5_180 hE rfl rfl ⟨Nat.le_of_ble_eq_true rfl, Nat.le_of_ble_eq_true rfl⟩) hP rfl hl.1 rfl (Nat.le_of_ble_eq_true rfl) dX5_swap_93 ?_
    refine lv_istore (lv' := [(7, .int r_3), (6, .ref (a (14 + 3 * x3.toNatClampNeg))), (5, .ref (a (14 + 3 * x1.toNatClampNeg))), (0, .ref (a 0)), (1, .int x1), (2, .int x2), (3, .int x3), (4, .int x4)]) hx hb dX5_swap_96 hl (by decide) rfl (fun ls hl => ?_)
    refine lv_iload hx hb dX5_swap_98 (lv_at hl 7 rfl) ?_
    obtain ⟨r_4, hc, hf⟩ := bnd hf
    refine rdS X (c_X5_lineOf l d a z x4 hc) (k_X5_180 hE rfl rfl ⟨Nat.le_of_ble_eq_true rfl, Nat.le_of_ble_eq_true rfl⟩) hP rfl hl.1 rfl (Nat.le_of_ble_eq_true rfl) dX5_swap_100 ?_
    refine lv_istore (lv' := [(8, .int r_4), (7, .int r_3), (6, .ref (a (14 + 3 * x3.toNatClampNeg))), (5, .ref (a (14 + 3 * x1.toNatClampNeg))), (0, .ref (a 0)), (1, .int x1), (2, .int x2), (3, .int x3), (4, .int x4)]) hx hb dX5_swap_103 hl (by decide) rfl (fun ls hl => ?_)
    refine lv_aload hx hb dX5_swap_105 (lv_at hl 3 rfl) ?_
    refine gf_5_144 hx hb hE hown hP (vp_lt hi_1) dX5_swap_107 ?_
    refine lv_iload hx hb dX5_swap_110 (lv_at hl 1 rfl) ?_
    refine lv_iand hx hb dX5_swap_112 ?_
    refine lv_iload hx hb dX5_swap_113 (lv_at hl 1 rfl) ?_
    refine lv_icmp_ne (tgt := 131) hx hb dX5_swap_115 (by decide) (fun q => ?_) (fun q => ?_)
    · have hf := (if_neg q).symm.trans hf
      refine lv_bipush (v := -3) hx hb dX5_swap_131 (by decide) ?_
      obtain rfl := Option.some.inj hf
      exact W.iret hx hb hr (fun t ht _ => ⟨rfl, by rw [ht]; exact hP, hS.F ht⟩) hS.2.2 dX5_swap_133 hlk
    · have hf := (if_pos q).symm.trans hf
      refine lv_aload hx hb dX5_swap_118 (lv_at hl 2 rfl) ?_
      refine gf_5_144 hx hb hE hown hP (vp_lt hi_2) dX5_swap_120 ?_
      refine lv_iload hx hb dX5_swap_123 (lv_at hl 0 rfl) ?_
      refine lv_iand hx hb dX5_swap_125 ?_
      refine lv_iload hx hb dX5_swap_126 (lv_at hl 0 rfl) ?_
      refine lv_icmp_eq (tgt := 134) hx hb dX5_swap_128 (by decide) (fun q => ?_) (fun q => ?_)
      · have hf := (if_pos q).symm.trans hf
        refine lv_aload hx hb dX5_swap_134 (lv_at hl 3 rfl) ?_
        refine gf_5_144 hx hb hE hown hP (vp_lt hi_1) dX5_swap_136 ?_
        refine lv_iload hx hb dX5_swap_139 (lv_at hl 1 rfl) ?_
        refine lv_iconst (v := -1) hx hb dX5_swap_141 (by decide) ?_
        refine lv_ixor hx hb dX5_swap_142 ?_
        refine lv_iand hx hb dX5_swap_143 ?_
        refine lv_iload hx hb dX5_swap_144 (lv_at hl 0 rfl) ?_
        refine lv_ior hx hb dX5_swap_146 ?_
        refine lv_istore (lv' := [(9, .int (((z.1 (14 + 6 * x1.toNatClampNeg)) &&& (r_3 ^^^ (-1 : Int32))) ||| r_4)), (8, .int r_4), (7, .int r_3), (6, .ref (a (14 + 3 * x3.toNatClampNeg))), (5, .ref (a (14 + 3 * x1.toNatClampNeg))), (0, .ref (a 0)), (1, .int x1), (2, .int x2), (3, .int x3), (4, .int x4)]) hx hb dX5_swap_147 hl (by decide) rfl (fun ls hl => ?_)
        refine lv_aload hx hb dX5_swap_149 (lv_at hl 3 rfl) ?_
        refine gf_5_144 hx hb hE hown hP (vp_lt hi_2) dX5_swap_151 ?_
        refine lv_iload hx hb dX5_swap_154 (lv_at hl 1 rfl) ?_
        refine lv_iconst (v := -1) hx hb dX5_swap_156 (by decide) ?_
        refine lv_ixor hx hb dX5_swap_157 ?_
        refine lv_iand hx hb dX5_swap_158 ?_
        refine lv_iload hx hb dX5_swap_159 (lv_at hl 2 rfl) ?_
        refine lv_ior hx hb dX5_swap_161 ?_
        refine lv_istore (lv' := [(10, .int (((z.1 (14 + 6 * x3.toNatClampNeg)) &&& (r_4 ^^^ (-1 : Int32))) ||| r_3)), (9, .int (((z.1 (14 + 6 * x1.toNatClampNeg)) &&& (r_3 ^^^ (-1 : Int32))) ||| r_4)), (8, .int r_4), (7, .int r_3), (6, .ref (a (14 + 3 * x3.toNatClampNeg))), (5, .ref (a (14 + 3 * x1.toNatClampNeg))), (0, .ref (a 0)), (1, .int x1), (2, .int x2), (3, .int x3), (4, .int x4)]) hx hb dX5_swap_162 hl (by decide) rfl (fun ls hl => ?_)
        refine lv_aload_n hx hb dX5_swap_164 rfl (lv_at hl 6 rfl) ?_
        refine gf_5_35 hx hb hE hown hP dX5_swap_165 ?_
        refine lv_iload_n hx hb dX5_swap_168 rfl (lv_at hl 7 rfl) ?_
        refine lv_iload hx hb dX5_swap_169 (lv_at hl 1 rfl) ?_
        obtain ⟨r_5, hc, hf⟩ := bnd hf
        refine rdV X (c_X0_isLegal l d a z x1 (((z.1 (14 + 6 * x1.toNatClampNeg)) &&& (r_3 ^^^ (-1 : Int32))) ||| r_4) hc) (k_X5_120 hE rfl rfl ⟨Nat.le_of_ble_eq_true rfl, Nat.le_of_ble_eq_true rfl⟩) hP (va_recv (q := (RX0, TX0, 7)) hE.2 hP (ci := 0) (q0 := 11) rfl rfl) rfl hl.1 rfl (Nat.le_of_ble_eq_true rfl) dX5_swap_171 ?_
        refine lv_if_eq (tgt := 190) hx hb dX5_swap_174 (by decide) (fun q => ?_) (fun q => ?_)
        · have hf := (if_pos q).symm.trans hf
          refine lv_bipush (v := -3) hx hb dX5_swap_190 (by decide) ?_
          obtain rfl := Option.some.inj hf
          exact W.iret hx hb hr (fun t ht _ => ⟨rfl, by rw [ht]; exact hP, hS.F ht⟩) hS.2.2 dX5_swap_192 hlk
        · have hf := (if_neg q).symm.trans hf
          refine lv_aload_n hx hb dX5_swap_177 rfl (lv_at hl 6 rfl) ?_
          refine gf_5_35 hx hb hE hown hP dX5_swap_178 ?_
          refine lv_iload_n hx hb dX5_swap_181 rfl (lv_at hl 9 rfl) ?_
          refine lv_iload hx hb dX5_swap_182 (lv_at hl 0 rfl) ?_
          obtain ⟨r_6, hc, hf⟩ := bnd hf
          refine rdV X (c_X0_isLegal l d a z x3 (((z.1 (14 + 6 * x3.toNatClampNeg)) &&& (r_4 ^^^ (-1 : Int32))) ||| r_3) hc) (k_X5_120 hE rfl rfl ⟨Nat.le_of_ble_eq_true rfl, Nat.le_of_ble_eq_true rfl⟩) hP (va_recv (q := (RX0, TX0, 7)) hE.2 hP (ci := 0) (q0 := 11) rfl rfl) rfl hl.1 rfl (Nat.le_of_ble_eq_true rfl) dX5_swap_184 ?_
          refine lv_if_ne (tgt := 193) hx hb dX5_swap_187 (by decide) (fun q => ?_) (fun q => ?_)
          · have hf := (if_neg q).symm.trans hf
            refine lv_aload hx hb dX5_swap_193 (lv_at hl 5 rfl) ?_
            refine lv_aload_n hx hb dX5_swap_195 rfl (lv_at hl 6 rfl) ?_
            refine gf_5_12 hx hb hE hown hP dX5_swap_196 ?_
            refine lv_iload hx hb dX5_swap_199 (lv_at hl 1 rfl) ?_
            obtain ⟨r_7, hc, hf⟩ := bnd hf
            refine rdV X (c_X3_loses l d a z x1.toNatClampNeg (((z.1 (14 + 6 * x1.toNatClampNeg)) &&& (r_3 ^^^ (-1 : Int32))) ||| r_4) (vp_lt hi_1) hc) (k_X5_183 hE rfl rfl ⟨Nat.le_of_ble_eq_true rfl, Nat.le_of_ble_eq_true rfl⟩) hP (recvP hE hP (vp_lt hi_1)) rfl hl.1 rfl (Nat.le_of_ble_eq_true rfl) dX5_swap_201 ?_
            refine lv_if_ne (tgt := 225) hx hb dX5_swap_204 (by decide) (fun q => ?_) (fun q => ?_)
            · have hf := (if_neg q).symm.trans hf
              refine lv_iconst (v := 0) hx hb dX5_swap_225 (by decide) ?_
              exact t_X5_swap_226 X hJ hr hlk x1.toNatClampNeg x3.toNatClampNeg (((z.1 (14 + 6 * x1.toNatClampNeg)) &&& (r_3 ^^^ (-1 : Int32))) ||| r_4) (((z.1 (14 + 6 * x3.toNatClampNeg)) &&& (r_4 ^^^ (-1 : Int32))) ||| r_3) (0 : Int32) z (vp_lt hi_1) (vp_lt hi_2) hf H locs ls hP hS (lv_sub hl [6, 5, 4, 1, 0] rfl)
            · have hf := (if_pos q).symm.trans hf
              refine lv_aload hx hb dX5_swap_207 (lv_at hl 4 rfl) ?_
              refine lv_aload_n hx hb dX5_swap_209 rfl (lv_at hl 6 rfl) ?_
              refine gf_5_12 hx hb hE hown hP dX5_swap_210 ?_
              refine lv_iload hx hb dX5_swap_213 (lv_at hl 0 rfl) ?_
              obtain ⟨r_8, hc, hf⟩ := bnd hf
              refine rdV X (c_X3_loses l d a z x3.toNatClampNeg (((z.1 (14 + 6 * x3.toNatClampNeg)) &&& (r_4 ^^^ (-1 : Int32))) ||| r_3) (vp_lt hi_2) hc) (k_X5_183 hE rfl rfl ⟨Nat.le_of_ble_eq_true rfl, Nat.le_of_ble_eq_true rfl⟩) hP (recvP hE hP (vp_lt hi_2)) rfl hl.1 rfl (Nat.le_of_ble_eq_true rfl) dX5_swap_215 ?_
              refine lv_if_ne (tgt := 225) hx hb dX5_swap_218 (by decide) (fun q => ?_) (fun q => ?_)
              · have hf := (if_neg q).symm.trans hf
                refine lv_iconst (v := 0) hx hb dX5_swap_225 (by decide) ?_
                exact t_X5_swap_226 X hJ hr hlk x1.toNatClampNeg x3.toNatClampNeg (((z.1 (14 + 6 * x1.toNatClampNeg)) &&& (r_3 ^^^ (-1 : Int32))) ||| r_4) (((z.1 (14 + 6 * x3.toNatClampNeg)) &&& (r_4 ^^^ (-1 : Int32))) ||| r_3) (0 : Int32) z (vp_lt hi_1) (vp_lt hi_2) hf H locs ls hP hS (lv_sub hl [6, 5, 4, 1, 0] rfl)
              · have hf := (if_pos q).symm.trans hf
                refine lv_iconst (v := 1) hx hb dX5_swap_221 (by decide) ?_
                refine lv_goto (tgt := 226) hx hb dX5_swap_222 (by decide) ?_
                exact t_X5_swap_226 X hJ hr hlk x1.toNatClampNeg x3.toNatClampNeg (((z.1 (14 + 6 * x1.toNatClampNeg)) &&& (r_3 ^^^ (-1 : Int32))) ||| r_4) (((z.1 (14 + 6 * x3.toNatClampNeg)) &&& (r_4 ^^^ (-1 : Int32))) ||| r_3) (1 : Int32) z (vp_lt hi_1) (vp_lt hi_2) hf H locs ls hP hS (lv_sub hl [6, 5, 4, 1, 0] rfl)
          · have hf := (if_pos q).symm.trans hf
            refine lv_bipush (v := -3) hx hb dX5_swap_190 (by decide) ?_
            obtain rfl := Option.some.inj hf
            exact W.iret hx hb hr (fun t ht _ => ⟨rfl, by rw [ht]; exact hP, hS.F ht⟩) hS.2.2 dX5_swap_192 hlk
      · have hf := (if_neg q).symm.trans hf
        refine lv_bipush (v := -3) hx hb dX5_swap_131 (by decide) ?_
        obtain rfl := Option.some.inj hf
        exact W.iret hx hb hr (fun t ht _ => ⟨rfl, by rw [ht]; exact hP, hS.F ht⟩) hS.2.2 dX5_swap_133 hlk
  · have hf := (if_pos q).symm.trans hf
    refine lv_bipush (v := -3) hx hb dX5_swap_67 (by decide) ?_
    obtain rfl := Option.some.inj hf
    exact W.iret hx hb hr (fun t ht _ => ⟨rfl, by rw [ht]; exact hP, hS.F ht⟩) hS.2.2 dX5_swap_69 hlk
def f_X5_swap (x1 : Int32) (x2 : Int32) (x3 : Int32) (x4 : Int32) (z : St) : Option (Int32 × St) := (f_X2_has z x1).bind (fun r_1 => (if r_1 = (0 : Int32) then some ((-1 : Int32), z) else (f_X5_isDutyOrNo z x2).bind (fun r_2 => (if r_2 = (0 : Int32) then some ((-1 : Int32), z) else (f_X2_has z x3).bind (fun r_3 => (if r_3 = (0 : Int32) then some ((-1 : Int32), z) else (f_X5_isDutyOrNo z x4).bind (fun r_4 => (if r_4 = (0 : Int32) then some ((-1 : Int32), z) else (if x1 = x3 then some ((-2 : Int32), z) else (if x2 = (-1 : Int32) then (if x4 = (-1 : Int32) then some ((-2 : Int32), z) else f_X5_swap_60 x1 x2 x3 x4 z) else f_X5_swap_60 x1 x2 x3 x4 z))))))))))
set_option maxHeartbeats 4000000 in
set_option maxRecDepth 100000 in
theorem t_X5_swap {RR : Int32 × St} (X : Cx p s m c cX5_swap RX5 12 d) (hJ : Inj 26 a) (hr : meth.sig.returnType = (some .int)) (hlk : meth.locks = false) : ∀ (x1 : Int32) (x2 : Int32) (x3 : Int32) (x4 : Int32) (z : St), f_X5_swap x1 x2 x3 x4 z = some RR → WWr wC 26 d a p l e { frames := 5, cells := 0, slots := 0, locals := 114 } s m args below meth c RR z 12 [(0, .ref (a 0)), (1, .int x1), (2, .int x2), (3, .int x3), (4, .int x4)] 0 [] := by
  intro x1 x2 x3 x4 z hf H locs ls hP hS hl
  obtain ⟨hx, hb, hml, hown, hE⟩ := id X
  unfold f_X5_swap at hf
  refine lv_aload_n hx hb dX5_swap_0 rfl (lv_at hl 0 rfl) ?_
  refine gf_5_26 hx hb hE hown hP dX5_swap_1 ?_
  refine lv_iload_n hx hb dX5_swap_4 rfl (lv_at hl 1 rfl) ?_
  obtain ⟨r_1, hc, hf⟩ := bnd hf
  refine rdV X (c_X2_has l d a z x1 hc) (k_X5_72 hE rfl rfl ⟨Nat.le_of_ble_eq_true rfl, Nat.le_of_ble_eq_true rfl⟩) hP (va_recv (q := (RX2, TX2, 2)) hE.2 hP (ci := 2) (q0 := 9) rfl rfl) rfl hl.1 rfl (Nat.le_of_ble_eq_true rfl) dX5_swap_5 ?_
  refine lv_if_eq (tgt := 39) hx hb dX5_swap_8 (by decide) (fun q => ?_) (fun q => ?_)
  · have hf := (if_pos q).symm.trans hf
    refine lv_iconst (v := -1) hx hb dX5_swap_39 (by decide) ?_
    obtain rfl := Option.some.inj hf
    exact W.iret hx hb hr (fun t ht _ => ⟨rfl, by rw [ht]; exact hP, hS.F ht⟩) hS.2.2 dX5_swap_40 hlk
  · have hf := (if_neg q).symm.trans hf
    refine lv_aload_n hx hb dX5_swap_11 rfl (lv_at hl 0 rfl) ?_
    refine lv_iload_n hx hb dX5_swap_12 rfl (lv_at hl 2 rfl) ?_
    obtain ⟨r_2, hc, hf⟩ := bnd hf
    refine rdV X (c_X5_isDutyOrNo l d a z x2 hc) (k_X5_177 hE rfl rfl ⟨Nat.le_of_ble_eq_true rfl, Nat.le_of_ble_eq_true rfl⟩) hP (va_recv (q := (RX5, TX5, 6)) hE.2 hP (ci := 5) (q0 := 0) rfl rfl) rfl hl.1 rfl (Nat.le_of_ble_eq_true rfl) dX5_swap_13 ?_
    refine lv_if_eq (tgt := 39) hx hb dX5_swap_16 (by decide) (fun q => ?_) (fun q => ?_)
    · have hf := (if_pos q).symm.trans hf
      refine lv_iconst (v := -1) hx hb dX5_swap_39 (by decide) ?_
      obtain rfl := Option.some.inj hf
      exact W.iret hx hb hr (fun t ht _ => ⟨rfl, by rw [ht]; exact hP, hS.F ht⟩) hS.2.2 dX5_swap_40 hlk
    · have hf := (if_neg q).symm.trans hf
      refine lv_aload_n hx hb dX5_swap_19 rfl (lv_at hl 0 rfl) ?_
      refine gf_5_26 hx hb hE hown hP dX5_swap_20 ?_
      refine lv_iload_n hx hb dX5_swap_23 rfl (lv_at hl 3 rfl) ?_
      obtain ⟨r_3, hc, hf⟩ := bnd hf
      refine rdV X (c_X2_has l d a z x3 hc) (k_X5_72 hE rfl rfl ⟨Nat.le_of_ble_eq_true rfl, Nat.le_of_ble_eq_true rfl⟩) hP (va_recv (q := (RX2, TX2, 2)) hE.2 hP (ci := 2) (q0 := 9) rfl rfl) rfl hl.1 rfl (Nat.le_of_ble_eq_true rfl) dX5_swap_24 ?_
      refine lv_if_eq (tgt := 39) hx hb dX5_swap_27 (by decide) (fun q => ?_) (fun q => ?_)
      · have hf := (if_pos q).symm.trans hf
        refine lv_iconst (v := -1) hx hb dX5_swap_39 (by decide) ?_
        obtain rfl := Option.some.inj hf
        exact W.iret hx hb hr (fun t ht _ => ⟨rfl, by rw [ht]; exact hP, hS.F ht⟩) hS.2.2 dX5_swap_40 hlk
      · have hf := (if_neg q).symm.trans hf
        refine lv_aload_n hx hb dX5_swap_30 rfl (lv_at hl 0 rfl) ?_
        refine lv_iload hx hb dX5_swap_31 (lv_at hl 4 rfl) ?_
        obtain ⟨r_4, hc, hf⟩ := bnd hf
        refine rdV X (c_X5_isDutyOrNo l d a z x4 hc) (k_X5_177 hE rfl rfl ⟨Nat.le_of_ble_eq_true rfl, Nat.le_of_ble_eq_true rfl⟩) hP (va_recv (q := (RX5, TX5, 6)) hE.2 hP (ci := 5) (q0 := 0) rfl rfl) rfl hl.1 rfl (Nat.le_of_ble_eq_true rfl) dX5_swap_33 ?_
        refine lv_if_ne (tgt := 41) hx hb dX5_swap_36 (by decide) (fun q => ?_) (fun q => ?_)
        · have hf := (if_neg q).symm.trans hf
          refine lv_iload_n hx hb dX5_swap_41 rfl (lv_at hl 1 rfl) ?_
          refine lv_iload_n hx hb dX5_swap_42 rfl (lv_at hl 3 rfl) ?_
          refine lv_icmp_eq (tgt := 57) hx hb dX5_swap_43 (by decide) (fun q => ?_) (fun q => ?_)
          · have hf := (if_pos q).symm.trans hf
            refine lv_bipush (v := -2) hx hb dX5_swap_57 (by decide) ?_
            obtain rfl := Option.some.inj hf
            exact W.iret hx hb hr (fun t ht _ => ⟨rfl, by rw [ht]; exact hP, hS.F ht⟩) hS.2.2 dX5_swap_59 hlk
          · have hf := (if_neg q).symm.trans hf
            refine lv_iload_n hx hb dX5_swap_46 rfl (lv_at hl 2 rfl) ?_
            refine lv_iconst (v := -1) hx hb dX5_swap_47 (by decide) ?_
            refine lv_icmp_ne (tgt := 60) hx hb dX5_swap_48 (by decide) (fun q => ?_) (fun q => ?_)
            · have hf := (if_neg q).symm.trans hf
              exact t_X5_swap_60 X hJ hr hlk x1 x2 x3 x4 z hf H locs ls hP hS (lv_sub hl [0, 1, 2, 3, 4] rfl)
            · have hf := (if_pos q).symm.trans hf
              refine lv_iload hx hb dX5_swap_51 (lv_at hl 4 rfl) ?_
              refine lv_iconst (v := -1) hx hb dX5_swap_53 (by decide) ?_
              refine lv_icmp_ne (tgt := 60) hx hb dX5_swap_54 (by decide) (fun q => ?_) (fun q => ?_)
              · have hf := (if_neg q).symm.trans hf
                exact t_X5_swap_60 X hJ hr hlk x1 x2 x3 x4 z hf H locs ls hP hS (lv_sub hl [0, 1, 2, 3, 4] rfl)
              · have hf := (if_pos q).symm.trans hf
                refine lv_bipush (v := -2) hx hb dX5_swap_57 (by decide) ?_
                obtain rfl := Option.some.inj hf
                exact W.iret hx hb hr (fun t ht _ => ⟨rfl, by rw [ht]; exact hP, hS.F ht⟩) hS.2.2 dX5_swap_59 hlk
        · have hf := (if_pos q).symm.trans hf
          refine lv_iconst (v := -1) hx hb dX5_swap_39 (by decide) ?_
          obtain rfl := Option.some.inj hf
          exact W.iret hx hb hr (fun t ht _ => ⟨rfl, by rw [ht]; exact hP, hS.F ht⟩) hS.2.2 dX5_swap_40 hlk
set_option maxHeartbeats 4000000 in
set_option maxRecDepth 100000 in
theorem c_X5_swap (l : Launch) (d : G3) (a : Nat → Nat) (z : St) (x1 : Int32) (x2 : Int32) (x3 : Int32) (x4 : Int32) {RR : Int32 × St} (hf : f_X5_swap x1 x2 x3 x4 z = some RR) : Met l yX5_swap [Cond.code yX5_swap cX5_swap 12 (some .int)] { frames := 5, cells := 0, slots := 0, locals := 114 } (wpre wC 26 d a z [.ref (a 0), .int x1, .int x2, .int x3, .int x4]) (QW wC 26 d a RR) 0 0 (AD 26 a) := by
  refine Met.ofW (cc := cX5_swap) (maxL := 12) (ret := (some .int)) (by decide) rfl ?_
  intro p e s m args below meth c s₁ B hml hv
  obtain ⟨rfl, hE, hP, hJ⟩ := hv
  have X : Cx p s m c cX5_swap RX5 12 d := ⟨B.exec, B.bytes, hml, findClass_of_methodNamed B.named, hE⟩
  have hl := lv_entry ([.ref (a 0), .int x1, .int x2, .int x3, .int x4]) (n := 12) (Nat.le_of_ble_eq_true rfl)
  rw [lg_entry_eq]
  generalize (lg_sl ([.ref (a 0), .int x1, .int x2, .int x3, .int x4]) ++ List.replicate (12 - (lg_sl ([.ref (a 0), .int x1, .int x2, .int x3, .int x4])).length) Slot.unset).toArray = ls at hl ⊢
  have hl : lv_has ls 12 [(0, .ref (a 0)), (1, .int x1), (2, .int x2), (3, .int x3), (4, .int x4)] := hl
  exact t_X5_swap X hJ B.returns B.notSynchronized x1 x2 x3 x4 z hf s.heap [] ls hP va_S.rf hl
def f_X5_callIn_7 (k7 : Int32 → Int32 → Int32 → Int32 → St → Option (St)) (x1 : Int32) (x2 : Int32) (x3 : Int32) (x4 : Int32) (z : St) : Option (St) := (if (z.1 4) ≤ x4 then (if x2 = (-1 : Int32) then some z else ck 4 x2 (some (pS z (14 + 6 * x2.toNatClampNeg) ((z.1 (14 + 6 * x2.toNatClampNeg)) ||| ((1 : Int32) <<< (x1 &&& 31)))))) else ck 4 x4 ((if (z.1 (15 + 6 * x4.toNatClampNeg)) = (0 : Int32) then (f_X0_isLegal z x4 ((z.1 (14 + 6 * x4.toNatClampNeg)) ||| ((1 : Int32) <<< (x1 &&& 31)))).bind (fun r_3 => (if r_3 = (0 : Int32) then k7 x1 x2 x3 (x4 + (1 : Int32)) z else (f_X1_hoursOf z (z.1 (14 + 6 * x4.toNatClampNeg))).bind (fun r_4 => (if x2 = (-1 : Int32) then k7 x1 x4 r_4 (x4 + (1 : Int32)) z else (if x3 ≤ r_4 then k7 x1 x2 x3 (x4 + (1 : Int32)) z else k7 x1 x4 r_4 (x4 + (1 : Int32)) z))))) else k7 x1 x2 x3 (x4 + (1 : Int32)) z)))
def l_X5_callIn_7 : Int32 → Int32 → Int32 → Int32 → St → Option (St) := iter (fun _ _ _ _ _ => none) (f_X5_callIn_7) FU
set_option maxHeartbeats 4000000 in
set_option maxRecDepth 100000 in
theorem t_X5_callIn_7 {RR : St} (X : Cx p s m c cX5_callIn RX5 7 d) (hJ : Inj 26 a) (hr : meth.sig.returnType = none) (hlk : meth.locks = false) {k7 : Int32 → Int32 → Int32 → Int32 → St → Option (St)} (hk7 : ∀ (x1 : Int32) (x2 : Int32) (x3 : Int32) (x4 : Int32) (z : St), k7 x1 x2 x3 x4 z = some RR → WWv wC 26 d a p l e { frames := 2, cells := 0, slots := 0, locals := 44 } s m args below meth c RR z 7 [(0, .ref (a 0)), (1, .int x1), (2, .int x2), (3, .int x3), (4, .int x4)] 7 []) : ∀ (x1 : Int32) (x2 : Int32) (x3 : Int32) (x4 : Int32) (z : St), f_X5_callIn_7 k7 x1 x2 x3 x4 z = some RR → WWv wC 26 d a p l e { frames := 2, cells := 0, slots := 0, locals := 44 } s m args below meth c RR z 7 [(0, .ref (a 0)), (1, .int x1), (2, .int x2), (3, .int x3), (4, .int x4)] 7 [] := by
  intro x1 x2 x3 x4 z hf H locs ls hP hS hl
  obtain ⟨hx, hb, hml, hown, hE⟩ := id X
  unfold f_X5_callIn_7 at hf
  refine lv_iload hx hb dX5_callIn_7 (lv_at hl 4 rfl) ?_
  refine lv_aload_n hx hb dX5_callIn_9 rfl (lv_at hl 0 rfl) ?_
  refine gf_5_26 hx hb hE hown hP dX5_callIn_10 ?_
  refine gf_5_58 hx hb hE hown hP dX5_callIn_13 ?_
  refine lv_icmp_ge (tgt := 100) hx hb dX5_callIn_16 (by decide) (fun q => ?_) (fun q => ?_)
  · have hf := (if_pos q).symm.trans hf
    refine lv_iload_n hx hb dX5_callIn_100 rfl (lv_at hl 2 rfl) ?_
    refine lv_iconst (v := -1) hx hb dX5_callIn_101 (by decide) ?_
    refine lv_icmp_eq (tgt := 125) hx hb dX5_callIn_102 (by decide) (fun q => ?_) (fun q => ?_)
    · have hf := (if_pos q).symm.trans hf
      obtain rfl := Option.some.inj hf
      exact W.vret hx hb hr (fun t ht _ => ⟨rfl, by rw [ht]; exact hP, hS.F ht⟩) hS.2.2 dX5_callIn_125 hlk
    · have hf := (if_neg q).symm.trans hf
      refine lv_aload_n hx hb dX5_callIn_105 rfl (lv_at hl 0 rfl) ?_
      refine gf_5_26 hx hb hE hown hP dX5_callIn_106 ?_
      refine gf_5_76 hx hb hE hown hP dX5_callIn_109 ?_
      refine lv_iload_n hx hb dX5_callIn_112 rfl (lv_at hl 2 rfl) ?_
      obtain ⟨hi_1, hf⟩ := ck_some hf
      refine al_rank hx hb hE hP hi_1 dX5_callIn_113 ?_
      refine lv_dup hx hb dX5_callIn_114 rfl ?_
      refine gf_5_144 hx hb hE hown hP (vp_lt hi_1) dX5_callIn_115 ?_
      refine lv_iconst (v := 1) hx hb dX5_callIn_118 (by decide) ?_
      refine lv_iload_n hx hb dX5_callIn_119 rfl (lv_at hl 1 rfl) ?_
      refine lv_ishl hx hb dX5_callIn_120 ?_
      refine lv_ior hx hb dX5_callIn_121 ?_
      refine pf_5_144 hx hb hE hown hP hJ hS (vp_lt hi_1) dX5_callIn_122 (fun H locs hP hS => ?_)
      obtain rfl := Option.some.inj hf
      exact W.vret hx hb hr (fun t ht _ => ⟨rfl, by rw [ht]; exact hP, hS.F ht⟩) hS.2.2 dX5_callIn_125 hlk
  · have hf := (if_neg q).symm.trans hf
    refine lv_aload_n hx hb dX5_callIn_19 rfl (lv_at hl 0 rfl) ?_
    refine gf_5_26 hx hb hE hown hP dX5_callIn_20 ?_
    refine gf_5_76 hx hb hE hown hP dX5_callIn_23 ?_
    refine lv_iload hx hb dX5_callIn_26 (lv_at hl 4 rfl) ?_
    obtain ⟨hi_2, hf⟩ := ck_some hf
    refine al_rank hx hb hE hP hi_2 dX5_callIn_28 ?_
    refine lv_astore (lv' := [(5, .ref (a (14 + 3 * x4.toNatClampNeg))), (0, .ref (a 0)), (1, .int x1), (2, .int x2), (3, .int x3), (4, .int x4)]) hx hb dX5_callIn_29 hl (by decide) rfl (fun ls hl => ?_)
    refine lv_aload hx hb dX5_callIn_31 (lv_at hl 0 rfl) ?_
    refine gf_5_147 hx hb hE hown hP (vp_lt hi_2) dX5_callIn_33 ?_
    refine lv_if_ne (tgt := 94) hx hb dX5_callIn_36 (by decide) (fun q => ?_) (fun q => ?_)
    · have hf := (if_neg q).symm.trans hf
      refine lv_iinc (v := (x4 + (1 : Int32))) (lv' := [(4, .int (x4 + (1 : Int32))), (5, .ref (a (14 + 3 * x4.toNatClampNeg))), (0, .ref (a 0)), (1, .int x1), (2, .int x2), (3, .int x3)]) hx hb dX5_callIn_94 hl (k := 5) rfl rfl (by decide) rfl (fun ls hl => ?_)
      refine lv_goto (tgt := 7) hx hb dX5_callIn_97 (by decide) ?_
      exact hk7 x1 x2 x3 (x4 + (1 : Int32)) z hf H locs ls hP hS (lv_sub hl [2, 3, 4, 5, 0] rfl)
    · have hf := (if_pos q).symm.trans hf
      refine lv_aload_n hx hb dX5_callIn_39 rfl (lv_at hl 1 rfl) ?_
      refine gf_5_35 hx hb hE hown hP dX5_callIn_40 ?_
      refine lv_iload hx hb dX5_callIn_43 (lv_at hl 5 rfl) ?_
      refine lv_aload hx hb dX5_callIn_45 (lv_at hl 0 rfl) ?_
      refine gf_5_144 hx hb hE hown hP (vp_lt hi_2) dX5_callIn_47 ?_
      refine lv_iconst (v := 1) hx hb dX5_callIn_50 (by decide) ?_
      refine lv_iload_n hx hb dX5_callIn_51 rfl (lv_at hl 2 rfl) ?_
      refine lv_ishl hx hb dX5_callIn_52 ?_
      refine lv_ior hx hb dX5_callIn_53 ?_
      obtain ⟨r_3, hc, hf⟩ := bnd hf
      refine rdV X (c_X0_isLegal l d a z x4 ((z.1 (14 + 6 * x4.toNatClampNeg)) ||| ((1 : Int32) <<< (x1 &&& 31))) hc) (k_X5_120 hE rfl rfl ⟨Nat.le_of_ble_eq_true rfl, Nat.le_of_ble_eq_true rfl⟩) hP (va_recv (q := (RX0, TX0, 7)) hE.2 hP (ci := 0) (q0 := 11) rfl rfl) rfl hl.1 rfl (Nat.le_of_ble_eq_true rfl) dX5_callIn_54 ?_
      refine lv_if_ne (tgt := 63) hx hb dX5_callIn_57 (by decide) (fun q => ?_) (fun q => ?_)
      · have hf := (if_neg q).symm.trans hf
        refine lv_aload_n hx hb dX5_callIn_63 rfl (lv_at hl 1 rfl) ?_
        refine gf_5_12 hx hb hE hown hP dX5_callIn_64 ?_
        refine lv_aload hx hb dX5_callIn_67 (lv_at hl 0 rfl) ?_
        refine gf_5_144 hx hb hE hown hP (vp_lt hi_2) dX5_callIn_69 ?_
        obtain ⟨r_4, hc, hf⟩ := bnd hf
        refine rdV X (c_X1_hoursOf l d a z (z.1 (14 + 6 * x4.toNatClampNeg)) hc) (k_X5_158 hE rfl rfl ⟨Nat.le_of_ble_eq_true rfl, Nat.le_of_ble_eq_true rfl⟩) hP (va_recv (q := (RX1, TX1, 7)) hE.2 hP (ci := 1) (q0 := 1) rfl rfl) rfl hl.1 rfl (Nat.le_of_ble_eq_true rfl) dX5_callIn_72 ?_
        refine lv_istore (lv' := [(6, .int r_4), (5, .ref (a (14 + 3 * x4.toNatClampNeg))), (0, .ref (a 0)), (1, .int x1), (2, .int x2), (3, .int x3), (4, .int x4)]) hx hb dX5_callIn_75 hl (by decide) rfl (fun ls hl => ?_)
        refine lv_iload_n hx hb dX5_callIn_77 rfl (lv_at hl 4 rfl) ?_
        refine lv_iconst (v := -1) hx hb dX5_callIn_78 (by decide) ?_
        refine lv_icmp_eq (tgt := 88) hx hb dX5_callIn_79 (by decide) (fun q => ?_) (fun q => ?_)
        · have hf := (if_pos q).symm.trans hf
          refine lv_iload hx hb dX5_callIn_88 (lv_at hl 6 rfl) ?_
          refine lv_istore_n (lv' := [(2, .int x4), (6, .int r_4), (5, .ref (a (14 + 3 * x4.toNatClampNeg))), (0, .ref (a 0)), (1, .int x1), (3, .int x3), (4, .int x4)]) hx hb dX5_callIn_90 rfl hl (by decide) rfl (fun ls hl => ?_)
          refine lv_iload hx hb dX5_callIn_91 (lv_at hl 1 rfl) ?_
          refine lv_istore_n (lv' := [(3, .int r_4), (2, .int x4), (6, .int r_4), (5, .ref (a (14 + 3 * x4.toNatClampNeg))), (0, .ref (a 0)), (1, .int x1), (4, .int x4)]) hx hb dX5_callIn_93 rfl hl (by decide) rfl (fun ls hl => ?_)
          refine lv_iinc (v := (x4 + (1 : Int32))) (lv' := [(4, .int (x4 + (1 : Int32))), (3, .int r_4), (2, .int x4), (6, .int r_4), (5, .ref (a (14 + 3 * x4.toNatClampNeg))), (0, .ref (a 0)), (1, .int x1)]) hx hb dX5_callIn_94 hl (k := 6) rfl rfl (by decide) rfl (fun ls hl => ?_)
          refine lv_goto (tgt := 7) hx hb dX5_callIn_97 (by decide) ?_
          exact hk7 x1 x4 r_4 (x4 + (1 : Int32)) z hf H locs ls hP hS (lv_sub hl [5, 6, 2, 1, 0] rfl)
        · have hf := (if_neg q).symm.trans hf
          refine lv_iload hx hb dX5_callIn_82 (lv_at hl 0 rfl) ?_
          refine lv_iload_n hx hb dX5_callIn_84 rfl (lv_at hl 5 rfl) ?_
          refine lv_icmp_ge (tgt := 94) hx hb dX5_callIn_85 (by decide) (fun q => ?_) (fun q => ?_)
          · have hf := (if_pos q).symm.trans hf
            refine lv_iinc (v := (x4 + (1 : Int32))) (lv' := [(4, .int (x4 + (1 : Int32))), (6, .int r_4), (5, .ref (a (14 + 3 * x4.toNatClampNeg))), (0, .ref (a 0)), (1, .int x1), (2, .int x2), (3, .int x3)]) hx hb dX5_callIn_94 hl (k := 6) rfl rfl (by decide) rfl (fun ls hl => ?_)
            refine lv_goto (tgt := 7) hx hb dX5_callIn_97 (by decide) ?_
            exact hk7 x1 x2 x3 (x4 + (1 : Int32)) z hf H locs ls hP hS (lv_sub hl [3, 4, 5, 6, 0] rfl)
          · have hf := (if_neg q).symm.trans hf
            refine lv_iload hx hb dX5_callIn_88 (lv_at hl 6 rfl) ?_
            refine lv_istore_n (lv' := [(2, .int x4), (6, .int r_4), (5, .ref (a (14 + 3 * x4.toNatClampNeg))), (0, .ref (a 0)), (1, .int x1), (3, .int x3), (4, .int x4)]) hx hb dX5_callIn_90 rfl hl (by decide) rfl (fun ls hl => ?_)
            refine lv_iload hx hb dX5_callIn_91 (lv_at hl 1 rfl) ?_
            refine lv_istore_n (lv' := [(3, .int r_4), (2, .int x4), (6, .int r_4), (5, .ref (a (14 + 3 * x4.toNatClampNeg))), (0, .ref (a 0)), (1, .int x1), (4, .int x4)]) hx hb dX5_callIn_93 rfl hl (by decide) rfl (fun ls hl => ?_)
            refine lv_iinc (v := (x4 + (1 : Int32))) (lv' := [(4, .int (x4 + (1 : Int32))), (3, .int r_4), (2, .int x4), (6, .int r_4), (5, .ref (a (14 + 3 * x4.toNatClampNeg))), (0, .ref (a 0)), (1, .int x1)]) hx hb dX5_callIn_94 hl (k := 6) rfl rfl (by decide) rfl (fun ls hl => ?_)
            refine lv_goto (tgt := 7) hx hb dX5_callIn_97 (by decide) ?_
            exact hk7 x1 x4 r_4 (x4 + (1 : Int32)) z hf H locs ls hP hS (lv_sub hl [5, 6, 2, 1, 0] rfl)
      · have hf := (if_pos q).symm.trans hf
        refine lv_goto (tgt := 94) hx hb dX5_callIn_60 (by decide) ?_
        refine lv_iinc (v := (x4 + (1 : Int32))) (lv' := [(4, .int (x4 + (1 : Int32))), (5, .ref (a (14 + 3 * x4.toNatClampNeg))), (0, .ref (a 0)), (1, .int x1), (2, .int x2), (3, .int x3)]) hx hb dX5_callIn_94 hl (k := 5) rfl rfl (by decide) rfl (fun ls hl => ?_)
        refine lv_goto (tgt := 7) hx hb dX5_callIn_97 (by decide) ?_
        exact hk7 x1 x2 x3 (x4 + (1 : Int32)) z hf H locs ls hP hS (lv_sub hl [2, 3, 4, 5, 0] rfl)
theorem u_X5_callIn_7 {RR : St} (X : Cx p s m c cX5_callIn RX5 7 d) (hJ : Inj 26 a) (hr : meth.sig.returnType = none) (hlk : meth.locks = false) : ∀ (x1 : Int32) (x2 : Int32) (x3 : Int32) (x4 : Int32) (z : St), l_X5_callIn_7 x1 x2 x3 x4 z = some RR → WWv wC 26 d a p l e { frames := 2, cells := 0, slots := 0, locals := 44 } s m args below meth c RR z 7 [(0, .ref (a 0)), (1, .int x1), (2, .int x2), (3, .int x3), (4, .int x4)] 7 [] := by
  unfold l_X5_callIn_7
  generalize FU = n
  induction n with
  | zero => intro x1 x2 x3 x4 z hf; exact absurd (show (none : Option (St)) = some RR from hf) (by simp)
  | succ n ih => exact t_X5_callIn_7 X hJ hr hlk ih
def f_X5_callIn (x1 : Int32) (z : St) : Option (St) := l_X5_callIn_7 x1 (-1 : Int32) (0 : Int32) (0 : Int32) z
set_option maxHeartbeats 4000000 in
set_option maxRecDepth 100000 in
theorem t_X5_callIn {RR : St} (X : Cx p s m c cX5_callIn RX5 7 d) (hJ : Inj 26 a) (hr : meth.sig.returnType = none) (hlk : meth.locks = false) : ∀ (x1 : Int32) (z : St), f_X5_callIn x1 z = some RR → WWv wC 26 d a p l e { frames := 2, cells := 0, slots := 0, locals := 44 } s m args below meth c RR z 7 [(0, .ref (a 0)), (1, .int x1)] 0 [] := by
  intro x1 z hf H locs ls hP hS hl
  obtain ⟨hx, hb, hml, hown, hE⟩ := id X
  unfold f_X5_callIn at hf
  refine lv_iconst (v := -1) hx hb dX5_callIn_0 (by decide) ?_
  refine lv_istore_n (lv' := [(2, .int (-1 : Int32)), (0, .ref (a 0)), (1, .int x1)]) hx hb dX5_callIn_1 rfl hl (by decide) rfl (fun ls hl => ?_)
  refine lv_iconst (v := 0) hx hb dX5_callIn_2 (by decide) ?_
  refine lv_istore_n (lv' := [(3, .int (0 : Int32)), (2, .int (-1 : Int32)), (0, .ref (a 0)), (1, .int x1)]) hx hb dX5_callIn_3 rfl hl (by decide) rfl (fun ls hl => ?_)
  refine lv_iconst (v := 0) hx hb dX5_callIn_4 (by decide) ?_
  refine lv_istore (lv' := [(4, .int (0 : Int32)), (3, .int (0 : Int32)), (2, .int (-1 : Int32)), (0, .ref (a 0)), (1, .int x1)]) hx hb dX5_callIn_5 hl (by decide) rfl (fun ls hl => ?_)
  exact u_X5_callIn_7 X hJ hr hlk x1 (-1 : Int32) (0 : Int32) (0 : Int32) z hf H locs ls hP hS (lv_sub hl [3, 4, 2, 1, 0] rfl)
set_option maxHeartbeats 4000000 in
set_option maxRecDepth 100000 in
theorem c_X5_callIn (l : Launch) (d : G3) (a : Nat → Nat) (z : St) (x1 : Int32) {RR : St} (hf : f_X5_callIn x1 z = some RR) : Met l yX5_callIn [Cond.code yX5_callIn cX5_callIn 7 none] { frames := 2, cells := 0, slots := 0, locals := 44 } (wpre wC 26 d a z [.ref (a 0), .int x1]) (QV wC 26 d a RR) 0 0 (AD 26 a) := by
  refine Met.ofW (cc := cX5_callIn) (maxL := 7) (ret := none) (by decide) rfl ?_
  intro p e s m args below meth c s₁ B hml hv
  obtain ⟨rfl, hE, hP, hJ⟩ := hv
  have X : Cx p s m c cX5_callIn RX5 7 d := ⟨B.exec, B.bytes, hml, findClass_of_methodNamed B.named, hE⟩
  have hl := lv_entry ([.ref (a 0), .int x1]) (n := 7) (Nat.le_of_ble_eq_true rfl)
  rw [lg_entry_eq]
  generalize (lg_sl ([.ref (a 0), .int x1]) ++ List.replicate (7 - (lg_sl ([.ref (a 0), .int x1])).length) Slot.unset).toArray = ls at hl ⊢
  have hl : lv_has ls 7 [(0, .ref (a 0)), (1, .int x1)] := hl
  exact t_X5_callIn X hJ B.returns B.notSynchronized x1 z hf s.heap [] ls hP va_S.rf hl
end GEN
