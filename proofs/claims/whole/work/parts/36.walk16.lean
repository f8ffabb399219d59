section GEN
variable {p : Program} {l : Launch} {e : Env} {s : State} {m : MethodId} {args : Array Value} {below : List Frame} {meth : Method} {c : Code} {d : G3} {a : Nat → Nat}
def f_X6_whyNot_216 (z : St) (k203 : Int32 → Int32 → Int32 → Option (Int32)) (k216 : Int32 → Int32 → Int32 → Int32 → Int32 → Option (Int32)) (x1 : Int32) (x2 : Int32) (x4 : Int32) (x5 : Int32) (x6 : Int32) : Option (Int32) := (if (z.1 0) ≤ x6 then (if x5 ≤ (z.1 5) then k203 x1 x2 (x4 + (1 : Int32)) else some (5 : Int32)) else (f_X6_has z x2 x6).bind (fun r_1 => (if r_1 = (0 : Int32) then k216 x1 x2 x4 x5 (x6 + (1 : Int32)) else ck 9 x6 ((if (z.2 0 x6.toNatClampNeg) < x4 then k216 x1 x2 x4 x5 (x6 + (1 : Int32)) else ck 9 x6 ((if (x4 + (7 : Int32)) ≤ (z.2 0 x6.toNatClampNeg) then k216 x1 x2 x4 x5 (x6 + (1 : Int32)) else ck 9 x6 (k216 x1 x2 x4 (x5 + (z.2 2 x6.toNatClampNeg)) (x6 + (1 : Int32))))))))))
def l_X6_whyNot_216 (z : St) (k203 : Int32 → Int32 → Int32 → Option (Int32)) : Int32 → Int32 → Int32 → Int32 → Int32 → Option (Int32) := iter (fun _ _ _ _ _ => none) (f_X6_whyNot_216 z k203) FU
set_option maxHeartbeats 4000000 in
set_option maxRecDepth 100000 in
theorem t_X6_whyNot_216 {RR : Int32} (X : Cx p s m c cX6_whyNot RX6 7 d) {z : St} (hP : va_P d.1 classes (wM d a z) s.heap) (hr : meth.sig.returnType = (some .int)) (hlk : meth.locks = false) {k203 : Int32 → Int32 → Int32 → Option (Int32)} {k216 : Int32 → Int32 → Int32 → Int32 → Int32 → Option (Int32)} (hk203 : ∀ (x1 : Int32) (x2 : Int32) (x4 : Int32), k203 x1 x2 x4 = some RR → WRd p l e { frames := 2, cells := 0, slots := 0, locals := 45 } s m args below meth c RR 7 [(0, .ref (a 0)), (1, .int x1), (2, .int x2), (4, .int x4)] 203 []) (hk216 : ∀ (x1 : Int32) (x2 : Int32) (x4 : Int32) (x5 : Int32) (x6 : Int32), k216 x1 x2 x4 x5 x6 = some RR → WRd p l e { frames := 2, cells := 0, slots := 0, locals := 45 } s m args below meth c RR 7 [(0, .ref (a 0)), (1, .int x1), (2, .int x2), (4, .int x4), (5, .int x5), (6, .int x6)] 216 []) : ∀ (x1 : Int32) (x2 : Int32) (x4 : Int32) (x5 : Int32) (x6 : Int32), f_X6_whyNot_216 z k203 k216 x1 x2 x4 x5 x6 = some RR → WRd p l e { frames := 2, cells := 0, slots := 0, locals := 45 } s m args below meth c RR 7 [(0, .ref (a 0)), (1, .int x1), (2, .int x2), (4, .int x4), (5, .int x5), (6, .int x6)] 216 [] := by
  intro x1 x2 x4 x5 x6 hf ls hl
  obtain ⟨hx, hb, hml, hown, hE⟩ := id X
  unfold f_X6_whyNot_216 at hf
  refine lv_iload hx hb dX6_whyNot_216 (lv_at hl 5 rfl) ?_
  refine lv_aload_n hx hb dX6_whyNot_218 rfl (lv_at hl 0 rfl) ?_
  refine gf_6_84 hx hb hE hown hP dX6_whyNot_219 ?_
  refine lv_icmp_ge (tgt := 279) hx hb dX6_whyNot_222 (by decide) (fun q => ?_) (fun q => ?_)
  · have hf := (if_pos q).symm.trans hf
    refine lv_iload hx hb dX6_whyNot_279 (lv_at hl 4 rfl) ?_
    refine lv_aload_n hx hb dX6_whyNot_281 rfl (lv_at hl 0 rfl) ?_
    refine gf_6_50 hx hb hE hown hP dX6_whyNot_282 ?_
    refine lv_icmp_le (tgt := 290) hx hb dX6_whyNot_285 (by decide) (fun q => ?_) (fun q => ?_)
    · have hf := (if_pos q).symm.trans hf
      refine lv_iinc (v := (x4 + (1 : Int32))) (lv' := [(4, .int (x4 + (1 : Int32))), (0, .ref (a 0)), (1, .int x1), (2, .int x2), (5, .int x5), (6, .int x6)]) hx hb dX6_whyNot_290 hl (k := 3) rfl rfl (by decide) rfl (fun ls hl => ?_)
      refine lv_goto (tgt := 203) hx hb dX6_whyNot_293 (by decide) ?_
      exact hk203 x1 x2 (x4 + (1 : Int32)) hf ls (lv_sub hl [1, 2, 3, 0] rfl)
    · have hf := (if_neg q).symm.trans hf
      refine lv_iconst (v := 5) hx hb dX6_whyNot_288 (by decide) ?_
      obtain rfl := Option.some.inj hf
      exact W.iret hx hb hr (fun t ht _ => ⟨rfl, ht⟩) (fun _ h => nomatch h) dX6_whyNot_289 hlk
  · have hf := (if_neg q).symm.trans hf
    refine lv_iload_n hx hb dX6_whyNot_225 rfl (lv_at hl 2 rfl) ?_
    refine lv_iload hx hb dX6_whyNot_226 (lv_at hl 5 rfl) ?_
    obtain ⟨r_1, hc, hf⟩ := bnd hf
    refine rdS X (c_X6_has l d a z x2 x6 hc) (k_X6_87 hE rfl rfl ⟨Nat.le_of_ble_eq_true rfl, Nat.le_of_ble_eq_true rfl⟩) hP rfl hl.1 rfl (Nat.le_of_ble_eq_true rfl) dX6_whyNot_228 ?_
    refine lv_if_eq (tgt := 273) hx hb dX6_whyNot_231 (by decide) (fun q => ?_) (fun q => ?_)
    · have hf := (if_pos q).symm.trans hf
      refine lv_iinc (v := (x6 + (1 : Int32))) (lv' := [(6, .int (x6 + (1 : Int32))), (0, .ref (a 0)), (1, .int x1), (2, .int x2), (4, .int x4), (5, .int x5)]) hx hb dX6_whyNot_273 hl (k := 5) rfl rfl (by decide) rfl (fun ls hl => ?_)
      refine lv_goto (tgt := 216) hx hb dX6_whyNot_276 (by decide) ?_
      exact hk216 x1 x2 x4 x5 (x6 + (1 : Int32)) hf ls (lv_sub hl [1, 2, 3, 4, 5, 0] rfl)
    · have hf := (if_neg q).symm.trans hf
      refine lv_aload_n hx hb dX6_whyNot_234 rfl (lv_at hl 0 rfl) ?_
      refine gf_6_9 hx hb hE hown hP dX6_whyNot_235 ?_
      refine lv_iload hx hb dX6_whyNot_238 (lv_at hl 5 rfl) ?_
      obtain ⟨hi, hf⟩ := ck_some hf
      refine ld_M_1 hx hb hE hP hi dX6_whyNot_240 ?_
      refine lv_iload hx hb dX6_whyNot_241 (lv_at hl 3 rfl) ?_
      refine lv_icmp_lt (tgt := 273) hx hb dX6_whyNot_243 (by decide) (fun q => ?_) (fun q => ?_)
      · have hf := (if_pos q).symm.trans hf
        refine lv_iinc (v := (x6 + (1 : Int32))) (lv' := [(6, .int (x6 + (1 : Int32))), (0, .ref (a 0)), (1, .int x1), (2, .int x2), (4, .int x4), (5, .int x5)]) hx hb dX6_whyNot_273 hl (k := 5) rfl rfl (by decide) rfl (fun ls hl => ?_)
        refine lv_goto (tgt := 216) hx hb dX6_whyNot_276 (by decide) ?_
        exact hk216 x1 x2 x4 x5 (x6 + (1 : Int32)) hf ls (lv_sub hl [1, 2, 3, 4, 5, 0] rfl)
      · have hf := (if_neg q).symm.trans hf
        refine lv_aload_n hx hb dX6_whyNot_246 rfl (lv_at hl 0 rfl) ?_
        refine gf_6_9 hx hb hE hown hP dX6_whyNot_247 ?_
        refine lv_iload hx hb dX6_whyNot_250 (lv_at hl 5 rfl) ?_
        obtain ⟨hi, hf⟩ := ck_some hf
        refine ld_M_1 hx hb hE hP hi dX6_whyNot_252 ?_
        refine lv_iload hx hb dX6_whyNot_253 (lv_at hl 3 rfl) ?_
        refine lv_bipush (v := 7) hx hb dX6_whyNot_255 (by decide) ?_
        refine lv_iadd hx hb dX6_whyNot_257 ?_
        refine lv_icmp_ge (tgt := 273) hx hb dX6_whyNot_258 (by decide) (fun q => ?_) (fun q => ?_)
        · have hf := (if_pos q).symm.trans hf
          refine lv_iinc (v := (x6 + (1 : Int32))) (lv' := [(6, .int (x6 + (1 : Int32))), (0, .ref (a 0)), (1, .int x1), (2, .int x2), (4, .int x4), (5, .int x5)]) hx hb dX6_whyNot_273 hl (k := 5) rfl rfl (by decide) rfl (fun ls hl => ?_)
          refine lv_goto (tgt := 216) hx hb dX6_whyNot_276 (by decide) ?_
          exact hk216 x1 x2 x4 x5 (x6 + (1 : Int32)) hf ls (lv_sub hl [1, 2, 3, 4, 5, 0] rfl)
        · have hf := (if_neg q).symm.trans hf
          refine lv_iload hx hb dX6_whyNot_261 (lv_at hl 4 rfl) ?_
          refine lv_aload_n hx hb dX6_whyNot_263 rfl (lv_at hl 0 rfl) ?_
          refine gf_6_16 hx hb hE hown hP dX6_whyNot_264 ?_
          refine lv_iload hx hb dX6_whyNot_267 (lv_at hl 5 rfl) ?_
          obtain ⟨hi, hf⟩ := ck_some hf
          refine ld_M_3 hx hb hE hP hi dX6_whyNot_269 ?_
          refine lv_iadd hx hb dX6_whyNot_270 ?_
          refine lv_istore (lv' := [(5, .int (x5 + (z.2 2 x6.toNatClampNeg))), (0, .ref (a 0)), (1, .int x1), (2, .int x2), (4, .int x4), (6, .int x6)]) hx hb dX6_whyNot_271 hl (by decide) rfl (fun ls hl => ?_)
          refine lv_iinc (v := (x6 + (1 : Int32))) (lv' := [(6, .int (x6 + (1 : Int32))), (5, .int (x5 + (z.2 2 x6.toNatClampNeg))), (0, .ref (a 0)), (1, .int x1), (2, .int x2), (4, .int x4)]) hx hb dX6_whyNot_273 hl (k := 5) rfl rfl (by decide) rfl (fun ls hl => ?_)
          refine lv_goto (tgt := 216) hx hb dX6_whyNot_276 (by decide) ?_
          exact hk216 x1 x2 x4 (x5 + (z.2 2 x6.toNatClampNeg)) (x6 + (1 : Int32)) hf ls (lv_sub hl [2, 3, 4, 5, 1, 0] rfl)
theorem u_X6_whyNot_216 {RR : Int32} (X : Cx p s m c cX6_whyNot RX6 7 d) {z : St} (hP : va_P d.1 classes (wM d a z) s.heap) (hr : meth.sig.returnType = (some .int)) (hlk : meth.locks = false) {k203 : Int32 → Int32 → Int32 → Option (Int32)} (hk203 : ∀ (x1 : Int32) (x2 : Int32) (x4 : Int32), k203 x1 x2 x4 = some RR → WRd p l e { frames := 2, cells := 0, slots := 0, locals := 45 } s m args below meth c RR 7 [(0, .ref (a 0)), (1, .int x1), (2, .int x2), (4, .int x4)] 203 []) : ∀ (x1 : Int32) (x2 : Int32) (x4 : Int32) (x5 : Int32) (x6 : Int32), l_X6_whyNot_216 z k203 x1 x2 x4 x5 x6 = some RR → WRd p l e { frames := 2, cells := 0, slots := 0, locals := 45 } s m args below meth c RR 7 [(0, .ref (a 0)), (1, .int x1), (2, .int x2), (4, .int x4), (5, .int x5), (6, .int x6)] 216 [] := by
  unfold l_X6_whyNot_216
  generalize FU = n
  induction n with
  | zero => intro x1 x2 x4 x5 x6 hf; exact absurd (show (none : Option (Int32)) = some RR from hf) (by simp)
  | succ n ih => exact t_X6_whyNot_216 X hP hr hlk hk203 ih
def f_X6_whyNot_203 (z : St) (k203 : Int32 → Int32 → Int32 → Option (Int32)) (x1 : Int32) (x2 : Int32) (x4 : Int32) : Option (Int32) := (if (14 : Int32) ≤ x4 then (f_X6_hoursOf z x2).bind (fun r_1 => ck 4 x1 ((if r_1 ≤ (z.2 6 x1.toNatClampNeg) then some (0 : Int32) else some (6 : Int32)))) else l_X6_whyNot_216 z k203 x1 x2 x4 (0 : Int32) (0 : Int32))
def l_X6_whyNot_203 (z : St) : Int32 → Int32 → Int32 → Option (Int32) := iter (fun _ _ _ => none) (f_X6_whyNot_203 z) FU
set_option maxHeartbeats 4000000 in
set_option maxRecDepth 100000 in
theorem t_X6_whyNot_203 {RR : Int32} (X : Cx p s m c cX6_whyNot RX6 7 d) {z : St} (hP : va_P d.1 classes (wM d a z) s.heap) (hr : meth.sig.returnType = (some .int)) (hlk : meth.locks = false) {k203 : Int32 → Int32 → Int32 → Option (Int32)} (hk203 : ∀ (x1 : Int32) (x2 : Int32) (x4 : Int32), k203 x1 x2 x4 = some RR → WRd p l e { frames := 2, cells := 0, slots := 0, locals := 45 } s m args below meth c RR 7 [(0, .ref (a 0)), (1, .int x1), (2, .int x2), (4, .int x4)] 203 []) : ∀ (x1 : Int32) (x2 : Int32) (x4 : Int32), f_X6_whyNot_203 z k203 x1 x2 x4 = some RR → WRd p l e { frames := 2, cells := 0, slots := 0, locals := 45 } s m args below meth c RR 7 [(0, .ref (a 0)), (1, .int x1), (2, .int x2), (4, .int x4)] 203 [] := by
  intro x1 x2 x4 hf ls hl
  obtain ⟨hx, hb, hml, hown, hE⟩ := id X
  unfold f_X6_whyNot_203 at hf
  refine lv_iload hx hb dX6_whyNot_203 (lv_at hl 3 rfl) ?_
  refine lv_bipush (v := 14) hx hb dX6_whyNot_205 (by decide) ?_
  refine lv_icmp_ge (tgt := 296) hx hb dX6_whyNot_207 (by decide) (fun q => ?_) (fun q => ?_)
  · have hf := (if_pos q).symm.trans hf
    refine lv_aload_n hx hb dX6_whyNot_296 rfl (lv_at hl 0 rfl) ?_
    refine lv_iload_n hx hb dX6_whyNot_297 rfl (lv_at hl 2 rfl) ?_
    obtain ⟨r_1, hc, hf⟩ := bnd hf
    refine rdV X (c_X6_hoursOf l d a z x2 hc) (k_X6_116 hE rfl rfl ⟨Nat.le_of_ble_eq_true rfl, Nat.le_of_ble_eq_true rfl⟩) hP (va_recv (q := (RX6, TX6, 28)) hE.2 hP (ci := 6) (q0 := 0) rfl rfl) rfl hl.1 rfl (Nat.le_of_ble_eq_true rfl) dX6_whyNot_298 ?_
    refine lv_aload_n hx hb dX6_whyNot_301 rfl (lv_at hl 0 rfl) ?_
    refine gf_6_28 hx hb hE hown hP dX6_whyNot_302 ?_
    refine lv_iload_n hx hb dX6_whyNot_305 rfl (lv_at hl 1 rfl) ?_
    obtain ⟨hi, hf⟩ := ck_some hf
    refine ld_M_7 hx hb hE hP hi dX6_whyNot_306 ?_
    refine lv_icmp_le (tgt := 315) hx hb dX6_whyNot_307 (by decide) (fun q => ?_) (fun q => ?_)
    · have hf := (if_pos q).symm.trans hf
      refine lv_iconst (v := 0) hx hb dX6_whyNot_315 (by decide) ?_
      obtain rfl := Option.some.inj hf
      exact W.iret hx hb hr (fun t ht _ => ⟨rfl, ht⟩) (fun _ h => nomatch h) dX6_whyNot_316 hlk
    · have hf := (if_neg q).symm.trans hf
      refine lv_bipush (v := 6) hx hb dX6_whyNot_310 (by decide) ?_
      refine lv_goto (tgt := 316) hx hb dX6_whyNot_312 (by decide) ?_
      obtain rfl := Option.some.inj hf
      exact W.iret hx hb hr (fun t ht _ => ⟨rfl, ht⟩) (fun _ h => nomatch h) dX6_whyNot_316 hlk
  · have hf := (if_neg q).symm.trans hf
    refine lv_iconst (v := 0) hx hb dX6_whyNot_210 (by decide) ?_
    refine lv_istore (lv' := [(5, .int (0 : Int32)), (0, .ref (a 0)), (1, .int x1), (2, .int x2), (4, .int x4)]) hx hb dX6_whyNot_211 hl (by decide) rfl (fun ls hl => ?_)
    refine lv_iconst (v := 0) hx hb dX6_whyNot_213 (by decide) ?_
    refine lv_istore (lv' := [(6, .int (0 : Int32)), (5, .int (0 : Int32)), (0, .ref (a 0)), (1, .int x1), (2, .int x2), (4, .int x4)]) hx hb dX6_whyNot_214 hl (by decide) rfl (fun ls hl => ?_)
    exact u_X6_whyNot_216 X hP hr hlk hk203 x1 x2 x4 (0 : Int32) (0 : Int32) hf ls (lv_sub hl [2, 3, 4, 5, 1, 0] rfl)
theorem u_X6_whyNot_203 {RR : Int32} (X : Cx p s m c cX6_whyNot RX6 7 d) {z : St} (hP : va_P d.1 classes (wM d a z) s.heap) (hr : meth.sig.returnType = (some .int)) (hlk : meth.locks = false) : ∀ (x1 : Int32) (x2 : Int32) (x4 : Int32), l_X6_whyNot_203 z x1 x2 x4 = some RR → WRd p l e { frames := 2, cells := 0, slots := 0, locals := 45 } s m args below meth c RR 7 [(0, .ref (a 0)), (1, .int x1), (2, .int x2), (4, .int x4)] 203 [] := by
  unfold l_X6_whyNot_203
  generalize FU = n
  induction n with
  | zero => intro x1 x2 x4 hf; exact absurd (show (none : Option (Int32)) = some RR from hf) (by simp)
  | succ n ih => exact t_X6_whyNot_203 X hP hr hlk ih
def f_X6_whyNot_183 (z : St) (k159 : Int32 → Int32 → Int32 → Int32 → Option (Int32)) (x1 : Int32) (x2 : Int32) (x4 : Int32) (s0 : Int32) : Option (Int32) := (if s0 ≤ (z.1 4) then k159 x1 x2 s0 (x4 + (1 : Int32)) else some (4 : Int32))
set_option maxHeartbeats 4000000 in
set_option maxRecDepth 100000 in
theorem t_X6_whyNot_183 {RR : Int32} (X : Cx p s m c cX6_whyNot RX6 7 d) {z : St} (hP : va_P d.1 classes (wM d a z) s.heap) (hr : meth.sig.returnType = (some .int)) (hlk : meth.locks = false) {k159 : Int32 → Int32 → Int32 → Int32 → Option (Int32)} (hk159 : ∀ (x1 : Int32) (x2 : Int32) (x3 : Int32) (x4 : Int32), k159 x1 x2 x3 x4 = some RR → WRd p l e { frames := 2, cells := 0, slots := 0, locals := 45 } s m args below meth c RR 7 [(0, .ref (a 0)), (1, .int x1), (2, .int x2), (3, .int x3), (4, .int x4)] 159 []) : ∀ (x1 : Int32) (x2 : Int32) (x4 : Int32) (s0 : Int32), f_X6_whyNot_183 z k159 x1 x2 x4 s0 = some RR → WRd p l e { frames := 2, cells := 0, slots := 0, locals := 45 } s m args below meth c RR 7 [(0, .ref (a 0)), (1, .int x1), (2, .int x2), (4, .int x4)] 183 [.int s0] := by
  intro x1 x2 x4 s0 hf ls hl
  obtain ⟨hx, hb, hml, hown, hE⟩ := id X
  unfold f_X6_whyNot_183 at hf
  refine lv_istore_n (lv' := [(3, .int s0), (0, .ref (a 0)), (1, .int x1), (2, .int x2), (4, .int x4)]) hx hb dX6_whyNot_183 rfl hl (by decide) rfl (fun ls hl => ?_)
  refine lv_iload_n hx hb dX6_whyNot_184 rfl (lv_at hl 0 rfl) ?_
  refine lv_aload_n hx hb dX6_whyNot_185 rfl (lv_at hl 1 rfl) ?_
  refine gf_6_47 hx hb hE hown hP dX6_whyNot_186 ?_
  refine lv_icmp_le (tgt := 194) hx hb dX6_whyNot_189 (by decide) (fun q => ?_) (fun q => ?_)
  · have hf := (if_pos q).symm.trans hf
    refine lv_iinc (v := (x4 + (1 : Int32))) (lv' := [(4, .int (x4 + (1 : Int32))), (3, .int s0), (0, .ref (a 0)), (1, .int x1), (2, .int x2)]) hx hb dX6_whyNot_194 hl (k := 4) rfl rfl (by decide) rfl (fun ls hl => ?_)
    refine lv_goto (tgt := 159) hx hb dX6_whyNot_197 (by decide) ?_
    exact hk159 x1 x2 s0 (x4 + (1 : Int32)) hf ls (lv_sub hl [2, 3, 4, 1, 0] rfl)
  · have hf := (if_neg q).symm.trans hf
    refine lv_iconst (v := 4) hx hb dX6_whyNot_192 (by decide) ?_
    obtain rfl := Option.some.inj hf
    exact W.iret hx hb hr (fun t ht _ => ⟨rfl, ht⟩) (fun _ h => nomatch h) dX6_whyNot_193 hlk
def f_X6_whyNot_159 (z : St) (k159 : Int32 → Int32 → Int32 → Int32 → Option (Int32)) (x1 : Int32) (x2 : Int32) (x3 : Int32) (x4 : Int32) : Option (Int32) := (if (14 : Int32) ≤ x4 then l_X6_whyNot_203 z x1 x2 (0 : Int32) else (f_X6_onDay z x2 x4).bind (fun r_1 => (if r_1 ≤ (0 : Int32) then f_X6_whyNot_183 z k159 x1 x2 x4 (0 : Int32) else f_X6_whyNot_183 z k159 x1 x2 x4 (x3 + (1 : Int32)))))
def l_X6_whyNot_159 (z : St) : Int32 → Int32 → Int32 → Int32 → Option (Int32) := iter (fun _ _ _ _ => none) (f_X6_whyNot_159 z) FU
set_option maxHeartbeats 4000000 in
set_option maxRecDepth 100000 in
theorem t_X6_whyNot_159 {RR : Int32} (X : Cx p s m c cX6_whyNot RX6 7 d) {z : St} (hP : va_P d.1 classes (wM d a z) s.heap) (hr : meth.sig.returnType = (some .int)) (hlk : meth.locks = false) {k159 : Int32 → Int32 → Int32 → Int32 → Option (Int32)} (hk159 : ∀ (x1 : Int32) (x2 : Int32) (x3 : Int32) (x4 : Int32), k159 x1 x2 x3 x4 = some RR → WRd p l e { frames := 2, cells := 0, slots := 0, locals := 45 } s m args below meth c RR 7 [(0, .ref (a 0)), (1, .int x1), (2, .int x2), (3, .int x3), (4, .int x4)] 159 []) : ∀ (x1 : Int32) (x2 : Int32) (x3 : Int32) (x4 : Int32), f_X6_whyNot_159 z k159 x1 x2 x3 x4 = some RR → WRd p l e { frames := 2, cells := 0, slots := 0, locals := 45 } s m args below meth c RR 7 [(0, .ref (a 0)), (1, .int x1), (2, .int x2), (3, .int x3), (4, .int x4)] 159 [] := by
  intro x1 x2 x3 x4 hf ls hl
  obtain ⟨hx, hb, hml, hown, hE⟩ := id X
  unfold f_X6_whyNot_159 at hf
  refine lv_iload hx hb dX6_whyNot_159 (lv_at hl 4 rfl) ?_
  refine lv_bipush (v := 14) hx hb dX6_whyNot_161 (by decide) ?_
  refine lv_icmp_ge (tgt := 200) hx hb dX6_whyNot_163 (by decide) (fun q => ?_) (fun q => ?_)
  · have hf := (if_pos q).symm.trans hf
    refine lv_iconst (v := 0) hx hb dX6_whyNot_200 (by decide) ?_
    refine lv_istore (lv' := [(4, .int (0 : Int32)), (0, .ref (a 0)), (1, .int x1), (2, .int x2), (3, .int x3)]) hx hb dX6_whyNot_201 hl (by decide) rfl (fun ls hl => ?_)
    exact u_X6_whyNot_203 X hP hr hlk x1 x2 (0 : Int32) hf ls (lv_sub hl [1, 2, 3, 0] rfl)
  · have hf := (if_neg q).symm.trans hf
    refine lv_aload_n hx hb dX6_whyNot_166 rfl (lv_at hl 0 rfl) ?_
    refine lv_iload_n hx hb dX6_whyNot_167 rfl (lv_at hl 2 rfl) ?_
    refine lv_iload hx hb dX6_whyNot_168 (lv_at hl 4 rfl) ?_
    obtain ⟨r_1, hc, hf⟩ := bnd hf
    refine rdV X (c_X6_onDay l d a z x2 x4 hc) (k_X6_108 hE rfl rfl ⟨Nat.le_of_ble_eq_true rfl, Nat.le_of_ble_eq_true rfl⟩) hP (va_recv (q := (RX6, TX6, 28)) hE.2 hP (ci := 6) (q0 := 0) rfl rfl) rfl hl.1 rfl (Nat.le_of_ble_eq_true rfl) dX6_whyNot_170 ?_
    refine lv_if_le (tgt := 182) hx hb dX6_whyNot_173 (by decide) (fun q => ?_) (fun q => ?_)
    · have hf := (if_pos q).symm.trans hf
      refine lv_iconst (v := 0) hx hb dX6_whyNot_182 (by decide) ?_
      exact t_X6_whyNot_183 X hP hr hlk hk159 x1 x2 x4 (0 : Int32) hf ls (lv_sub hl [0, 1, 2, 4] rfl)
    · have hf := (if_neg q).symm.trans hf
      refine lv_iload_n hx hb dX6_whyNot_176 rfl (lv_at hl 3 rfl) ?_
      refine lv_iconst (v := 1) hx hb dX6_whyNot_177 (by decide) ?_
      refine lv_iadd hx hb dX6_whyNot_178 ?_
      refine lv_goto (tgt := 183) hx hb dX6_whyNot_179 (by decide) ?_
      exact t_X6_whyNot_183 X hP hr hlk hk159 x1 x2 x4 (x3 + (1 : Int32)) hf ls (lv_sub hl [0, 1, 2, 4] rfl)
theorem u_X6_whyNot_159 {RR : Int32} (X : Cx p s m c cX6_whyNot RX6 7 d) {z : St} (hP : va_P d.1 classes (wM d a z) s.heap) (hr : meth.sig.returnType = (some .int)) (hlk : meth.locks = false) : ∀ (x1 : Int32) (x2 : Int32) (x3 : Int32) (x4 : Int32), l_X6_whyNot_159 z x1 x2 x3 x4 = some RR → WRd p l e { frames := 2, cells := 0, slots := 0, locals := 45 } s m args below meth c RR 7 [(0, .ref (a 0)), (1, .int x1), (2, .int x2), (3, .int x3), (4, .int x4)] 159 [] := by
  unfold l_X6_whyNot_159
  generalize FU = n
  induction n with
  | zero => intro x1 x2 x3 x4 hf; exact absurd (show (none : Option (Int32)) = some RR from hf) (by simp)
  | succ n ih => exact t_X6_whyNot_159 X hP hr hlk ih
def f_X6_whyNot_110 (z : St) (k72 : Int32 → Int32 → Int32 → Option (Int32)) (k110 : Int32 → Int32 → Int32 → Int32 → Int32 → Option (Int32)) (x1 : Int32) (x2 : Int32) (x3 : Int32) (x4 : Int32) (x5 : Int32) : Option (Int32) := (f_X6_restOf z x3).bind (fun r_1 => (if (x4 + r_1) ≤ x5 then k72 x1 x2 (x3 + (1 : Int32)) else (if (14 : Int32) ≤ x5 then k72 x1 x2 (x3 + (1 : Int32)) else (f_X6_onDay z x2 x5).bind (fun r_2 => (if r_2 ≤ (0 : Int32) then k110 x1 x2 x3 x4 (x5 + (1 : Int32)) else some (3 : Int32))))))
def l_X6_whyNot_110 (z : St) (k72 : Int32 → Int32 → Int32 → Option (Int32)) : Int32 → Int32 → Int32 → Int32 → Int32 → Option (Int32) := iter (fun _ _ _ _ _ => none) (f_X6_whyNot_110 z k72) FU
set_option maxHeartbeats 4000000 in
set_option maxRecDepth 100000 in
theorem t_X6_whyNot_110 {RR : Int32} (X : Cx p s m c cX6_whyNot RX6 7 d) {z : St} (hP : va_P d.1 classes (wM d a z) s.heap) (hr : meth.sig.returnType = (some .int)) (hlk : meth.locks = false) {k72 : Int32 → Int32 → Int32 → Option (Int32)} {k110 : Int32 → Int32 → Int32 → Int32 → Int32 → Option (Int32)} (hk72 : ∀ (x1 : Int32) (x2 : Int32) (x3 : Int32), k72 x1 x2 x3 = some RR → WRd p l e { frames := 2, cells := 0, slots := 0, locals := 45 } s m args below meth c RR 7 [(0, .ref (a 0)), (1, .int x1), (2, .int x2), (3, .int x3)] 72 []) (hk110 : ∀ (x1 : Int32) (x2 : Int32) (x3 : Int32) (x4 : Int32) (x5 : Int32), k110 x1 x2 x3 x4 x5 = some RR → WRd p l e { frames := 2, cells := 0, slots := 0, locals := 45 } s m args below meth c RR 7 [(0, .ref (a 0)), (1, .int x1), (2, .int x2), (3, .int x3), (4, .int x4), (5, .int x5)] 110 []) : ∀ (x1 : Int32) (x2 : Int32) (x3 : Int32) (x4 : Int32) (x5 : Int32), f_X6_whyNot_110 z k72 k110 x1 x2 x3 x4 x5 = some RR → WRd p l e { frames := 2, cells := 0, slots := 0, locals := 45 } s m args below meth c RR 7 [(0, .ref (a 0)), (1, .int x1), (2, .int x2), (3, .int x3), (4, .int x4), (5, .int x5)] 110 [] := by
  intro x1 x2 x3 x4 x5 hf ls hl
  obtain ⟨hx, hb, hml, hown, hE⟩ := id X
  unfold f_X6_whyNot_110 at hf
  refine lv_iload hx hb dX6_whyNot_110 (lv_at hl 5 rfl) ?_
  refine lv_iload hx hb dX6_whyNot_112 (lv_at hl 4 rfl) ?_
  refine lv_aload_n hx hb dX6_whyNot_114 rfl (lv_at hl 0 rfl) ?_
  refine lv_iload_n hx hb dX6_whyNot_115 rfl (lv_at hl 3 rfl) ?_
  obtain ⟨r_1, hc, hf⟩ := bnd hf
  refine rdV X (c_X6_restOf l d a z x3 hc) (k_X6_112 hE rfl rfl ⟨Nat.le_of_ble_eq_true rfl, Nat.le_of_ble_eq_true rfl⟩) hP (va_recv (q := (RX6, TX6, 28)) hE.2 hP (ci := 6) (q0 := 0) rfl rfl) rfl hl.1 rfl (Nat.le_of_ble_eq_true rfl) dX6_whyNot_116 ?_
  refine lv_iadd hx hb dX6_whyNot_119 ?_
  refine lv_icmp_ge (tgt := 148) hx hb dX6_whyNot_120 (by decide) (fun q => ?_) (fun q => ?_)
  · have hf := (if_pos q).symm.trans hf
    refine lv_iinc (v := (x3 + (1 : Int32))) (lv' := [(3, .int (x3 + (1 : Int32))), (0, .ref (a 0)), (1, .int x1), (2, .int x2), (4, .int x4), (5, .int x5)]) hx hb dX6_whyNot_148 hl (k := 3) rfl rfl (by decide) rfl (fun ls hl => ?_)
    refine lv_goto (tgt := 72) hx hb dX6_whyNot_151 (by decide) ?_
    exact hk72 x1 x2 (x3 + (1 : Int32)) hf ls (lv_sub hl [1, 2, 3, 0] rfl)
  · have hf := (if_neg q).symm.trans hf
    refine lv_iload hx hb dX6_whyNot_123 (lv_at hl 5 rfl) ?_
    refine lv_bipush (v := 14) hx hb dX6_whyNot_125 (by decide) ?_
    refine lv_icmp_ge (tgt := 148) hx hb dX6_whyNot_127 (by decide) (fun q => ?_) (fun q => ?_)
    · have hf := (if_pos q).symm.trans hf
      refine lv_iinc (v := (x3 + (1 : Int32))) (lv' := [(3, .int (x3 + (1 : Int32))), (0, .ref (a 0)), (1, .int x1), (2, .int x2), (4, .int x4), (5, .int x5)]) hx hb dX6_whyNot_148 hl (k := 3) rfl rfl (by decide) rfl (fun ls hl => ?_)
      refine lv_goto (tgt := 72) hx hb dX6_whyNot_151 (by decide) ?_
      exact hk72 x1 x2 (x3 + (1 : Int32)) hf ls (lv_sub hl [1, 2, 3, 0] rfl)
    · have hf := (if_neg q).symm.trans hf
      refine lv_aload_n hx hb dX6_whyNot_130 rfl (lv_at hl 0 rfl) ?_
      refine lv_iload_n hx hb dX6_whyNot_131 rfl (lv_at hl 2 rfl) ?_
      refine lv_iload hx hb dX6_whyNot_132 (lv_at hl 5 rfl) ?_
      obtain ⟨r_2, hc, hf⟩ := bnd hf
      refine rdV X (c_X6_onDay l d a z x2 x5 hc) (k_X6_108 hE rfl rfl ⟨Nat.le_of_ble_eq_true rfl, Nat.le_of_ble_eq_true rfl⟩) hP (va_recv (q := (RX6, TX6, 28)) hE.2 hP (ci := 6) (q0 := 0) rfl rfl) rfl hl.1 rfl (Nat.le_of_ble_eq_true rfl) dX6_whyNot_134 ?_
      refine lv_if_le (tgt := 142) hx hb dX6_whyNot_137 (by decide) (fun q => ?_) (fun q => ?_)
      · have hf := (if_pos q).symm.trans hf
        refine lv_iinc (v := (x5 + (1 : Int32))) (lv' := [(5, .int (x5 + (1 : Int32))), (0, .ref (a 0)), (1, .int x1), (2, .int x2), (3, .int x3), (4, .int x4)]) hx hb dX6_whyNot_142 hl (k := 5) rfl rfl (by decide) rfl (fun ls hl => ?_)
        refine lv_goto (tgt := 110) hx hb dX6_whyNot_145 (by decide) ?_
        exact hk110 x1 x2 x3 x4 (x5 + (1 : Int32)) hf ls (lv_sub hl [1, 2, 3, 4, 5, 0] rfl)
      · have hf := (if_neg q).symm.trans hf
        refine lv_iconst (v := 3) hx hb dX6_whyNot_140 (by decide) ?_
        obtain rfl := Option.some.inj hf
        exact W.iret hx hb hr (fun t ht _ => ⟨rfl, ht⟩) (fun _ h => nomatch h) dX6_whyNot_141 hlk
theorem u_X6_whyNot_110 {RR : Int32} (X : Cx p s m c cX6_whyNot RX6 7 d) {z : St} (hP : va_P d.1 classes (wM d a z) s.heap) (hr : meth.sig.returnType = (some .int)) (hlk : meth.locks = false) {k72 : Int32 → Int32 → Int32 → Option (Int32)} (hk72 : ∀ (x1 : Int32) (x2 : Int32) (x3 : Int32), k72 x1 x2 x3 = some RR → WRd p l e { frames := 2, cells := 0, slots := 0, locals := 45 } s m args below meth c RR 7 [(0, .ref (a 0)), (1, .int x1), (2, .int x2), (3, .int x3)] 72 []) : ∀ (x1 : Int32) (x2 : Int32) (x3 : Int32) (x4 : Int32) (x5 : Int32), l_X6_whyNot_110 z k72 x1 x2 x3 x4 x5 = some RR → WRd p l e { frames := 2, cells := 0, slots := 0, locals := 45 } s m args below meth c RR 7 [(0, .ref (a 0)), (1, .int x1), (2, .int x2), (3, .int x3), (4, .int x4), (5, .int x5)] 110 [] := by
  unfold l_X6_whyNot_110
  generalize FU = n
  induction n with
  | zero => intro x1 x2 x3 x4 x5 hf; exact absurd (show (none : Option (Int32)) = some RR from hf) (by simp)
  | succ n ih => exact t_X6_whyNot_110 X hP hr hlk hk72 ih
def f_X6_whyNot_72 (z : St) (k72 : Int32 → Int32 → Int32 → Option (Int32)) (x1 : Int32) (x2 : Int32) (x3 : Int32) : Option (Int32) := (if (z.1 0) ≤ x3 then l_X6_whyNot_159 z x1 x2 (0 : Int32) (0 : Int32) else (f_X6_has z x2 x3).bind (fun r_1 => (if r_1 = (0 : Int32) then k72 x1 x2 (x3 + (1 : Int32)) else ck 9 x3 (ck 9 x3 (l_X6_whyNot_110 z k72 x1 x2 x3 ((z.2 0 x3.toNatClampNeg) + (z.2 1 x3.toNatClampNeg)) ((z.2 0 x3.toNatClampNeg) + (z.2 1 x3.toNatClampNeg)))))))
def l_X6_whyNot_72 (z : St) : Int32 → Int32 → Int32 → Option (Int32) := iter (fun _ _ _ => none) (f_X6_whyNot_72 z) FU
set_option maxHeartbeats 4000000 in
set_option maxRecDepth 100000 in
theorem t_X6_whyNot_72 {RR : Int32} (X : Cx p s m c cX6_whyNot RX6 7 d) {z : St} (hP : va_P d.1 classes (wM d a z) s.heap) (hr : meth.sig.returnType = (some .int)) (hlk : meth.locks = false) {k72 : Int32 → Int32 → Int32 → Option (Int32)} (hk72 : ∀ (x1 : Int32) (x2 : Int32) (x3 : Int32), k72 x1 x2 x3 = some RR → WRd p l e { frames := 2, cells := 0, slots := 0, locals := 45 } s m args below meth c RR 7 [(0, .ref (a 0)), (1, .int x1), (2, .int x2), (3, .int x3)] 72 []) : ∀ (x1 : Int32) (x2 : Int32) (x3 : Int32), f_X6_whyNot_72 z k72 x1 x2 x3 = some RR → WRd p l e { frames := 2, cells := 0, slots := 0, locals := 45 } s m args below meth c RR 7 [(0, .ref (a 0)), (1, .int x1), (2, .int x2), (3, .int x3)] 72 [] := by
  intro x1 x2 x3 hf ls hl
  obtain ⟨hx, hb, hml, hown, hE⟩ := id X
  unfold f_X6_whyNot_72 at hf
  refine lv_iload_n hx hb dX6_whyNot_72 rfl (lv_at hl 3 rfl) ?_
  refine lv_aload_n hx hb dX6_whyNot_73 rfl (lv_at hl 0 rfl) ?_
  refine gf_6_84 hx hb hE hown hP dX6_whyNot_74 ?_
  refine lv_icmp_ge (tgt := 154) hx hb dX6_whyNot_77 (by decide) (fun q => ?_) (fun q => ?_)
  · have hf := (if_pos q).symm.trans hf
    refine lv_iconst (v := 0) hx hb dX6_whyNot_154 (by decide) ?_
    refine lv_istore_n (lv' := [(3, .int (0 : Int32)), (0, .ref (a 0)), (1, .int x1), (2, .int x2)]) hx hb dX6_whyNot_155 rfl hl (by decide) rfl (fun ls hl => ?_)
    refine lv_iconst (v := 0) hx hb dX6_whyNot_156 (by decide) ?_
    refine lv_istore (lv' := [(4, .int (0 : Int32)), (3, .int (0 : Int32)), (0, .ref (a 0)), (1, .int x1), (2, .int x2)]) hx hb dX6_whyNot_157 hl (by decide) rfl (fun ls hl => ?_)
    exact u_X6_whyNot_159 X hP hr hlk x1 x2 (0 : Int32) (0 : Int32) hf ls (lv_sub hl [2, 3, 4, 1, 0] rfl)
  · have hf := (if_neg q).symm.trans hf
    refine lv_iload_n hx hb dX6_whyNot_80 rfl (lv_at hl 2 rfl) ?_
    refine lv_iload_n hx hb dX6_whyNot_81 rfl (lv_at hl 3 rfl) ?_
    obtain ⟨r_1, hc, hf⟩ := bnd hf
    refine rdS X (c_X6_has l d a z x2 x3 hc) (k_X6_87 hE rfl rfl ⟨Nat.le_of_ble_eq_true rfl, Nat.le_of_ble_eq_true rfl⟩) hP rfl hl.1 rfl (Nat.le_of_ble_eq_true rfl) dX6_whyNot_82 ?_
    refine lv_if_ne (tgt := 91) hx hb dX6_whyNot_85 (by decide) (fun q => ?_) (fun q => ?_)
    · have hf := (if_neg q).symm.trans hf
      refine lv_aload_n hx hb dX6_whyNot_91 rfl (lv_at hl 0 rfl) ?_
      refine gf_6_9 hx hb hE hown hP dX6_whyNot_92 ?_
      refine lv_iload_n hx hb dX6_whyNot_95 rfl (lv_at hl 3 rfl) ?_
      obtain ⟨hi, hf⟩ := ck_some hf
      refine ld_M_1 hx hb hE hP hi dX6_whyNot_96 ?_
      refine lv_aload_n hx hb dX6_whyNot_97 rfl (lv_at hl 0 rfl) ?_
      refine gf_6_13 hx hb hE hown hP dX6_whyNot_98 ?_
      refine lv_iload_n hx hb dX6_whyNot_101 rfl (lv_at hl 3 rfl) ?_
      obtain ⟨hi, hf⟩ := ck_some hf
      refine ld_M_2 hx hb hE hP hi dX6_whyNot_102 ?_
      refine lv_iadd hx hb dX6_whyNot_103 ?_
      refine lv_istore (lv' := [(4, .int ((z.2 0 x3.toNatClampNeg) + (z.2 1 x3.toNatClampNeg))), (0, .ref (a 0)), (1, .int x1), (2, .int x2), (3, .int x3)]) hx hb dX6_whyNot_104 hl (by decide) rfl (fun ls hl => ?_)
      refine lv_iload hx hb dX6_whyNot_106 (lv_at hl 0 rfl) ?_
      refine lv_istore (lv' := [(5, .int ((z.2 0 x3.toNatClampNeg) + (z.2 1 x3.toNatClampNeg))), (4, .int ((z.2 0 x3.toNatClampNeg) + (z.2 1 x3.toNatClampNeg))), (0, .ref (a 0)), (1, .int x1), (2, .int x2), (3, .int x3)]) hx hb dX6_whyNot_108 hl (by decide) rfl (fun ls hl => ?_)
      exact u_X6_whyNot_110 X hP hr hlk hk72 x1 x2 x3 ((z.2 0 x3.toNatClampNeg) + (z.2 1 x3.toNatClampNeg)) ((z.2 0 x3.toNatClampNeg) + (z.2 1 x3.toNatClampNeg)) hf ls (lv_sub hl [2, 3, 4, 5, 1, 0] rfl)
    · have hf := (if_pos q).symm.trans hf
      refine lv_goto (tgt := 148) hx hb dX6_whyNot_88 (by decide) ?_
      refine lv_iinc (v := (x3 + (1 : Int32))) (lv' := [(3, .int (x3 + (1 : Int32))), (0, .ref (a 0)), (1, .int x1), (2, .int x2)]) hx hb dX6_whyNot_148 hl (k := 3) rfl rfl (by decide) rfl (fun ls hl => ?_)
      refine lv_goto (tgt := 72) hx hb dX6_whyNot_151 (by decide) ?_
      exact hk72 x1 x2 (x3 + (1 : Int32)) hf ls (lv_sub hl [1, 2, 3, 0] rfl)
theorem u_X6_whyNot_72 {RR : Int32} (X : Cx p s m c cX6_whyNot RX6 7 d) {z : St} (hP : va_P d.1 classes (wM d a z) s.heap) (hr : meth.sig.returnType = (some .int)) (hlk : meth.locks = false) : ∀ (x1 : Int32) (x2 : Int32) (x3 : Int32), l_X6_whyNot_72 z x1 x2 x3 = some RR → WRd p l e { frames := 2, cells := 0, slots := 0, locals := 45 } s m args below meth c RR 7 [(0, .ref (a 0)), (1, .int x1), (2, .int x2), (3, .int x3)] 72 [] := by
  unfold l_X6_whyNot_72
  generalize FU = n
  induction n with
  | zero => intro x1 x2 x3 hf; exact absurd (show (none : Option (Int32)) = some RR from hf) (by simp)
  | succ n ih => exact t_X6_whyNot_72 X hP hr hlk ih
def f_X6_whyNot_46 (z : St) (k46 : Int32 → Int32 → Int32 → Option (Int32)) (x1 : Int32) (x2 : Int32) (x3 : Int32) : Option (Int32) := (if (14 : Int32) ≤ x3 then l_X6_whyNot_72 z x1 x2 (0 : Int32) else (f_X6_onDay z x2 x3).bind (fun r_1 => (if r_1 ≤ (1 : Int32) then k46 x1 x2 (x3 + (1 : Int32)) else some (2 : Int32))))
def l_X6_whyNot_46 (z : St) : Int32 → Int32 → Int32 → Option (Int32) := iter (fun _ _ _ => none) (f_X6_whyNot_46 z) FU
set_option maxHeartbeats 4000000 in
set_option maxRecDepth 100000 in
theorem t_X6_whyNot_46 {RR : Int32} (X : Cx p s m c cX6_whyNot RX6 7 d) {z : St} (hP : va_P d.1 classes (wM d a z) s.heap) (hr : meth.sig.returnType = (some .int)) (hlk : meth.locks = false) {k46 : Int32 → Int32 → Int32 → Option (Int32)} (hk46 : ∀ (x1 : Int32) (x2 : Int32) (x3 : Int32), k46 x1 x2 x3 = some RR → WRd p l e { frames := 2, cells := 0, slots := 0, locals := 45 } s m args below meth c RR 7 [(0, .ref (a 0)), (1, .int x1), (2, .int x2), (3, .int x3)] 46 []) : ∀ (x1 : Int32) (x2 : Int32) (x3 : Int32), f_X6_whyNot_46 z k46 x1 x2 x3 = some RR → WRd p l e { frames := 2, cells := 0, slots := 0, locals := 45 } s m args below meth c RR 7 [(0, .ref (a 0)), (1, .int x1), (2, .int x2), (3, .int x3)] 46 [] := by
  intro x1 x2 x3 hf ls hl
  obtain ⟨hx, hb, hml, hown, hE⟩ := id X
  unfold f_X6_whyNot_46 at hf
  refine lv_iload_n hx hb dX6_whyNot_46 rfl (lv_at hl 3 rfl) ?_
  refine lv_bipush (v := 14) hx hb dX6_whyNot_47 (by decide) ?_
  refine lv_icmp_ge (tgt := 70) hx hb dX6_whyNot_49 (by decide) (fun q => ?_) (fun q => ?_)
  · have hf := (if_pos q).symm.trans hf
    refine lv_iconst (v := 0) hx hb dX6_whyNot_70 (by decide) ?_
    refine lv_istore_n (lv' := [(3, .int (0 : Int32)), (0, .ref (a 0)), (1, .int x1), (2, .int x2)]) hx hb dX6_whyNot_71 rfl hl (by decide) rfl (fun ls hl => ?_)
    exact u_X6_whyNot_72 X hP hr hlk x1 x2 (0 : Int32) hf ls (lv_sub hl [1, 2, 3, 0] rfl)
  · have hf := (if_neg q).symm.trans hf
    refine lv_aload_n hx hb dX6_whyNot_52 rfl (lv_at hl 0 rfl) ?_
    refine lv_iload_n hx hb dX6_whyNot_53 rfl (lv_at hl 2 rfl) ?_
    refine lv_iload_n hx hb dX6_whyNot_54 rfl (lv_at hl 3 rfl) ?_
    obtain ⟨r_1, hc, hf⟩ := bnd hf
    refine rdV X (c_X6_onDay l d a z x2 x3 hc) (k_X6_108 hE rfl rfl ⟨Nat.le_of_ble_eq_true rfl, Nat.le_of_ble_eq_true rfl⟩) hP (va_recv (q := (RX6, TX6, 28)) hE.2 hP (ci := 6) (q0 := 0) rfl rfl) rfl hl.1 rfl (Nat.le_of_ble_eq_true rfl) dX6_whyNot_55 ?_
    refine lv_iconst (v := 1) hx hb dX6_whyNot_58 (by decide) ?_
    refine lv_icmp_le (tgt := 64) hx hb dX6_whyNot_59 (by decide) (fun q => ?_) (fun q => ?_)
    · have hf := (if_pos q).symm.trans hf
      refine lv_iinc (v := (x3 + (1 : Int32))) (lv' := [(3, .int (x3 + (1 : Int32))), (0, .ref (a 0)), (1, .int x1), (2, .int x2)]) hx hb dX6_whyNot_64 hl (k := 3) rfl rfl (by decide) rfl (fun ls hl => ?_)
      refine lv_goto (tgt := 46) hx hb dX6_whyNot_67 (by decide) ?_
      exact hk46 x1 x2 (x3 + (1 : Int32)) hf ls (lv_sub hl [1, 2, 3, 0] rfl)
    · have hf := (if_neg q).symm.trans hf
      refine lv_iconst (v := 2) hx hb dX6_whyNot_62 (by decide) ?_
      obtain rfl := Option.some.inj hf
      exact W.iret hx hb hr (fun t ht _ => ⟨rfl, ht⟩) (fun _ h => nomatch h) dX6_whyNot_63 hlk
theorem u_X6_whyNot_46 {RR : Int32} (X : Cx p s m c cX6_whyNot RX6 7 d) {z : St} (hP : va_P d.1 classes (wM d a z) s.heap) (hr : meth.sig.returnType = (some .int)) (hlk : meth.locks = false) : ∀ (x1 : Int32) (x2 : Int32) (x3 : Int32), l_X6_whyNot_46 z x1 x2 x3 = some RR → WRd p l e { frames := 2, cells := 0, slots := 0, locals := 45 } s m args below meth c RR 7 [(0, .ref (a 0)), (1, .int x1), (2, .int x2), (3, .int x3)] 46 [] := by
  unfold l_X6_whyNot_46
  generalize FU = n
  induction n with
  | zero => intro x1 x2 x3 hf; exact absurd (show (none : Option (Int32)) = some RR from hf) (by simp)
  | succ n ih => exact t_X6_whyNot_46 X hP hr hlk ih
def f_X6_whyNot_2 (z : St) (k2 : Int32 → Int32 → Int32 → Option (Int32)) (x1 : Int32) (x2 : Int32) (x3 : Int32) : Option (Int32) := (if (z.1 0) ≤ x3 then l_X6_whyNot_46 z x1 x2 (0 : Int32) else (f_X6_has z x2 x3).bind (fun r_1 => (if r_1 = (0 : Int32) then k2 x1 x2 (x3 + (1 : Int32)) else ck 4 x1 (ck 9 x3 ((f_X6_has z (z.2 5 x1.toNatClampNeg) (z.2 3 x3.toNatClampNeg)).bind (fun r_2 => (if r_2 = (0 : Int32) then some (1 : Int32) else k2 x1 x2 (x3 + (1 : Int32)))))))))
def l_X6_whyNot_2 (z : St) : Int32 → Int32 → Int32 → Option (Int32) := iter (fun _ _ _ => none) (f_X6_whyNot_2 z) FU
set_option maxHeartbeats 4000000 in
set_option maxRecDepth 100000 in
theorem t_X6_whyNot_2 {RR : Int32} (X : Cx p s m c cX6_whyNot RX6 7 d) {z : St} (hP : va_P d.1 classes (wM d a z) s.heap) (hr : meth.sig.returnType = (some .int)) (hlk : meth.locks = false) {k2 : Int32 → Int32 → Int32 → Option (Int32)} (hk2 : ∀ (x1 : Int32) (x2 : Int32) (x3 : Int32), k2 x1 x2 x3 = some RR → WRd p l e { frames := 2, cells := 0, slots := 0, locals := 45 } s m args below meth c RR 7 [(0, .ref (a 0)), (1, .int x1), (2, .int x2), (3, .int x3)] 2 []) : ∀ (x1 : Int32) (x2 : Int32) (x3 : Int32), f_X6_whyNot_2 z k2 x1 x2 x3 = some RR → WRd p l e { frames := 2, cells := 0, slots := 0, locals := 45 } s m args below meth c RR 7 [(0, .ref (a 0)), (1, .int x1), (2, .int x2), (3, .int x3)] 2 [] := by
  intro x1 x2 x3 hf ls hl
  obtain ⟨hx, hb, hml, hown, hE⟩ := id X
  unfold f_X6_whyNot_2 at hf
  refine lv_iload_n hx hb dX6_whyNot_2 rfl (lv_at hl 3 rfl) ?_
  refine lv_aload_n hx hb dX6_whyNot_3 rfl (lv_at hl 0 rfl) ?_
  refine gf_6_84 hx hb hE hown hP dX6_whyNot_4 ?_
  refine lv_icmp_ge (tgt := 44) hx hb dX6_whyNot_7 (by decide) (fun q => ?_) (fun q => ?_)
  · have hf := (if_pos q).symm.trans hf
    refine lv_iconst (v := 0) hx hb dX6_whyNot_44 (by decide) ?_
    refine lv_istore_n (lv' := [(3, .int (0 : Int32)), (0, .ref (a 0)), (1, .int x1), (2, .int x2)]) hx hb dX6_whyNot_45 rfl hl (by decide) rfl (fun ls hl => ?_)
    exact u_X6_whyNot_46 X hP hr hlk x1 x2 (0 : Int32) hf ls (lv_sub hl [1, 2, 3, 0] rfl)
  · have hf := (if_neg q).symm.trans hf
    refine lv_iload_n hx hb dX6_whyNot_10 rfl (lv_at hl 2 rfl) ?_
    refine lv_iload_n hx hb dX6_whyNot_11 rfl (lv_at hl 3 rfl) ?_
    obtain ⟨r_1, hc, hf⟩ := bnd hf
    refine rdS X (c_X6_has l d a z x2 x3 hc) (k_X6_87 hE rfl rfl ⟨Nat.le_of_ble_eq_true rfl, Nat.le_of_ble_eq_true rfl⟩) hP rfl hl.1 rfl (Nat.le_of_ble_eq_true rfl) dX6_whyNot_12 ?_
    refine lv_if_eq (tgt := 38) hx hb dX6_whyNot_15 (by decide) (fun q => ?_) (fun q => ?_)
    · have hf := (if_pos q).symm.trans hf
      refine lv_iinc (v := (x3 + (1 : Int32))) (lv' := [(3, .int (x3 + (1 : Int32))), (0, .ref (a 0)), (1, .int x1), (2, .int x2)]) hx hb dX6_whyNot_38 hl (k := 3) rfl rfl (by decide) rfl (fun ls hl => ?_)
      refine lv_goto (tgt := 2) hx hb dX6_whyNot_41 (by decide) ?_
      exact hk2 x1 x2 (x3 + (1 : Int32)) hf ls (lv_sub hl [1, 2, 3, 0] rfl)
    · have hf := (if_neg q).symm.trans hf
      refine lv_aload_n hx hb dX6_whyNot_18 rfl (lv_at hl 0 rfl) ?_
      refine gf_6_25 hx hb hE hown hP dX6_whyNot_19 ?_
      refine lv_iload_n hx hb dX6_whyNot_22 rfl (lv_at hl 1 rfl) ?_
      obtain ⟨hi, hf⟩ := ck_some hf
      refine ld_M_6 hx hb hE hP hi dX6_whyNot_23 ?_
      refine lv_aload_n hx hb dX6_whyNot_24 rfl (lv_at hl 0 rfl) ?_
      refine gf_6_19 hx hb hE hown hP dX6_whyNot_25 ?_
      refine lv_iload_n hx hb dX6_whyNot_28 rfl (lv_at hl 3 rfl) ?_
      obtain ⟨hi, hf⟩ := ck_some hf
      refine ld_M_4 hx hb hE hP hi dX6_whyNot_29 ?_
      obtain ⟨r_2, hc, hf⟩ := bnd hf
      refine rdS X (c_X6_has l d a z (z.2 5 x1.toNatClampNeg) (z.2 3 x3.toNatClampNeg) hc) (k_X6_87 hE rfl rfl ⟨Nat.le_of_ble_eq_true rfl, Nat.le_of_ble_eq_true rfl⟩) hP rfl hl.1 rfl (Nat.le_of_ble_eq_true rfl) dX6_whyNot_30 ?_
      refine lv_if_ne (tgt := 38) hx hb dX6_whyNot_33 (by decide) (fun q => ?_) (fun q => ?_)
      · have hf := (if_neg q).symm.trans hf
        refine lv_iinc (v := (x3 + (1 : Int32))) (lv' := [(3, .int (x3 + (1 : Int32))), (0, .ref (a 0)), (1, .int x1), (2, .int x2)]) hx hb dX6_whyNot_38 hl (k := 3) rfl rfl (by decide) rfl (fun ls hl => ?_)
        refine lv_goto (tgt := 2) hx hb dX6_whyNot_41 (by decide) ?_
        exact hk2 x1 x2 (x3 + (1 : Int32)) hf ls (lv_sub hl [1, 2, 3, 0] rfl)
      · have hf := (if_pos q).symm.trans hf
        refine lv_iconst (v := 1) hx hb dX6_whyNot_36 (by decide) ?_
        obtain rfl := Option.some.inj hf
        exact W.iret hx hb hr (fun t ht _ => ⟨rfl, ht⟩) (fun _ h => nomatch h) dX6_whyNot_37 hlk
theorem u_X6_whyNot_2 {RR : Int32} (X : Cx p s m c cX6_whyNot RX6 7 d) {z : St} (hP : va_P d.1 classes (wM d a z) s.heap) (hr : meth.sig.returnType = (some .int)) (hlk : meth.locks = false) : ∀ (x1 : Int32) (x2 : Int32) (x3 : Int32), l_X6_whyNot_2 z x1 x2 x3 = some RR → WRd p l e { frames := 2, cells := 0, slots := 0, locals := 45 } s m args below meth c RR 7 [(0, .ref (a 0)), (1, .int x1), (2, .int x2), (3, .int x3)] 2 [] := by
  unfold l_X6_whyNot_2
  generalize FU = n
  induction n with
  | zero => intro x1 x2 x3 hf; exact absurd (show (none : Option (Int32)) = some RR from hf) (by simp)
  | succ n ih => exact t_X6_whyNot_2 X hP hr hlk ih
def f_X6_whyNot (z : St) (x1 : Int32) (x2 : Int32) : Option (Int32) := l_X6_whyNot_2 z x1 x2 (0 : Int32)
set_option maxHeartbeats 4000000 in
set_option maxRecDepth 100000 in
theorem t_X6_whyNot {RR : Int32} (X : Cx p s m c cX6_whyNot RX6 7 d) {z : St} (hP : va_P d.1 classes (wM d a z) s.heap) (hr : meth.sig.returnType = (some .int)) (hlk : meth.locks = false) : ∀ (x1 : Int32) (x2 : Int32), f_X6_whyNot z x1 x2 = some RR → WRd p l e { frames := 2, cells := 0, slots := 0, locals := 45 } s m args below meth c RR 7 [(0, .ref (a 0)), (1, .int x1), (2, .int x2)] 0 [] := by
  intro x1 x2 hf ls hl
  obtain ⟨hx, hb, hml, hown, hE⟩ := id X
  unfold f_X6_whyNot at hf
  refine lv_iconst (v := 0) hx hb dX6_whyNot_0 (by decide) ?_
  refine lv_istore_n (lv' := [(3, .int (0 : Int32)), (0, .ref (a 0)), (1, .int x1), (2, .int x2)]) hx hb dX6_whyNot_1 rfl hl (by decide) rfl (fun ls hl => ?_)
  exact u_X6_whyNot_2 X hP hr hlk x1 x2 (0 : Int32) hf ls (lv_sub hl [1, 2, 3, 0] rfl)
set_option maxHeartbeats 4000000 in
set_option maxRecDepth 100000 in
theorem c_X6_whyNot (l : Launch) (d : G3) (a : Nat → Nat) (z : St) (x1 : Int32) (x2 : Int32) {RR : Int32} (hf : f_X6_whyNot z x1 x2 = some RR) : Met l yX6_whyNot [Cond.code yX6_whyNot cX6_whyNot 7 (some .int)] { frames := 2, cells := 0, slots := 0, locals := 45 } (rpre wM d a z [.ref (a 0), .int x1, .int x2]) (QcRead RR) 0 0 (fun _ => False) := by
  refine Met.ofW (cc := cX6_whyNot) (maxL := 7) (ret := (some .int)) (by decide) rfl ?_
  intro p e s m args below meth c s₁ B hml hv
  obtain ⟨rfl, hE, hP⟩ := hv
  have X : Cx p s m c cX6_whyNot RX6 7 d := ⟨B.exec, B.bytes, hml, findClass_of_methodNamed B.named, hE⟩
  have hl := lv_entry ([.ref (a 0), .int x1, .int x2]) (n := 7) (Nat.le_of_ble_eq_true rfl)
  rw [lg_entry_eq]
  generalize (lg_sl ([.ref (a 0), .int x1, .int x2]) ++ List.replicate (7 - (lg_sl ([.ref (a 0), .int x1, .int x2])).length) Slot.unset).toArray = ls at hl ⊢
  have hl : lv_has ls 7 [(0, .ref (a 0)), (1, .int x1), (2, .int x2)] := hl
  exact t_X6_whyNot X hP B.returns B.notSynchronized x1 x2 hf ls hl
end GEN
