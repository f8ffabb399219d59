section GEN
variable {p : Program} {l : Launch} {e : Env} {s : State} {m : MethodId} {args : Array Value} {below : List Frame} {meth : Method} {c : Code} {d : G3} {a : Nat → Nat}
def f_X6_isMet_97 (z : St) (k97 : Int32 → Int32 → Option (Int32)) (x3 : Int32) (x5 : Int32) : Option (Int32) := (if (z.1 0) ≤ x5 then some (1 : Int32) else (f_X6_has z x3 x5).bind (fun r_1 => (if r_1 = (0 : Int32) then k97 x3 (x5 + (1 : Int32)) else ck 9 x5 ((if (z.2 4 x5.toNatClampNeg) = (1 : Int32) then some (0 : Int32) else k97 x3 (x5 + (1 : Int32)))))))
def l_X6_isMet_97 (z : St) : Int32 → Int32 → Option (Int32) := iter (fun _ _ => none) (f_X6_isMet_97 z) FU
set_option maxHeartbeats 4000000 in
set_option maxRecDepth 100000 in
theorem t_X6_isMet_97 {RR : Int32} (X : Cx p s m c cX6_isMet RX6 6 d) {z : St} (hP : va_P d.1 classes (wM d a z) s.heap) (hr : meth.sig.returnType = (some .boolean)) (hlk : meth.locks = false) {k97 : Int32 → Int32 → Option (Int32)} (hk97 : ∀ (x3 : Int32) (x5 : Int32), k97 x3 x5 = some RR → WRd p l e { frames := 2, cells := 0, slots := 0, locals := 45 } s m args below meth c RR 6 [(0, .ref (a 0)), (3, .int x3), (5, .int x5)] 97 []) : ∀ (x3 : Int32) (x5 : Int32), f_X6_isMet_97 z k97 x3 x5 = some RR → WRd p l e { frames := 2, cells := 0, slots := 0, locals := 45 } s m args below meth c RR 6 [(0, .ref (a 0)), (3, .int x3), (5, .int x5)] 97 [] := by
  intro x3 x5 hf ls hl
  obtain ⟨hx, hb, hml, hown, hE⟩ := id X
  unfold f_X6_isMet_97 at hf
  refine lv_iload hx hb dX6_isMet_97 (lv_at hl 2 rfl) ?_
  refine lv_aload_n hx hb dX6_isMet_99 rfl (lv_at hl 0 rfl) ?_
  refine gf_6_84 hx hb hE hown hP dX6_isMet_100 ?_
  refine lv_icmp_ge (tgt := 134) hx hb dX6_isMet_103 (by decide) (fun q => ?_) (fun q => ?_)
  · have hf := (if_pos q).symm.trans hf
    refine lv_iconst (v := 1) hx hb dX6_isMet_134 (by decide) ?_
    obtain rfl := Option.some.inj hf
    exact W.zret hx hb hr rfl (fun t ht _ => ⟨rfl, ht⟩) (fun _ h => nomatch h) dX6_isMet_135 hlk
  · have hf := (if_neg q).symm.trans hf
    refine lv_iload_n hx hb dX6_isMet_106 rfl (lv_at hl 1 rfl) ?_
    refine lv_iload hx hb dX6_isMet_107 (lv_at hl 2 rfl) ?_
    obtain ⟨r_1, hc, hf⟩ := bnd hf
    refine rdS X (c_X6_has l d a z x3 x5 hc) (k_X6_87 hE rfl rfl ⟨Nat.le_of_ble_eq_true rfl, Nat.le_of_ble_eq_true rfl⟩) hP rfl hl.1 rfl (Nat.le_of_ble_eq_true rfl) dX6_isMet_109 ?_
    refine lv_if_eq (tgt := 128) hx hb dX6_isMet_112 (by decide) (fun q => ?_) (fun q => ?_)
    · have hf := (if_pos q).symm.trans hf
      refine lv_iinc (v := (x5 + (1 : Int32))) (lv' := [(5, .int (x5 + (1 : Int32))), (0, .ref (a 0)), (3, .int x3)]) hx hb dX6_isMet_128 hl (k := 2) rfl rfl (by decide) rfl (fun ls hl => ?_)
      refine lv_goto (tgt := 97) hx hb dX6_isMet_131 (by decide) ?_
      exact hk97 x3 (x5 + (1 : Int32)) hf ls (lv_sub hl [1, 2, 0] rfl)
    · have hf := (if_neg q).symm.trans hf
      refine lv_aload_n hx hb dX6_isMet_115 rfl (lv_at hl 0 rfl) ?_
      refine gf_6_22 hx hb hE hown hP dX6_isMet_116 ?_
      refine lv_iload hx hb dX6_isMet_119 (lv_at hl 2 rfl) ?_
      obtain ⟨hi, hf⟩ := ck_some hf
      refine ld_M_5 hx hb hE hP hi dX6_isMet_121 ?_
      refine lv_iconst (v := 1) hx hb dX6_isMet_122 (by decide) ?_
      refine lv_icmp_ne (tgt := 128) hx hb dX6_isMet_123 (by decide) (fun q => ?_) (fun q => ?_)
      · have hf := (if_neg q).symm.trans hf
        refine lv_iinc (v := (x5 + (1 : Int32))) (lv' := [(5, .int (x5 + (1 : Int32))), (0, .ref (a 0)), (3, .int x3)]) hx hb dX6_isMet_128 hl (k := 2) rfl rfl (by decide) rfl (fun ls hl => ?_)
        refine lv_goto (tgt := 97) hx hb dX6_isMet_131 (by decide) ?_
        exact hk97 x3 (x5 + (1 : Int32)) hf ls (lv_sub hl [1, 2, 0] rfl)
      · have hf := (if_pos q).symm.trans hf
        refine lv_iconst (v := 0) hx hb dX6_isMet_126 (by decide) ?_
        obtain rfl := Option.some.inj hf
        exact W.zret hx hb hr rfl (fun t ht _ => ⟨rfl, ht⟩) (fun _ h => nomatch h) dX6_isMet_127 hlk
theorem u_X6_isMet_97 {RR : Int32} (X : Cx p s m c cX6_isMet RX6 6 d) {z : St} (hP : va_P d.1 classes (wM d a z) s.heap) (hr : meth.sig.returnType = (some .boolean)) (hlk : meth.locks = false) : ∀ (x3 : Int32) (x5 : Int32), l_X6_isMet_97 z x3 x5 = some RR → WRd p l e { frames := 2, cells := 0, slots := 0, locals := 45 } s m args below meth c RR 6 [(0, .ref (a 0)), (3, .int x3), (5, .int x5)] 97 [] := by
  unfold l_X6_isMet_97
  generalize FU = n
  induction n with
  | zero => intro x3 x5 hf; exact absurd (show (none : Option (Int32)) = some RR from hf) (by simp)
  | succ n ih => exact t_X6_isMet_97 X hP hr hlk ih
def f_X6_isMet (z : St) (x1 : Int32) (x2 : Int32) (x3 : Int32) : Option (Int32) := ck 20 (((5 : Int32) * x1) + x2) (ck 20 (((5 : Int32) * x1) + x2) ((if (z.2 8 (((5 : Int32) * x1) + x2).toNatClampNeg) = 0 then (f_X6_has z x3 (z.2 9 (((5 : Int32) * x1) + x2).toNatClampNeg)).bind (fun r_5 => bz r_5 (some r_5)) else (if (z.2 8 (((5 : Int32) * x1) + x2).toNatClampNeg) = 1 then (f_X6_has z x3 (z.2 9 (((5 : Int32) * x1) + x2).toNatClampNeg)).bind (fun r_4 => (if r_4 = (0 : Int32) then some (1 : Int32) else some (0 : Int32))) else (if (z.2 8 (((5 : Int32) * x1) + x2).toNatClampNeg) = 2 then (f_X6_onDay z x3 (z.2 9 (((5 : Int32) * x1) + x2).toNatClampNeg)).bind (fun r_3 => (if r_3 = (0 : Int32) then some (1 : Int32) else some (0 : Int32))) else (if (z.2 8 (((5 : Int32) * x1) + x2).toNatClampNeg) = 3 then l_X6_isMet_97 z x3 (0 : Int32) else (if (z.2 8 (((5 : Int32) * x1) + x2).toNatClampNeg) = 4 then (f_X6_hoursOf z x3).bind (fun r_2 => (if (z.2 9 (((5 : Int32) * x1) + x2).toNatClampNeg) < r_2 then some (0 : Int32) else some (1 : Int32))) else (f_X6_hoursOf z x3).bind (fun r_1 => (if r_1 < (z.2 9 (((5 : Int32) * x1) + x2).toNatClampNeg) then some (0 : Int32) else some (1 : Int32))))))))))
set_option maxHeartbeats 4000000 in
set_option maxRecDepth 100000 in
theorem t_X6_isMet {RR : Int32} (X : Cx p s m c cX6_isMet RX6 6 d) {z : St} (hP : va_P d.1 classes (wM d a z) s.heap) (hr : meth.sig.returnType = (some .boolean)) (hlk : meth.locks = false) : ∀ (x1 : Int32) (x2 : Int32) (x3 : Int32), f_X6_isMet z x1 x2 x3 = some RR → WRd p l e { frames := 2, cells := 0, slots := 0, locals := 45 } s m args below meth c RR 6 [(0, .ref (a 0)), (1, .int x1), (2, .int x2), (3, .int x3)] 0 [] := by
  intro x1 x2 x3 hf ls hl
  obtain ⟨hx, hb, hml, hown, hE⟩ := id X
  unfold f_X6_isMet at hf
  refine lv_aload_n hx hb dX6_isMet_0 rfl (lv_at hl 0 rfl) ?_
  refine gf_6_37 hx hb hE hown hP dX6_isMet_1 ?_
  refine lv_iconst (v := 5) hx hb dX6_isMet_4 (by decide) ?_
  refine lv_iload_n hx hb dX6_isMet_5 rfl (lv_at hl 1 rfl) ?_
  refine lv_imul hx hb dX6_isMet_6 ?_
  refine lv_iload_n hx hb dX6_isMet_7 rfl (lv_at hl 2 rfl) ?_
  refine lv_iadd hx hb dX6_isMet_8 ?_
  obtain ⟨hi, hf⟩ := ck_some hf
  refine ld_M_10 hx hb hE hP hi dX6_isMet_9 ?_
  refine lv_istore (lv' := [(4, .int (z.2 9 (((5 : Int32) * x1) + x2).toNatClampNeg)), (0, .ref (a 0)), (1, .int x1), (2, .int x2), (3, .int x3)]) hx hb dX6_isMet_10 hl (by decide) rfl (fun ls hl => ?_)
  refine lv_aload_n hx hb dX6_isMet_12 rfl (lv_at hl 1 rfl) ?_
  refine gf_6_34 hx hb hE hown hP dX6_isMet_13 ?_
  refine lv_iconst (v := 5) hx hb dX6_isMet_16 (by decide) ?_
  refine lv_iload_n hx hb dX6_isMet_17 rfl (lv_at hl 2 rfl) ?_
  refine lv_imul hx hb dX6_isMet_18 ?_
  refine lv_iload_n hx hb dX6_isMet_19 rfl (lv_at hl 3 rfl) ?_
  refine lv_iadd hx hb dX6_isMet_20 ?_
  obtain ⟨hi, hf⟩ := ck_some hf
  refine ld_M_9 hx hb hE hP hi dX6_isMet_21 ?_
  by_cases q0 : (z.2 8 (((5 : Int32) * x1) + x2).toNatClampNeg) = 0
  · have hf := (if_pos q0).symm.trans hf
    refine lv_tableIn (tgt := 56) hx hb dX6_isMet_22 (by rw [q0]; decide) (by rw [q0]; decide) (by rw [q0]; rfl) (by decide) ?_
    refine lv_iload_n hx hb dX6_isMet_56 rfl (lv_at hl 4 rfl) ?_
    refine lv_iload hx hb dX6_isMet_57 (lv_at hl 0 rfl) ?_
    obtain ⟨r_5, hc, hf⟩ := bnd hf
    refine rdS X (c_X6_has l d a z x3 (z.2 9 (((5 : Int32) * x1) + x2).toNatClampNeg) hc) (k_X6_87 hE rfl rfl ⟨Nat.le_of_ble_eq_true rfl, Nat.le_of_ble_eq_true rfl⟩) hP rfl hl.1 rfl (Nat.le_of_ble_eq_true rfl) dX6_isMet_59 ?_
    obtain ⟨hn, hf⟩ := bz_some hf
    obtain rfl := Option.some.inj hf
    exact W.zret hx hb hr hn (fun t ht _ => ⟨rfl, ht⟩) (fun _ h => nomatch h) dX6_isMet_62 hlk
  · have hf := (if_neg q0).symm.trans hf
    by_cases q1 : (z.2 8 (((5 : Int32) * x1) + x2).toNatClampNeg) = 1
    · have hf := (if_pos q1).symm.trans hf
      refine lv_tableIn (tgt := 63) hx hb dX6_isMet_22 (by rw [q1]; decide) (by rw [q1]; decide) (by rw [q1]; rfl) (by decide) ?_
      refine lv_iload_n hx hb dX6_isMet_63 rfl (lv_at hl 4 rfl) ?_
      refine lv_iload hx hb dX6_isMet_64 (lv_at hl 0 rfl) ?_
      obtain ⟨r_4, hc, hf⟩ := bnd hf
      refine rdS X (c_X6_has l d a z x3 (z.2 9 (((5 : Int32) * x1) + x2).toNatClampNeg) hc) (k_X6_87 hE rfl rfl ⟨Nat.le_of_ble_eq_true rfl, Nat.le_of_ble_eq_true rfl⟩) hP rfl hl.1 rfl (Nat.le_of_ble_eq_true rfl) dX6_isMet_66 ?_
      refine lv_if_ne (tgt := 76) hx hb dX6_isMet_69 (by decide) (fun q => ?_) (fun q => ?_)
      · have hf := (if_neg q).symm.trans hf
        refine lv_iconst (v := 0) hx hb dX6_isMet_76 (by decide) ?_
        obtain rfl := Option.some.inj hf
        exact W.zret hx hb hr rfl (fun t ht _ => ⟨rfl, ht⟩) (fun _ h => nomatch h) dX6_isMet_77 hlk
      · have hf := (if_pos q).symm.trans hf
        refine lv_iconst (v := 1) hx hb dX6_isMet_72 (by decide) ?_
        refine lv_goto (tgt := 77) hx hb dX6_isMet_73 (by decide) ?_
        obtain rfl := Option.some.inj hf
        exact W.zret hx hb hr rfl (fun t ht _ => ⟨rfl, ht⟩) (fun _ h => nomatch h) dX6_isMet_77 hlk
    · have hf := (if_neg q1).symm.trans hf
      by_cases q2 : (z.2 8 (((5 : Int32) * x1) + x2).toNatClampNeg) = 2
      · have hf := (if_pos q2).symm.trans hf
        refine lv_tableIn (tgt := 78) hx hb dX6_isMet_22 (by rw [q2]; decide) (by rw [q2]; decide) (by rw [q2]; rfl) (by decide) ?_
        refine lv_aload_n hx hb dX6_isMet_78 rfl (lv_at hl 1 rfl) ?_
        refine lv_iload_n hx hb dX6_isMet_79 rfl (lv_at hl 4 rfl) ?_
        refine lv_iload hx hb dX6_isMet_80 (lv_at hl 0 rfl) ?_
        obtain ⟨r_3, hc, hf⟩ := bnd hf
        refine rdV X (c_X6_onDay l d a z x3 (z.2 9 (((5 : Int32) * x1) + x2).toNatClampNeg) hc) (k_X6_108 hE rfl rfl ⟨Nat.le_of_ble_eq_true rfl, Nat.le_of_ble_eq_true rfl⟩) hP (va_recv (q := (RX6, TX6, 28)) hE.2 hP (ci := 6) (q0 := 0) rfl rfl) rfl hl.1 rfl (Nat.le_of_ble_eq_true rfl) dX6_isMet_82 ?_
        refine lv_if_ne (tgt := 92) hx hb dX6_isMet_85 (by decide) (fun q => ?_) (fun q => ?_)
        · have hf := (if_neg q).symm.trans hf
          refine lv_iconst (v := 0) hx hb dX6_isMet_92 (by decide) ?_
          obtain rfl := Option.some.inj hf
          exact W.zret hx hb hr rfl (fun t ht _ => ⟨rfl, ht⟩) (fun _ h => nomatch h) dX6_isMet_93 hlk
        · have hf := (if_pos q).symm.trans hf
          refine lv_iconst (v := 1) hx hb dX6_isMet_88 (by decide) ?_
          refine lv_goto (tgt := 93) hx hb dX6_isMet_89 (by decide) ?_
          obtain rfl := Option.some.inj hf
          exact W.zret hx hb hr rfl (fun t ht _ => ⟨rfl, ht⟩) (fun _ h => nomatch h) dX6_isMet_93 hlk
      · have hf := (if_neg q2).symm.trans hf
        by_cases q3 : (z.2 8 (((5 : Int32) * x1) + x2).toNatClampNeg) = 3
        · have hf := (if_pos q3).symm.trans hf
          refine lv_tableIn (tgt := 94) hx hb dX6_isMet_22 (by rw [q3]; decide) (by rw [q3]; decide) (by rw [q3]; rfl) (by decide) ?_
          refine lv_iconst (v := 0) hx hb dX6_isMet_94 (by decide) ?_
          refine lv_istore (lv' := [(5, .int (0 : Int32)), (4, .int (z.2 9 (((5 : Int32) * x1) + x2).toNatClampNeg)), (0, .ref (a 0)), (1, .int x1), (2, .int x2), (3, .int x3)]) hx hb dX6_isMet_95 hl (by decide) rfl (fun ls hl => ?_)
          exact u_X6_isMet_97 X hP hr hlk x3 (0 : Int32) hf ls (lv_sub hl [2, 5, 0] rfl)
        · have hf := (if_neg q3).symm.trans hf
          by_cases q4 : (z.2 8 (((5 : Int32) * x1) + x2).toNatClampNeg) = 4
          · have hf := (if_pos q4).symm.trans hf
            refine lv_tableIn (tgt := 136) hx hb dX6_isMet_22 (by rw [q4]; decide) (by rw [q4]; decide) (by rw [q4]; rfl) (by decide) ?_
            refine lv_aload_n hx hb dX6_isMet_136 rfl (lv_at hl 1 rfl) ?_
            refine lv_iload_n hx hb dX6_isMet_137 rfl (lv_at hl 4 rfl) ?_
            obtain ⟨r_2, hc, hf⟩ := bnd hf
            refine rdV X (c_X6_hoursOf l d a z x3 hc) (k_X6_116 hE rfl rfl ⟨Nat.le_of_ble_eq_true rfl, Nat.le_of_ble_eq_true rfl⟩) hP (va_recv (q := (RX6, TX6, 28)) hE.2 hP (ci := 6) (q0 := 0) rfl rfl) rfl hl.1 rfl (Nat.le_of_ble_eq_true rfl) dX6_isMet_138 ?_
            refine lv_iload hx hb dX6_isMet_141 (lv_at hl 0 rfl) ?_
            refine lv_icmp_gt (tgt := 150) hx hb dX6_isMet_143 (by decide) (fun q => ?_) (fun q => ?_)
            · have hf := (if_pos q).symm.trans hf
              refine lv_iconst (v := 0) hx hb dX6_isMet_150 (by decide) ?_
              obtain rfl := Option.some.inj hf
              exact W.zret hx hb hr rfl (fun t ht _ => ⟨rfl, ht⟩) (fun _ h => nomatch h) dX6_isMet_151 hlk
            · have hf := (if_neg q).symm.trans hf
              refine lv_iconst (v := 1) hx hb dX6_isMet_146 (by decide) ?_
              refine lv_goto (tgt := 151) hx hb dX6_isMet_147 (by decide) ?_
              obtain rfl := Option.some.inj hf
              exact W.zret hx hb hr rfl (fun t ht _ => ⟨rfl, ht⟩) (fun _ h => nomatch h) dX6_isMet_151 hlk
          · have hf := (if_neg q4).symm.trans hf
            refine lv_tableOut (tgt := 152) hx hb dX6_isMet_22 (sw4 q0 q1 q2 q3 q4) (by decide) ?_
            refine lv_aload_n hx hb dX6_isMet_152 rfl (lv_at hl 1 rfl) ?_
            refine lv_iload_n hx hb dX6_isMet_153 rfl (lv_at hl 4 rfl) ?_
            obtain ⟨r_1, hc, hf⟩ := bnd hf
            refine rdV X (c_X6_hoursOf l d a z x3 hc) (k_X6_116 hE rfl rfl ⟨Nat.le_of_ble_eq_true rfl, Nat.le_of_ble_eq_true rfl⟩) hP (va_recv (q := (RX6, TX6, 28)) hE.2 hP (ci := 6) (q0 := 0) rfl rfl) rfl hl.1 rfl (Nat.le_of_ble_eq_true rfl) dX6_isMet_154 ?_
            refine lv_iload hx hb dX6_isMet_157 (lv_at hl 0 rfl) ?_
            refine lv_icmp_lt (tgt := 166) hx hb dX6_isMet_159 (by decide) (fun q => ?_) (fun q => ?_)
            · have hf := (if_pos q).symm.trans hf
              refine lv_iconst (v := 0) hx hb dX6_isMet_166 (by decide) ?_
              obtain rfl := Option.some.inj hf
              exact W.zret hx hb hr rfl (fun t ht _ => ⟨rfl, ht⟩) (fun _ h => nomatch h) dX6_isMet_167 hlk
            · have hf := (if_neg q).symm.trans hf
              refine lv_iconst (v := 1) hx hb dX6_isMet_162 (by decide) ?_
              refine lv_goto (tgt := 167) hx hb dX6_isMet_163 (by decide) ?_
              obtain rfl := Option.some.inj hf
              exact W.zret hx hb hr rfl (fun t ht _ => ⟨rfl, ht⟩) (fun _ h => nomatch h) dX6_isMet_167 hlk
set_option maxHeartbeats 4000000 in
set_option maxRecDepth 100000 in
theorem c_X6_isMet (l : Launch) (d : G3) (a : Nat → Nat) (z : St) (x1 : Int32) (x2 : Int32) (x3 : Int32) {RR : Int32} (hf : f_X6_isMet z x1 x2 x3 = some RR) : Met l yX6_isMet [Cond.code yX6_isMet cX6_isMet 6 (some .boolean)] { frames := 2, cells := 0, slots := 0, locals := 45 } (rpre wM d a z [.ref (a 0), .int x1, .int x2, .int x3]) (QcRead RR) 0 0 (fun _ => False) := by
  refine Met.ofW (cc := cX6_isMet) (maxL := 6) (ret := (some .boolean)) (by decide) rfl ?_
  intro p e s m args below meth c s₁ B hml hv
  obtain ⟨rfl, hE, hP⟩ := hv
  have X : Cx p s m c cX6_isMet RX6 6 d := ⟨B.exec, B.bytes, hml, findClass_of_methodNamed B.named, hE⟩
  have hl := lv_entry ([.ref (a 0), .int x1, .int x2, .int x3]) (n := 6) (Nat.le_of_ble_eq_true rfl)
  rw [lg_entry_eq]
  generalize (lg_sl ([.ref (a 0), .int x1, .int x2, .int x3]) ++ List.replicate (6 - (lg_sl ([.ref (a 0), .int x1, .int x2, .int x3])).length) Slot.unset).toArray = ls at hl ⊢
  have hl : lv_has ls 6 [(0, .ref (a 0)), (1, .int x1), (2, .int x2), (3, .int x3)] := hl
  exact t_X6_isMet X hP B.returns B.notSynchronized x1 x2 x3 hf ls hl
def f_X6_compares_61 (z : St) (k61 : Int32 → Int32 → Int32 → Option (Int32)) (x2 : Int32) (x3 : Int32) (x4 : Int32) : Option (Int32) := (if (z.1 0) ≤ x4 then some (0 : Int32) else (f_X6_has z x2 x4).bind (fun r_1 => (f_X6_has z x3 x4).bind (fun r_2 => (if r_1 = r_2 then k61 x2 x3 (x4 + (1 : Int32)) else (f_X6_has z x2 x4).bind (fun r_3 => (if r_3 = (0 : Int32) then some (0 : Int32) else some (1 : Int32)))))))
def l_X6_compares_61 (z : St) : Int32 → Int32 → Int32 → Option (Int32) := iter (fun _ _ _ => none) (f_X6_compares_61 z) FU
set_option maxHeartbeats 4000000 in
set_option maxRecDepth 100000 in
theorem t_X6_compares_61 {RR : Int32} (X : Cx p s m c cX6_compares RX6 7 d) {z : St} (hP : va_P d.1 classes (wM d a z) s.heap) (hr : meth.sig.returnType = (some .int)) (hlk : meth.locks = false) {k61 : Int32 → Int32 → Int32 → Option (Int32)} (hk61 : ∀ (x2 : Int32) (x3 : Int32) (x4 : Int32), k61 x2 x3 x4 = some RR → WRd p l e { frames := 3, cells := 0, slots := 0, locals := 70 } s m args below meth c RR 7 [(0, .ref (a 0)), (2, .int x2), (3, .int x3), (4, .int x4)] 61 []) : ∀ (x2 : Int32) (x3 : Int32) (x4 : Int32), f_X6_compares_61 z k61 x2 x3 x4 = some RR → WRd p l e { frames := 3, cells := 0, slots := 0, locals := 70 } s m args below meth c RR 7 [(0, .ref (a 0)), (2, .int x2), (3, .int x3), (4, .int x4)] 61 [] := by
  intro x2 x3 x4 hf ls hl
  obtain ⟨hx, hb, hml, hown, hE⟩ := id X
  unfold f_X6_compares_61 at hf
  refine lv_iload hx hb dX6_compares_61 (lv_at hl 3 rfl) ?_
  refine lv_aload_n hx hb dX6_compares_63 rfl (lv_at hl 0 rfl) ?_
  refine gf_6_84 hx hb hE hown hP dX6_compares_64 ?_
  refine lv_icmp_ge (tgt := 106) hx hb dX6_compares_67 (by decide) (fun q => ?_) (fun q => ?_)
  · have hf := (if_pos q).symm.trans hf
    refine lv_iconst (v := 0) hx hb dX6_compares_106 (by decide) ?_
    obtain rfl := Option.some.inj hf
    exact W.iret hx hb hr (fun t ht _ => ⟨rfl, ht⟩) (fun _ h => nomatch h) dX6_compares_107 hlk
  · have hf := (if_neg q).symm.trans hf
    refine lv_iload_n hx hb dX6_compares_70 rfl (lv_at hl 1 rfl) ?_
    refine lv_iload hx hb dX6_compares_71 (lv_at hl 3 rfl) ?_
    obtain ⟨r_1, hc, hf⟩ := bnd hf
    refine rdS X (c_X6_has l d a z x2 x4 hc) (k_X6_87 hE rfl rfl ⟨Nat.le_of_ble_eq_true rfl, Nat.le_of_ble_eq_true rfl⟩) hP rfl hl.1 rfl (Nat.le_of_ble_eq_true rfl) dX6_compares_73 ?_
    refine lv_iload_n hx hb dX6_compares_76 rfl (lv_at hl 2 rfl) ?_
    refine lv_iload hx hb dX6_compares_77 (lv_at hl 3 rfl) ?_
    obtain ⟨r_2, hc, hf⟩ := bnd hf
    refine rdS X (c_X6_has l d a z x3 x4 hc) (k_X6_87 hE rfl rfl ⟨Nat.le_of_ble_eq_true rfl, Nat.le_of_ble_eq_true rfl⟩) hP rfl hl.1 rfl (Nat.le_of_ble_eq_true rfl) dX6_compares_79 ?_
    refine lv_icmp_eq (tgt := 100) hx hb dX6_compares_82 (by decide) (fun q => ?_) (fun q => ?_)
    · have hf := (if_pos q).symm.trans hf
      refine lv_iinc (v := (x4 + (1 : Int32))) (lv' := [(4, .int (x4 + (1 : Int32))), (0, .ref (a 0)), (2, .int x2), (3, .int x3)]) hx hb dX6_compares_100 hl (k := 3) rfl rfl (by decide) rfl (fun ls hl => ?_)
      refine lv_goto (tgt := 61) hx hb dX6_compares_103 (by decide) ?_
      exact hk61 x2 x3 (x4 + (1 : Int32)) hf ls (lv_sub hl [1, 2, 3, 0] rfl)
    · have hf := (if_neg q).symm.trans hf
      refine lv_iload_n hx hb dX6_compares_85 rfl (lv_at hl 1 rfl) ?_
      refine lv_iload hx hb dX6_compares_86 (lv_at hl 3 rfl) ?_
      obtain ⟨r_3, hc, hf⟩ := bnd hf
      refine rdS X (c_X6_has l d a z x2 x4 hc) (k_X6_87 hE rfl rfl ⟨Nat.le_of_ble_eq_true rfl, Nat.le_of_ble_eq_true rfl⟩) hP rfl hl.1 rfl (Nat.le_of_ble_eq_true rfl) dX6_compares_88 ?_
      refine lv_if_eq (tgt := 98) hx hb dX6_compares_91 (by decide) (fun q => ?_) (fun q => ?_)
      · have hf := (if_pos q).symm.trans hf
        refine lv_iconst (v := 0) hx hb dX6_compares_98 (by decide) ?_
        obtain rfl := Option.some.inj hf
        exact W.iret hx hb hr (fun t ht _ => ⟨rfl, ht⟩) (fun _ h => nomatch h) dX6_compares_99 hlk
      · have hf := (if_neg q).symm.trans hf
        refine lv_iconst (v := 1) hx hb dX6_compares_94 (by decide) ?_
        refine lv_goto (tgt := 99) hx hb dX6_compares_95 (by decide) ?_
        obtain rfl := Option.some.inj hf
        exact W.iret hx hb hr (fun t ht _ => ⟨rfl, ht⟩) (fun _ h => nomatch h) dX6_compares_99 hlk
theorem u_X6_compares_61 {RR : Int32} (X : Cx p s m c cX6_compares RX6 7 d) {z : St} (hP : va_P d.1 classes (wM d a z) s.heap) (hr : meth.sig.returnType = (some .int)) (hlk : meth.locks = false) : ∀ (x2 : Int32) (x3 : Int32) (x4 : Int32), l_X6_compares_61 z x2 x3 x4 = some RR → WRd p l e { frames := 3, cells := 0, slots := 0, locals := 70 } s m args below meth c RR 7 [(0, .ref (a 0)), (2, .int x2), (3, .int x3), (4, .int x4)] 61 [] := by
  unfold l_X6_compares_61
  generalize FU = n
  induction n with
  | zero => intro x2 x3 x4 hf; exact absurd (show (none : Option (Int32)) = some RR from hf) (by simp)
  | succ n ih => exact t_X6_compares_61 X hP hr hlk ih
def f_X6_compares_3 (z : St) (k3 : Int32 → Int32 → Int32 → Int32 → Option (Int32)) (x1 : Int32) (x2 : Int32) (x3 : Int32) (x4 : Int32) : Option (Int32) := ck 4 x1 ((if (z.2 7 x1.toNatClampNeg) ≤ x4 then l_X6_compares_61 z x2 x3 (0 : Int32) else (f_X6_isMet z x1 x4 x2).bind (fun r_1 => (f_X6_isMet z x1 x4 x3).bind (fun r_2 => (if r_1 = r_2 then k3 x1 x2 x3 (x4 + (1 : Int32)) else (if r_1 = (0 : Int32) then some (0 : Int32) else some (2 : Int32)))))))
def l_X6_compares_3 (z : St) : Int32 → Int32 → Int32 → Int32 → Option (Int32) := iter (fun _ _ _ _ => none) (f_X6_compares_3 z) FU
set_option maxHeartbeats 4000000 in
set_option maxRecDepth 100000 in
theorem t_X6_compares_3 {RR : Int32} (X : Cx p s m c cX6_compares RX6 7 d) {z : St} (hP : va_P d.1 classes (wM d a z) s.heap) (hr : meth.sig.returnType = (some .int)) (hlk : meth.locks = false) {k3 : Int32 → Int32 → Int32 → Int32 → Option (Int32)} (hk3 : ∀ (x1 : Int32) (x2 : Int32) (x3 : Int32) (x4 : Int32), k3 x1 x2 x3 x4 = some RR → WRd p l e { frames := 3, cells := 0, slots := 0, locals := 70 } s m args below meth c RR 7 [(0, .ref (a 0)), (1, .int x1), (2, .int x2), (3, .int x3), (4, .int x4)] 3 []) : ∀ (x1 : Int32) (x2 : Int32) (x3 : Int32) (x4 : Int32), f_X6_compares_3 z k3 x1 x2 x3 x4 = some RR → WRd p l e { frames := 3, cells := 0, slots := 0, locals := 70 } s m args below meth c RR 7 [(0, .ref (a 0)), (1, .int x1), (2, .int x2), (3, .int x3), (4, .int x4)] 3 [] := by
  intro x1 x2 x3 x4 hf ls hl
  obtain ⟨hx, hb, hml, hown, hE⟩ := id X
  unfold f_X6_compares_3 at hf
  refine lv_iload hx hb dX6_compares_3 (lv_at hl 4 rfl) ?_
  refine lv_aload_n hx hb dX6_compares_5 rfl (lv_at hl 0 rfl) ?_
  refine gf_6_31 hx hb hE hown hP dX6_compares_6 ?_
  refine lv_iload_n hx hb dX6_compares_9 rfl (lv_at hl 1 rfl) ?_
  obtain ⟨hi, hf⟩ := ck_some hf
  refine ld_M_8 hx hb hE hP hi dX6_compares_10 ?_
  refine lv_icmp_ge (tgt := 58) hx hb dX6_compares_11 (by decide) (fun q => ?_) (fun q => ?_)
  · have hf := (if_pos q).symm.trans hf
    refine lv_iconst (v := 0) hx hb dX6_compares_58 (by decide) ?_
    refine lv_istore (lv' := [(4, .int (0 : Int32)), (0, .ref (a 0)), (1, .int x1), (2, .int x2), (3, .int x3)]) hx hb dX6_compares_59 hl (by decide) rfl (fun ls hl => ?_)
    exact u_X6_compares_61 X hP hr hlk x2 x3 (0 : Int32) hf ls (lv_sub hl [1, 3, 4, 0] rfl)
  · have hf := (if_neg q).symm.trans hf
    refine lv_aload_n hx hb dX6_compares_14 rfl (lv_at hl 0 rfl) ?_
    refine lv_iload_n hx hb dX6_compares_15 rfl (lv_at hl 1 rfl) ?_
    refine lv_iload hx hb dX6_compares_16 (lv_at hl 4 rfl) ?_
    refine lv_iload_n hx hb dX6_compares_18 rfl (lv_at hl 2 rfl) ?_
    obtain ⟨r_1, hc, hf⟩ := bnd hf
    refine rdV X (c_X6_isMet l d a z x1 x4 x2 hc) (k_X6_119 hE rfl rfl ⟨Nat.le_of_ble_eq_true rfl, Nat.le_of_ble_eq_true rfl⟩) hP (va_recv (q := (RX6, TX6, 28)) hE.2 hP (ci := 6) (q0 := 0) rfl rfl) rfl hl.1 rfl (Nat.le_of_ble_eq_true rfl) dX6_compares_19 ?_
    refine lv_istore (lv' := [(5, .int r_1), (0, .ref (a 0)), (1, .int x1), (2, .int x2), (3, .int x3), (4, .int x4)]) hx hb dX6_compares_22 hl (by decide) rfl (fun ls hl => ?_)
    refine lv_aload_n hx hb dX6_compares_24 rfl (lv_at hl 1 rfl) ?_
    refine lv_iload_n hx hb dX6_compares_25 rfl (lv_at hl 2 rfl) ?_
    refine lv_iload hx hb dX6_compares_26 (lv_at hl 5 rfl) ?_
    refine lv_iload_n hx hb dX6_compares_28 rfl (lv_at hl 4 rfl) ?_
    obtain ⟨r_2, hc, hf⟩ := bnd hf
    refine rdV X (c_X6_isMet l d a z x1 x4 x3 hc) (k_X6_119 hE rfl rfl ⟨Nat.le_of_ble_eq_true rfl, Nat.le_of_ble_eq_true rfl⟩) hP (va_recv (q := (RX6, TX6, 28)) hE.2 hP (ci := 6) (q0 := 0) rfl rfl) rfl hl.1 rfl (Nat.le_of_ble_eq_true rfl) dX6_compares_29 ?_
    refine lv_istore (lv' := [(6, .int r_2), (5, .int r_1), (0, .ref (a 0)), (1, .int x1), (2, .int x2), (3, .int x3), (4, .int x4)]) hx hb dX6_compares_32 hl (by decide) rfl (fun ls hl => ?_)
    refine lv_iload hx hb dX6_compares_34 (lv_at hl 1 rfl) ?_
    refine lv_iload hx hb dX6_compares_36 (lv_at hl 0 rfl) ?_
    refine lv_icmp_eq (tgt := 52) hx hb dX6_compares_38 (by decide) (fun q => ?_) (fun q => ?_)
    · have hf := (if_pos q).symm.trans hf
      refine lv_iinc (v := (x4 + (1 : Int32))) (lv' := [(4, .int (x4 + (1 : Int32))), (6, .int r_2), (5, .int r_1), (0, .ref (a 0)), (1, .int x1), (2, .int x2), (3, .int x3)]) hx hb dX6_compares_52 hl (k := 6) rfl rfl (by decide) rfl (fun ls hl => ?_)
      refine lv_goto (tgt := 3) hx hb dX6_compares_55 (by decide) ?_
      exact hk3 x1 x2 x3 (x4 + (1 : Int32)) hf ls (lv_sub hl [3, 4, 5, 6, 0] rfl)
    · have hf := (if_neg q).symm.trans hf
      refine lv_iload hx hb dX6_compares_41 (lv_at hl 1 rfl) ?_
      refine lv_if_eq (tgt := 50) hx hb dX6_compares_43 (by decide) (fun q => ?_) (fun q => ?_)
      · have hf := (if_pos q).symm.trans hf
        refine lv_iconst (v := 0) hx hb dX6_compares_50 (by decide) ?_
        obtain rfl := Option.some.inj hf
        exact W.iret hx hb hr (fun t ht _ => ⟨rfl, ht⟩) (fun _ h => nomatch h) dX6_compares_51 hlk
      · have hf := (if_neg q).symm.trans hf
        refine lv_iconst (v := 2) hx hb dX6_compares_46 (by decide) ?_
        refine lv_goto (tgt := 51) hx hb dX6_compares_47 (by decide) ?_
        obtain rfl := Option.some.inj hf
        exact W.iret hx hb hr (fun t ht _ => ⟨rfl, ht⟩) (fun _ h => nomatch h) dX6_compares_51 hlk
theorem u_X6_compares_3 {RR : Int32} (X : Cx p s m c cX6_compares RX6 7 d) {z : St} (hP : va_P d.1 classes (wM d a z) s.heap) (hr : meth.sig.returnType = (some .int)) (hlk : meth.locks = false) : ∀ (x1 : Int32) (x2 : Int32) (x3 : Int32) (x4 : Int32), l_X6_compares_3 z x1 x2 x3 x4 = some RR → WRd p l e { frames := 3, cells := 0, slots := 0, locals := 70 } s m args below meth c RR 7 [(0, .ref (a 0)), (1, .int x1), (2, .int x2), (3, .int x3), (4, .int x4)] 3 [] := by
  unfold l_X6_compares_3
  generalize FU = n
  induction n with
  | zero => intro x1 x2 x3 x4 hf; exact absurd (show (none : Option (Int32)) = some RR from hf) (by simp)
  | succ n ih => exact t_X6_compares_3 X hP hr hlk ih
def f_X6_compares (z : St) (x1 : Int32) (x2 : Int32) (x3 : Int32) : Option (Int32) := l_X6_compares_3 z x1 x2 x3 (0 : Int32)
set_option maxHeartbeats 4000000 in
set_option maxRecDepth 100000 in
theorem t_X6_compares {RR : Int32} (X : Cx p s m c cX6_compares RX6 7 d) {z : St} (hP : va_P d.1 classes (wM d a z) s.heap) (hr : meth.sig.returnType = (some .int)) (hlk : meth.locks = false) : ∀ (x1 : Int32) (x2 : Int32) (x3 : Int32), f_X6_compares z x1 x2 x3 = some RR → WRd p l e { frames := 3, cells := 0, slots := 0, locals := 70 } s m args below meth c RR 7 [(0, .ref (a 0)), (1, .int x1), (2, .int x2), (3, .int x3)] 0 [] := by
  intro x1 x2 x3 hf ls hl
  obtain ⟨hx, hb, hml, hown, hE⟩ := id X
  unfold f_X6_compares at hf
  refine lv_iconst (v := 0) hx hb dX6_compares_0 (by decide) ?_
  refine lv_istore (lv' := [(4, .int (0 : Int32)), (0, .ref (a 0)), (1, .int x1), (2, .int x2), (3, .int x3)]) hx hb dX6_compares_1 hl (by decide) rfl (fun ls hl => ?_)
  exact u_X6_compares_3 X hP hr hlk x1 x2 x3 (0 : Int32) hf ls (lv_sub hl [1, 2, 3, 4, 0] rfl)
set_option maxHeartbeats 4000000 in
set_option maxRecDepth 100000 in
theorem c_X6_compares (l : Launch) (d : G3) (a : Nat → Nat) (z : St) (x1 : Int32) (x2 : Int32) (x3 : Int32) {RR : Int32} (hf : f_X6_compares z x1 x2 x3 = some RR) : Met l yX6_compares [Cond.code yX6_compares cX6_compares 7 (some .int)] { frames := 3, cells := 0, slots := 0, locals := 70 } (rpre wM d a z [.ref (a 0), .int x1, .int x2, .int x3]) (QcRead RR) 0 0 (fun _ => False) := by
  refine Met.ofW (cc := cX6_compares) (maxL := 7) (ret := (some .int)) (by decide) rfl ?_
  intro p e s m args below meth c s₁ B hml hv
  obtain ⟨rfl, hE, hP⟩ := hv
  have X : Cx p s m c cX6_compares RX6 7 d := ⟨B.exec, B.bytes, hml, findClass_of_methodNamed B.named, hE⟩
  have hl := lv_entry ([.ref (a 0), .int x1, .int x2, .int x3]) (n := 7) (Nat.le_of_ble_eq_true rfl)
  rw [lg_entry_eq]
  generalize (lg_sl ([.ref (a 0), .int x1, .int x2, .int x3]) ++ List.replicate (7 - (lg_sl ([.ref (a 0), .int x1, .int x2, .int x3])).length) Slot.unset).toArray = ls at hl ⊢
  have hl : lv_has ls 7 [(0, .ref (a 0)), (1, .int x1), (2, .int x2), (3, .int x3)] := hl
  exact t_X6_compares X hP B.returns B.notSynchronized x1 x2 x3 hf ls hl
def f_X6_marks_25 (k15 : Int32 → St → Option (St)) (k25 : Int32 → Int32 → St → Option (St)) (x1 : Int32) (x2 : Int32) (z : St) : Option (St) := (if ((1 : Int32) <<< ((z.1 0) &&& 31)) ≤ x2 then k15 (x1 + (1 : Int32)) z else (f_X6_whyNot z x1 x2).bind (fun r_1 => (if r_1 = (0 : Int32) then ck 2048 (((512 : Int32) * x1) + x2) (k25 x1 (x2 + (1 : Int32)) (pA z 10 (((512 : Int32) * x1) + x2).toNatClampNeg (vp_nar .boolean (1 : Int32)))) else ck 2048 (((512 : Int32) * x1) + x2) (k25 x1 (x2 + (1 : Int32)) (pA z 10 (((512 : Int32) * x1) + x2).toNatClampNeg (vp_nar .boolean (0 : Int32)))))))
def l_X6_marks_25 (k15 : Int32 → St → Option (St)) : Int32 → Int32 → St → Option (St) := iter (fun _ _ _ => none) (f_X6_marks_25 k15) FU
set_option maxHeartbeats 4000000 in
set_option maxRecDepth 100000 in
theorem t_X6_marks_25 {RR : St} (X : Cx p s m c cX6_marks RX6 3 d) (hJ : Inj 20 a) (hr : meth.sig.returnType = none) (hlk : meth.locks = false) {k15 : Int32 → St → Option (St)} {k25 : Int32 → Int32 → St → Option (St)} (hk15 : ∀ (x1 : Int32) (z : St), k15 x1 z = some RR → WWv wM 20 d a p l e { frames := 3, cells := 0, slots := 0, locals := 71 } s m args below meth c RR z 3 [(0, .ref (a 0)), (1, .int x1)] 15 []) (hk25 : ∀ (x1 : Int32) (x2 : Int32) (z : St), k25 x1 x2 z = some RR → WWv wM 20 d a p l e { frames := 3, cells := 0, slots := 0, locals := 71 } s m args below meth c RR z 3 [(0, .ref (a 0)), (1, .int x1), (2, .int x2)] 25 []) : ∀ (x1 : Int32) (x2 : Int32) (z : St), f_X6_marks_25 k15 k25 x1 x2 z = some RR → WWv wM 20 d a p l e { frames := 3, cells := 0, slots := 0, locals := 71 } s m args below meth c RR z 3 [(0, .ref (a 0)), (1, .int x1), (2, .int x2)] 25 [] := by
  intro x1 x2 z hf H locs ls hP hS hl
  obtain ⟨hx, hb, hml, hown, hE⟩ := id X
  unfold f_X6_marks_25 at hf
  refine lv_iload_n hx hb dX6_marks_25 rfl (lv_at hl 2 rfl) ?_
  refine lv_iconst (v := 1) hx hb dX6_marks_26 (by decide) ?_
  refine lv_aload_n hx hb dX6_marks_27 rfl (lv_at hl 0 rfl) ?_
  refine gf_6_84 hx hb hE hown hP dX6_marks_28 ?_
  refine lv_ishl hx hb dX6_marks_31 ?_
  refine lv_icmp_ge (tgt := 67) hx hb dX6_marks_32 (by decide) (fun q => ?_) (fun q => ?_)
  · have hf := (if_pos q).symm.trans hf
    refine lv_iinc (v := (x1 + (1 : Int32))) (lv' := [(1, .int (x1 + (1 : Int32))), (0, .ref (a 0)), (2, .int x2)]) hx hb dX6_marks_67 hl (k := 1) rfl rfl (by decide) rfl (fun ls hl => ?_)
    refine lv_goto (tgt := 15) hx hb dX6_marks_70 (by decide) ?_
    exact hk15 (x1 + (1 : Int32)) z hf H locs ls hP hS (lv_sub hl [1, 0] rfl)
  · have hf := (if_neg q).symm.trans hf
    refine lv_aload_n hx hb dX6_marks_35 rfl (lv_at hl 0 rfl) ?_
    refine gf_6_53 hx hb hE hown hP dX6_marks_36 ?_
    refine lv_sipush (v := 512) hx hb dX6_marks_39 (by decide) ?_
    refine lv_iload_n hx hb dX6_marks_42 rfl (lv_at hl 1 rfl) ?_
    refine lv_imul hx hb dX6_marks_43 ?_
    refine lv_iload_n hx hb dX6_marks_44 rfl (lv_at hl 2 rfl) ?_
    refine lv_iadd hx hb dX6_marks_45 ?_
    refine lv_aload_n hx hb dX6_marks_46 rfl (lv_at hl 0 rfl) ?_
    refine lv_iload_n hx hb dX6_marks_47 rfl (lv_at hl 1 rfl) ?_
    refine lv_iload_n hx hb dX6_marks_48 rfl (lv_at hl 2 rfl) ?_
    obtain ⟨r_1, hc, hf⟩ := bnd hf
    refine rdV X (c_X6_whyNot l d a z x1 x2 hc) (k_X6_123 hE rfl rfl ⟨Nat.le_of_ble_eq_true rfl, Nat.le_of_ble_eq_true rfl⟩) hP (va_recv (q := (RX6, TX6, 28)) hE.2 hP (ci := 6) (q0 := 0) rfl rfl) rfl hl.1 rfl (Nat.le_of_ble_eq_true rfl) dX6_marks_49 ?_
    refine lv_if_ne (tgt := 59) hx hb dX6_marks_52 (by decide) (fun q => ?_) (fun q => ?_)
    · have hf := (if_neg q).symm.trans hf
      refine lv_iconst (v := 0) hx hb dX6_marks_59 (by decide) ?_
      obtain ⟨hi, hf⟩ := ck_some hf
      refine st_M_11 hx hb hE hP hJ hS hi dX6_marks_60 (fun H locs hP hS => ?_)
      refine lv_iinc (v := (x2 + (1 : Int32))) (lv' := [(2, .int (x2 + (1 : Int32))), (0, .ref (a 0)), (1, .int x1)]) hx hb dX6_marks_61 hl (k := 2) rfl rfl (by decide) rfl (fun ls hl => ?_)
      refine lv_goto (tgt := 25) hx hb dX6_marks_64 (by decide) ?_
      exact hk25 x1 (x2 + (1 : Int32)) (pA z 10 (((512 : Int32) * x1) + x2).toNatClampNeg (vp_nar .boolean (0 : Int32))) hf H locs ls hP hS (lv_sub hl [1, 2, 0] rfl)
    · have hf := (if_pos q).symm.trans hf
      refine lv_iconst (v := 1) hx hb dX6_marks_55 (by decide) ?_
      refine lv_goto (tgt := 60) hx hb dX6_marks_56 (by decide) ?_
      obtain ⟨hi, hf⟩ := ck_some hf
      refine st_M_11 hx hb hE hP hJ hS hi dX6_marks_60 (fun H locs hP hS => ?_)
      refine lv_iinc (v := (x2 + (1 : Int32))) (lv' := [(2, .int (x2 + (1 : Int32))), (0, .ref (a 0)), (1, .int x1)]) hx hb dX6_marks_61 hl (k := 2) rfl rfl (by decide) rfl (fun ls hl => ?_)
      refine lv_goto (tgt := 25) hx hb dX6_marks_64 (by decide) ?_
      exact hk25 x1 (x2 + (1 : Int32)) (pA z 10 (((512 : Int32) * x1) + x2).toNatClampNeg (vp_nar .boolean (1 : Int32))) hf H locs ls hP hS (lv_sub hl [1, 2, 0] rfl)
theorem u_X6_marks_25 {RR : St} (X : Cx p s m c cX6_marks RX6 3 d) (hJ : Inj 20 a) (hr : meth.sig.returnType = none) (hlk : meth.locks = false) {k15 : Int32 → St → Option (St)} (hk15 : ∀ (x1 : Int32) (z : St), k15 x1 z = some RR → WWv wM 20 d a p l e { frames := 3, cells := 0, slots := 0, locals := 71 } s m args below meth c RR z 3 [(0, .ref (a 0)), (1, .int x1)] 15 []) : ∀ (x1 : Int32) (x2 : Int32) (z : St), l_X6_marks_25 k15 x1 x2 z = some RR → WWv wM 20 d a p l e { frames := 3, cells := 0, slots := 0, locals := 71 } s m args below meth c RR z 3 [(0, .ref (a 0)), (1, .int x1), (2, .int x2)] 25 [] := by
  unfold l_X6_marks_25
  generalize FU = n
  induction n with
  | zero => intro x1 x2 z hf; exact absurd (show (none : Option (St)) = some RR from hf) (by simp)
  | succ n ih => exact t_X6_marks_25 X hJ hr hlk hk15 ih
def f_X6_marks_15 (k15 : Int32 → St → Option (St)) (x1 : Int32) (z : St) : Option (St) := (if (z.1 1) ≤ x1 then some z else l_X6_marks_25 k15 x1 (0 : Int32) z)
def l_X6_marks_15 : Int32 → St → Option (St) := iter (fun _ _ => none) (f_X6_marks_15) FU
set_option maxHeartbeats 4000000 in
set_option maxRecDepth 100000 in
theorem t_X6_marks_15 {RR : St} (X : Cx p s m c cX6_marks RX6 3 d) (hJ : Inj 20 a) (hr : meth.sig.returnType = none) (hlk : meth.locks = false) {k15 : Int32 → St → Option (St)} (hk15 : ∀ (x1 : Int32) (z : St), k15 x1 z = some RR → WWv wM 20 d a p l e { frames := 3, cells := 0, slots := 0, locals := 71 } s m args below meth c RR z 3 [(0, .ref (a 0)), (1, .int x1)] 15 []) : ∀ (x1 : Int32) (z : St), f_X6_marks_15 k15 x1 z = some RR → WWv wM 20 d a p l e { frames := 3, cells := 0, slots := 0, locals := 71 } s m args below meth c RR z 3 [(0, .ref (a 0)), (1, .int x1)] 15 [] := by
  intro x1 z hf H locs ls hP hS hl
  obtain ⟨hx, hb, hml, hown, hE⟩ := id X
  unfold f_X6_marks_15 at hf
  refine lv_iload_n hx hb dX6_marks_15 rfl (lv_at hl 1 rfl) ?_
  refine lv_aload_n hx hb dX6_marks_16 rfl (lv_at hl 0 rfl) ?_
  refine gf_6_81 hx hb hE hown hP dX6_marks_17 ?_
  refine lv_icmp_ge (tgt := 73) hx hb dX6_marks_20 (by decide) (fun q => ?_) (fun q => ?_)
  · have hf := (if_pos q).symm.trans hf
    obtain rfl := Option.some.inj hf
    exact W.vret hx hb hr (fun t ht _ => ⟨rfl, by rw [ht]; exact hP, hS.F ht⟩) hS.2.2 dX6_marks_73 hlk
  · have hf := (if_neg q).symm.trans hf
    refine lv_iconst (v := 0) hx hb dX6_marks_23 (by decide) ?_
    refine lv_istore_n (lv' := [(2, .int (0 : Int32)), (0, .ref (a 0)), (1, .int x1)]) hx hb dX6_marks_24 rfl hl (by decide) rfl (fun ls hl => ?_)
    exact u_X6_marks_25 X hJ hr hlk hk15 x1 (0 : Int32) z hf H locs ls hP hS (lv_sub hl [1, 2, 0] rfl)
theorem u_X6_marks_15 {RR : St} (X : Cx p s m c cX6_marks RX6 3 d) (hJ : Inj 20 a) (hr : meth.sig.returnType = none) (hlk : meth.locks = false) : ∀ (x1 : Int32) (z : St), l_X6_marks_15 x1 z = some RR → WWv wM 20 d a p l e { frames := 3, cells := 0, slots := 0, locals := 71 } s m args below meth c RR z 3 [(0, .ref (a 0)), (1, .int x1)] 15 [] := by
  unfold l_X6_marks_15
  generalize FU = n
  induction n with
  | zero => intro x1 z hf; exact absurd (show (none : Option (St)) = some RR from hf) (by simp)
  | succ n ih => exact t_X6_marks_15 X hJ hr hlk ih
def f_X6_marks (z : St) : Option (St) := (if (z.1 6) = (0 : Int32) then l_X6_marks_15 (0 : Int32) (pS z 6 (1 : Int32)) else some z)
set_option maxHeartbeats 4000000 in
set_option maxRecDepth 100000 in
theorem t_X6_marks {RR : St} (X : Cx p s m c cX6_marks RX6 3 d) (hJ : Inj 20 a) (hr : meth.sig.returnType = none) (hlk : meth.locks = false) : ∀ (z : St), f_X6_marks z = some RR → WWv wM 20 d a p l e { frames := 3, cells := 0, slots := 0, locals := 71 } s m args below meth c RR z 3 [(0, .ref (a 0))] 0 [] := by
  intro z hf H locs ls hP hS hl
  obtain ⟨hx, hb, hml, hown, hE⟩ := id X
  unfold f_X6_marks at hf
  refine lv_aload_n hx hb dX6_marks_0 rfl (lv_at hl 0 rfl) ?_
  refine gf_6_91 hx hb hE hown hP dX6_marks_1 ?_
  refine lv_if_eq (tgt := 8) hx hb dX6_marks_4 (by decide) (fun q => ?_) (fun q => ?_)
  · have hf := (if_pos q).symm.trans hf
    refine lv_aload_n hx hb dX6_marks_8 rfl (lv_at hl 0 rfl) ?_
    refine lv_iconst (v := 1) hx hb dX6_marks_9 (by decide) ?_
    refine pf_6_91 hx hb hE hown hP hJ hS rfl rfl dX6_marks_10 (fun H locs hP hS => ?_)
    refine lv_iconst (v := 0) hx hb dX6_marks_13 (by decide) ?_
    refine lv_istore_n (lv' := [(1, .int (0 : Int32)), (0, .ref (a 0))]) hx hb dX6_marks_14 rfl hl (by decide) rfl (fun ls hl => ?_)
    exact u_X6_marks_15 X hJ hr hlk (0 : Int32) (pS z 6 (1 : Int32)) hf H locs ls hP hS (lv_sub hl [1, 0] rfl)
  · have hf := (if_neg q).symm.trans hf
    obtain rfl := Option.some.inj hf
    exact W.vret hx hb hr (fun t ht _ => ⟨rfl, by rw [ht]; exact hP, hS.F ht⟩) hS.2.2 dX6_marks_7 hlk
set_option maxHeartbeats 4000000 in
set_option maxRecDepth 100000 in
theorem c_X6_marks (l : Launch) (d : G3) (a : Nat → Nat) (z : St) {RR : St} (hf : f_X6_marks z = some RR) : Met l yX6_marks [Cond.code yX6_marks cX6_marks 3 none] { frames := 3, cells := 0, slots := 0, locals := 71 } (wpre wM 20 d a z [.ref (a 0)]) (QV wM 20 d a RR) 0 0 (AD 20 a) := by
  refine Met.ofW (cc := cX6_marks) (maxL := 3) (ret := none) (by decide) rfl ?_
  intro p e s m args below meth c s₁ B hml hv
  obtain ⟨rfl, hE, hP, hJ⟩ := hv
  have X : Cx p s m c cX6_marks RX6 3 d := ⟨B.exec, B.bytes, hml, findClass_of_methodNamed B.named, hE⟩
  have hl := lv_entry ([.ref (a 0)]) (n := 3) (Nat.le_of_ble_eq_true rfl)
  rw [lg_entry_eq]
  generalize (lg_sl ([.ref (a 0)]) ++ List.replicate (3 - (lg_sl ([.ref (a 0)])).length) Slot.unset).toArray = ls at hl ⊢
  have hl : lv_has ls 3 [(0, .ref (a 0))] := hl
  exact t_X6_marks X hJ B.returns B.notSynchronized z hf s.heap [] ls hP va_S.rf hl
end GEN
