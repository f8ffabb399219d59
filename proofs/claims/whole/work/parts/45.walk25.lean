section GEN
variable {p : Program} {l : Launch} {e : Env} {s : State} {m : MethodId} {args : Array Value} {below : List Frame} {meth : Method} {c : Code} {d : G3} {a : Nat → Nat}
def f_X6_count_7 (z : St) (k7 : Int32 → Int32 → Int32 → Int32 → Option (Int32)) (x1 : Int32) (x2 : Int32) (x3 : Int32) (x4 : Int32) : Option (Int32) := (if (z.1 1) ≤ x4 then (if x1 = 0 then some (z.1 0) else (if x1 = 1 then some (z.1 1) else (if x1 = 2 then some x2 else (if x1 = 3 then (if (z.1 7) = (0 : Int32) then some (-3 : Int32) else some x3) else (if x1 = 4 then (if (z.1 7) = (0 : Int32) then some (0 : Int32) else some (1 : Int32)) else some (-1 : Int32)))))) else ck 4 x4 ((if (z.1 7) = (0 : Int32) then k7 x1 (x2 + (z.2 7 x4.toNatClampNeg)) (x3 + (0 : Int32)) (x4 + (1 : Int32)) else (f_X6_metOf z x4).bind (fun r_1 => k7 x1 (x2 + (z.2 7 x4.toNatClampNeg)) (x3 + r_1) (x4 + (1 : Int32))))))
def l_X6_count_7 (z : St) : Int32 → Int32 → Int32 → Int32 → Option (Int32) := iter (fun _ _ _ _ => none) (f_X6_count_7 z) FU
set_option maxHeartbeats 4000000 in
set_option maxRecDepth 100000 in
theorem t_X6_count_7 {RR : Int32} (X : Cx p s m c cX6_count RX6 5 d) {z : St} (hP : va_P d.1 classes (wM d a z) s.heap) (hr : meth.sig.returnType = (some .int)) (hlk : meth.locks = false) {k7 : Int32 → Int32 → Int32 → Int32 → Option (Int32)} (hk7 : ∀ (x1 : Int32) (x2 : Int32) (x3 : Int32) (x4 : Int32), k7 x1 x2 x3 x4 = some RR → WRd p l e { frames := 4, cells := 0, slots := 0, locals := 93 } s m args below meth c RR 5 [(0, .ref (a 0)), (1, .int x1), (2, .int x2), (3, .int x3), (4, .int x4)] 7 []) : ∀ (x1 : Int32) (x2 : Int32) (x3 : Int32) (x4 : Int32), f_X6_count_7 z k7 x1 x2 x3 x4 = some RR → WRd p l e { frames := 4, cells := 0, slots := 0, locals := 93 } s m args below meth c RR 5 [(0, .ref (a 0)), (1, .int x1), (2, .int x2), (3, .int x3), (4, .int x4)] 7 [] := by
  intro x1 x2 x3 x4 hf ls hl
  obtain ⟨hx, hb, hml, hown, hE⟩ := id X
  unfold f_X6_count_7 at hf
  refine lv_iload hx hb dX6_count_7 (lv_at hl 4 rfl) ?_
  refine lv_aload_n hx hb dX6_count_9 rfl (lv_at hl 0 rfl) ?_
  refine gf_6_81 hx hb hE hown hP dX6_count_10 ?_
  refine lv_icmp_ge (tgt := 52) hx hb dX6_count_13 (by decide) (fun q => ?_) (fun q => ?_)
  · have hf := (if_pos q).symm.trans hf
    refine lv_iload_n hx hb dX6_count_52 rfl (lv_at hl 1 rfl) ?_
    by_cases q0 : x1 = 0
    · have hf := (if_pos q0).symm.trans hf
      refine lv_tableIn (tgt := 88) hx hb dX6_count_53 (by rw [q0]; decide) (by rw [q0]; decide) (by rw [q0]; rfl) (by decide) ?_
      refine lv_aload_n hx hb dX6_count_88 rfl (lv_at hl 0 rfl) ?_
      refine gf_6_84 hx hb hE hown hP dX6_count_89 ?_
      obtain rfl := Option.some.inj hf
      exact W.iret hx hb hr (fun t ht _ => ⟨rfl, ht⟩) (fun _ h => nomatch h) dX6_count_92 hlk
    · have hf := (if_neg q0).symm.trans hf
      by_cases q1 : x1 = 1
      · have hf := (if_pos q1).symm.trans hf
        refine lv_tableIn (tgt := 93) hx hb dX6_count_53 (by rw [q1]; decide) (by rw [q1]; decide) (by rw [q1]; rfl) (by decide) ?_
        refine lv_aload_n hx hb dX6_count_93 rfl (lv_at hl 0 rfl) ?_
        refine gf_6_81 hx hb hE hown hP dX6_count_94 ?_
        obtain rfl := Option.some.inj hf
        exact W.iret hx hb hr (fun t ht _ => ⟨rfl, ht⟩) (fun _ h => nomatch h) dX6_count_97 hlk
      · have hf := (if_neg q1).symm.trans hf
        by_cases q2 : x1 = 2
        · have hf := (if_pos q2).symm.trans hf
          refine lv_tableIn (tgt := 98) hx hb dX6_count_53 (by rw [q2]; decide) (by rw [q2]; decide) (by rw [q2]; rfl) (by decide) ?_
          refine lv_iload_n hx hb dX6_count_98 rfl (lv_at hl 2 rfl) ?_
          obtain rfl := Option.some.inj hf
          exact W.iret hx hb hr (fun t ht _ => ⟨rfl, ht⟩) (fun _ h => nomatch h) dX6_count_99 hlk
        · have hf := (if_neg q2).symm.trans hf
          by_cases q3 : x1 = 3
          · have hf := (if_pos q3).symm.trans hf
            refine lv_tableIn (tgt := 100) hx hb dX6_count_53 (by rw [q3]; decide) (by rw [q3]; decide) (by rw [q3]; rfl) (by decide) ?_
            refine lv_aload_n hx hb dX6_count_100 rfl (lv_at hl 0 rfl) ?_
            refine gf_6_95 hx hb hE hown hP dX6_count_101 ?_
            refine lv_if_eq (tgt := 111) hx hb dX6_count_104 (by decide) (fun q => ?_) (fun q => ?_)
            · have hf := (if_pos q).symm.trans hf
              refine lv_bipush (v := -3) hx hb dX6_count_111 (by decide) ?_
              obtain rfl := Option.some.inj hf
              exact W.iret hx hb hr (fun t ht _ => ⟨rfl, ht⟩) (fun _ h => nomatch h) dX6_count_113 hlk
            · have hf := (if_neg q).symm.trans hf
              refine lv_iload_n hx hb dX6_count_107 rfl (lv_at hl 3 rfl) ?_
              refine lv_goto (tgt := 113) hx hb dX6_count_108 (by decide) ?_
              obtain rfl := Option.some.inj hf
              exact W.iret hx hb hr (fun t ht _ => ⟨rfl, ht⟩) (fun _ h => nomatch h) dX6_count_113 hlk
          · have hf := (if_neg q3).symm.trans hf
            by_cases q4 : x1 = 4
            · have hf := (if_pos q4).symm.trans hf
              refine lv_tableIn (tgt := 114) hx hb dX6_count_53 (by rw [q4]; decide) (by rw [q4]; decide) (by rw [q4]; rfl) (by decide) ?_
              refine lv_aload_n hx hb dX6_count_114 rfl (lv_at hl 0 rfl) ?_
              refine gf_6_95 hx hb hE hown hP dX6_count_115 ?_
              refine lv_if_eq (tgt := 125) hx hb dX6_count_118 (by decide) (fun q => ?_) (fun q => ?_)
              · have hf := (if_pos q).symm.trans hf
                refine lv_iconst (v := 0) hx hb dX6_count_125 (by decide) ?_
                obtain rfl := Option.some.inj hf
                exact W.iret hx hb hr (fun t ht _ => ⟨rfl, ht⟩) (fun _ h => nomatch h) dX6_count_126 hlk
              · have hf := (if_neg q).symm.trans hf
                refine lv_iconst (v := 1) hx hb dX6_count_121 (by decide) ?_
                refine lv_goto (tgt := 126) hx hb dX6_count_122 (by decide) ?_
                obtain rfl := Option.some.inj hf
                exact W.iret hx hb hr (fun t ht _ => ⟨rfl, ht⟩) (fun _ h => nomatch h) dX6_count_126 hlk
            · have hf := (if_neg q4).symm.trans hf
              refine lv_tableOut (tgt := 127) hx hb dX6_count_53 (sw4 q0 q1 q2 q3 q4) (by decide) ?_
              refine lv_iconst (v := -1) hx hb dX6_count_127 (by decide) ?_
              obtain rfl := Option.some.inj hf
              exact W.iret hx hb hr (fun t ht _ => ⟨rfl, ht⟩) (fun _ h => nomatch h) dX6_count_128 hlk
  · have hf := (if_neg q).symm.trans hf
    refine lv_iload_n hx hb dX6_count_16 rfl (lv_at hl 2 rfl) ?_
    refine lv_aload_n hx hb dX6_count_17 rfl (lv_at hl 0 rfl) ?_
    refine gf_6_31 hx hb hE hown hP dX6_count_18 ?_
    refine lv_iload hx hb dX6_count_21 (lv_at hl 4 rfl) ?_
    obtain ⟨hi, hf⟩ := ck_some hf
    refine ld_M_8 hx hb hE hP hi dX6_count_23 ?_
    refine lv_iadd hx hb dX6_count_24 ?_
    refine lv_istore_n (lv' := [(2, .int (x2 + (z.2 7 x4.toNatClampNeg))), (0, .ref (a 0)), (1, .int x1), (3, .int x3), (4, .int x4)]) hx hb dX6_count_25 rfl hl (by decide) rfl (fun ls hl => ?_)
    refine lv_iload_n hx hb dX6_count_26 rfl (lv_at hl 3 rfl) ?_
    refine lv_aload_n hx hb dX6_count_27 rfl (lv_at hl 1 rfl) ?_
    refine gf_6_95 hx hb hE hown hP dX6_count_28 ?_
    refine lv_if_eq (tgt := 43) hx hb dX6_count_31 (by decide) (fun q => ?_) (fun q => ?_)
    · have hf := (if_pos q).symm.trans hf
      refine lv_iconst (v := 0) hx hb dX6_count_43 (by decide) ?_
      refine lv_iadd hx hb dX6_count_44 ?_
      refine lv_istore_n (lv' := [(3, .int (x3 + (0 : Int32))), (2, .int (x2 + (z.2 7 x4.toNatClampNeg))), (0, .ref (a 0)), (1, .int x1), (4, .int x4)]) hx hb dX6_count_45 rfl hl (by decide) rfl (fun ls hl => ?_)
      refine lv_iinc (v := (x4 + (1 : Int32))) (lv' := [(4, .int (x4 + (1 : Int32))), (3, .int (x3 + (0 : Int32))), (2, .int (x2 + (z.2 7 x4.toNatClampNeg))), (0, .ref (a 0)), (1, .int x1)]) hx hb dX6_count_46 hl (k := 4) rfl rfl (by decide) rfl (fun ls hl => ?_)
      refine lv_goto (tgt := 7) hx hb dX6_count_49 (by decide) ?_
      exact hk7 x1 (x2 + (z.2 7 x4.toNatClampNeg)) (x3 + (0 : Int32)) (x4 + (1 : Int32)) hf ls (lv_sub hl [3, 4, 2, 1, 0] rfl)
    · have hf := (if_neg q).symm.trans hf
      refine lv_aload_n hx hb dX6_count_34 rfl (lv_at hl 1 rfl) ?_
      refine lv_iload hx hb dX6_count_35 (lv_at hl 4 rfl) ?_
      obtain ⟨r_1, hc, hf⟩ := bnd hf
      refine rdV X (c_X6_metOf l d a z x4 hc) (k_X6_155 hE rfl rfl ⟨Nat.le_of_ble_eq_true rfl, Nat.le_of_ble_eq_true rfl⟩) hP (va_recv (q := (RX6, TX6, 28)) hE.2 hP (ci := 6) (q0 := 0) rfl rfl) rfl hl.1 rfl (Nat.le_of_ble_eq_true rfl) dX6_count_37 ?_
      refine lv_goto (tgt := 44) hx hb dX6_count_40 (by decide) ?_
      refine lv_iadd hx hb dX6_count_44 ?_
      refine lv_istore_n (lv' := [(3, .int (x3 + r_1)), (2, .int (x2 + (z.2 7 x4.toNatClampNeg))), (0, .ref (a 0)), (1, .int x1), (4, .int x4)]) hx hb dX6_count_45 rfl hl (by decide) rfl (fun ls hl => ?_)
      refine lv_iinc (v := (x4 + (1 : Int32))) (lv' := [(4, .int (x4 + (1 : Int32))), (3, .int (x3 + r_1)), (2, .int (x2 + (z.2 7 x4.toNatClampNeg))), (0, .ref (a 0)), (1, .int x1)]) hx hb dX6_count_46 hl (k := 4) rfl rfl (by decide) rfl (fun ls hl => ?_)
      refine lv_goto (tgt := 7) hx hb dX6_count_49 (by decide) ?_
      exact hk7 x1 (x2 + (z.2 7 x4.toNatClampNeg)) (x3 + r_1) (x4 + (1 : Int32)) hf ls (lv_sub hl [3, 4, 2, 1, 0] rfl)
theorem u_X6_count_7 {RR : Int32} (X : Cx p s m c cX6_count RX6 5 d) {z : St} (hP : va_P d.1 classes (wM d a z) s.heap) (hr : meth.sig.returnType = (some .int)) (hlk : meth.locks = false) : ∀ (x1 : Int32) (x2 : Int32) (x3 : Int32) (x4 : Int32), l_X6_count_7 z x1 x2 x3 x4 = some RR → WRd p l e { frames := 4, cells := 0, slots := 0, locals := 93 } s m args below meth c RR 5 [(0, .ref (a 0)), (1, .int x1), (2, .int x2), (3, .int x3), (4, .int x4)] 7 [] := by
  unfold l_X6_count_7
  generalize FU = n
  induction n with
  | zero => intro x1 x2 x3 x4 hf; exact absurd (show (none : Option (Int32)) = some RR from hf) (by simp)
  | succ n ih => exact t_X6_count_7 X hP hr hlk ih
def f_X6_count (z : St) (x1 : Int32) : Option (Int32) := l_X6_count_7 z x1 (0 : Int32) (0 : Int32) (0 : Int32)
set_option maxHeartbeats 4000000 in
set_option maxRecDepth 100000 in
theorem t_X6_count {RR : Int32} (X : Cx p s m c cX6_count RX6 5 d) {z : St} (hP : va_P d.1 classes (wM d a z) s.heap) (hr : meth.sig.returnType = (some .int)) (hlk : meth.locks = false) : ∀ (x1 : Int32), f_X6_count z x1 = some RR → WRd p l e { frames := 4, cells := 0, slots := 0, locals := 93 } s m args below meth c RR 5 [(0, .ref (a 0)), (1, .int x1)] 0 [] := by
  intro x1 hf ls hl
  obtain ⟨hx, hb, hml, hown, hE⟩ := id X
  unfold f_X6_count at hf
  refine lv_iconst (v := 0) hx hb dX6_count_0 (by decide) ?_
  refine lv_istore_n (lv' := [(2, .int (0 : Int32)), (0, .ref (a 0)), (1, .int x1)]) hx hb dX6_count_1 rfl hl (by decide) rfl (fun ls hl => ?_)
  refine lv_iconst (v := 0) hx hb dX6_count_2 (by decide) ?_
  refine lv_istore_n (lv' := [(3, .int (0 : Int32)), (2, .int (0 : Int32)), (0, .ref (a 0)), (1, .int x1)]) hx hb dX6_count_3 rfl hl (by decide) rfl (fun ls hl => ?_)
  refine lv_iconst (v := 0) hx hb dX6_count_4 (by decide) ?_
  refine lv_istore (lv' := [(4, .int (0 : Int32)), (3, .int (0 : Int32)), (2, .int (0 : Int32)), (0, .ref (a 0)), (1, .int x1)]) hx hb dX6_count_5 hl (by decide) rfl (fun ls hl => ?_)
  exact u_X6_count_7 X hP hr hlk x1 (0 : Int32) (0 : Int32) (0 : Int32) hf ls (lv_sub hl [3, 4, 2, 1, 0] rfl)
set_option maxHeartbeats 4000000 in
set_option maxRecDepth 100000 in
theorem c_X6_count (l : Launch) (d : G3) (a : Nat → Nat) (z : St) (x1 : Int32) {RR : Int32} (hf : f_X6_count z x1 = some RR) : Met l yX6_count [Cond.code yX6_count cX6_count 5 (some .int)] { frames := 4, cells := 0, slots := 0, locals := 93 } (rpre wM d a z [.ref (a 0), .int x1]) (QcRead RR) 0 0 (fun _ => False) := by
  refine Met.ofW (cc := cX6_count) (maxL := 5) (ret := (some .int)) (by decide) rfl ?_
  intro p e s m args below meth c s₁ B hml hv
  obtain ⟨rfl, hE, hP⟩ := hv
  have X : Cx p s m c cX6_count RX6 5 d := ⟨B.exec, B.bytes, hml, findClass_of_methodNamed B.named, hE⟩
  have hl := lv_entry ([.ref (a 0), .int x1]) (n := 5) (Nat.le_of_ble_eq_true rfl)
  rw [lg_entry_eq]
  generalize (lg_sl ([.ref (a 0), .int x1]) ++ List.replicate (5 - (lg_sl ([.ref (a 0), .int x1])).length) Slot.unset).toArray = ls at hl ⊢
  have hl : lv_has ls 5 [(0, .ref (a 0)), (1, .int x1)] := hl
  exact t_X6_count X hP B.returns B.notSynchronized x1 hf ls hl
end GEN
