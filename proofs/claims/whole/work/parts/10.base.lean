abbrev St : Type := (Nat → Int32) × (Nat → Nat → Int32)
def up2 (F : Nat → Nat → Int32) (k j : Nat) (v : Int32) : Nat → Nat → Int32 := fun q => if q = k then upd (F q) j v else F q
/-- a scalar of the picture is put -/
def pS (z : St) (k : Nat) (v : Int32) : St := (upd z.1 k v, z.2)
/-- a place of a row of the picture is put -/
def pA (z : St) (k j : Nat) (v : Int32) : St := (z.1, up2 z.2 k j v)
def ck {α : Type} (n : Nat) (i : Int32) (k : Option α) : Option α := if i < 0 ∨ n ≤ i.toNatClampNeg then none else k
theorem ck_some {α : Type} {n : Nat} {i : Int32} {k : Option α} {r : α} (h : ck n i k = some r) : vp_in i n ∧ k = some r := by
  unfold ck at h
  by_cases q : i < 0 ∨ n ≤ i.toNatClampNeg
  · rw [if_pos q] at h; cases h
  · rw [if_neg q] at h; exact ⟨q, h⟩
theorem vp_lt {n : Nat} {i : Int32} (h : vp_in i n) : i.toNatClampNeg < n := Nat.not_le.mp fun q => h (Or.inr q)
def bz {α : Type} (v : Int32) (k : Option α) : Option α := if v = 0 ∨ v = 1 then k else none
theorem bz_some {α : Type} {v : Int32} {k : Option α} {r : α} (h : bz v k = some r) : narrow .boolean (.int v) = .int v ∧ k = some r := by
  unfold bz at h
  by_cases q : v = 0 ∨ v = 1
  · rw [if_pos q] at h
    refine ⟨?_, h⟩
    rcases q with rfl | rfl <;> rfl
  · rw [if_neg q] at h; cases h
theorem bnd {α β : Type} {o : Option α} {g : α → Option β} {R : β} (h : o.bind g = some R) : ∃ r, o = some r ∧ g r = some R := by
  cases o with
  | none => cases h
  | some r => exact ⟨r, rfl, h⟩
def iter {K : Type} (z : K) (b : K → K) : Nat → K
  | 0 => z
  | n + 1 => b (iter z b n)
def FU : Nat := 1000
theorem sw3 {x : Int32} (h0 : ¬ x = 0) (h1 : ¬ x = 1) (h2 : ¬ x = 2) (h3 : ¬ x = 3) : x.toInt < 0 ∨ 3 < x.toInt := by
  have e0 := lv_neT (a := 0) h0 (by decide)
  have e1 := lv_neT (a := 1) h1 (by decide)
  have e2 := lv_neT (a := 2) h2 (by decide)
  have e3 := lv_neT (a := 3) h3 (by decide)
  omega
theorem sw4 {x : Int32} (h0 : ¬ x = 0) (h1 : ¬ x = 1) (h2 : ¬ x = 2) (h3 : ¬ x = 3) (h4 : ¬ x = 4) : x.toInt < 0 ∨ 4 < x.toInt := by
  have e0 := lv_neT (a := 0) h0 (by decide)
  have e1 := lv_neT (a := 1) h1 (by decide)
  have e2 := lv_neT (a := 2) h2 (by decide)
  have e3 := lv_neT (a := 3) h3 (by decide)
  have e4 := lv_neT (a := 4) h4 (by decide)
  omega
/-- which words of the tables stay when the machine warms up -/
def mv : Cond → Bool
  | .fieldLinkNest .. => true
  | .methodLinkNest .. => true
  | .castable .. => true
  | w => goodWord w
def TB : List Cond := lw_tbl.filter mv
abbrev classes : List vw_C := [(RX0, TX0, 7), (RX1, TX1, 7), (RX2, TX2, 2), (RX3, TX3, 8), (RX4, TX4, 1), (RX5, TX5, 6), (RX6, TX6, 28)]
abbrev G3 : Type := va_G × ClassId × ClassId × ClassId
def tysG (d : G3) : List (ClassId × FieldType) := [(d.2.1, .int), (d.2.2.1, .boolean), (d.2.2.2, .object RX3)]
/-- what holds of the machine at every method's start -/
def Ev (d : G3) (s : State) : Prop := (∀ w ∈ TB, ∀ a, w.before a s = true) ∧ va_K d.1 classes (tysG d) s
theorem mv_warm {w : Cond} (h : mv w = true) {s U : State} (hW : s.WarmedH U.vm) (hw : ∀ a, w.before a s = true) : ∀ a, w.before a U = true := by
  intro a
  cases w <;> first
    | exact word_at hW (good_of_word h) (hw a)
    | exact va_Nw.use rfl (va_Nw.warmF hW (va_Nw.of rfl (hw a)))
    | exact va_Nw.use rfl (va_Nw.warmM hW (va_Nw.of rfl (hw a)))
    | exact va_Nw.use rfl (va_Nw.warmC hW (va_Nw.of rfl (hw a)))
theorem Ev.warm {d : G3} {s U : State} (hE : Ev d s) (hW : s.WarmedH U.vm) : Ev d U :=
  ⟨fun w hw => mv_warm (List.mem_filter.mp hw).2 hW (hE.1 w hw), va_K.moved hW.alike hE.2⟩
theorem Ev.calling {d : G3} {U : State} (hE : Ev d U) (g : JFrame) (mk : MethodId) (a : Array Value) : Ev d (U.calling g mk a) :=
  Ev.warm (U := U.calling g mk a) hE (State.WarmedH.refl U)
theorem hTs {d : G3} {s : State} {args : Array Value} (hE : Ev d s) : ∀ w ∈ TB, w.before args s = true := fun w h => hE.1 w h args
theorem good1 {w : Cond} (h : w ∈ TB) (hk : (w.onTables && w.keeps) = true) : GoodIn TB [w] := fun x hx => by
  obtain rfl := List.mem_singleton.mp hx
  exact ⟨h, Or.inl hk⟩
def Inj (n : Nat) (a : Nat → Nat) : Prop := ∀ i j, i < n → j < n → a i = a j → i = j
def AD (n : Nat) (a : Nat → Nat) (q : Nat) : Prop := ∃ k, k < n ∧ q = a k
theorem D_of {ws : va_W} {n : Nat} {a : Nat → Nat} (h : ∀ k q, ws[k]? = some q → k < n ∧ q.1 = a k) (hi : Inj n a) : va_D (AD n a) ws :=
  ⟨fun i j p q hp hq e => hi i j (h i p hp).1 (h j q hq).1 (by rw [← (h i p hp).2, ← (h j q hq).2]; exact e), fun k q hq => ⟨k, (h k q hq).1, (h k q hq).2⟩⟩
def Cx (p : Program) (s : State) (m : MethodId) (c : Code) (cc : ByteArray) (own : String) (nL : Nat) (d : G3) : Prop :=
  p.tables.exec = Jvm.exec ∧ c.code = cc ∧ c.maxLocals = nL ∧ s.vm.findClass own = some m.cls ∧ Ev d s
abbrev Wd : Type := G3 → (Nat → Nat) → St → va_W
def rpre (w : Wd) (d : G3) (a : Nat → Nat) (z : St) (av : List Value) : Array Value → State → Prop := va_Pc av (fun U => Ev d U ∧ va_P d.1 classes (w d a z) U.heap)
def wpre (w : Wd) (n : Nat) (d : G3) (a : Nat → Nat) (z : St) (av : List Value) : Array Value → State → Prop := va_Pc av (fun U => Ev d U ∧ va_P d.1 classes (w d a z) U.heap ∧ Inj n a)
def QW (w : Wd) (n : Nat) (d : G3) (a : Nat → Nat) (R : Int32 × St) : Array Value → State → Outcome → State → Prop := fun _ st oc t => oc = .returned (some (.int R.1)) ∧ va_P d.1 classes (w d a R.2) t.heap ∧ va_F (AD n a) st t
def QV (w : Wd) (n : Nat) (d : G3) (a : Nat → Nat) (R : St) : Array Value → State → Outcome → State → Prop := fun _ st oc t => oc = .returned none ∧ va_P d.1 classes (w d a R) t.heap ∧ va_F (AD n a) st t
theorem rblind {w : Wd} {d : G3} {a : Nat → Nat} {z : St} {av : List Value} : FrameBlind (rpre w d a z av) := fun a' U g mk h => ⟨h.1, h.2.1.calling g mk a', h.2.2⟩
theorem wblind {w : Wd} {n : Nat} {d : G3} {a : Nat → Nat} {z : St} {av : List Value} : FrameBlind (wpre w n d a z av) := fun a' U g mk h => ⟨h.1, h.2.1.calling g mk a', h.2.2.1, h.2.2.2⟩
section CALLS
variable {p : Program} {l : Launch} {e : Env} {R : Room} {s : State} {m : MethodId} {args : Array Value} {below : List Frame} {meth : Method} {c : Code} {H : Heap} {locs : List Loc} {Q : State → Prop} {cc : ByteArray} {nL pc : Nat} {ls : Array Slot} {rest st : List Value} {own C host : String} {idx n maxL N : Nat} {y : MethodName} {bytes : ByteArray} {ret : Option FieldType} {rm : Room} {w : Wd} {d : G3} {a : Nat → Nat} {z : St} {As : List Value} {b : Nat} {r : Int32} {RR : Int32 × St} {RZ : St}
theorem run_of {cells slots mc ms : Nat} {g : JFrame} {Qa : State → Outcome → State → Prop} {free : Addr → Prop} (h : va_Run p l e R s m args below meth c H locs cells slots mc ms g rest Qa free) : CallRun p l e R s m args below meth c H locs cells slots mc ms g rest Qa free := by
  intro T hT X
  obtain ⟨v, st₀, t, T', L, h0, X', hL, e1, e2, hq, stp⟩ := h T hT X
  exact ⟨v, st₀, t, T', L, h0, X', hL, e1, hq, stp⟩
/-- a call that only reads -/
theorem rdV (X : Cx p s m c cc own nL d) (hM : Met l y [Cond.code y bytes maxL ret] rm (rpre w d a z (.ref b :: As)) (QcRead r) 0 0 (fun _ => False)) (cw : CallW R s args own C idx y bytes maxL ret [Cond.code y bytes maxL ret] rm 0 0 n) (hP : va_P d.1 classes (w d a z) H)
    (hb : ∃ cellB : Cell, H[b]? = some cellB ∧ cellB.vm.isStatics = false ∧ s.vm.findClass C = some cellB.cls) (hn : As.length = n) (hsz : ls.size = nL) (hst : st = As.reverse ++ .ref b :: rest) (hw : (rest.map fun v => v.category).sum ≤ 8) (hdg : decode cc pc = .ok (.invokevirtual idx, 3))
    (kk : W p l e R s m args below meth c H locs 0 0 Q (F0 m (pc + 3) ls (.int r :: rest))) : W p l e R s m args below meth c H locs 0 0 Q (F0 m pc ls st) :=
  W.callR (W.runV (As := As) (rest := rest) (b := b) ⟨X.1, X.2.1, X.2.2.1, X.2.2.2.1, hTs X.2.2.2.2⟩ hM cw ⟨rblind, hb, fun U hU hW => ⟨rfl, X.2.2.2.2.warm hW, by rw [hU]; exact hP⟩⟩ rfl hn hsz hst (lv_room hw) hdg ⟨Nat.zero_le _, Nat.zero_le _⟩) kk
theorem rdS (X : Cx p s m c cc own nL d) (hM : Met l y [Cond.code y bytes maxL ret] rm (rpre w d a z As) (QcRead r) 0 0 (fun _ => False)) (cw : CallB R s args own idx y bytes maxL ret [Cond.code y bytes maxL ret] rm 0 0 n ∧ (Cond.static y).before args s = true) (hP : va_P d.1 classes (w d a z) H)
    (hn : As.length = n) (hsz : ls.size = nL) (hst : st = As.reverse ++ rest) (hw : (rest.map fun v => v.category).sum ≤ 8) (hdg : decode cc pc = .ok (.invokestatic idx, 3))
    (kk : W p l e R s m args below meth c H locs 0 0 Q (F0 m (pc + 3) ls (.int r :: rest))) : W p l e R s m args below meth c H locs 0 0 Q (F0 m pc ls st) :=
  W.callR (W.runS (As := As) (rest := rest) ⟨X.1, X.2.1, X.2.2.1, X.2.2.2.1, hTs X.2.2.2.2⟩ hM cw ⟨rblind, fun U hU hW => ⟨rfl, X.2.2.2.2.warm hW, by rw [hU]; exact hP⟩⟩ rfl hn hsz hst (lv_room hw) hdg ⟨Nat.zero_le _, Nat.zero_le _⟩) kk
theorem rdSN (X : Cx p s m c cc own nL d) (hM : Met l y [Cond.code y bytes maxL ret] rm (rpre w d a z As) (QcRead r) 0 0 (fun _ => False)) (cw : va_CN R s args own idx y host bytes maxL ret [Cond.code y bytes maxL ret] rm 0 0 n ∧ (Cond.static y).before args s = true ∧ True) (hP : va_P d.1 classes (w d a z) H)
    (hn : As.length = n) (hsz : ls.size = nL) (hst : st = As.reverse ++ rest) (hw : (rest.map fun v => v.category).sum ≤ 8) (hdg : decode cc pc = .ok (.invokestatic idx, 3))
    (kk : W p l e R s m args below meth c H locs 0 0 Q (F0 m (pc + 3) ls (.int r :: rest))) : W p l e R s m args below meth c H locs 0 0 Q (F0 m pc ls st) :=
  W.callR (run_of (va_runSN (As := As) (rest := rest) ⟨X.1, X.2.1, X.2.2.1, X.2.2.2.1, hTs X.2.2.2.2⟩ hM cw ⟨rblind, fun U hU hW => ⟨rfl, X.2.2.2.2.warm hW, by rw [hU]; exact hP⟩⟩ rfl hn hsz hst (lv_room hw) hdg ⟨Nat.zero_le _, Nat.zero_le _⟩)) kk
/-- a call that writes -/
theorem wrV (X : Cx p s m c cc own nL d) (hM : Met l y [Cond.code y bytes maxL ret] rm (wpre w N d a z (.ref b :: As)) (QW w N d a RR) 0 0 (AD N a)) (cw : CallW R s args own C idx y bytes maxL ret [Cond.code y bytes maxL ret] rm 0 0 n) (hP : va_P d.1 classes (w d a z) H) (hJ : Inj N a) (hS : va_S (AD N a) s.heap H locs)
    (hb : ∃ cellB : Cell, H[b]? = some cellB ∧ cellB.vm.isStatics = false ∧ s.vm.findClass C = some cellB.cls) (hn : As.length = n) (hsz : ls.size = nL) (hst : st = As.reverse ++ .ref b :: rest) (hw : (rest.map fun v => v.category).sum ≤ 8) (hdg : decode cc pc = .ok (.invokevirtual idx, 3))
    (kk : ∀ (H1 : Heap) (locs1 : List Loc), va_P d.1 classes (w d a RR.2) H1 → va_S (AD N a) s.heap H1 locs1 → W p l e R s m args below meth c H1 locs1 0 0 Q (F0 m (pc + 3) ls (.int RR.1 :: rest))) : W p l e R s m args below meth c H locs 0 0 Q (F0 m pc ls st) := by
  have hr := va_runV (p := p) (l := l) (e := e) (R := R) (m := m) (below := below) (meth := meth) (locs := locs) (cells := 0) (slots := 0) (g := F0 m pc ls st) (As := As) (rest := rest) (b := b) ⟨X.1, X.2.1, X.2.2.1, X.2.2.2.1, hTs X.2.2.2.2⟩ hM cw ⟨wblind, hb, fun U hU hW => ⟨rfl, X.2.2.2.2.warm hW, by rw [hU]; exact hP, hJ⟩⟩ rfl hn hsz hst (lv_room hw) hdg ⟨Nat.zero_le _, Nat.zero_le _⟩
  intro T hT X'
  obtain ⟨v, st₀, t, T', L, h0, X2, hL, e1, e2, ⟨hv, hp, hz, hk⟩, stp⟩ := hr T hT X'
  cases hv
  rw [h0] at hz hk
  obtain ⟨t2, a1, b1⟩ := kk T'.heap (locs ++ L) (by rw [e1]; exact hp)
    ⟨Nat.le_trans hS.1 (by rw [e1]; exact hz), fun q h1 h2 => by rw [e1, hk q (Nat.lt_of_lt_of_le h1 hS.1) h2]; exact hS.2.1 q h1 h2, fun q hq => by
      rcases List.mem_append.mp hq with h | h
      · exact hS.2.2 q h
      · exact hL q h⟩ T' rfl X2
  exact ⟨t2, stp t2 a1, b1⟩
theorem wrVv (X : Cx p s m c cc own nL d) (hM : Met l y [Cond.code y bytes maxL ret] rm (wpre w N d a z (.ref b :: As)) (QV w N d a RZ) 0 0 (AD N a)) (cw : CallW R s args own C idx y bytes maxL ret [Cond.code y bytes maxL ret] rm 0 0 n) (hP : va_P d.1 classes (w d a z) H) (hJ : Inj N a) (hS : va_S (AD N a) s.heap H locs)
    (hb : ∃ cellB : Cell, H[b]? = some cellB ∧ cellB.vm.isStatics = false ∧ s.vm.findClass C = some cellB.cls) (hn : As.length = n) (hsz : ls.size = nL) (hst : st = As.reverse ++ .ref b :: rest) (hw : (rest.map fun v => v.category).sum ≤ 8) (hdg : decode cc pc = .ok (.invokevirtual idx, 3))
    (kk : ∀ (H1 : Heap) (locs1 : List Loc), va_P d.1 classes (w d a RZ) H1 → va_S (AD N a) s.heap H1 locs1 → W p l e R s m args below meth c H1 locs1 0 0 Q (F0 m (pc + 3) ls rest)) : W p l e R s m args below meth c H locs 0 0 Q (F0 m pc ls st) := by
  have hr := va_runV (p := p) (l := l) (e := e) (R := R) (m := m) (below := below) (meth := meth) (locs := locs) (cells := 0) (slots := 0) (g := F0 m pc ls st) (As := As) (rest := rest) (b := b) ⟨X.1, X.2.1, X.2.2.1, X.2.2.2.1, hTs X.2.2.2.2⟩ hM cw ⟨wblind, hb, fun U hU hW => ⟨rfl, X.2.2.2.2.warm hW, by rw [hU]; exact hP, hJ⟩⟩ rfl hn hsz hst (lv_room hw) hdg ⟨Nat.zero_le _, Nat.zero_le _⟩
  intro T hT X'
  obtain ⟨v, st₀, t, T', L, h0, X2, hL, e1, e2, ⟨hv, hp, hz, hk⟩, stp⟩ := hr T hT X'
  cases hv
  rw [h0] at hz hk
  obtain ⟨t2, a1, b1⟩ := kk T'.heap (locs ++ L) (by rw [e1]; exact hp)
    ⟨Nat.le_trans hS.1 (by rw [e1]; exact hz), fun q h1 h2 => by rw [e1, hk q (Nat.lt_of_lt_of_le h1 hS.1) h2]; exact hS.2.1 q h1 h2, fun q hq => by
      rcases List.mem_append.mp hq with h | h
      · exact hS.2.2 q h
      · exact hL q h⟩ T' rfl X2
  exact ⟨t2, stp t2 a1, b1⟩
end CALLS
