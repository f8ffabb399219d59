section
/-! A start that meets every premise of the claim, and at which the law does not return: the printed witness's start, with one class more (an array of int by its kind, found under another name, with a clone of its own) and RULE_AT_FIRST's array of that class -/
def fa_with (s : State) (k : Class) (h : Heap) : State := { s with vm := { s.vm with classes := s.vm.classes.push k }, heap := h }
def fa_cls : Class := { start1.cArr "java/lang/Adversary" 12 .int with methods := #[{ name := "clone", desc := "()Ljava/lang/Object;", sig := { parameters := [], returnType := some (.object "java/lang/Object") }, accessFlags := 0x104, code := none }] }
def fa_about : State := fa_with start1.about fa_cls (start1.about.heap.setIfInBounds 2 { cls := 17, slots := #[.int 1, .int 1, .int 5, .int 60], vm := .none })
theorem fa_find {s : State} {k : Class} {h : Heap} {n : String} {c : ClassId} (hc : s.vm.findClass n = some c) : (fa_with s k h).vm.findClass n = some c := by
  unfold Vm.findClass at hc ⊢
  unfold fa_with
  rw [Array.findIdx?_push, hc]
  rfl
theorem fa_at {s : State} {k : Class} {h : Heap} {c : ClassId} {kc : Class} (hc : s.vm.classes[c]? = some kc) : (fa_with s k h).vm.classes[c]? = some kc := by
  have hl : c < s.vm.classes.size := (Array.getElem?_eq_some_iff.mp hc).1
  unfold fa_with
  rw [Array.getElem?_push_lt hl, ← hc, Array.getElem?_eq_getElem hl]
theorem fa_method {s : State} {k : Class} {h : Heap} {y : MethodName} {meth : Method} (hm : (s.methodNamed? y).bind s.vm.method? = some meth) :
    ((fa_with s k h).methodNamed? y).bind (fa_with s k h).vm.method? = some meth := by
  obtain ⟨m, h1, h2⟩ := Option.bind_eq_some_iff.mp hm
  have h3 : (fa_with s k h).methodNamed? y = some m := by
    unfold State.methodNamed? at h1 ⊢
    obtain ⟨c, hc, h1⟩ := Option.bind_eq_some_iff.mp h1
    obtain ⟨kc, hk, h1⟩ := Option.bind_eq_some_iff.mp h1
    rw [fa_find hc]
    show ((fa_with s k h).vm.classes[c]?.bind _) = _
    rw [fa_at hk]
    exact h1
  have h4 : (fa_with s k h).vm.method? m = some meth := by
    unfold Vm.method? at h2 ⊢
    obtain ⟨kc, hk, h2⟩ := Option.bind_eq_some_iff.mp h2
    rw [fa_at hk]
    exact h2
  rw [h3]
  exact h4
theorem fa_code {s : State} {k : Class} {h : Heap} {a : Array Value} {c : Cond} (hq : su_isCode c = true) (hc : c.before a s = true) : c.before a (fa_with s k h) = true := by
  cases c with
  | code y bytes ml ret =>
    unfold Cond.before Cond.holds at hc ⊢
    unfold Cond.value at hc ⊢
    have h1 := eq_of_beq hc
    obtain ⟨meth, h2, h3⟩ := Option.map_eq_some_iff.mp h1
    rw [fa_method h2, Option.map_some, h3]
    rfl
  | _ => cases hq
def fa_cut (n : Nat) : List Jvm.Cond := (tables_1.drop (160 * n)).take 160
def fa_ok (c : Jvm.Cond) : Bool := su_isCode c || c.before start1.args0 fa_about
set_option maxRecDepth 16384 in
theorem fa_ok_0 : (fa_cut 0).all fa_ok = true := by decide +kernel
set_option maxRecDepth 16384 in
theorem fa_ok_1 : (fa_cut 1).all fa_ok = true := by decide +kernel
set_option maxRecDepth 16384 in
theorem fa_ok_2 : (fa_cut 2).all fa_ok = true := by decide +kernel
set_option maxRecDepth 16384 in
theorem fa_ok_3 : (fa_cut 3).all fa_ok = true := by decide +kernel
set_option maxRecDepth 16384 in
theorem fa_ok_4 : (fa_cut 4).all fa_ok = true := by decide +kernel
set_option maxRecDepth 16384 in
theorem fa_rest : (tables_1.drop 800).isEmpty = true := by decide +kernel
theorem fa_cuts (l : List Jvm.Cond) (h1 : (l.take 160).all fa_ok = true) (h2 : (l.drop 160).all fa_ok = true) : l.all fa_ok = true := by
  rw [← List.take_append_drop 160 l, List.all_append, h1, h2]
  rfl
theorem fa_all_5 : (tables_1.drop 800).all fa_ok = true := by rw [List.isEmpty_iff.mp fa_rest]; rfl
theorem fa_all_4 : (tables_1.drop 640).all fa_ok = true := fa_cuts _ fa_ok_4 (by rw [List.drop_drop]; exact fa_all_5)
theorem fa_all_3 : (tables_1.drop 480).all fa_ok = true := fa_cuts _ fa_ok_3 (by rw [List.drop_drop]; exact fa_all_4)
theorem fa_all_2 : (tables_1.drop 320).all fa_ok = true := fa_cuts _ fa_ok_2 (by rw [List.drop_drop]; exact fa_all_3)
theorem fa_all_1 : (tables_1.drop 160).all fa_ok = true := fa_cuts _ fa_ok_1 (by rw [List.drop_drop]; exact fa_all_2)
theorem fa_all_0 : (tables_1.drop 0).all fa_ok = true := fa_cuts _ fa_ok_0 (by rw [List.drop_drop]; exact fa_all_1)
theorem fa_words : ∀ c ∈ (Cond.code x code maxLocals ret :: tables_1), c.before start1.args0 fa_about = true := by
  intro c hc
  have h0 := start1.words c hc
  rcases List.mem_cons.mp hc with h | h
  · rw [h] at h0 ⊢
    exact fa_code rfl h0
  · have h1 := List.all_eq_true.mp fa_all_0 c h
    unfold fa_ok at h1
    cases hq : su_isCode c with
    | true => exact fa_code hq h0
    | false =>
      rw [hq] at h1
      exact h1
set_option maxRecDepth 16384 in
theorem fa_start : AtStart classFile x code maxLocals ret World_1 tables_1 room_1 Calls_1 rest_1 Pre_1 launch0 start1.p0 start1.e0 fa_about ⟨0, 0⟩ start1.args0 Lib.HandBits.below0 := by
  obtain ⟨hL, hW, ha, hl, hc1, hc2, -, -, -, -, hcalls, -, -⟩ := start1.atStart
  refine ⟨hL, hW, ha, hl, hc1, hc2, rfl, by decide +kernel, by decide +kernel, (Spec.applies_iff rfl).mpr ⟨rfl, rfl, rfl, by decide +kernel, by decide +kernel, by decide +kernel, launch0.hasRoom_least _ room_1 (by decide +kernel) (by decide +kernel) (by decide +kernel) (by decide +kernel) (by decide +kernel) (by decide +kernel), atoms_intro fa_words⟩, hcalls, ?_, ?_⟩
  · exact (show rest_1_c.before start1.args0 fa_about = true by decide +kernel)
  · exact (show (Cond.and given_1 narrow_1).before start1.args0 fa_about = true by decide +kernel)
def fa_busy (s : State) : Bool := Nat.blt Lib.HandBits.below0.length s.frames.length && match s.frames with
  | .throwing _ :: _ => false
  | _ => true
def fa_look : Nat → State → Bool
  | 0, s => match s.status with
    | .running => false
    | _ => true
  | n + 1, s => fa_busy s && fa_look n (stepThread start1.p0.tables start1.e0 s).1
def fa_walk : Nat → State → Bool
  | 0, _ => false
  | n + 1, s => match s.status with
    | .running => fa_busy s && fa_walk n (stepThread start1.p0.tables start1.e0 s).1
    | _ => true
theorem fa_walk_look : ∀ (N : Nat) (s : State), fa_walk N s = true → ∃ m, fa_look m s = true
  | 0, s, h => by
    unfold fa_walk at h
    cases h
  | N + 1, s, h => by
    unfold fa_walk at h
    split at h
    · rw [Bool.and_eq_true] at h
      obtain ⟨m, hm⟩ := fa_walk_look N _ h.2
      refine ⟨m + 1, ?_⟩
      unfold fa_look
      rw [h.1, hm]
      rfl
    · rename_i hq
      refine ⟨0, ?_⟩
      unfold fa_look
      split
      · rename_i h2
        exact absurd h2 hq
      · rfl
set_option maxRecDepth 16384 in
theorem fa_seen : fa_walk 70 fa_about = true := by decide +kernel
theorem fa_busy_not {s : State} (h : fa_busy s = true) (o : Outcome) : ¬ Ended s Lib.HandBits.below0 o := by
  intro he
  unfold fa_busy at h
  rw [Bool.and_eq_true] at h
  obtain ⟨h1, h2⟩ := h
  have h1' : Lib.HandBits.below0.length < s.frames.length := Nat.le_of_ble_eq_true h1
  cases o with
  | threw a =>
    have he' : s.frames = Frame.throwing a :: Lib.HandBits.below0 := he
    rw [he'] at h2
    cases h2
  | returned v =>
    have hlen : s.frames.length = 1 := by rw [show s.frames = _ from he]; rfl
    rw [hlen] at h1'
    exact absurd h1' (Nat.lt_irrefl _)
theorem fa_never : ∀ (N : Nat) (s : State), fa_look N s = true → ∀ (n : Nat) (o : Outcome), (stepsAlone start1.p0.tables start1.e0 n s).status = Status.running → ¬ Ended (stepsAlone start1.p0.tables start1.e0 n s) Lib.HandBits.below0 o
  | 0, s, h, n, o, hr => by
    have hs : s.status ≠ Status.running := by
      intro hq
      unfold fa_look at h
      rw [hq] at h
      cases h
    have hk : stepsAlone start1.p0.tables start1.e0 n s = s := by
      cases n with
      | zero => rfl
      | succ n =>
        unfold stepsAlone
        split
        · rename_i hq _ _
          exact absurd hq hs
        · rfl
    rw [hk] at hr
    exact absurd hr hs
  | N + 1, s, h, n, o, hr => by
    unfold fa_look at h
    rw [Bool.and_eq_true] at h
    cases n with
    | zero => exact fa_busy_not h.1 o
    | succ n =>
      unfold stepsAlone at hr ⊢
      split at hr
      · exact fa_never N _ h.2 n o hr
      · exact fa_busy_not h.1 o
theorem fa_refuted : ¬ Claimed_1_1 := by
  intro hC
  obtain ⟨hL, hW, ha, hl, hc1, hc2, hf, haf, hhf, hap, hcalls, hrest, hpre⟩ := fa_start
  obtain ⟨n, o, _, hr, he, _⟩ := hC launch0 rfl hL hW start1.p0 start1.e0 ha hc1 hc2 fa_about ⟨0, 0⟩ start1.args0 Lib.HandBits.below0 hf haf hhf hap ⟨hcalls, hrest, hpre⟩
  obtain ⟨N, hk⟩ := fa_walk_look _ _ fa_seen
  exact fa_never N _ hk n o hr he
set_option maxRecDepth 16384 in
theorem fa_control : fa_walk 70 start1.about = false := by decide +kernel
set_option maxRecDepth 16384 in
theorem fa_control2 : (match (stepsAlone start1.p0.tables start1.e0 70 start1.about).frames with | .java f :: _ => f.method.cls == 5 || f.method.cls == 6 || f.method.cls == 2 | _ => false) = true := by decide +kernel
def fa_trail : Nat → State → State → State → Bool
  | 0, _, _, _ => false
  | n + 1, a, b, s => match s.status with
    | .running => fa_trail n b s (stepThread start1.p0.tables start1.e0 s).1
    | .stopped _ => match a.frames with
      | .java f :: _ => f.method.cls == 4 && f.method.idx == 0 && f.pc == 8
      | _ => false
    | _ => false
set_option maxRecDepth 16384 in
theorem fa_place : fa_trail 70 fa_about fa_about fa_about = true := by decide +kernel
end
