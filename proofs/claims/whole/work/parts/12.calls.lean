/-! calls: the callee's walk inside the caller's; both outcomes -/
section XC
theorem xWd.at {s U : State} (h : xWd s) (hW : s.WarmedH U.vm) : xWd U := fun w hw => xWS_warm w hw hW (h w hw)
theorem xWd.use {s : State} {args : Array Value} {w : Cond} (h : xWd s) (hw : w ∈ xWS) : w.before args s = true := xWS_warm w hw (State.WarmedH.refl s) (h w hw)
theorem xSd.use {s : State} {args : Array Value} {w : Cond} (h : xSd s) (hw : w ∈ xSW) : w.before args s = true := by
  have h1 := h.1 w hw
  simp only [xSW, List.mem_cons, List.not_mem_nil, or_false] at hw
  rcases hw with rfl | rfl | rfl | rfl <;> exact h1
theorem xSd.lays {s U : State} {O n d : String} (hW : s.WarmedH U.vm) (hz : xKeepS s.heap U.heap) (h : (Cond.laysStatic O n d).before #[] s = true) : (Cond.laysStatic O n d).before #[] U = true := by
  have h1 : (Cond.laysStatic O n d).before #[] (s.setVm U.vm) = true := Cond.holds_shifted (State.Shifted.of_warmed hW) _ [] rfl h
  simp only [Cond.before, Cond.holds, Cond.value] at h1 ⊢
  rw [show (s.setVm U.vm).vm = U.vm from rfl, show (s.setVm U.vm).fieldFound? O n d = U.fieldFound? O n d from rfl, show (s.setVm U.vm).heap = s.heap from rfl] at h1
  cases hc : U.vm.findClass O with
  | none => simp [hc] at h1
  | some c =>
    cases hf : U.fieldFound? O n d with
    | none => simp [hc, hf] at h1
    | some q =>
      obtain ⟨c', k, i, f⟩ := q
      simp only [hc, hf] at h1 ⊢
      cases hst : k.statics with
      | none => simp [hst] at h1
      | some a =>
        simp only [hst, Option.bind_some] at h1 ⊢
        cases hcell : s.heap[a]? with
        | none => simp [hcell] at h1
        | some cell =>
          have hs : cell.vm.isStatics = true := by
            simp [hcell] at h1
            exact h1.1.1.1.2
          rw [hz a cell hcell hs]
          rw [hcell] at h1
          exact h1
theorem xSd.ref {s U : State} {O n d : String} (hW : s.WarmedH U.vm) (hz : xKeepS s.heap U.heap) (h : (Cond.isRef (.static O n d)).before #[] s = true) : (Cond.isRef (.static O n d)).before #[] U = true := by
  have h1 : (Cond.isRef (.static O n d)).before #[] (s.setVm U.vm) = true := Cond.holds_shifted (State.Shifted.of_warmed hW) _ [] rfl h
  simp only [Cond.before, Cond.holds, Cond.value, Term.eval] at h1 ⊢
  rw [show (s.setVm U.vm).fieldNamed? O n d true = U.fieldNamed? O n d true from rfl, show (s.setVm U.vm).heap = s.heap from rfl] at h1
  cases hf : U.fieldNamed? O n d true with
  | none => simp [hf] at h1
  | some q =>
    obtain ⟨c', k, i⟩ := q
    simp only [hf, Option.bind_eq_bind, Option.bind_some] at h1 ⊢
    cases hst : k.statics with
    | none => simp [hst] at h1
    | some a =>
      simp only [hst, Option.bind_some] at h1 ⊢
      cases hcell : s.heap[a]? with
      | none => simp [hcell] at h1
      | some cell =>
        by_cases hs : cell.vm.isStatics = true
        · rw [hz a cell hcell hs]
          rw [hcell] at h1
          exact h1
        · simp [hcell, hs] at h1
theorem xNo.at {s U : State} (h : xNo s) (hW : s.WarmedH U.vm) : xNo U := by
  intro A hA B hB hAB
  obtain ⟨c, t, q1, q2, q3⟩ := h A hA B hB hAB
  exact ⟨c, t, by rw [hW.alike.findClass]; exact q1, by rw [hW.alike.findClass]; exact q2, by rw [hW.alike.assignable]; exact q3⟩
theorem xSd.at {s U : State} (h : xSd s) (hW : s.WarmedH U.vm) (hz : xKeepS s.heap U.heap) : xSd U := by
  refine ⟨?_, h.2.at hW⟩
  intro w hw
  have h1 := h.1 w hw
  simp only [xSW, List.mem_cons, List.not_mem_nil, or_false] at hw
  rcases hw with rfl | rfl | rfl | rfl
  · exact xSd.lays hW hz h1
  · exact xSd.lays hW hz h1
  · exact xSd.ref hW hz h1
  · exact xSd.ref hW hz h1
theorem xKeepS.rf {H : Heap} : xKeepS H H := fun _ _ h _ => h
theorem xKeepS.trans {H1 H2 H3 : Heap} (h : xKeepS H1 H2) (k : xKeepS H2 H3) : xKeepS H1 H3 := fun a c hc hs => k a c (h a c hc hs) hs
theorem xRep.P {G : xG} {h : xH} {H : Heap} {a : Nat} {e : va_E} (hr : xRep G h H) (he : h.2.2 a = some e) : va_P (gD G) xcl [(a, e)] H := by
  intro k q hk
  have hz : k < 1 := (List.getElem?_eq_some_iff.mp hk).1
  rw [show k = 0 by omega] at hk
  cases hk
  exact (hr.2.2.2.2.2 a e he).2
theorem xRep.lo {G : xG} {h : xH} {H : Heap} {a : Nat} {e : va_E} (hr : xRep G h H) (he : h.2.2 a = some e) : gA G ≤ a := (hr.2.2.2.2.2 a e he).1
theorem xSteps.weaken {tb : Tables} {e : Env} {mid below : List Frame} {a b : State} (h : Steps tb e (mid ++ below) a b) : Steps tb e below a b := by
  obtain ⟨n, hn, w⟩ := h
  exact ⟨n, hn, fun k hk => (w k hk).weaken⟩
set_option maxRecDepth 100000 in
theorem xAr {z d r : Nat} (h : z ≤ 64) (k : 64 * (d + 1) + 256 ≤ r) : z + (64 * d + 256) ≤ r := by omega
/-- the method's code stands in the tables -/
def xHas (M : xM) : Prop := (M.2.2.2.2 = [] ∧ .code M.1 M.2.1 M.2.2.1 M.2.2.2.1 ∈ xWS) ∨ .codeWith M.1 M.2.1 M.2.2.1 M.2.2.2.1 M.2.2.2.2 ∈ xWS
theorem xHas.spec {M : xM} {U : State} (h : xHas M) (hw : xWd U) {mk : MethodId} (hn : U.methodNamed? M.1 = some mk) : ∃ meth c, U.vm.method? mk = some meth ∧ meth.code = some c ∧ c.code = M.2.1 ∧ c.maxLocals = M.2.2.1 ∧ meth.sig.returnType = M.2.2.2.1 ∧ meth.locks = false ∧
    c.exceptionTable.toList.map (fun h => (h.startPc, h.endPc, h.handlerPc, h.catchType)) = M.2.2.2.2 ∧ parseMethodDescriptor M.1.desc = some meth.sig := by
  rcases h with ⟨h0, h⟩ | h
  · obtain ⟨meth, c, q1, q2, q3, q4, q5, q6, q7, q8⟩ := Cond.code_spec hn (hw _ h)
    refine ⟨meth, c, q1, q2, q3, q4, q5, q6, ?_, q8⟩
    rw [h0]
    have : c.exceptionTable = #[] := by simpa using q7
    rw [this]; rfl
  · obtain ⟨m', meth, c, q0, q1, q2, q3, q4, q5, q6, q7, q8⟩ := Cond.codeWith_spec (hw _ h)
    cases hn.symm.trans q0
    exact ⟨meth, c, q1, q2, q3, q4, q6, q7, q5, q8⟩
/-- where a call has come: returned, or thrown, the note over the caller's frame -/
def xCame (T : State) (g : JFrame) (len : Nat) (r : xR) : State := match r with
  | .inl v => T.setTop { g with pc := g.pc + len, stack := v.toList ++ g.stack }
  | .inr a => (T.setTop g).pushFrame (.throwing a)
variable {G : xG} {M M' : xM} {d : Nat} {p : Program} {e : Env} {R : Room} {s : State} {m : MethodId} {args : Array Value} {below : List Frame} {meth : Method} {c : Code} {n0 : Nat} {h : xH} {T : State} {locs : List Loc}
set_option maxHeartbeats 1000000 in
theorem xBody (X : Stand p (gL G) e R s m args below meth c T locs (h.1 - s.heap.size) (h.2.1 - n0)) (hF : xFix G M (d + 1) p R s m meth c n0) (hr : xRep G h T.heap) (hz : xKeepS s.heap T.heap) (ho : ∀ q ∈ locs, gA G ≤ q.base) (h1 : s.heap.size ≤ h.1) (h2 : n0 ≤ h.2.1)
    (hc : xHas M') (hpl : plainFor M'.1 = true) {mk : MethodId} (hn : T.methodNamed? M'.1 = some mk) {As : List Value} (hlen : (lg_sl As).length ≤ M'.2.2.1)
    {Qc : xR → xH → Prop} (hK : EX G M' d 0 (lv_args 0 As) [] h Qc)
    {g : JFrame} (hg : g.method = m) (hsize : g.locals.size = c.maxLocals) (hW : 2 * g.monitorRoom + (g.stack.map fun v => v.category).sum + (M'.2.2.1 + 11) ≤ 64) {ig : Instr} {len : Nat} (hdg : decode c.code g.pc = .ok (ig, len)) :
    ∃ (r : xR) (h' : xH) (T' : State) (L : List Loc), Qc r h' ∧ xRep G h' T'.heap ∧ xKeepS s.heap T'.heap ∧ s.heap.size ≤ h'.1 ∧ n0 ≤ h'.2.1 ∧ (∀ q ∈ locs ++ L, gA G ≤ q.base) ∧
      Stand p (gL G) e R s m args below meth c T' (locs ++ L) (h'.1 - s.heap.size) (h'.2.1 - n0) ∧ Steps p.tables e below (doInvoke e (T.setTop g) [] mk As.toArray).1 (xCame T' g len r) := by
  obtain ⟨f1, f2, f3, f4, f5, f6, f7, f8, f9, f10, f11, f12, f13, f14, f15, f16⟩ := hF
  have hWT : s.WarmedH T.vm := X.warmed
  have hwT : xWd T := f9.at hWT
  obtain ⟨methk, ck, q2, q3, q4, q5, q7, q8, q6, q9⟩ := hc.spec hwT hn
  have hszT : T.heap.size = h.1 := hr.1
  have hb1 := hr.2.1
  have hb2 := hr.2.2.1
  have hloc : 2 * g.monitorRoom + (g.stack.map fun v => v.category).sum + (ck.maxLocals + 11) + (64 * d + 256) ≤ R.locals := by
    rw [q5]
    exact xAr hW f14
  obtain ⟨Y, hent⟩ := X.into hg hsize hdg As.toArray (R' := { frames := d + 16, locals := 64 * d + 256, cells := gC G - h.1, slots := gS G - h.2.1 }) q2 q3 q8 (State.plainMethod.of_named (s := T) hpl hn q2)
    (by show d + 16 + 1 ≤ R.frames; omega) hloc (by show _ + (gC G - h.1) ≤ R.cells; omega) (by show _ + (gS G - h.2.1) ≤ R.slots; omega)
  obtain ⟨Tn, hTn⟩ : ∃ z, z = (T.setTop g).pushFrame (.java (entryFrame mk As.toArray ck.maxLocals)) := ⟨_, rfl⟩
  rw [← hTn] at Y
  simp only [← hTn] at hent
  have hheapN : Tn.heap = T.heap := by rw [hTn]; simp [State.pushFrame, State.setFrames, State.setTop, State.modifyTopJava]
  have hheapS : (T.calling g mk As.toArray).heap = T.heap := rfl
  have hvmS : (T.calling g mk As.toArray).vm = T.vm := rfl
  have hWS : T.WarmedH (T.calling g mk As.toArray).vm := by rw [hvmS]; exact State.WarmedH.refl T
  have hsWS : s.WarmedH (T.calling g mk As.toArray).vm := by rw [hvmS]; exact hWT
  have hFk : xFix G M' d p { frames := d + 16, locals := 64 * d + 256, cells := gC G - h.1, slots := gS G - h.2.1 } (T.calling g mk As.toArray) mk methk ck h.2.1 := by
    refine ⟨f1, q4, q5, q7, q8, q6, ?_, q2, hwT.at hWS, xSd.at f10 hsWS hz, State.isArrayOf_alike hsWS.alike f11, va_K.moved hsWS.alike f12, Nat.le_refl _, Nat.le_refl _, ?_, ?_⟩
    · show T.methodNamed? M'.1 = some mk; exact hn
    · show gC G ≤ T.heap.size + (gC G - h.1); omega
    · show gS G ≤ h.2.1 + (gS G - h.2.1); omega
  have hl0 := lv_entry As hlen
  have key := hK p e _ (T.calling g mk As.toArray) mk As.toArray (.java g :: below) methk ck h.2.1 _ T.heap [] hFk hl0 hr xKeepS.rf (fun q hq => by cases hq) (by rw [hheapS, hszT]; exact Nat.le_refl _) (Nat.le_refl _)
  have e1 : h.1 - (T.calling g mk As.toArray).heap.size = 0 := by rw [hheapS, hszT]; exact Nat.sub_self _
  have e2 : h.2.1 - h.2.1 = 0 := Nat.sub_self _
  rw [e1, e2] at key
  obtain ⟨t, st, r, h', L, hq, hr', hz', hrun, hend, hWt, hsame, hL, g1, g2⟩ := key Tn hheapN Y
  have e3 : (T.calling g mk As.toArray).heap.size = h.1 := by rw [hheapS]; exact hszT
  rw [e3] at g1 hsame
  have hst : Steps p.tables e below (doInvoke e (T.setTop g) [] mk As.toArray).1 t := by
    rw [hent [], q5, lg_entry_eq]
    exact xSteps.weaken (mid := [.java g]) st
  have hcell : h.1 - s.heap.size + (h'.1 - h.1) = h'.1 - s.heap.size := by omega
  have hslot : h.2.1 - n0 + (h'.2.1 - h.2.1) = h'.2.1 - n0 := by omega
  have hLL : ∀ q ∈ locs ++ L, gA G ≤ q.base := fun q hq' => by
    rcases List.mem_append.mp hq' with a | a
    · exact ho q a
    · exact hL q a
  have hzz : xKeepS s.heap t.heap := hz.trans hz'
  cases r with
  | inl v =>
    obtain ⟨T', X', -, -, ht⟩ := X.outOf hg hdg hend hWt hsame
    rw [hcell, hslot] at X'
    have hh : T'.heap = t.heap := by rw [ht]; simp [State.setTop, State.modifyTopJava]
    exact ⟨.inl v, h', T', L, hq, by rw [hh]; exact hr', by rw [hh]; exact hzz, by omega, by omega, hLL, X', by rw [show xCame T' g len (.inl v) = t from ht.symm]; exact hst⟩
  | inr a =>
    obtain ⟨T', X', -, -, ht⟩ := X.outOfThrown hg hend hWt hsame
    rw [hcell, hslot] at X'
    have hh : T'.heap = t.heap := by rw [ht]; simp [State.pushFrame, State.setFrames, State.setTop, State.modifyTopJava]
    exact ⟨.inr a, h', T', L, hq, by rw [hh]; exact hr', by rw [hh]; exact hzz, by omega, by omega, hLL, X', by rw [show xCame T' g len (.inr a) = t from ht.symm]; exact hst⟩
/-- what is asked of a throw at pc: it leaves the method, or goes to a row of its table -/
def xThr (G : xG) (M : xM) (d pc : Nat) (lv : List (Nat × Value)) (h : xH) (Q : xR → xH → Prop) (a : Addr) : Prop :=
  ∀ (p : Program) (e : Env) (R : Room) (s : State) (m : MethodId) (args : Array Value) (below : List Frame) (meth : Method) (c : Code) (n0 : Nat) (ls : Array Slot) (locs : List Loc) (T : State) (st : List Value),
    xFix G M d p R s m meth c n0 → lv_has ls M.2.2.1 lv → xRep G h T.heap → xKeepS s.heap T.heap → (∀ q ∈ locs, gA G ≤ q.base) → s.heap.size ≤ h.1 → n0 ≤ h.2.1 →
    Stand p (gL G) e R s m args below meth c T locs (h.1 - s.heap.size) (h.2.1 - n0) → ∃ t, Steps p.tables e below ((T.setTop (F0 m pc ls st)).pushFrame (.throwing a)) t ∧ xEnd G s below n0 Q t
/-- no row takes it -/
theorem xThr.out {G : xG} {M : xM} {d pc : Nat} {lv : List (Nat × Value)} {h : xH} {Q : xR → xH → Prop} {a : Addr} (hno : M.2.2.2.2 = []) (hq : Q (.inr a) h) : xThr G M d pc lv h Q a := by
  intro p e R s m args below meth c n0 ls locs T st hF hl hr hz ho h1 h2 X
  have hlocks : meth.locks = false := hF.2.2.2.2.1
  have hex := hF.2.2.2.2.2.1
  rw [hno] at hex
  have hex : c.exceptionTable.toList = [] := List.map_eq_nil_iff.mp hex
  obtain ⟨w, hrun, hended, hW, hframe⟩ := X.leaveThrown a (g := F0 m pc ls st) rfl rfl rfl (fun x hx => by rw [hex] at hx; cases hx)
  exact ⟨_, w, .inr a, h, locs, hq, hr, hz, hrun, hended, hW, hframe, ho, h1, h2⟩
/-- behind the invoking instruction's own linking: the call, and what comes of it -/
theorem xAfter {G : xG} {M M' : xM} {d pc : Nat} {lv : List (Nat × Value)} {st : List Value} {h : xH} {Q Qc : xR → xH → Prop} {p : Program} {e : Env} {R : Room} {s : State} {m : MethodId} {args : Array Value} {below : List Frame} {meth : Method} {c : Code} {n0 : Nat} {T : State} {locs : List Loc} {ls : Array Slot}
    (X : Stand p (gL G) e R s m args below meth c T locs (h.1 - s.heap.size) (h.2.1 - n0)) (hF : xFix G M (d + 1) p R s m meth c n0) (hl : lv_has ls M.2.2.1 lv) (hr : xRep G h T.heap) (hz : xKeepS s.heap T.heap) (ho : ∀ q ∈ locs, gA G ≤ q.base) (h1 : s.heap.size ≤ h.1) (h2 : n0 ≤ h.2.1)
    (hc : xHas M') (hpl : plainFor M'.1 = true) {mk : MethodId} (hn : T.methodNamed? M'.1 = some mk) {As : List Value} (hlen : (lg_sl As).length ≤ M'.2.2.1) (hK : EX G M' d 0 (lv_args 0 As) [] h Qc)
    (hW : (st.map fun v => v.category).sum + (M'.2.2.1 + 11) ≤ 64) {ig : Instr} (hdg : decode M.2.1 pc = .ok (ig, 3))
    (kr : ∀ v h', Qc (.inl v) h' → EX G M (d + 1) (pc + 3) lv (v.toList ++ st) h' Q) (kt : ∀ a h', Qc (.inr a) h' → xThr G M (d + 1) pc lv h' Q a) :
    ∃ t, Steps p.tables e below (doInvoke e (T.setTop (F0 m pc ls st)) [] mk As.toArray).1 t ∧ xEnd G s below n0 Q t := by
  obtain ⟨r, h', T', L, hq, hr', hz', g1, g2, hL, X', hst⟩ := xBody X hF hr hz ho h1 h2 hc hpl hn hlen hK (g := F0 m pc ls st) rfl (hl.1.trans hF.2.2.1.symm) (by simpa [JFrame.monitorRoom] using hW) (ig := ig) (len := 3) (by rw [hF.2.1]; exact hdg)
  cases r with
  | inl v =>
    obtain ⟨t, a1, b1⟩ := kr v h' hq p e R s m args below meth c n0 ls T'.heap (locs ++ L) hF hl hr' hz' hL g1 g2 T' rfl X'
    exact ⟨t, hst.trans a1, b1⟩
  | inr a =>
    obtain ⟨t, a1, b1⟩ := kt a h' hq p e R s m args below meth c n0 ls (locs ++ L) T' st hF hl hr' hz' hL g1 g2 X'
    exact ⟨t, hst.trans a1, b1⟩
/-- what a call's place in the code needs of the tables -/
def xLk (own : String) (index : Nat) (M' : xM) (n : Nat) : Prop := (.methodLink own index M'.1 ∈ xWS ∨ ∃ host, .methodLinkNest own index M'.1 host ∈ xWS) ∧ xHas M' ∧ plainFor M'.1 = true ∧
  (M'.1.cls ≠ "java/lang/invoke/MethodHandle" ∧ M'.1.cls ≠ "java/lang/invoke/VarHandle") ∧ (parseMethodDescriptor M'.1.desc).map (fun q => q.parameters.length) = some n
def xLkS (own : String) (index : Nat) (M' : xM) (n : Nat) : Prop := xLk own index M' n ∧ .static M'.1 ∈ xWS ∧ .initialized M'.1.cls ∈ xWS
def xLkV (own : String) (index : Nat) (M' : xM) (n ci : Nat) : Prop := xLk own index M' n ∧ .instanceMethod M'.1 ∈ xWS ∧ .selects M'.1.cls M'.1 M'.1 ∈ xWS ∧ ∃ T N, xcl[ci]? = some (M'.1.cls, T, N)
def xLkI (own : String) (index : Nat) (M' : xM) (n : Nat) : Prop := xLk own index M' n ∧ .instanceMethod M'.1 ∈ xWS ∧ M'.1.name = "<init>" ∧ .code M'.1 M'.2.1 M'.2.2.1 none ∈ xWS
end XC
section XC2
variable {G : xG} {M M' : xM} {d pc : Nat} {lv : List (Nat × Value)} {st : List Value} {h : xH} {Q Qc : xR → xH → Prop} {As : List Value} {index n : Nat}
theorem xLen {y : MethodName} {n : Nat} {sig : MethodDescriptor} (h : (parseMethodDescriptor y.desc).map (fun q => q.parameters.length) = some n) (hs : parseMethodDescriptor y.desc = some sig) : n = sig.parameters.length := by
  rw [hs] at h
  exact (Option.some.inj h).symm
set_option maxHeartbeats 1000000 in
theorem x_callS (hd : decode M.2.1 pc = .ok (.invokestatic index, 3)) (hk : xLkS M.1.cls index M' n) (hAs : As.length = n) (hlen : (lg_sl As).length ≤ M'.2.2.1) (hW : (st.map fun v => v.category).sum + (M'.2.2.1 + 11) ≤ 64)
    (hK : EX G M' d 0 (lv_args 0 As) [] h Qc) (kr : ∀ v h', Qc (.inl v) h' → EX G M (d + 1) (pc + 3) lv (v.toList ++ st) h' Q) (kt : ∀ a h', Qc (.inr a) h' → xThr G M (d + 1) pc lv h' Q a) : EX G M (d + 1) pc lv (As.reverse ++ st) h Q := by
  intro p e R s m args below meth c n0 ls H locs hF hl hr hz ho h1 h2 T hT X
  subst hT
  obtain ⟨⟨hlk, hc, hpl, hy, hpn⟩, hst, hin⟩ := hk
  obtain ⟨f1, f2, f3, f4, f5, f6, f7, f8, f9, -⟩ := id hF
  have hown := findClass_of_methodNamed f7
  have hnm : ∃ mk, s.methodNamed? M'.1 = some mk := by
    rcases hc with ⟨-, hc⟩ | hc
    · exact Cond.code_named (f9 _ hc)
    · obtain ⟨mk, _, _, q, -⟩ := Cond.codeWith_spec (f9 _ hc); exact ⟨mk, q⟩
  obtain ⟨mk, hnamed⟩ := hnm
  obtain ⟨methM, cM, q1, q2, -, -, -, -, -, q9⟩ := hc.spec f9 hnamed
  have hstatic : methM.isStatic = true := Cond.static_spec hnamed q1 (f9 _ hst)
  obtain ⟨kP, hkP, -⟩ := className_of_methodNamed hnamed
  have hinitP : kP.init = .initialized := Cond.initialized_spec (findClass_of_methodNamed hnamed) hkP (f9 _ hin)
  have hl2 : As.length = methM.sig.parameters.length := hAs.trans (xLen hpn q9)
  have hdc : decode c.code pc = .ok (.invokestatic index, 3) := by rw [f2]; exact hd
  have go : ∃ vm', Stand p (gL G) e R s m args below meth c (T.setVm vm') locs (h.1 - s.heap.size) (h.2.1 - n0) ∧ ∀ target, (∀ acts, Steps p.tables e below (doInvoke e ((T.setVm vm').setTop { (F0 m pc ls (As.reverse ++ st)) with stack := st }) acts mk As.toArray).1 target) → Steps p.tables e below (T.setTop (F0 m pc ls (As.reverse ++ st))) target := by
    rcases hlk with hlk | ⟨host, hlk⟩
    · exact X.invokestatic f1 hown (f9.use hlk) hnamed q1 hstatic hkP hinitP hy (g := F0 m pc ls (As.reverse ++ st)) rfl (argsL := As) (rest := st) hl2 rfl hdc
    · exact X.invokestaticNest f1 hown (f9.use hlk) hnamed q1 hstatic hkP hinitP hy (g := F0 m pc ls (As.reverse ++ st)) rfl (argsL := As) (rest := st) hl2 rfl hdc
  obtain ⟨vm', X', stp⟩ := go
  obtain ⟨t, a1, b1⟩ := xAfter X' hF hl (T := T.setVm vm') hr hz ho h1 h2 hc hpl (X'.named hnamed) hlen hK hW hd kr kt
  exact ⟨t, stp t (fun acts => by rw [doInvoke_state]; exact a1), b1⟩
set_option maxHeartbeats 1000000 in
theorem x_callV {ci b : Nat} {fs : List Value} (hd : decode M.2.1 pc = .ok (.invokevirtual index, 3)) (hk : xLkV M.1.cls index M' n ci) (hb : h.2.2 b = some (.inr (ci, fs))) (hAs : As.length = n) (hlen : (lg_sl (.ref b :: As)).length ≤ M'.2.2.1) (hW : (st.map fun v => v.category).sum + (M'.2.2.1 + 11) ≤ 64)
    (hK : EX G M' d 0 (lv_args 0 (.ref b :: As)) [] h Qc) (kr : ∀ v h', Qc (.inl v) h' → EX G M (d + 1) (pc + 3) lv (v.toList ++ st) h' Q) (kt : ∀ a h', Qc (.inr a) h' → xThr G M (d + 1) pc lv h' Q a) : EX G M (d + 1) pc lv (As.reverse ++ .ref b :: st) h Q := by
  intro p e R s m args below meth c n0 ls H locs hF hl hr hz ho h1 h2 T hT X
  subst hT
  obtain ⟨⟨hlk, hc, hpl, hy, hpn⟩, hins, hsel, TT, NN, hcl⟩ := hk
  obtain ⟨f1, f2, f3, f4, f5, f6, f7, f8, f9, f10, f11, f12, -⟩ := id hF
  have hown := findClass_of_methodNamed f7
  obtain ⟨mk, methM, hnamed, hmethM, hstM, habM⟩ := Cond.instanceMethod_spec (f9 _ hins)
  obtain ⟨methM', cM, q1, q2, -, -, -, -, -, q9⟩ := hc.spec f9 hnamed
  cases hmethM.symm.trans q1
  obtain ⟨c2, r2, m2, z1, z2, z3, z4, kP, hkP, hkPi⟩ := Cond.selects_spec (f9 _ hsel)
  obtain ⟨cellB, hcB, hoB, hclB⟩ := va_recv f12 (hr.P hb) hcl (q0 := 0) rfl
  cases hclB.symm.trans z1
  cases (State.methodFound?_of_named hnamed hy).symm.trans z2
  cases hnamed.symm.trans z3
  have hselP : selectMethod e.platform s.vm cellB.cls mk = .method mk := by rw [Launch.admits_selectMethod X.admits]; exact z4
  have hl2 : As.length = methM.sig.parameters.length := hAs.trans (xLen hpn q9)
  have hdc : decode c.code pc = .ok (.invokevirtual index, 3) := by rw [f2]; exact hd
  have go : ∃ vm', Stand p (gL G) e R s m args below meth c (T.setVm vm') locs (h.1 - s.heap.size) (h.2.1 - n0) ∧ ∀ target, (∀ acts, Steps p.tables e below (doInvoke e ((T.setVm vm').setTop { (F0 m pc ls (As.reverse ++ .ref b :: st)) with stack := st }) acts mk (Value.ref b :: As).toArray).1 target) → Steps p.tables e below (T.setTop (F0 m pc ls (As.reverse ++ .ref b :: st))) target := by
    rcases hlk with hlk | ⟨host, hlk⟩
    · exact X.invokevirtual f1 hown (f9.use hlk) hnamed hmethM hstM hkP hkPi hy (a := b) (cell := cellB) hcB (fun z hh => by rw [hh] at hoB; cases hoB) hselP hmethM habM hkP hkPi (g := F0 m pc ls (As.reverse ++ .ref b :: st)) rfl (argsL := As) (rest := st) hl2 rfl hdc
    · exact X.invokevirtualNest f1 hown (f9.use hlk) hnamed hmethM hstM hkP hkPi hy (a := b) (cell := cellB) hcB (fun z hh => by rw [hh] at hoB; cases hoB) hselP hmethM habM hkP hkPi (g := F0 m pc ls (As.reverse ++ .ref b :: st)) rfl (argsL := As) (rest := st) hl2 rfl hdc
  obtain ⟨vm', X', stp⟩ := go
  obtain ⟨t, a1, b1⟩ := xAfter X' hF hl (T := T.setVm vm') hr hz ho h1 h2 hc hpl (X'.named hnamed) hlen hK hW hd kr kt
  exact ⟨t, stp t (fun acts => by rw [doInvoke_state]; exact a1), b1⟩
set_option maxHeartbeats 1000000 in
theorem x_callI {b : Nat} (hd : decode M.2.1 pc = .ok (.invokespecial index, 3)) (hk : xLkI M.1.cls index M' n) (hAs : As.length = n) (hlen : (lg_sl (.ref b :: As)).length ≤ M'.2.2.1) (hW : (st.map fun v => v.category).sum + (M'.2.2.1 + 11) ≤ 64)
    (hK : EX G M' d 0 (lv_args 0 (.ref b :: As)) [] h Qc) (kr : ∀ v h', Qc (.inl v) h' → EX G M (d + 1) (pc + 3) lv (v.toList ++ st) h' Q) (kt : ∀ a h', Qc (.inr a) h' → xThr G M (d + 1) pc lv h' Q a) : EX G M (d + 1) pc lv (As.reverse ++ .ref b :: st) h Q := by
  intro p e R s m args below meth c n0 ls H locs hF hl hr hz ho h1 h2 T hT X
  subst hT
  obtain ⟨⟨hlk, hc, hpl, hy, hpn⟩, hins, hin, hcd⟩ := hk
  obtain ⟨f1, f2, f3, f4, f5, f6, f7, f8, f9, f10, f11, f12, -⟩ := id hF
  have hown := findClass_of_methodNamed f7
  have hpf : e.platform.magicAccessors = ({} : Platform).magicAccessors := by rw [X.admits.platform]
  have hdc : decode c.code pc = .ok (.invokespecial index, 3) := by rw [f2]; exact hd
  have hcode : (Cond.code M'.1 M'.2.1 M'.2.2.1 none).before args s = true := f9.use hcd
  have hlen2 : ∀ sig, parseMethodDescriptor M'.1.desc = some sig → As.length = sig.parameters.length := fun sig hs => hAs.trans (xLen hpn hs)
  have go : ∃ mk vm', s.methodNamed? M'.1 = some mk ∧ Stand p (gL G) e R s m args below meth c (T.setVm vm') locs (h.1 - s.heap.size) (h.2.1 - n0) ∧ ∀ target, (∀ acts, Steps p.tables e below (doInvoke e ((T.setVm vm').setTop { (F0 m pc ls (As.reverse ++ .ref b :: st)) with stack := st }) acts mk (Value.ref b :: As).toArray).1 target) → Steps p.tables e below (T.setTop (F0 m pc ls (As.reverse ++ .ref b :: st))) target := by
    rcases hlk with hlk | ⟨host, hlk⟩
    · obtain ⟨mk, _, _, _, vm₁, hnamed, -, -, -, -, -, -, -, hW₁, hstep₁⟩ := Steps.initColdArgs (e := e) X.here f1 X.warmed hpf hown hin hy (f9.use hlk) (f9.use hins) hcode (f := F0 m pc ls (As.reverse ++ .ref b :: st)) rfl hlen2 rfl hdc
      exact ⟨mk, vm₁, hnamed, X.noted hW₁, hstep₁⟩
    · obtain ⟨mk, _, _, _, vm₁, hnamed, -, -, -, -, -, -, -, hW₁, hstep₁⟩ := Steps.initColdArgsNest (e := e) X.here f1 X.warmed hpf hown hin hy (f9.use hlk) (f9.use hins) hcode (f := F0 m pc ls (As.reverse ++ .ref b :: st)) rfl hlen2 rfl hdc
      exact ⟨mk, vm₁, hnamed, X.noted hW₁, hstep₁⟩
  obtain ⟨mk, vm', hnamed, X', stp⟩ := go
  obtain ⟨t, a1, b1⟩ := xAfter X' hF hl (T := T.setVm vm') hr hz ho h1 h2 hc hpl (X'.named hnamed) hlen hK hW hd kr kt
  exact ⟨t, stp t (fun acts => by rw [doInvoke_state]; exact a1), b1⟩
end XC2
