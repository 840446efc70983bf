/-! a throw that a row of the method's own table takes: the rows are asked in their order, each class entry resolved the first time -/
section XKa
variable {e : Env} {f : JFrame} {a : Addr}
theorem xGo {U : State} {x : ExceptionTableEntry} {t : List ExceptionTableEntry} {c : ClassId} {cell : Cell} {Q : Handler → Pre} {E : CtlPost} {dd : Bool} {acts : List Action}
    (hx : covers x f.pc = true) (h0 : x.catchType ≠ 0) (hl : U.vm.ClassLinks e.platform f.method.cls x.catchType c) (hcell : U.heap[a]? = some cell) (hobj : ∀ k, cell.vm ≠ .statics k)
    (hk : ∃ k, (U.vm.noted f.method.cls x.catchType (.cls c)).classes[cell.cls]? = some k) (hc : ∃ k, (U.vm.noted f.method.cls x.catchType (.cls c)).classes[c]? = some k) :
    wp (findHandler.go f a (x :: t)) Q E e dd acts U ↔ if (U.vm.noted f.method.cls x.catchType (.cls c)).assignable cell.cls c = true then Q (.found x.handlerPc) dd acts (U.setVm (U.vm.noted f.method.cls x.catchType (.cls c)))
      else wp (findHandler.go f a t) Q E e dd acts (U.setVm (U.vm.noted f.method.cls x.catchType (.cls c))) := by
  simp only [covers] at hx
  obtain ⟨g1, g2⟩ := (resolveClass_links e.toSetting hl).op (op := VmOp.resolveClass f.method.cls x.catchType) rfl
  obtain ⟨k1, hk1⟩ := hk
  obtain ⟨k2, hk2⟩ := hc
  cases hfit : (U.vm.noted f.method.cls x.catchType (.cls c)).assignable cell.cls c <;>
    simp [findHandler.go, hx, h0, g1, g2, hcell, hobj, hk1, hk2, hfit, VmOp.dirties, VmOp.acts]
/-- the rows cover the pc; the first whose class is the thrown one's goes to tgt -/
def xCat (own : String) (pc : Nat) (X : String) : List (Nat × Nat × Nat × Nat) → Nat → Prop
  | [], _ => False
  | r :: t, tgt => (r.1 ≤ pc ∧ pc < r.2.1 ∧ r.2.2.2 ≠ 0) ∧ ((.classLink own r.2.2.2 X ∈ xWS ∧ r.2.2.1 = tgt) ∨ ∃ Y, .classLink own r.2.2.2 Y ∈ xWS ∧ Y ∈ xEx ∧ X ≠ Y ∧ xCat own pc X t tgt)
theorem xSelf {vm : Vm} {c : ClassId} : vm.assignable c c = true := by
  show vm.assignableAux (255 + 1) c c = true
  rw [Vm.assignableAux, Bool.or_eq_true, beq_iff_eq]
  exact Or.inl rfl
theorem xFind {s U : State} {own X : String} {cell : Cell} {tgt : Nat} (hpl : e.platform.magicAccessors = ({} : Platform).magicAccessors) (hown : s.vm.findClass own = some f.method.cls) (hw : xWd s) (hno : xNo s)
    (hcell : U.heap[a]? = some cell) (hobj : ∀ k, cell.vm ≠ .statics k) (hcl : s.vm.findClass X = some cell.cls) (hX : X ∈ xEx) : ∀ (es : List ExceptionTableEntry) (vm' : Vm), s.WarmedH vm' →
    xCat own f.pc X (es.map (fun h => (h.startPc, h.endPc, h.handlerPc, h.catchType))) tgt →
    ∃ vm'', s.WarmedH vm'' ∧ ∀ (Q : Handler → Pre) (E : CtlPost) (dd : Bool) (acts : List Action), wp (findHandler.go f a es) Q E e dd acts (U.setVm vm') ↔ Q (.found tgt) dd acts (U.setVm vm'')
  | [], _, _, h => h.elim
  | x :: t, vm', hW, h => by
    obtain ⟨⟨r1, r2, r3⟩, h⟩ := h
    have hx : covers x f.pc = true := by
      simp only [covers, Bool.and_eq_true, decide_eq_true_eq]
      exact ⟨r1, r2⟩
    have key : ∀ Y, .classLink own x.catchType Y ∈ xWS → ∃ c, s.vm.findClass Y = some c ∧ s.WarmedH (vm'.noted f.method.cls x.catchType (.cls c)) ∧ ∀ (Q : Handler → Pre) (E : CtlPost) (dd : Bool) (acts : List Action),
        wp (findHandler.go f a (x :: t)) Q E e dd acts (U.setVm vm') ↔ if s.vm.assignable cell.cls c = true then Q (.found x.handlerPc) dd acts (U.setVm (vm'.noted f.method.cls x.catchType (.cls c)))
          else wp (findHandler.go f a t) Q E e dd acts (U.setVm (vm'.noted f.method.cls x.catchType (.cls c))) := by
      intro Y hY
      obtain ⟨c, hc, hl⟩ := Cond.classLink_spec hown (hw _ hY) e.platform hpl
      obtain ⟨dk, _, _, kt, hd, _, _, _, _, hkt, _, hopen⟩ := hl.here
      have hW' : s.WarmedH (vm'.noted f.method.cls x.catchType (.cls c)) := hW.noted hd hopen (State.rightAt_cls hl)
      obtain ⟨ks, hks⟩ := Vm.classAt_of_findClass hcl
      obtain ⟨ks', hks', -⟩ := hW'.alike.2.2 _ _ hks
      obtain ⟨kt', hkt', -⟩ := hW'.alike.2.2 _ _ hkt
      refine ⟨c, hc, hW', fun Q E dd acts => ?_⟩
      rw [← hW'.alike.assignable]
      exact xGo (U := U.setVm vm') hx r3 (hW.classLinks hl) hcell hobj ⟨ks', hks'⟩ ⟨kt', hkt'⟩
    rcases h with ⟨hY, rfl⟩ | ⟨Y, hY, hYx, hne, h⟩
    · obtain ⟨c, hc, hW', hgo⟩ := key X hY
      cases hcl.symm.trans hc
      refine ⟨_, hW', fun Q E dd acts => ?_⟩
      rw [hgo, if_pos xSelf]
    · obtain ⟨c, hc, hW', hgo⟩ := key Y hY
      obtain ⟨c1, t1, q1, q2, q3⟩ := hno X hX Y hYx hne
      cases hcl.symm.trans q1
      cases hc.symm.trans q2
      obtain ⟨vm'', hW'', hgo2⟩ := xFind hpl hown hw hno hcell hobj hcl hX t _ hW' h
      refine ⟨vm'', hW'', fun Q E dd acts => ?_⟩
      rw [hgo, if_neg (by rw [q3]; decide)]
      exact hgo2 Q E dd acts
theorem xCaught {U : State} {vm'' : Vm} {g : JFrame} {r : List Frame} {tgt : Nat} (hfind : ∀ (Q : Handler → Pre) (E : CtlPost) (dd : Bool) (acts : List Action), wp (findHandler g a) Q E e dd acts U ↔ Q (.found tgt) dd acts (U.setVm vm'')) :
    (stepThrowing e U a (.java g :: r)).Is ((U.setVm vm'').setFrames (.java { g with pc := tgt, stack := [.ref a] } :: r)) [] := by
  simp only [stepThrowing, searchFrame, vmDo]
  generalize hr : Sem.go _ e false [] U = res
  obtain ⟨as, rfl, ha⟩ := Sem.eq_ok_of hr (a := Handler.found tgt) (s' := U.setVm vm'') (acts' := []) (by simp [hfind])
  exact ⟨rfl, ha⟩
end XKa
section XKb
variable {G : xG} {M : xM} {d pc : Nat} {lv : List (Nat × Value)} {h : xH} {Q : xR → xH → Prop} {a : Addr}
/-- a row takes it: on at the row's pc, the thrown reference alone on the stack -/
theorem xThr.row {X : String} {ci tgt : Nat} {T0 : u_T} {N : Nat} (hX : X ∈ xEx) (hcl : xcl[ci]? = some (X, T0, N)) (he : h.2.2 a = some (.inr (ci, []))) (hc : xCat M.1.cls pc X M.2.2.2.2 tgt) (k : EX G M d tgt lv [.ref a] h Q) : xThr G M d pc lv h Q a := by
  intro p e R s m args below meth c n0 ls locs T st hF hl hr hz ho h1 h2 X'
  obtain ⟨f1, f2, f3, f4, f5, f6, f7, f8, f9, f10, f11, f12, -⟩ := id hF
  have hown := findClass_of_methodNamed f7
  have hpf : e.platform.magicAccessors = ({} : Platform).magicAccessors := by rw [X'.admits.platform]
  obtain ⟨cell, hcB, hoB, hclB⟩ := va_recv f12 (hr.P he) hcl (q0 := 0) rfl
  have hcell : ((T.setTop (F0 m pc ls st)).pushFrame (.throwing a)).heap[a]? = some cell := by rw [Stand.throwing_heap]; exact hcB
  rw [← f6] at hc
  obtain ⟨vm'', hW, hfind⟩ := xFind (f := F0 m pc ls st) (a := a) (U := (T.setTop (F0 m pc ls st)).pushFrame (.throwing a)) hpf hown f9 f10.2 hcell (fun z hh => by rw [hh] at hoB; cases hoB) hclB hX c.exceptionTable.toList T.vm X'.warmed hc
  have hU : ((T.setTop (F0 m pc ls st)).pushFrame (.throwing a)).setVm T.vm = (T.setTop (F0 m pc ls st)).pushFrame (.throwing a) := by
    rw [← Stand.throwing_vm T (F0 m pc ls st) a]; exact State.setVm_self _
  rw [hU] at hfind
  have hmeth : ((T.setTop (F0 m pc ls st)).pushFrame (.throwing a)).vm.method? (F0 m pc ls st).method = some meth := by
    rw [Stand.throwing_vm]; exact X'.method'
  have hfind2 : ∀ (Q : Handler → Pre) (E : CtlPost) (dd : Bool) (acts : List Action), wp (findHandler (F0 m pc ls st) a) Q E e dd acts ((T.setTop (F0 m pc ls st)).pushFrame (.throwing a)) ↔ Q (.found tgt) dd acts (((T.setTop (F0 m pc ls st)).pushFrame (.throwing a)).setVm vm'') := fun Q E dd acts => by
    rw [W.findHandler_eq hmeth X'.code]
    exact hfind Q E dd acts
  have hat : At T (F0 m pc ls st).method c below := X'.here
  obtain ⟨hgo, hwi⟩ := hat.throwing a
  obtain ⟨t, a1, b1⟩ := k p e R s m args below meth c n0 ls T.heap locs hF hl hr hz ho h1 h2 (T.setVm vm'') rfl (X'.noted hW)
  refine ⟨t, ?_, b1⟩
  refine Steps.head hgo hwi ?_
  rw [stepThread_throwing (frames_entered hat.top _), (xCaught (U := (T.setTop (F0 m pc ls st)).pushFrame (.throwing a)) hfind2).1]
  obtain ⟨g₀, hg⟩ := Option.isSome_iff_exists.mp hat.top
  obtain ⟨r, hr'⟩ := State.topJava?_eq_some.mp hg
  have hr2 : (T.setVm vm'').frames = .java g₀ :: r := hr'
  rw [State.setTop_of_frames _ hr2] at a1
  have hfin : (((T.setTop (F0 m pc ls st)).pushFrame (.throwing a)).setVm vm'').setFrames (.java { F0 m pc ls st with pc := tgt, stack := [.ref a] } :: T.frames.tail) = (T.setVm vm'').setFrames (.java (F0 m tgt ls [.ref a]) :: r) := by
    rw [hr', State.pushFrame, State.setTop_of_frames _ hr', State.setFrames_setFrames]
    show ((T.setFrames _).setVm vm'').setFrames _ = _
    rw [show ((T.setFrames (Frame.throwing a :: (T.setFrames (.java (F0 m pc ls st) :: r)).frames)).setVm vm'') = (T.setVm vm'').setFrames (Frame.throwing a :: (T.setFrames (.java (F0 m pc ls st) :: r)).frames) from rfl, State.setFrames_setFrames]
    rfl
  rw [hfin]
  exact a1
end XKb
