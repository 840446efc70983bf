/-! 'throw new E()' -/
section XT
variable {p : Program} {l : Launch} {e : Env} {R : Room} {s : State} {m : MethodId} {args : Array Value} {below : List Frame} {meth : Method} {c : Code} {T : State} {locs : List Loc} {cells slots : Nat}
/-- the walk taken up anew, as if the invocation began where it stands -/
theorem xRebase (X : Stand p l e R s m args below meth c T locs cells slots) {k n : Nat} (hk : cells + k ≤ R.cells) (hn : slots + n ≤ R.slots) :
    Stand p l e { frames := R.frames, locals := R.locals, cells := k, slots := n } (T.setFrames (.invoking m args :: below)) m args below meth c T [] 0 0 := by
  obtain ⟨g0, hfr⟩ := X.frames_eq
  have hcur : T.cur < T.threads.size := State.cur_lt_of_frames hfr
  have hF : (T.setFrames (.invoking m args :: below)).frames = .invoking m args :: below := State.frames_setFrames _ hcur
  have heq : (T.setFrames (.invoking m args :: below)).setFrames T.frames = T := by
    rw [State.setFrames_setFrames]
    obtain ⟨th, hth, -⟩ := State.frames_cons hfr
    exact State.setFrames_self hth
  obtain ⟨t, ht, -⟩ := State.frames_cons hF
  have hcur' : (T.setFrames (.invoking m args :: below)).cur < (T.setFrames (.invoking m args :: below)).threads.size := State.cur_lt_of_frames hF
  refine ⟨X.admits, X.cas, X.clock, hF, ?_, ?_, X.method', X.code, X.here, X.tail, State.WarmedH.refl _, by rw [State.stackLimits_setFrames], by rw [State.stackBytes_setFrames], ?_⟩
  · have h0 := X.room
    obtain ⟨r1, r2, r3, r4⟩ := State.hasRoom_stack h0
    have r5 := State.hasRoom_real h0
    have hr := h0
    simp only [State.hasRoom, Bool.and_eq_true, decide_eq_true_eq] at hr
    rw [State.localsInUse_invoking X.frames X.method X.code] at r3 r4 r5
    rw [X.frames, List.length_cons] at r1 r2
    have hU : (T.setFrames (.invoking m args :: below)).localsInUse = stackWeight below + vmFrameWords + (c.maxLocals + 11) := State.localsInUse_invoking hF X.method' X.code
    have h1 := X.heapSize
    have h2 := X.used
    simp only [State.hasRoom, Bool.and_eq_true, decide_eq_true_eq, hF, hU, List.length_cons, State.stackLimits_setFrames, State.stackBytes_setFrames, X.limits, X.bytes]
    refine ⟨⟨⟨⟨by omega, by omega, by omega, by omega, by omega, hr.1.1.1.2.2.2.2.2⟩, ?_⟩, ?_⟩, X.book⟩
    · have := hr.1.1.2
      show T.heap.size + k ≤ e.platform.maxCells
      omega
    · have := hr.1.2
      show T.slotsUsed + n ≤ e.platform.maxSlots
      omega
  · have hh := X.hears
    have hal := X.warmed.alike
    cases below with
    | nil =>
      simp only [State.hears] at hh ⊢
      show (T.vm.method? m).any _ = true
      rw [hal.method?]; exact hh
    | cons f r =>
      cases f with
      | java g =>
        simp only [State.hears] at hh ⊢
        rw [State.code?_eq] at hh ⊢
        show (((T.vm.method? g.method).bind (·.code)).bind _).isSome = true
        rw [hal.method?]; exact hh
      | native _ => rfl
      | proc _ => rfl
      | _ =>
        simp only [State.hears] at hh ⊢
        show (T.vm.method? m).any _ = true
        rw [hal.method?]; exact hh
  · have h := (State.sameButNew.refl (T.setFrames (.invoking m args :: below)) ht).setFrames T.frames hcur'
    rw [heq] at h
    exact h
/-- nothing old has moved -/
theorem xOld {U : State} {k n : Nat} (h : s.sameButNew U [] k n) : ∀ q : Nat, q < s.heap.size → U.heap[q]? = s.heap[q]? := by
  intro q hq
  have hc : s.heap[q]? = some s.heap[q] := Array.getElem?_eq_getElem hq
  obtain ⟨c', h1, h2, h3, h4⟩ := h.2.2.2.2.2 q _ hc
  rw [h1, hc]
  congr 1
  rw [h2]
  have : c'.slots = (s.heap[q]).slots := by
    apply Array.ext h3
    intro i hi1 hi2
    have := h4 i (by simp)
    rw [Array.getElem?_eq_getElem hi1, Array.getElem?_eq_getElem hi2] at this
    exact Option.some.inj this
  rw [this]
end XT
section XT2
variable {G : xG} {M : xM} {d pc : Nat} {lv : List (Nat × Value)} {st : List Value} {h : xH} {Q : xR → xH → Prop}
/-- what 'throw new E()' needs of the tables -/
def xTn (own : String) (ik ic ci : Nat) : Prop := ∃ (E : String) (names : List String) (T0 : u_T), xcl[ci]? = some (E, T0, 0) ∧ Bundle.fit E = true ∧ (∀ n ∈ names, Bundle.fit n = true) ∧ names.length ≤ 4 ∧ .classLink own ik E ∈ xWS ∧ .initialized E ∈ xWS ∧ ∀ w ∈ Bundle.ownAtoms0 own ic E names, w ∈ xWS ∨ w ∈ xSW
set_option maxHeartbeats 2000000 in
theorem x_throw {ik ic ci : Nat} (d0 : decode M.2.1 pc = .ok (.new ik, 3)) (d3 : decode M.2.1 (pc + 3) = .ok (.dup, 1)) (d4 : decode M.2.1 (pc + 4) = .ok (.invokespecial ic, 3)) (d7 : decode M.2.1 (pc + 7) = .ok (.athrow, 1)) (hk : xTn M.1.cls ik ic ci) (hno : M.2.2.2.2 = []) (hL : (gL G).stackTraces = false)
    (hc : h.1 + 1 ≤ gC G) (hs : h.2.1 + 6 ≤ gS G) (hW : (st.map fun v => v.category).sum ≤ 64) (hq : Q (.inr h.1) (xNew h 6 (.inr (ci, [])))) : EX G M d pc lv st h Q := by
  intro p e R s m args below meth c n0 ls H locs hF hl hr hz ho h1 h2 T hT X
  subst hT
  obtain ⟨E, names, T0, hcl, hfE, hfn, hnl, hck, hci, hat⟩ := hk
  obtain ⟨f1, f2, f3, f4, f5, f6, f7, f8, f9, f10, f11, f12, f13, f14, f15, f16⟩ := id hF
  have hlocks : meth.locks = false := f5
  have hex := f6
  rw [hno] at hex
  have hex : c.exceptionTable.toList = [] := List.map_eq_nil_iff.mp hex
  have hszT : T.heap.size = h.1 := hr.1
  have htr : e.platform.stackTraces = false := (show e.platform.stackTraces = (gL G).stackTraces by rw [X.admits.platform]).trans hL
  have Y := xRebase X (k := 1) (n := 6) (by omega) (by omega)
  obtain ⟨s', hs'⟩ : ∃ z, z = T.setFrames (.invoking m args :: below) := ⟨_, rfl⟩
  rw [← hs'] at Y
  have hvm : s'.vm = T.vm := by rw [hs']; rfl
  have hhp : s'.heap = T.heap := by rw [hs']; rfl
  have hWs : s.WarmedH s'.vm := by rw [hvm]; exact X.warmed
  have w' : xWd s' := f9.at hWs
  have sd' : xSd s' := xSd.at f10 hWs (by rw [hhp]; exact hz)
  have K' := va_K.moved hWs.alike f12
  have hown' : s'.vm.findClass M.1.cls = some m.cls := by rw [hWs.alike.findClass]; exact findClass_of_methodNamed f7
  have hwords : ∀ w ∈ Bundle.ownAtoms0 M.1.cls ic E names, w.before args s' = true := fun w hw => by
    rcases hat w hw with a | a
    · exact w'.use a
    · exact xSd.use sd' a
  have hins : (Cond.instantiable E 6).before args s' = true := hwords _ (by simp [Bundle.ownAtoms0])
  obtain ⟨vm1, cX, kX, hfX, hkX, -, -, X1, st1⟩ := Y.newCold f1 (own := M.1.cls) (C := E) (index := ik) (n := 6) hown' (w'.use hck) hins (w'.use hci) (g := F0 m pc ls st) rfl (by rw [f2]; exact d0) (Nat.le_refl _) (Nat.le_refl _)
  generalize hT1 : (T.setVm vm1).pushCell { cls := cX, slots := kX.instanceTypes.map defaultValue, vm := .none } = T1 at X1 st1
  have hcellA : T1.heap[T.heap.size]? = some (freshCell cX kX) := by rw [← hT1]; exact State.heap_pushCell_size _ _
  have d3' : decode c.code (pc + 3) = .ok (.dup, 1) := by rw [f2]; exact d3
  obtain ⟨U, hst, hrun, hend, hWU, hsame, ce, hce, hoc⟩ := X1.ctorThrow0 f1 htr (own := M.1.cls) (cls := E) (names := names) (ic := ic) hown' hfE hfn hwords (fun x hx => nomatch hx) hfX hkX hcellA (by rw [hhp]; exact Nat.le_refl _)
    (g := F0 m (pc + 4) ls (.ref T.heap.size :: .ref T.heap.size :: st)) rfl (hl.1.trans f3.symm) rfl rfl (rest := st) rfl (by rw [f2]; exact d4) (by rw [f2]; exact d7) (fun x hx => by rw [hex] at hx; cases hx) (by show names.length + 3 < R.frames; omega)
    (by show 2 * 0 + (1 + (st.map fun v => v.category).sum) + _ ≤ R.locals; omega)
  have hold := xOld (s := s') (U := ({ U with vm := s'.vm } : State)) hsame
  have hold2 : ∀ q : Nat, q < T.heap.size → U.heap[q]? = T.heap[q]? := fun q hq' => by rw [← hhp]; exact hold q (by rw [hhp]; exact hq')
  have hsz : U.heap.size = h.1 + 1 := by
    have a1 : U.heap.size ≤ s'.heap.size + 1 := hsame.2.2.1
    have a2 : T.heap.size < U.heap.size := (Array.getElem?_eq_some_iff.mp hce).1
    rw [hhp] at a1
    omega
  have hcid : ce.cls = (gD G).1 ci := by
    have a1 := (K'.1 ci _ hcl).2.1
    exact Option.some.inj (hoc.cls.symm.trans a1)
  have hat2 : va_at (gD G) xcl (h.1, .inr (ci, [])) U.heap := ⟨_, hcl, ce, by rw [← hszT]; exact hce, hcid, hoc.vm, fun k hk => absurd hk (Nat.not_lt_zero k)⟩
  have hrep : xRep G (xNew h 6 (.inr (ci, []))) U.heap := hr.push hsz (fun q hq' => hold2 q (by rw [hszT]; exact hq')) hat2 hc hs
  have hB : T.sameButNew (U.setVm T.vm) [] 1 6 := by
    obtain ⟨b1, b2, b3, b4, b5, b6⟩ := hsame
    rw [hs'] at b1 b2 b3 b4 b5 b6
    refine ⟨?_, b2, b3, b4, b5, b6⟩
    have : (U.setVm T.vm) = ({ (T.setFrames (.invoking m args :: below)).setFrames (U.setVm T.vm).frames with heap := (U.setVm T.vm).heap, slotsUsed := (U.setVm T.vm).slotsUsed } : State) := b1
    rw [State.setFrames_setFrames] at this
    exact this
  have hsameS := X.same.trans (hB.setVm s.vm)
  rw [List.append_nil, xCs h1, xCs h2] at hsameS
  have hWfin : s.WarmedH U.vm := by
    rw [hs'] at hWU
    exact State.WarmedH.trans X.warmed hWU
  refine ⟨U, st1 _ ?_, .inr h.1, xNew h 6 (.inr (ci, [])), locs, hq, hrep, hz.trans (xKeepS.push hold2), hrun, by rw [← hszT]; exact hend, hWfin, hsameS, ho, by show _ ≤ h.1 + 1; omega, by show _ ≤ h.2.1 + 6; omega⟩
  show Steps p.tables e below (T1.setTop { method := m, pc := pc + 3, locals := ls, stack := .ref T.heap.size :: st, locked := none }) _
  jvm_step X1.here [X1.here.top, f1, d3', Value.category]
  exact hst
end XT2
