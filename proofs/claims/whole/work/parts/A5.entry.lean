/-! the law's entry -/
theorem ns_Nse : .instantiable RNse 6 ∈ xWS := xIn 454 (by decide +kernel) (by decide +kernel)
theorem ns_Iae : .instantiable RIae 6 ∈ xWS := xIn 351 (by decide +kernel) (by decide +kernel)
theorem ns_Ise : .instantiable RIse 6 ∈ xWS := xIn 419 (by decide +kernel) (by decide +kernel)
theorem ns_Ioo : .instantiable RIoo 6 ∈ xWS := xIn 716 (by decide +kernel) (by decide +kernel)
theorem st_K {s : State} (hw : xWd s) : ∃ D : va_G, ∀ (ci : Nat) (q : vw_C), xcl[ci]? = some q → u_Kn s q.1 q.2.1 q.2.2 (D.1 ci) (D.2 ci) := by
  have h1 : ∀ ci : Nat, ∃ z : ClassId × (Nat → Nat), ∀ q : vw_C, xcl[ci]? = some q → u_Kn s q.1 q.2.1 q.2.2 z.1 z.2 := by
    intro ci
    by_cases h : ci < 15
    · have : ci = 0 ∨ ci = 1 ∨ ci = 2 ∨ ci = 3 ∨ ci = 4 ∨ ci = 5 ∨ ci = 6 ∨ ci = 7 ∨ ci = 8 ∨ ci = 9 ∨ ci = 10 ∨ ci = 11 ∨ ci = 12 ∨ ci = 13 ∨ ci = 14 := by omega
      rcases this with rfl | rfl | rfl | rfl | rfl | rfl | rfl | rfl | rfl | rfl | rfl | rfl | rfl | rfl | rfl
      · obtain ⟨c, I, hk⟩ := u_known (args := #[]) (fun w hw' => hw w hw') cl_Gl.2.1 (hw _ ns_Gl)
        exact ⟨(c, I), fun q hq => by cases hq; exact hk⟩
      · obtain ⟨c, I, hk⟩ := u_known (args := #[]) (fun w hw' => hw w hw') cl_La.2.1 (hw _ ns_La)
        exact ⟨(c, I), fun q hq => by cases hq; exact hk⟩
      · obtain ⟨c, I, hk⟩ := u_known (args := #[]) (fun w hw' => hw w hw') cl_Or.2.1 (hw _ ns_Or)
        exact ⟨(c, I), fun q hq => by cases hq; exact hk⟩
      · obtain ⟨c, I, hk⟩ := u_known (args := #[]) (fun w hw' => hw w hw') cl_Bk.2.1 (hw _ ns_Bk)
        exact ⟨(c, I), fun q hq => by cases hq; exact hk⟩
      · obtain ⟨c, I, hk⟩ := u_known (args := #[]) (fun w hw' => hw w hw') cl_Rk.2.1 (hw _ ns_Rk)
        exact ⟨(c, I), fun q hq => by cases hq; exact hk⟩
      · obtain ⟨c, I, hk⟩ := u_known (args := #[]) (fun w hw' => hw w hw') cl_Sh.2.1 (hw _ ns_Sh)
        exact ⟨(c, I), fun q hq => by cases hq; exact hk⟩
      · obtain ⟨c, I, hk⟩ := u_known (args := #[]) (fun w hw' => hw w hw') cl_St.2.1 (hw _ ns_St)
        exact ⟨(c, I), fun q hq => by cases hq; exact hk⟩
      · obtain ⟨c, I, hk⟩ := u_known (args := #[]) (fun w hw' => hw w hw') cl_Tr.2.1 (hw _ ns_Tr)
        exact ⟨(c, I), fun q hq => by cases hq; exact hk⟩
      · obtain ⟨c, I, hk⟩ := u_known (args := #[]) (fun w hw' => hw w hw') cl_Ti.2.1 (hw _ ns_Ti)
        exact ⟨(c, I), fun q hq => by cases hq; exact hk⟩
      · obtain ⟨c, I, hk⟩ := u_known (args := #[]) (fun w hw' => hw w hw') cl_Ha.2.1 (hw _ ns_Ha)
        exact ⟨(c, I), fun q hq => by cases hq; exact hk⟩
      · obtain ⟨c, I, hk⟩ := u_known (args := #[]) (fun w hw' => hw w hw') cl_Mo.2.1 (hw _ ns_Mo)
        exact ⟨(c, I), fun q hq => by cases hq; exact hk⟩
      · obtain ⟨c, I, hk⟩ := u_known (args := #[]) (C := RNse) (T := T0) (N := 0) (fun w hw' => hw w hw') (fun w hw' => nomatch hw') (hw _ ns_Nse)
        exact ⟨(c, I), fun q hq => by cases hq; exact hk⟩
      · obtain ⟨c, I, hk⟩ := u_known (args := #[]) (C := RIae) (T := T0) (N := 0) (fun w hw' => hw w hw') (fun w hw' => nomatch hw') (hw _ ns_Iae)
        exact ⟨(c, I), fun q hq => by cases hq; exact hk⟩
      · obtain ⟨c, I, hk⟩ := u_known (args := #[]) (C := RIse) (T := T0) (N := 0) (fun w hw' => hw w hw') (fun w hw' => nomatch hw') (hw _ ns_Ise)
        exact ⟨(c, I), fun q hq => by cases hq; exact hk⟩
      · obtain ⟨c, I, hk⟩ := u_known (args := #[]) (C := RIoo) (T := T0) (N := 0) (fun w hw' => hw w hw') (fun w hw' => nomatch hw') (hw _ ns_Ioo)
        exact ⟨(c, I), fun q hq => by cases hq; exact hk⟩
    · exact ⟨(0, fun _ => 0), fun q hq => by
        have := (List.getElem?_eq_some_iff.mp hq).1
        have e : xcl.length = 15 := rfl
        omega⟩
  obtain ⟨f, hf⟩ := Classical.axiomOfChoice h1
  exact ⟨(fun ci => (f ci).1, fun ci => (f ci).2), fun ci q hq => hf ci q hq⟩
theorem st_A {s : State} {ty : FieldType} (hp : ∀ C, ty ≠ .object C) (h : (Cond.arrayClass ty).before #[] s = true) : ∃ c, ArrOfT s c ty ∧ va_RA s c ty := by
  obtain ⟨c, k, comp, h1, h2, h3⟩ := Cond.arrayClass_spec h
  refine ⟨c, fun N z => ⟨(fun k h => by cases h), k, h2, comp, h3⟩, ?_⟩
  cases ty with
  | object C => exact absurd rfl (hp C)
  | _ => exact h1
theorem st_O {s : State} {C : String} (h : (Cond.arrayOver (.object C)).before #[] s = true) : ∃ c, ArrOfT s c (.object C) ∧ va_RA s c (.object C) := by
  obtain ⟨comp, c, k, h1, -, h2, h3, h4⟩ := Cond.arrayOver_spec h
  exact ⟨c, fun N z => ⟨(fun k h => by cases h), k, h2, comp, h3⟩, k, comp, h2, h3, h1, h4⟩
theorem st_T {s : State} {D : va_G} (hw : xWd s) (hD : ∀ (ci : Nat) (q : vw_C), xcl[ci]? = some q → u_Kn s q.1 q.2.1 q.2.2 (D.1 ci) (D.2 ci)) : ∃ tys : List (ClassId × FieldType), tys.map (·.2) = xTys ∧ va_K D xcl tys s := by
  obtain ⟨c1, a1, b1⟩ := st_A (fun C h => by cases h) (hw _ aw_int)
  obtain ⟨c2, a2, b2⟩ := st_A (fun C h => by cases h) (hw _ aw_long)
  obtain ⟨c3, a3, b3⟩ := st_A (fun C h => by cases h) (hw _ aw_boolean)
  obtain ⟨c4, a4, b4⟩ := st_O (hw _ aw_Sh)
  obtain ⟨c5, a5, b5⟩ := st_O (hw _ aw_Gl)
  obtain ⟨c6, a6, b6⟩ := st_O (hw _ aw_Or)
  refine ⟨[(c1, .int), (c2, .long), (c3, .boolean), (c4, .object RSh), (c5, .object RGl), (c6, .object ROr)], rfl, hD, fun k q hk => ?_⟩
  have hlt := (List.getElem?_eq_some_iff.mp hk).1
  have : k = 0 ∨ k = 1 ∨ k = 2 ∨ k = 3 ∨ k = 4 ∨ k = 5 := by simp at hlt; omega
  rcases this with rfl | rfl | rfl | rfl | rfl | rfl <;> cases hk
  · exact ⟨a1, b1⟩
  · exact ⟨a2, b2⟩
  · exact ⟨a3, b3⟩
  · exact ⟨a4, b4⟩
  · exact ⟨a5, b5⟩
  · exact ⟨a6, b6⟩
/-! THE CLAIM OUT OF ONE WALK OF THE LAW'S BODY. Your part is whole_start (and what it stands on); all else here is the same for every law, but numbers. -/
def R_law : String := "GlassHallLaw"
def lw_P (b : Addr) (xs : List Int32) (args : Array Value) (s : State) : Prop := args = #[.ref b] ∧ s.IntsAt b xs ∧ xs.length ≤ 3072 ∧ (Jvm.Cond.and given_1 narrow_1).before args s = true
def lw_Q (_ : Array Value) (s : State) (o : Outcome) (t : State) : Prop := o = .returned (some (.int 1)) ∧ Framed s o t [] 601024 7293034
def lw_Z (below : List Frame) (a : Array Value) (s : State) : State → Prop := fun t => ∃ o, t.status = .running ∧ Ended t below o ∧ lw_Q a s o t
/-- the law's own end, with 1 on the stack, nothing written that was there before, its room as the claim has it -/
theorem lw_ret {p : Program} {l : Launch} {e : Env} {s : State} {m : MethodId} {below : List Frame} {meth : Method} {c : Code} {b : Nat} (hx : p.tables.exec = Jvm.exec) (hb : c.code = code) (hr : meth.sig.returnType = ret) (hlocks : meth.locks = false) {pc : Nat} {H : Heap} {ls : Array Slot} (hdg : decode code pc = .ok (.ireturn, 1)) : W p l e room_1 s m #[Value.ref b] below meth c H [] 601024 7293034 (lw_Z below #[Value.ref b] s) (F0 m pc ls [.int 1]) := by
  intro T hT X
  obtain ⟨fs, hret, hrun, hended, hW, hframe⟩ := X.leave (v := some (.int 1)) (hlocks := hlocks) (fun h => by rw [hr] at h; cases h)
  have hmeth' : T.vm.method? m = some meth := X.method'
  refine ⟨T.setFrames fs, ?_, .returned (some (.int 1)), hrun, hended, rfl, ⟨_, rfl⟩, hW, hframe⟩
  jvm_step X.here [X.here.top, hx, hb, hdg, hmeth', hr, ret, narrow_b1]
  (try refine ⟨rfl, ?_⟩); (try refine ⟨rfl, ?_⟩)
  first | (intro acts; rw [hret _ acts rfl rfl rfl]) | rw [hret _ _ rfl rfl rfl]
  exact Steps.refl _
/-- what holds at the law's entry: the machine, the code, the tables' words (any of lw_tbl by 'hts w (by decide +kernel)'), the script of L ints xs at the cell b, what the Statement gives of the start (any of its parts by flat_of_before) -/
def lw_At (p : Program) (s : State) (m : MethodId) (meth : Method) (c : Code) (b L : Nat) (xs : Nat → Int32) : Prop :=
  p.tables.exec = Jvm.exec ∧ c.code = code ∧ meth.sig.returnType = ret ∧ c.maxLocals = 7 ∧ s.vm.findClass R_law = some m.cls ∧ (∀ w ∈ lw_tbl, w.before #[Value.ref b] s = true) ∧ va_X b L xs s s.heap ∧ b < s.heap.size ∧ meth.locks = false ∧ (Jvm.Cond.and given_1 narrow_1).before #[Value.ref b] s = true
theorem st_S {s : State} {b : Nat} (ht : ∀ w ∈ lw_tbl, w.before #[Value.ref b] s = true) (hg : (Jvm.Cond.and given_1 narrow_1).before #[Value.ref b] s = true) : xSd s := by
  have hs := flat_of_before _ hg
  refine ⟨fun w hw => ?_, fun A hA C hC hne => ?_⟩
  · simp only [xSW, List.mem_cons, List.not_mem_nil, or_false] at hw
    rcases hw with rfl | rfl | rfl | rfl
    · have h := ht (.laysStatic Bundle.tN "UNASSIGNED_STACK" Bundle.steD) (List.mem_append_right _ (List.mem_of_getElem? (i := 377) (by decide +kernel))); exact h
    · have h := ht (.laysStatic Bundle.tN "SUPPRESSED_SENTINEL" Bundle.listD) (List.mem_append_right _ (List.mem_of_getElem? (i := 379) (by decide +kernel))); exact h
    · have h := hs (.isRef (.static Bundle.tN "UNASSIGNED_STACK" Bundle.steD)) (by decide +kernel); exact h
    · have h := hs (.isRef (.static Bundle.tN "SUPPRESSED_SENTINEL" Bundle.listD)) (by decide +kernel); exact h
  · have key : ∀ A C, (Cond.not (.castable A C)).before #[Value.ref b] s = true → ∃ c t, s.vm.findClass A = some c ∧ s.vm.findClass C = some t ∧ s.vm.assignable c t = false := by
      intro A C h
      simp only [Cond.before, Cond.holds, Cond.value] at h
      cases e1 : s.vm.findClass A with
      | none => simp [e1] at h
      | some c =>
        cases e2 : s.vm.findClass C with
        | none => simp [e1, e2] at h
        | some t => exact ⟨c, t, rfl, rfl, by simpa [e1, e2] using h⟩
    simp only [xEx, List.mem_cons, List.not_mem_nil, or_false] at hA hC
    rcases hA with rfl | rfl | rfl | rfl <;> rcases hC with rfl | rfl | rfl | rfl <;> first | exact absurd rfl hne | exact key _ _ (hs _ (by decide +kernel))
/-- what every call owes, whatever the room, if it is this large -/
def owed : Prop := ∀ (G : xG) (B : Nat), xOkG G → B + 1000 ≤ gC G → 30000 ≤ gS G → ∃ LI : Nat → xS → Prop, LI 0 (S0 B) ∧ (∀ t S, t < 512 → LI t S → ops G B LI t S) ∧ ∀ t S, LI t S → LI (t + 1) S
theorem whole_start (H : owed) {p : Program} {e : Env} {s : State} {m : MethodId} {below : List Frame} {meth : Method} {c : Code} (l : Launch) (hl : l.stackTraces = false) {b L : Nat} {xs : Nat → Int32} (hL : L ≤ 3072) (C0 : lw_At p s m meth c b L xs) (hex : c.exceptionTable.toList = []) (hnm : s.methodNamed? x = some m) (hme : s.vm.method? m = some meth) :
    W p l e room_1 s m #[Value.ref b] below meth c s.heap [] 0 0 (lw_Z below #[Value.ref b] s) (entryFrame m ([Value.ref b] : List Value).toArray 7) := by
  obtain ⟨c1, c2, c3, c4, c5, c6, ⟨scr, x1, x2, x3, x4, x5⟩, c8, c9, c10⟩ := C0
  have hw : xWd s := fun w hw => xWS_warm w hw (State.WarmedH.refl s) (c6 w (List.mem_filter.mp hw).1)
  obtain ⟨D, hD⟩ := st_K hw
  obtain ⟨tys, ht, hK⟩ := st_T hw hD
  obtain ⟨G, hGe⟩ : ∃ G : xG, G = (l, D, tys, s.heap.size, s.heap.size + 601024, 7293034, b, scr) := ⟨_, rfl⟩
  have hG : xOkG G := by subst hGe; exact ⟨ht, hl⟩
  obtain ⟨LI, l0, l1, l2⟩ := H G s.heap.size hG (by subst hGe; show _ ≤ s.heap.size + 601024; omega) (by subst hGe; show 30000 ≤ 7293034; omega)
  have hx : scO G L xs := by subst hGe; exact ⟨x3, x4, x5⟩
  have K := lw_begin hG hx hL l1 l2 l0 (by subst hGe; show _ ≤ s.heap.size + 601024; omega) (by subst hGe; show _ ≤ 7293034; omega)
  have hF : xFix G m_Lw_law 20 p room_1 s m meth c 0 := by
    subst hGe
    exact ⟨c1, c2, c4, c3, c9, by rw [hex]; rfl, hnm, hme, hw, st_S c6 c10, x2, hK, by decide, by decide, Nat.le_refl _, Nat.le_refl _⟩
  have hrep : xRep G (hP G s.heap.size 0 0 (fun _ => none)) s.heap := by
    subst hGe
    refine ⟨rfl, by show s.heap.size + 0 ≤ s.heap.size + 601024; omega, Nat.zero_le _, Nat.le_refl _, ⟨c8, x1⟩, fun a q hq => ?_⟩
    exfalso
    have : (if a < s.heap.size then none else if a < s.heap.size + 0 then (match (fun _ => (none : Option va_E)) (a - s.heap.size) with
      | some e => some e
      | none => some (z0 (l, D, tys, s.heap.size, s.heap.size + 601024, 7293034, b, scr) s.heap.size (a - s.heap.size))) else none) = some q := hq
    split at this
    · cases this
    · rw [if_neg (by omega)] at this
      cases this
  have hlv := lv_entry ([Value.ref b] : List Value) (n := 7) (xBle rfl)
  have key := K p e room_1 s m #[Value.ref b] below meth c 0 _ s.heap [] hF (by subst hGe; exact hlv) hrep xKeepS.rf (fun q hq => by cases hq) (by subst hGe; exact Nat.le_refl _) (Nat.le_refl _)
  have e1 : (hP G s.heap.size 0 0 (fun _ => none)).1 - s.heap.size = 0 := by show s.heap.size + 0 - s.heap.size = 0; omega
  rw [e1] at key
  have hgl : gL G = l := by subst hGe; rfl
  rw [hgl] at key
  rw [lg_entry_eq]
  intro T hT X
  obtain ⟨t, a1, r, h', Ls, q1, q2, q3, q4, q5, q6, q7, q8, q9, q10⟩ := key T hT X
  subst q1
  refine ⟨t, a1, .returned (some (.int 1)), q4, q5, rfl, ⟨_, rfl⟩, q6, ?_⟩
  have hA : gA G = s.heap.size := by subst hGe; rfl
  have hC : h'.1 ≤ s.heap.size + 601024 := by have := q2.2.1; subst hGe; exact this
  have hSl : h'.2.1 ≤ 7293034 := by have := q2.2.2.1; subst hGe; exact this
  refine State.sameButNew.weaken q7 (fun y hy hlt => ?_) (by omega) (by omega)
  have := q8 y hy
  rw [hA] at this
  exact absurd hlt (Nat.not_lt.mpr this)
