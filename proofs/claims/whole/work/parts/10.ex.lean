/-! the machine seen as a pure one: a heap as a function, a run as a predicate; both outcomes -/
abbrev xH : Type := Nat × Nat × (Nat → Option va_E)
abbrev xR : Type := Option Value ⊕ Addr
abbrev xM : Type := MethodName × ByteArray × Nat × Option FieldType × List (Nat × Nat × Nat × Nat)
abbrev xG : Type := Launch × va_G × List (ClassId × FieldType) × Nat × Nat × Nat × Nat × Cell
abbrev gL (G : xG) : Launch := G.1
abbrev gD (G : xG) : va_G := G.2.1
abbrev gT (G : xG) : List (ClassId × FieldType) := G.2.2.1
/-- the heap's size where the law begins: nothing below is written -/
abbrev gA (G : xG) : Nat := G.2.2.2.1
/-- the heap's size and the number of slots (since the law's begin) that are never passed -/
abbrev gC (G : xG) : Nat := G.2.2.2.2.1
abbrev gS (G : xG) : Nat := G.2.2.2.2.2.1
/-- the script: its address, its cell -/
abbrev gB (G : xG) : Nat := G.2.2.2.2.2.2.1
abbrev gX (G : xG) : Cell := G.2.2.2.2.2.2.2
def xRep (G : xG) (h : xH) (H : Heap) : Prop := H.size = h.1 ∧ h.1 ≤ gC G ∧ h.2.1 ≤ gS G ∧ gA G ≤ h.1 ∧ (gB G < gA G ∧ H[gB G]? = some (gX G)) ∧ ∀ (a : Nat) (e : va_E), h.2.2 a = some e → gA G ≤ a ∧ va_at (gD G) xcl (a, e) H
def xOut (r : xR) : Outcome := match r with
  | .inl v => .returned v
  | .inr a => .threw a
/-- the cells of statics stay -/
def xKeepS (H H' : Heap) : Prop := ∀ (a : Nat) (c : Cell), H[a]? = some c → c.vm.isStatics = true → H'[a]? = some c
def xEnd (G : xG) (s : State) (below : List Frame) (n0 : Nat) (Q : xR → xH → Prop) : State → Prop := fun t =>
  ∃ (r : xR) (h : xH) (L : List Loc), Q r h ∧ xRep G h t.heap ∧ xKeepS s.heap t.heap ∧ t.status = .running ∧ Ended t below (xOut r) ∧ s.WarmedH t.vm ∧
    s.sameButNew ({ t with vm := s.vm } : State) L (h.1 - s.heap.size) (h.2.1 - n0) ∧ (∀ q ∈ L, gA G ≤ q.base) ∧ s.heap.size ≤ h.1 ∧ n0 ≤ h.2.1
/-- the words of the tables; those that speak of cells of statics too -/
def xWd (s : State) : Prop := ∀ w ∈ xWS, w.before #[] s = true
def xEx : List String := [RNse, RIae, RIse, RIoo]
/-- no exception of the four is another's -/
def xNo (s : State) : Prop := ∀ A ∈ xEx, ∀ B ∈ xEx, A ≠ B → ∃ c t, s.vm.findClass A = some c ∧ s.vm.findClass B = some t ∧ s.vm.assignable c t = false
def xSd (s : State) : Prop := (∀ w ∈ xSW, w.before #[] s = true) ∧ xNo s
def xFix (G : xG) (M : xM) (d : Nat) (p : Program) (R : Room) (s : State) (m : MethodId) (meth : Method) (c : Code) (n0 : Nat) : Prop :=
  p.tables.exec = Jvm.exec ∧ c.code = M.2.1 ∧ c.maxLocals = M.2.2.1 ∧ meth.sig.returnType = M.2.2.2.1 ∧ meth.locks = false ∧
  c.exceptionTable.toList.map (fun h => (h.startPc, h.endPc, h.handlerPc, h.catchType)) = M.2.2.2.2 ∧
  s.methodNamed? M.1 = some m ∧ s.vm.method? m = some meth ∧ xWd s ∧ xSd s ∧ s.isArrayOf (gX G) .int ∧ va_K (gD G) xcl (gT G) s ∧ d + 16 ≤ R.frames ∧ 64 * d + 256 ≤ R.locals ∧
  gC G ≤ s.heap.size + R.cells ∧ gS G ≤ n0 + R.slots
def EX (G : xG) (M : xM) (d pc : Nat) (lv : List (Nat × Value)) (st : List Value) (h : xH) (Q : xR → xH → Prop) : Prop :=
  ∀ (p : Program) (e : Env) (R : Room) (s : State) (m : MethodId) (args : Array Value) (below : List Frame) (meth : Method) (c : Code) (n0 : Nat) (ls : Array Slot) (H : Heap) (locs : List Loc),
    xFix G M d p R s m meth c n0 → lv_has ls M.2.2.1 lv → xRep G h H → xKeepS s.heap H → (∀ q ∈ locs, gA G ≤ q.base) → s.heap.size ≤ h.1 → n0 ≤ h.2.1 →
    W p (gL G) e R s m args below meth c H locs (h.1 - s.heap.size) (h.2.1 - n0) (xEnd G s below n0 Q) (F0 m pc ls st)
/-! the locals: a list, in the order of their numbers -/
def lvG : List (Nat × Value) → Nat → Option Value
  | [], _ => none
  | (j, v) :: t, i => match Nat.beq j i with
    | true => some v
    | false => lvG t i
theorem lvG_mem : ∀ {lv : List (Nat × Value)} {i : Nat} {v : Value}, lvG lv i = some v → (i, v) ∈ lv
  | [], i, v, h => by cases h
  | (j, w) :: t, i, v, h => by
    unfold lvG at h
    split at h
    next hb =>
      cases h
      have e := Nat.eq_of_beq_eq_true hb
      subst e
      exact List.mem_cons_self
    next hb => exact List.mem_cons_of_mem _ (lvG_mem h)
theorem lvG_at {ls : Array Slot} {nL : Nat} {lv : List (Nat × Value)} (h : lv_has ls nL lv) {i : Nat} {v : Value} (hv : lvG lv i = some v) : ls[i]? = some (.val v) := h.2.2 (i, v) (lvG_mem hv)
def lvK1 (i : Nat) : List (Nat × Value) → List (Nat × Value)
  | [] => []
  | (j, w) :: t => match Nat.beq j i || (Nat.beq (j + 1) i && Nat.beq w.category 2) with
    | true => lvK1 i t
    | false => (j, w) :: lvK1 i t
def lvK2 (i : Nat) : List (Nat × Value) → List (Nat × Value)
  | [] => []
  | (j, w) :: t => match Nat.beq j i || (Nat.beq j (i + 1) || (Nat.beq (j + 1) i && Nat.beq w.category 2)) with
    | true => lvK2 i t
    | false => (j, w) :: lvK2 i t
def lvIns : List (Nat × Value) → Nat → Value → List (Nat × Value)
  | [], i, v => [(i, v)]
  | (j, w) :: t, i, v => match Nat.ble i j with
    | true => (i, v) :: (j, w) :: t
    | false => (j, w) :: lvIns t i v
theorem lvIns_sub : ∀ {lv : List (Nat × Value)} {i : Nat} {v : Value} {q : Nat × Value}, q ∈ lvIns lv i v → q = (i, v) ∨ q ∈ lv
  | [], i, v, q, h => by
    simp [lvIns] at h
    exact Or.inl h
  | (j, w) :: t, i, v, q, h => by
    unfold lvIns at h
    split at h
    next hb => exact List.mem_cons.mp h
    next hb =>
      rcases List.mem_cons.mp h with h | h
      · rw [h]; exact Or.inr List.mem_cons_self
      · rcases lvIns_sub h with h | h
        · exact Or.inl h
        · exact Or.inr (List.mem_cons_of_mem _ h)
theorem lvK1_sub : ∀ {lv : List (Nat × Value)} {i : Nat} {q : Nat × Value}, q ∈ lvK1 i lv → q ∈ lv.filter (fun q => !(q.1 == i) && !(q.1 + 1 == i && q.2.category == 2))
  | [], i, q, h => by cases h
  | (j, w) :: t, i, q, h => by
    unfold lvK1 at h
    split at h
    next hb =>
      have := lvK1_sub h
      rw [List.mem_filter] at this ⊢
      exact ⟨List.mem_cons_of_mem _ this.1, this.2⟩
    next hb =>
      rcases List.mem_cons.mp h with h | h
      · rw [List.mem_filter]
        subst h
        refine ⟨List.mem_cons_self, ?_⟩
        simp only [Nat.beq_eq, Bool.or_eq_false_iff, Bool.and_eq_false_iff] at hb
        simp only [Bool.and_eq_true, Bool.not_eq_true', beq_eq_false_iff_ne, Bool.and_eq_false_iff]
        obtain ⟨h1, h2⟩ := hb
        refine ⟨fun e => ?_, ?_⟩
        · rw [e] at h1; simp at h1
        · rcases h2 with h2 | h2
          · left; intro e; rw [e] at h2; simp at h2
          · right; intro e; rw [e] at h2; simp at h2
      · have := lvK1_sub h
        rw [List.mem_filter] at this ⊢
        exact ⟨List.mem_cons_of_mem _ this.1, this.2⟩
theorem lvK2_sub : ∀ {lv : List (Nat × Value)} {i : Nat} {q : Nat × Value}, q ∈ lvK2 i lv → q ∈ lv.filter (fun q => !(q.1 == i) && (!(q.1 == i + 1) && !(q.1 + 1 == i && q.2.category == 2)))
  | [], i, q, h => by cases h
  | (j, w) :: t, i, q, h => by
    unfold lvK2 at h
    split at h
    next hb =>
      have := lvK2_sub h
      rw [List.mem_filter] at this ⊢
      exact ⟨List.mem_cons_of_mem _ this.1, this.2⟩
    next hb =>
      rcases List.mem_cons.mp h with h | h
      · rw [List.mem_filter]
        subst h
        refine ⟨List.mem_cons_self, ?_⟩
        simp only [Nat.beq_eq, Bool.or_eq_false_iff, Bool.and_eq_false_iff] at hb
        simp only [Bool.and_eq_true, Bool.not_eq_true', beq_eq_false_iff_ne, Bool.and_eq_false_iff]
        obtain ⟨h1, h3, h2⟩ := hb
        refine ⟨fun e => ?_, fun e => ?_, ?_⟩
        · rw [e] at h1; simp at h1
        · rw [e] at h3; simp at h3
        · rcases h2 with h2 | h2
          · left; intro e; rw [e] at h2; simp at h2
          · right; intro e; rw [e] at h2; simp at h2
      · have := lvK2_sub h
        rw [List.mem_filter] at this ⊢
        exact ⟨List.mem_cons_of_mem _ this.1, this.2⟩
theorem lv_more {ls : Array Slot} {nL : Nat} {l l' : List (Nat × Value)} (h : lv_has ls nL l) (hs : ∀ q ∈ l', q ∈ l) : lv_has ls nL l' := ⟨h.1, h.2.1, fun q hq => h.2.2 q (hs q hq)⟩
theorem lv_has1 {ls : Array Slot} {nL i : Nat} {v : Value} {lv : List (Nat × Value)} (h : lv_has ls nL ((i, v) :: lv.filter (fun q => !(q.1 == i) && !(q.1 + 1 == i && q.2.category == 2)))) : lv_has ls nL (lvIns (lvK1 i lv) i v) :=
  lv_more h fun q hq => by
    rcases lvIns_sub hq with e | e
    · rw [e]; exact List.mem_cons_self
    · exact List.mem_cons_of_mem _ (lvK1_sub e)
theorem lv_has2 {ls : Array Slot} {nL i : Nat} {v : Value} {lv : List (Nat × Value)} (h : lv_has ls nL ((i, v) :: lv.filter (fun q => !(q.1 == i) && (!(q.1 == i + 1) && !(q.1 + 1 == i && q.2.category == 2))))) : lv_has ls nL (lvIns (lvK2 i lv) i v) :=
  lv_more h fun q hq => by
    rcases lvIns_sub hq with e | e
    · rw [e]; exact List.mem_cons_self
    · exact List.mem_cons_of_mem _ (lvK2_sub e)
/-- fewer locals -/
def lvSel (lv : List (Nat × Value)) : List Nat → List (Nat × Value)
  | [] => []
  | i :: t => match lvG lv i with
    | some v => (i, v) :: lvSel lv t
    | none => lvSel lv t
theorem lvSel_sub : ∀ {lv : List (Nat × Value)} {is : List Nat} {q : Nat × Value}, q ∈ lvSel lv is → q ∈ lv
  | lv, [], q, h => by cases h
  | lv, i :: t, q, h => by
    unfold lvSel at h
    split at h
    next v hv =>
      rcases List.mem_cons.mp h with h | h
      · rw [h]; exact lvG_mem hv
      · exact lvSel_sub h
    next => exact lvSel_sub h
