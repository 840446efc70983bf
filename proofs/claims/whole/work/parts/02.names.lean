/-! the classes, their fields, the words of the tables, the methods: written by a program out of the Statement -/
def RLw : String := "GlassHallLaw"
def RGl : String := "GlassHall$Glass"
def TGl : u_T := fun k => match k with
  | 0 => ("GlassHall$Glass", "flawX", "[I", true)
  | 1 => ("GlassHall$Glass", "flawY", "[I", true)
  | 2 => ("GlassHall$Glass", "flawWide", "[I", true)
  | 3 => ("GlassHall$Glass", "flawHigh", "[I", true)
  | 4 => ("GlassHall$Glass", "wide", "I", false)
  | 5 => ("GlassHall$Glass", "high", "I", false)
  | _ => ("GlassHall$Glass", "flaws", "I", false)
def tyGl : Nat → FieldType := fun k => match k with
  | 0 => .array (.int)
  | 1 => .array (.int)
  | 2 => .array (.int)
  | 3 => .array (.int)
  | 4 => .int
  | 5 => .int
  | _ => .int
theorem nmGl : ∀ a, a < 7 → ∀ b, b < 7 → a ≠ b → (TGl a).2.1 ≠ (TGl b).2.1 := by decide +kernel
theorem tyGl_ok : ∀ k, k < 7 → parseFieldDescriptor (TGl k).2.2.1 = some (tyGl k) := by decide +kernel
def RLa : String := "GlassHall$Layout"
def TLa : u_T := fun k => match k with
  | 0 => ("GlassHall$Layout", "orderOf", "[I", true)
  | 1 => ("GlassHall$Layout", "wide", "[I", true)
  | 2 => ("GlassHall$Layout", "high", "[I", true)
  | 3 => ("GlassHall$Layout", "column", "[I", true)
  | 4 => ("GlassHall$Layout", "row", "[I", true)
  | _ => ("GlassHall$Layout", "size", "I", false)
def tyLa : Nat → FieldType := fun k => match k with
  | 0 => .array (.int)
  | 1 => .array (.int)
  | 2 => .array (.int)
  | 3 => .array (.int)
  | 4 => .array (.int)
  | _ => .int
theorem nmLa : ∀ a, a < 6 → ∀ b, b < 6 → a ≠ b → (TLa a).2.1 ≠ (TLa b).2.1 := by decide +kernel
theorem tyLa_ok : ∀ k, k < 6 → parseFieldDescriptor (TLa k).2.2.1 = some (tyLa k) := by decide +kernel
def ROr : String := "GlassHall$Order"
def TOr : u_T := fun k => match k with
  | 0 => ("GlassHall$Order", "wide", "I", true)
  | 1 => ("GlassHall$Order", "high", "I", true)
  | 2 => ("GlassHall$Order", "turns", "Z", true)
  | 3 => ("GlassHall$Order", "open", "I", false)
  | 4 => ("GlassHall$Order", "planned", "I", false)
  | _ => ("GlassHall$Order", "done", "I", false)
def tyOr : Nat → FieldType := fun k => match k with
  | 0 => .int
  | 1 => .int
  | 2 => .boolean
  | 3 => .int
  | 4 => .int
  | _ => .int
theorem nmOr : ∀ a, a < 6 → ∀ b, b < 6 → a ≠ b → (TOr a).2.1 ≠ (TOr b).2.1 := by decide +kernel
theorem tyOr_ok : ∀ k, k < 6 → parseFieldDescriptor (TOr k).2.2.1 = some (tyOr k) := by decide +kernel
def RBk : String := "GlassHall$OrderBook"
def TBk : u_T := fun k => match k with
  | 0 => ("GlassHall$OrderBook", "orders", "[LGlassHall$Order;", true)
  | 1 => ("GlassHall$OrderBook", "ranked", "[I", true)
  | _ => ("GlassHall$OrderBook", "size", "I", false)
def tyBk : Nat → FieldType := fun k => match k with
  | 0 => .array (.object "GlassHall$Order")
  | 1 => .array (.int)
  | _ => .int
theorem nmBk : ∀ a, a < 3 → ∀ b, b < 3 → a ≠ b → (TBk a).2.1 ≠ (TBk b).2.1 := by decide +kernel
theorem tyBk_ok : ∀ k, k < 3 → parseFieldDescriptor (TBk k).2.2.1 = some (tyBk k) := by decide +kernel
def RRk : String := "GlassHall$Rack"
def TRk : u_T := fun k => match k with
  | 0 => ("GlassHall$Rack", "row", "[LGlassHall$Glass;", true)
  | _ => ("GlassHall$Rack", "size", "I", false)
def tyRk : Nat → FieldType := fun k => match k with
  | 0 => .array (.object "GlassHall$Glass")
  | _ => .int
theorem nmRk : ∀ a, a < 2 → ∀ b, b < 2 → a ≠ b → (TRk a).2.1 ≠ (TRk b).2.1 := by decide +kernel
theorem tyRk_ok : ∀ k, k < 2 → parseFieldDescriptor (TRk k).2.2.1 = some (tyRk k) := by decide +kernel
def RSh : String := "GlassHall$Sheet"
def TSh : u_T := fun k => match k with
  | 0 => ("GlassHall$Sheet", "glass", "LGlassHall$Glass;", true)
  | 1 => ("GlassHall$Sheet", "tree", "LGlassHall$Tree;", true)
  | 2 => ("GlassHall$Sheet", "there", "Z", false)
  | _ => ("GlassHall$Sheet", "id", "I", false)
def tySh : Nat → FieldType := fun k => match k with
  | 0 => .object "GlassHall$Glass"
  | 1 => .object "GlassHall$Tree"
  | 2 => .boolean
  | _ => .int
theorem nmSh : ∀ a, a < 4 → ∀ b, b < 4 → a ≠ b → (TSh a).2.1 ≠ (TSh b).2.1 := by decide +kernel
theorem tySh_ok : ∀ k, k < 4 → parseFieldDescriptor (TSh k).2.2.1 = some (tySh k) := by decide +kernel
def RSt : String := "GlassHall$Strips"
def TSt : u_T := fun k => match k with
  | 0 => ("GlassHall$Strips", "book", "LGlassHall$OrderBook;", true)
  | 1 => ("GlassHall$Strips", "layout", "LGlassHall$Layout;", true)
  | 2 => ("GlassHall$Strips", "column", "I", false)
  | 3 => ("GlassHall$Strips", "row", "I", false)
  | 4 => ("GlassHall$Strips", "x", "I", false)
  | 5 => ("GlassHall$Strips", "y", "I", false)
  | _ => ("GlassHall$Strips", "room", "I", false)
def tySt : Nat → FieldType := fun k => match k with
  | 0 => .object "GlassHall$OrderBook"
  | 1 => .object "GlassHall$Layout"
  | 2 => .int
  | 3 => .int
  | 4 => .int
  | 5 => .int
  | _ => .int
theorem nmSt : ∀ a, a < 7 → ∀ b, b < 7 → a ≠ b → (TSt a).2.1 ≠ (TSt b).2.1 := by decide +kernel
theorem tySt_ok : ∀ k, k < 7 → parseFieldDescriptor (TSt k).2.2.1 = some (tySt k) := by decide +kernel
def RTr : String := "GlassHall$Tree"
def TTr : u_T := fun k => match k with
  | 0 => ("GlassHall$Tree", "kind", "[I", true)
  | 1 => ("GlassHall$Tree", "x", "[I", true)
  | 2 => ("GlassHall$Tree", "y", "[I", true)
  | 3 => ("GlassHall$Tree", "wide", "[I", true)
  | 4 => ("GlassHall$Tree", "high", "[I", true)
  | 5 => ("GlassHall$Tree", "mark", "[I", true)
  | 6 => ("GlassHall$Tree", "second", "[I", true)
  | 7 => ("GlassHall$Tree", "state", "[I", true)
  | _ => ("GlassHall$Tree", "size", "I", false)
def tyTr : Nat → FieldType := fun k => match k with
  | 0 => .array (.int)
  | 1 => .array (.int)
  | 2 => .array (.int)
  | 3 => .array (.int)
  | 4 => .array (.int)
  | 5 => .array (.int)
  | 6 => .array (.int)
  | 7 => .array (.int)
  | _ => .int
theorem nmTr : ∀ a, a < 9 → ∀ b, b < 9 → a ≠ b → (TTr a).2.1 ≠ (TTr b).2.1 := by decide +kernel
theorem tyTr_ok : ∀ k, k < 9 → parseFieldDescriptor (TTr k).2.2.1 = some (tyTr k) := by decide +kernel
def RTi : String := "GlassHall$Trial"
def TTi : u_T := fun k => match k with
  | 0 => ("GlassHall$Trial", "book", "LGlassHall$OrderBook;", true)
  | 1 => ("GlassHall$Trial", "layout", "LGlassHall$Layout;", true)
  | 2 => ("GlassHall$Trial", "named", "[I", true)
  | _ => ("GlassHall$Trial", "names", "I", false)
def tyTi : Nat → FieldType := fun k => match k with
  | 0 => .object "GlassHall$OrderBook"
  | 1 => .object "GlassHall$Layout"
  | 2 => .array (.int)
  | _ => .int
theorem nmTi : ∀ a, a < 4 → ∀ b, b < 4 → a ≠ b → (TTi a).2.1 ≠ (TTi b).2.1 := by decide +kernel
theorem tyTi_ok : ∀ k, k < 4 → parseFieldDescriptor (TTi k).2.2.1 = some (tyTi k) := by decide +kernel
def RHa : String := "GlassHall"
def THa : u_T := fun k => match k with
  | 0 => ("GlassHall", "slots", "[LGlassHall$Sheet;", true)
  | 1 => ("GlassHall", "book", "LGlassHall$OrderBook;", true)
  | 2 => ("GlassHall", "offcuts", "LGlassHall$Rack;", true)
  | 3 => ("GlassHall", "layout", "LGlassHall$Layout;", true)
  | 4 => ("GlassHall", "strips", "LGlassHall$Strips;", true)
  | 5 => ("GlassHall", "trial", "LGlassHall$Trial;", true)
  | 6 => ("GlassHall", "sheetsEver", "I", false)
  | 7 => ("GlassHall", "madeArea", "J", false)
  | 8 => ("GlassHall", "doneArea", "J", false)
  | 9 => ("GlassHall", "wasteArea", "J", false)
  | _ => ("GlassHall", "brokenArea", "J", false)
def tyHa : Nat → FieldType := fun k => match k with
  | 0 => .array (.object "GlassHall$Sheet")
  | 1 => .object "GlassHall$OrderBook"
  | 2 => .object "GlassHall$Rack"
  | 3 => .object "GlassHall$Layout"
  | 4 => .object "GlassHall$Strips"
  | 5 => .object "GlassHall$Trial"
  | 6 => .int
  | 7 => .long
  | 8 => .long
  | 9 => .long
  | _ => .long
theorem nmHa : ∀ a, a < 11 → ∀ b, b < 11 → a ≠ b → (THa a).2.1 ≠ (THa b).2.1 := by decide +kernel
theorem tyHa_ok : ∀ k, k < 11 → parseFieldDescriptor (THa k).2.2.1 = some (tyHa k) := by decide +kernel
def RMo : String := "GlassHallModel"
def TMo : u_T := fun k => match k with
  | 0 => ("GlassHallModel", "thrown", "I", false)
  | 1 => ("GlassHallModel", "ever", "I", false)
  | 2 => ("GlassHallModel", "there", "[Z", true)
  | 3 => ("GlassHallModel", "ids", "[I", true)
  | 4 => ("GlassHallModel", "widths", "[I", true)
  | 5 => ("GlassHallModel", "heights", "[I", true)
  | 6 => ("GlassHallModel", "planned", "[Z", true)
  | 7 => ("GlassHallModel", "scored", "[Z", true)
  | 8 => ("GlassHallModel", "flawCounts", "[I", true)
  | 9 => ("GlassHallModel", "flaws", "[I", true)
  | 10 => ("GlassHallModel", "nodeCounts", "[I", true)
  | 11 => ("GlassHallModel", "kinds", "[I", true)
  | 12 => ("GlassHallModel", "xs", "[I", true)
  | 13 => ("GlassHallModel", "ys", "[I", true)
  | 14 => ("GlassHallModel", "ws", "[I", true)
  | 15 => ("GlassHallModel", "hs", "[I", true)
  | 16 => ("GlassHallModel", "cuts", "[I", true)
  | 17 => ("GlassHallModel", "firsts", "[I", true)
  | 18 => ("GlassHallModel", "seconds", "[I", true)
  | 19 => ("GlassHallModel", "states", "[I", true)
  | 20 => ("GlassHallModel", "orders", "I", false)
  | 21 => ("GlassHallModel", "orderW", "[I", true)
  | 22 => ("GlassHallModel", "orderH", "[I", true)
  | 23 => ("GlassHallModel", "turns", "[Z", true)
  | 24 => ("GlassHallModel", "open", "[I", true)
  | 25 => ("GlassHallModel", "coming", "[I", true)
  | 26 => ("GlassHallModel", "done", "[I", true)
  | 27 => ("GlassHallModel", "offcuts", "I", false)
  | 28 => ("GlassHallModel", "offW", "[I", true)
  | 29 => ("GlassHallModel", "offH", "[I", true)
  | 30 => ("GlassHallModel", "offFlawCounts", "[I", true)
  | 31 => ("GlassHallModel", "offFlaws", "[I", true)
  | 32 => ("GlassHallModel", "doneArea", "J", false)
  | 33 => ("GlassHallModel", "wasteArea", "J", false)
  | 34 => ("GlassHallModel", "brokenArea", "J", false)
  | 35 => ("GlassHallModel", "madeArea", "J", false)
  | 36 => ("GlassHallModel", "panes", "I", false)
  | 37 => ("GlassHallModel", "paneOrder", "[I", true)
  | 38 => ("GlassHallModel", "paneW", "[I", true)
  | 39 => ("GlassHallModel", "paneH", "[I", true)
  | 40 => ("GlassHallModel", "paneColumn", "[I", true)
  | 41 => ("GlassHallModel", "paneRow", "[I", true)
  | 42 => ("GlassHallModel", "taken", "[I", true)
  | 43 => ("GlassHallModel", "pieces", "I", false)
  | 44 => ("GlassHallModel", "pieceHas", "[I", true)
  | 45 => ("GlassHallModel", "pieceColumn", "[I", true)
  | 46 => ("GlassHallModel", "pieceRow", "[I", true)
  | 47 => ("GlassHallModel", "piecePane", "[I", true)
  | 48 => ("GlassHallModel", "pieceX", "[I", true)
  | 49 => ("GlassHallModel", "pieceY", "[I", true)
  | 50 => ("GlassHallModel", "pieceW", "[I", true)
  | 51 => ("GlassHallModel", "pieceH", "[I", true)
  | _ => ("GlassHallModel", "pieceOf", "[I", true)
def tyMo : Nat → FieldType := fun k => match k with
  | 0 => .int
  | 1 => .int
  | 2 => .array (.boolean)
  | 3 => .array (.int)
  | 4 => .array (.int)
  | 5 => .array (.int)
  | 6 => .array (.boolean)
  | 7 => .array (.boolean)
  | 8 => .array (.int)
  | 9 => .array (.int)
  | 10 => .array (.int)
  | 11 => .array (.int)
  | 12 => .array (.int)
  | 13 => .array (.int)
  | 14 => .array (.int)
  | 15 => .array (.int)
  | 16 => .array (.int)
  | 17 => .array (.int)
  | 18 => .array (.int)
  | 19 => .array (.int)
  | 20 => .int
  | 21 => .array (.int)
  | 22 => .array (.int)
  | 23 => .array (.boolean)
  | 24 => .array (.int)
  | 25 => .array (.int)
  | 26 => .array (.int)
  | 27 => .int
  | 28 => .array (.int)
  | 29 => .array (.int)
  | 30 => .array (.int)
  | 31 => .array (.int)
  | 32 => .long
  | 33 => .long
  | 34 => .long
  | 35 => .long
  | 36 => .int
  | 37 => .array (.int)
  | 38 => .array (.int)
  | 39 => .array (.int)
  | 40 => .array (.int)
  | 41 => .array (.int)
  | 42 => .array (.int)
  | 43 => .int
  | 44 => .array (.int)
  | 45 => .array (.int)
  | 46 => .array (.int)
  | 47 => .array (.int)
  | 48 => .array (.int)
  | 49 => .array (.int)
  | 50 => .array (.int)
  | 51 => .array (.int)
  | _ => .array (.int)
theorem nmMo : ∀ a, a < 53 → ∀ b, b < 53 → a ≠ b → (TMo a).2.1 ≠ (TMo b).2.1 := by decide +kernel
theorem tyMo_ok : ∀ k, k < 53 → parseFieldDescriptor (TMo k).2.2.1 = some (tyMo k) := by decide +kernel
def T0 : u_T := fun _ => ("", "", "", false)
def RNse : String := "java/util/NoSuchElementException"
def RIae : String := "java/lang/IllegalArgumentException"
def RIse : String := "java/lang/IllegalStateException"
def RIoo : String := "java/lang/IndexOutOfBoundsException"
def xcl : List vw_C := [(RGl, TGl, 7), (RLa, TLa, 6), (ROr, TOr, 6), (RBk, TBk, 3), (RRk, TRk, 2), (RSh, TSh, 4), (RSt, TSt, 7), (RTr, TTr, 9), (RTi, TTi, 4), (RHa, THa, 11), (RMo, TMo, 53), (RNse, T0, 0), (RIae, T0, 0), (RIse, T0, 0), (RIoo, T0, 0)]
/-- words that stay true as the tables grow warmer, whatever the heap -/
def xOk (w : Cond) : Bool := (w.onTables && (w.keeps || w.keepsH)) || match w with
  | .castable .. => true
  | .declares .. => true
  | .arrayOver (.object _) => true
  | .arrayClass _ => true
  | _ => false
theorem xOk_warm {w : Cond} (h : xOk w = true) {s U : State} {args a' : Array Value} (hW : s.WarmedH U.vm) (hb : w.before args s = true) : w.before a' U = true := by
  unfold xOk at h
  rw [Bool.or_eq_true] at h
  rcases h with h | h
  · rw [Bool.and_eq_true, Bool.or_eq_true] at h
    obtain ⟨h1, h2 | h2⟩ := h
    · have := Cond.onTables_warm (T := U) (args' := a') hW h1 h2 hb
      rwa [State.setVm_self] at this
    · have := Cond.onTables_warmH (T := U) (args' := a') hW h1 h2 hb
      rwa [State.setVm_self] at this
  · cases w with
    | castable C D => exact va_Nw.use rfl (va_Nw.warmC hW (va_Nw.of rfl hb))
    | declares x => exact va_Nw.use rfl (va_Nw.warmD hW (va_Nw.of rfl hb))
    | arrayOver ty =>
      cases ty with
      | object C => exact va_AO.use (va_AO.moved hW.alike (va_AO.of hb))
      | _ => cases h
    | arrayClass ty => exact word_at hW (Or.inr ⟨ty, rfl⟩) hb
    | _ => cases h
def xWS : List Cond := lw_tbl.filter xOk
theorem xWS_warm (w : Cond) (hw : w ∈ xWS) {s U : State} {args a' : Array Value} (hW : s.WarmedH U.vm) (hb : w.before args s = true) : w.before a' U = true := xOk_warm (List.mem_filter.mp hw).2 hW hb
theorem xIn {w : Cond} (i : Nat) (h : tables_1[i]? = some w) (ho : xOk w = true) : w ∈ xWS := List.mem_filter.mpr ⟨List.mem_append_right _ (List.mem_of_getElem? h), ho⟩
theorem xInS {y : MethodName} {C : String} (i n : Nat) (h : lw_privs[i]? = some (y, n)) (hC : y.cls = C) : Cond.selects C y y ∈ xWS := by
  subst hC
  refine List.mem_filter.mpr ⟨List.mem_append_left _ ?_, rfl⟩
  exact List.mem_map.mpr ⟨(y, n), List.mem_of_getElem? h, rfl⟩
theorem xSub (ws : List Cond) (ps : List Nat) (h : ws = ps.filterMap (fun i => tables_1[i]?)) (ho : ws.all xOk = true) : ∀ w ∈ ws, w ∈ xWS := by
  intro w hw
  have h1 := List.all_eq_true.mp ho w hw
  rw [h] at hw
  obtain ⟨i, -, hi⟩ := List.mem_filterMap.mp hw
  exact xIn i hi h1
def xSW : List Cond := [.laysStatic Bundle.tN "UNASSIGNED_STACK" Bundle.steD, .laysStatic Bundle.tN "SUPPRESSED_SENTINEL" Bundle.listD, .isRef (.static Bundle.tN "UNASSIGNED_STACK" Bundle.steD), .isRef (.static Bundle.tN "SUPPRESSED_SENTINEL" Bundle.listD)]
def m_Ha_init : MethodName × ByteArray × Nat × Option FieldType × List (Nat × Nat × Nat × Nat) := (⟨RHa, "<init>", "()V"⟩, prog_1_method_1_code, 2, none, [])
def m_Bk_init : MethodName × ByteArray × Nat × Option FieldType × List (Nat × Nat × Nat × Nat) := (⟨RBk, "<init>", "()V"⟩, prog_5_method_1_code, 1, none, [])
def m_Rk_init : MethodName × ByteArray × Nat × Option FieldType × List (Nat × Nat × Nat × Nat) := (⟨RRk, "<init>", "()V"⟩, prog_6_method_1_code, 2, none, [])
def m_Gl_init : MethodName × ByteArray × Nat × Option FieldType × List (Nat × Nat × Nat × Nat) := (⟨RGl, "<init>", "()V"⟩, prog_2_method_1_code, 1, none, [])
def m_La_init : MethodName × ByteArray × Nat × Option FieldType × List (Nat × Nat × Nat × Nat) := (⟨RLa, "<init>", "()V"⟩, prog_3_method_1_code, 1, none, [])
def m_St_init : MethodName × ByteArray × Nat × Option FieldType × List (Nat × Nat × Nat × Nat) := (⟨RSt, "<init>", "(LGlassHall$OrderBook;LGlassHall$Layout;)V"⟩, prog_8_method_1_code, 3, none, [])
def m_Ti_init : MethodName × ByteArray × Nat × Option FieldType × List (Nat × Nat × Nat × Nat) := (⟨RTi, "<init>", "(LGlassHall$OrderBook;LGlassHall$Layout;)V"⟩, prog_10_method_1_code, 3, none, [])
def m_Sh_init : MethodName × ByteArray × Nat × Option FieldType × List (Nat × Nat × Nat × Nat) := (⟨RSh, "<init>", "()V"⟩, prog_7_method_1_code, 1, none, [])
def m_Tr_init : MethodName × ByteArray × Nat × Option FieldType × List (Nat × Nat × Nat × Nat) := (⟨RTr, "<init>", "()V"⟩, prog_9_method_1_code, 1, none, [])
def m_Ha_fit : MethodName × ByteArray × Nat × Option FieldType × List (Nat × Nat × Nat × Nat) := (⟨RHa, "fit", "(II)I"⟩, prog_1_method_14_code, 3, some Jvm.ClassFile.FieldType.int, [])
def m_Rk_smallestFor : MethodName × ByteArray × Nat × Option FieldType × List (Nat × Nat × Nat × Nat) := (⟨RRk, "smallestFor", "(II)I"⟩, prog_6_method_5_code, 8, some Jvm.ClassFile.FieldType.int, [])
def m_Gl_surface : MethodName × ByteArray × Nat × Option FieldType × List (Nat × Nat × Nat × Nat) := (⟨RGl, "surface", "()J"⟩, prog_2_method_6_code, 1, some Jvm.ClassFile.FieldType.long, [])
def m_Ha_area : MethodName × ByteArray × Nat × Option FieldType × List (Nat × Nat × Nat × Nat) := (⟨RHa, "area", "(I)J"⟩, prog_1_method_17_code, 2, some Jvm.ClassFile.FieldType.long, [])
def m_Ha_unplannedArea : MethodName × ByteArray × Nat × Option FieldType × List (Nat × Nat × Nat × Nat) := (⟨RHa, "unplannedArea", "()J"⟩, prog_1_method_31_code, 7, some Jvm.ClassFile.FieldType.long, [])
def m_Tr_isGrown : MethodName × ByteArray × Nat × Option FieldType × List (Nat × Nat × Nat × Nat) := (⟨RTr, "isGrown", "()Z"⟩, prog_9_method_2_code, 1, some Jvm.ClassFile.FieldType.boolean, [])
def m_Rk_surface : MethodName × ByteArray × Nat × Option FieldType × List (Nat × Nat × Nat × Nat) := (⟨RRk, "surface", "()J"⟩, prog_6_method_6_code, 4, some Jvm.ClassFile.FieldType.long, [])
def m_Ha_waitingArea : MethodName × ByteArray × Nat × Option FieldType × List (Nat × Nat × Nat × Nat) := (⟨RHa, "waitingArea", "()J"⟩, prog_1_method_32_code, 7, some Jvm.ClassFile.FieldType.long, [])
def m_Tr_waitingSurface : MethodName × ByteArray × Nat × Option FieldType × List (Nat × Nat × Nat × Nat) := (⟨RTr, "waitingSurface", "()J"⟩, prog_9_method_15_code, 4, some Jvm.ClassFile.FieldType.long, [])
def m_Tr_surface : MethodName × ByteArray × Nat × Option FieldType × List (Nat × Nat × Nat × Nat) := (⟨RTr, "surface", "(I)J"⟩, prog_9_method_6_code, 2, some Jvm.ClassFile.FieldType.long, [])
def m_Ha_total : MethodName × ByteArray × Nat × Option FieldType × List (Nat × Nat × Nat × Nat) := (⟨RHa, "total", "(I)I"⟩, prog_1_method_18_code, 2, some Jvm.ClassFile.FieldType.int, [])
def m_Ha_countSheets : MethodName × ByteArray × Nat × Option FieldType × List (Nat × Nat × Nat × Nat) := (⟨RHa, "countSheets", "(Z)I"⟩, prog_1_method_33_code, 7, some Jvm.ClassFile.FieldType.int, [])
def m_Lw_sheet : MethodName × ByteArray × Nat × Option FieldType × List (Nat × Nat × Nat × Nat) := (⟨RLw, "sheet", "(LGlassHall;II[J)I"⟩, method_3_code, 5, some Jvm.ClassFile.FieldType.int, [(0, 10, 13, 13), (0, 10, 17, 15)])
def m_Ha_sheet : MethodName × ByteArray × Nat × Option FieldType × List (Nat × Nat × Nat × Nat) := (⟨RHa, "sheet", "(II)I"⟩, prog_1_method_2_code, 4, some Jvm.ClassFile.FieldType.int, [])
def m_Ha_isLength : MethodName × ByteArray × Nat × Option FieldType × List (Nat × Nat × Nat × Nat) := (⟨RHa, "isLength", "(I)Z"⟩, prog_1_method_19_code, 1, some Jvm.ClassFile.FieldType.boolean, [])
def m_Ha_findFreeSlot : MethodName × ByteArray × Nat × Option FieldType × List (Nat × Nat × Nat × Nat) := (⟨RHa, "findFreeSlot", "()LGlassHall$Sheet;"⟩, prog_1_method_21_code, 5, some (Jvm.ClassFile.FieldType.object "GlassHall$Sheet"), [])
def m_Gl_become : MethodName × ByteArray × Nat × Option FieldType × List (Nat × Nat × Nat × Nat) := (⟨RGl, "become", "(II)V"⟩, prog_2_method_2_code, 3, none, [])
def m_Ha_bringIn : MethodName × ByteArray × Nat × Option FieldType × List (Nat × Nat × Nat × Nat) := (⟨RHa, "bringIn", "(LGlassHall$Sheet;)I"⟩, prog_1_method_25_code, 2, some Jvm.ClassFile.FieldType.int, [])
def m_Lw_flaw : MethodName × ByteArray × Nat × Option FieldType × List (Nat × Nat × Nat × Nat) := (⟨RLw, "flaw", "(LGlassHall;IIIII[J)I"⟩, method_4_code, 8, some Jvm.ClassFile.FieldType.int, [(0, 16, 19, 21), (0, 16, 23, 13), (0, 16, 27, 15)])
def m_Ha_flaw : MethodName × ByteArray × Nat × Option FieldType × List (Nat × Nat × Nat × Nat) := (⟨RHa, "flaw", "(IIIII)I"⟩, prog_1_method_3_code, 8, some Jvm.ClassFile.FieldType.int, [])
def m_Ha_findSheet : MethodName × ByteArray × Nat × Option FieldType × List (Nat × Nat × Nat × Nat) := (⟨RHa, "findSheet", "(I)LGlassHall$Sheet;"⟩, prog_1_method_22_code, 6, some (Jvm.ClassFile.FieldType.object "GlassHall$Sheet"), [])
def m_Ha_liesIn : MethodName × ByteArray × Nat × Option FieldType × List (Nat × Nat × Nat × Nat) := (⟨RHa, "liesIn", "(III)Z"⟩, prog_1_method_20_code, 3, some Jvm.ClassFile.FieldType.boolean, [])
def m_Gl_addFlaw : MethodName × ByteArray × Nat × Option FieldType × List (Nat × Nat × Nat × Nat) := (⟨RGl, "addFlaw", "(IIII)V"⟩, prog_2_method_4_code, 5, none, [])
def m_Lw_order : MethodName × ByteArray × Nat × Option FieldType × List (Nat × Nat × Nat × Nat) := (⟨RLw, "order", "(LGlassHall;IIZI[J)I"⟩, method_5_code, 7, some Jvm.ClassFile.FieldType.int, [(0, 14, 17, 13), (0, 14, 21, 15)])
def m_Ha_order : MethodName × ByteArray × Nat × Option FieldType × List (Nat × Nat × Nat × Nat) := (⟨RHa, "order", "(IIZI)I"⟩, prog_1_method_4_code, 5, some Jvm.ClassFile.FieldType.int, [])
def m_Or_init : MethodName × ByteArray × Nat × Option FieldType × List (Nat × Nat × Nat × Nat) := (⟨ROr, "<init>", "(IIZI)V"⟩, prog_4_method_1_code, 5, none, [])
def m_Bk_add : MethodName × ByteArray × Nat × Option FieldType × List (Nat × Nat × Nat × Nat) := (⟨RBk, "add", "(LGlassHall$Order;)I"⟩, prog_5_method_3_code, 4, some Jvm.ClassFile.FieldType.int, [])
def m_Or_goesBefore : MethodName × ByteArray × Nat × Option FieldType × List (Nat × Nat × Nat × Nat) := (⟨ROr, "goesBefore", "(LGlassHall$Order;)Z"⟩, prog_4_method_2_code, 2, some Jvm.ClassFile.FieldType.boolean, [])
def m_Lw_plan : MethodName × ByteArray × Nat × Option FieldType × List (Nat × Nat × Nat × Nat) := (⟨RLw, "plan", "(LGlassHall;I[J)I"⟩, method_6_code, 4, some Jvm.ClassFile.FieldType.int, [(0, 9, 12, 21), (0, 9, 15, 15)])
def m_Ha_plan : MethodName × ByteArray × Nat × Option FieldType × List (Nat × Nat × Nat × Nat) := (⟨RHa, "plan", "(I)I"⟩, prog_1_method_5_code, 3, some Jvm.ClassFile.FieldType.int, [])
def m_St_fill : MethodName × ByteArray × Nat × Option FieldType × List (Nat × Nat × Nat × Nat) := (⟨RSt, "fill", "(LGlassHall$Glass;)V"⟩, prog_8_method_2_code, 4, none, [])
def m_La_clear : MethodName × ByteArray × Nat × Option FieldType × List (Nat × Nat × Nat × Nat) := (⟨RLa, "clear", "()V"⟩, prog_3_method_2_code, 1, none, [])
def m_St_stackColumn : MethodName × ByteArray × Nat × Option FieldType × List (Nat × Nat × Nat × Nat) := (⟨RSt, "stackColumn", "(LGlassHall$Glass;)I"⟩, prog_8_method_3_code, 5, some Jvm.ClassFile.FieldType.int, [])
def m_St_takeFirst : MethodName × ByteArray × Nat × Option FieldType × List (Nat × Nat × Nat × Nat) := (⟨RSt, "takeFirst", "(LGlassHall$Glass;)Z"⟩, prog_8_method_4_code, 3, some Jvm.ClassFile.FieldType.boolean, [])
def m_St_take : MethodName × ByteArray × Nat × Option FieldType × List (Nat × Nat × Nat × Nat) := (⟨RSt, "take", "(LGlassHall$Glass;IZ)Z"⟩, prog_8_method_5_code, 7, some Jvm.ClassFile.FieldType.boolean, [])
def m_Bk_at : MethodName × ByteArray × Nat × Option FieldType × List (Nat × Nat × Nat × Nat) := (⟨RBk, "at", "(I)LGlassHall$Order;"⟩, prog_5_method_2_code, 2, some (Jvm.ClassFile.FieldType.object "GlassHall$Order"), [])
def m_La_countOf : MethodName × ByteArray × Nat × Option FieldType × List (Nat × Nat × Nat × Nat) := (⟨RLa, "countOf", "(I)I"⟩, prog_3_method_6_code, 4, some Jvm.ClassFile.FieldType.int, [])
def m_Gl_isClear : MethodName × ByteArray × Nat × Option FieldType × List (Nat × Nat × Nat × Nat) := (⟨RGl, "isClear", "(IIII)Z"⟩, prog_2_method_5_code, 8, some Jvm.ClassFile.FieldType.boolean, [])
def m_La_put : MethodName × ByteArray × Nat × Option FieldType × List (Nat × Nat × Nat × Nat) := (⟨RLa, "put", "(IIIII)V"⟩, prog_3_method_3_code, 6, none, [])
def m_Ha_adoptLayout : MethodName × ByteArray × Nat × Option FieldType × List (Nat × Nat × Nat × Nat) := (⟨RHa, "adoptLayout", "(LGlassHall$Sheet;)I"⟩, prog_1_method_26_code, 3, some Jvm.ClassFile.FieldType.int, [])
def m_Tr_grow : MethodName × ByteArray × Nat × Option FieldType × List (Nat × Nat × Nat × Nat) := (⟨RTr, "grow", "(LGlassHall$Layout;II)V"⟩, prog_9_method_7_code, 9, none, [])
def m_Tr_clear : MethodName × ByteArray × Nat × Option FieldType × List (Nat × Nat × Nat × Nat) := (⟨RTr, "clear", "()V"⟩, prog_9_method_3_code, 1, none, [])
def m_La_columns : MethodName × ByteArray × Nat × Option FieldType × List (Nat × Nat × Nat × Nat) := (⟨RLa, "columns", "()I"⟩, prog_3_method_7_code, 3, some Jvm.ClassFile.FieldType.int, [])
def m_La_columnWidth : MethodName × ByteArray × Nat × Option FieldType × List (Nat × Nat × Nat × Nat) := (⟨RLa, "columnWidth", "(I)I"⟩, prog_3_method_11_code, 5, some Jvm.ClassFile.FieldType.int, [])
def m_La_rowsIn : MethodName × ByteArray × Nat × Option FieldType × List (Nat × Nat × Nat × Nat) := (⟨RLa, "rowsIn", "(I)I"⟩, prog_3_method_8_code, 4, some Jvm.ClassFile.FieldType.int, [])
def m_La_rowWidth : MethodName × ByteArray × Nat × Option FieldType × List (Nat × Nat × Nat × Nat) := (⟨RLa, "rowWidth", "(II)I"⟩, prog_3_method_9_code, 5, some Jvm.ClassFile.FieldType.int, [])
def m_La_isIn : MethodName × ByteArray × Nat × Option FieldType × List (Nat × Nat × Nat × Nat) := (⟨RLa, "isIn", "(III)Z"⟩, prog_3_method_5_code, 4, some Jvm.ClassFile.FieldType.boolean, [])
def m_Tr_add : MethodName × ByteArray × Nat × Option FieldType × List (Nat × Nat × Nat × Nat) := (⟨RTr, "add", "(IIIIII)I"⟩, prog_9_method_11_code, 7, some Jvm.ClassFile.FieldType.int, [])
def m_Tr_growColumn : MethodName × ByteArray × Nat × Option FieldType × List (Nat × Nat × Nat × Nat) := (⟨RTr, "growColumn", "(LGlassHall$Layout;IIII)V"⟩, prog_9_method_8_code, 11, none, [])
def m_La_rowHeight : MethodName × ByteArray × Nat × Option FieldType × List (Nat × Nat × Nat × Nat) := (⟨RLa, "rowHeight", "(II)I"⟩, prog_3_method_10_code, 5, some Jvm.ClassFile.FieldType.int, [])
def m_Tr_growRow : MethodName × ByteArray × Nat × Option FieldType × List (Nat × Nat × Nat × Nat) := (⟨RTr, "growRow", "(LGlassHall$Layout;IIIIII)V"⟩, prog_9_method_9_code, 13, none, [])
def m_Tr_growCell : MethodName × ByteArray × Nat × Option FieldType × List (Nat × Nat × Nat × Nat) := (⟨RTr, "growCell", "(LGlassHall$Layout;IIII)V"⟩, prog_9_method_10_code, 9, none, [])
def m_Tr_beginSecond : MethodName × ByteArray × Nat × Option FieldType × List (Nat × Nat × Nat × Nat) := (⟨RTr, "beginSecond", "(I)V"⟩, prog_9_method_13_code, 2, none, [])
def m_Tr_addRest : MethodName × ByteArray × Nat × Option FieldType × List (Nat × Nat × Nat × Nat) := (⟨RTr, "addRest", "(IIII)V"⟩, prog_9_method_12_code, 5, none, [])
def m_Bk_takeUp : MethodName × ByteArray × Nat × Option FieldType × List (Nat × Nat × Nat × Nat) := (⟨RBk, "takeUp", "(I)V"⟩, prog_5_method_4_code, 3, none, [])
def m_Lw_exact : MethodName × ByteArray × Nat × Option FieldType × List (Nat × Nat × Nat × Nat) := (⟨RLw, "exact", "(LGlassHall;IIII[J)I"⟩, method_7_code, 7, some Jvm.ClassFile.FieldType.int, [(0, 14, 17, 21), (0, 14, 21, 15)])
def m_Ha_exact : MethodName × ByteArray × Nat × Option FieldType × List (Nat × Nat × Nat × Nat) := (⟨RHa, "exact", "(IIII)I"⟩, prog_1_method_6_code, 6, some Jvm.ClassFile.FieldType.int, [])
def m_Ti_callNames : MethodName × ByteArray × Nat × Option FieldType × List (Nat × Nat × Nat × Nat) := (⟨RTi, "callNames", "(III)V"⟩, prog_10_method_2_code, 4, none, [])
def m_Ti_addName : MethodName × ByteArray × Nat × Option FieldType × List (Nat × Nat × Nat × Nat) := (⟨RTi, "addName", "(I)V"⟩, prog_10_method_3_code, 2, none, [])
def m_Ti_namesAreThere : MethodName × ByteArray × Nat × Option FieldType × List (Nat × Nat × Nat × Nat) := (⟨RTi, "namesAreThere", "()Z"⟩, prog_10_method_4_code, 2, some Jvm.ClassFile.FieldType.boolean, [])
def m_Ti_namesAreOpen : MethodName × ByteArray × Nat × Option FieldType × List (Nat × Nat × Nat × Nat) := (⟨RTi, "namesAreOpen", "()Z"⟩, prog_10_method_5_code, 3, some Jvm.ClassFile.FieldType.boolean, [])
def m_Ti_timesNamed : MethodName × ByteArray × Nat × Option FieldType × List (Nat × Nat × Nat × Nat) := (⟨RTi, "timesNamed", "(I)I"⟩, prog_10_method_6_code, 4, some Jvm.ClassFile.FieldType.int, [])
def m_Ti_fill : MethodName × ByteArray × Nat × Option FieldType × List (Nat × Nat × Nat × Nat) := (⟨RTi, "fill", "(LGlassHall$Glass;)V"⟩, prog_10_method_7_code, 2, none, [])
def m_Ti_placeFrom : MethodName × ByteArray × Nat × Option FieldType × List (Nat × Nat × Nat × Nat) := (⟨RTi, "placeFrom", "(LGlassHall$Glass;I)Z"⟩, prog_10_method_8_code, 7, some Jvm.ClassFile.FieldType.boolean, [])
def m_Ti_placeAt : MethodName × ByteArray × Nat × Option FieldType × List (Nat × Nat × Nat × Nat) := (⟨RTi, "placeAt", "(LGlassHall$Glass;IIIZ)Z"⟩, prog_10_method_9_code, 7, some Jvm.ClassFile.FieldType.boolean, [])
def m_La_fitsOn : MethodName × ByteArray × Nat × Option FieldType × List (Nat × Nat × Nat × Nat) := (⟨RLa, "fitsOn", "(LGlassHall$Glass;)Z"⟩, prog_3_method_13_code, 5, some Jvm.ClassFile.FieldType.boolean, [])
def m_La_columnHeight : MethodName × ByteArray × Nat × Option FieldType × List (Nat × Nat × Nat × Nat) := (⟨RLa, "columnHeight", "(I)I"⟩, prog_3_method_12_code, 5, some Jvm.ClassFile.FieldType.int, [])
def m_La_dropLast : MethodName × ByteArray × Nat × Option FieldType × List (Nat × Nat × Nat × Nat) := (⟨RLa, "dropLast", "()V"⟩, prog_3_method_4_code, 1, none, [])
def m_Lw_node : MethodName × ByteArray × Nat × Option FieldType × List (Nat × Nat × Nat × Nat) := (⟨RLw, "node", "(LGlassHall;III[J)I"⟩, method_8_code, 6, some Jvm.ClassFile.FieldType.int, [(0, 12, 15, 21), (0, 12, 19, 15), (0, 12, 23, 39), (0, 12, 27, 13)])
def m_Ha_node : MethodName × ByteArray × Nat × Option FieldType × List (Nat × Nat × Nat × Nat) := (⟨RHa, "node", "(III)I"⟩, prog_1_method_7_code, 5, some Jvm.ClassFile.FieldType.int, [])
def m_Ha_findPlanned : MethodName × ByteArray × Nat × Option FieldType × List (Nat × Nat × Nat × Nat) := (⟨RHa, "findPlanned", "(I)LGlassHall$Sheet;"⟩, prog_1_method_23_code, 3, some (Jvm.ClassFile.FieldType.object "GlassHall$Sheet"), [])
def m_Tr_has : MethodName × ByteArray × Nat × Option FieldType × List (Nat × Nat × Nat × Nat) := (⟨RTr, "has", "(I)Z"⟩, prog_9_method_4_code, 2, some Jvm.ClassFile.FieldType.boolean, [])
def m_Tr_tell : MethodName × ByteArray × Nat × Option FieldType × List (Nat × Nat × Nat × Nat) := (⟨RTr, "tell", "(II)I"⟩, prog_9_method_18_code, 3, some Jvm.ClassFile.FieldType.int, [])
def m_Tr_isCut : MethodName × ByteArray × Nat × Option FieldType × List (Nat × Nat × Nat × Nat) := (⟨RTr, "isCut", "(I)Z"⟩, prog_9_method_5_code, 2, some Jvm.ClassFile.FieldType.boolean, [])
def m_Lw_nodes : MethodName × ByteArray × Nat × Option FieldType × List (Nat × Nat × Nat × Nat) := (⟨RLw, "nodes", "(LGlassHall;I[J)I"⟩, method_9_code, 4, some Jvm.ClassFile.FieldType.int, [(0, 9, 12, 21), (0, 9, 15, 15)])
def m_Ha_nodes : MethodName × ByteArray × Nat × Option FieldType × List (Nat × Nat × Nat × Nat) := (⟨RHa, "nodes", "(I)I"⟩, prog_1_method_8_code, 2, some Jvm.ClassFile.FieldType.int, [])
def m_Lw_score : MethodName × ByteArray × Nat × Option FieldType × List (Nat × Nat × Nat × Nat) := (⟨RLw, "score", "(LGlassHall;I[J)I"⟩, method_10_code, 4, some Jvm.ClassFile.FieldType.int, [(0, 9, 12, 21), (0, 9, 15, 15)])
def m_Ha_score : MethodName × ByteArray × Nat × Option FieldType × List (Nat × Nat × Nat × Nat) := (⟨RHa, "score", "(I)I"⟩, prog_1_method_9_code, 5, some Jvm.ClassFile.FieldType.int, [])
def m_Tr_firstWaiting : MethodName × ByteArray × Nat × Option FieldType × List (Nat × Nat × Nat × Nat) := (⟨RTr, "firstWaiting", "()I"⟩, prog_9_method_14_code, 2, some Jvm.ClassFile.FieldType.int, [])
def m_Ha_letWait : MethodName × ByteArray × Nat × Option FieldType × List (Nat × Nat × Nat × Nat) := (⟨RHa, "letWait", "(LGlassHall$Sheet;I)V"⟩, prog_1_method_27_code, 4, none, [])
def m_Bk_finish : MethodName × ByteArray × Nat × Option FieldType × List (Nat × Nat × Nat × Nat) := (⟨RBk, "finish", "(I)V"⟩, prog_5_method_6_code, 3, none, [])
def m_Ha_putAway : MethodName × ByteArray × Nat × Option FieldType × List (Nat × Nat × Nat × Nat) := (⟨RHa, "putAway", "(LGlassHall$Sheet;I)V"⟩, prog_1_method_28_code, 5, none, [])
def m_Rk_addPart : MethodName × ByteArray × Nat × Option FieldType × List (Nat × Nat × Nat × Nat) := (⟨RRk, "addPart", "(LGlassHall$Glass;IIII)V"⟩, prog_6_method_3_code, 6, none, [])
def m_Gl_becomePart : MethodName × ByteArray × Nat × Option FieldType × List (Nat × Nat × Nat × Nat) := (⟨RGl, "becomePart", "(LGlassHall$Glass;IIII)V"⟩, prog_2_method_3_code, 11, none, [])
def m_Ha_clearAwayIfEmpty : MethodName × ByteArray × Nat × Option FieldType × List (Nat × Nat × Nat × Nat) := (⟨RHa, "clearAwayIfEmpty", "(LGlassHall$Sheet;)V"⟩, prog_1_method_30_code, 2, none, [])
def m_Lw_broke : MethodName × ByteArray × Nat × Option FieldType × List (Nat × Nat × Nat × Nat) := (⟨RLw, "broke", "(LGlassHall;II[J)I"⟩, method_11_code, 5, some Jvm.ClassFile.FieldType.int, [(0, 10, 13, 21), (0, 10, 17, 15), (0, 10, 21, 39)])
def m_Ha_broke : MethodName × ByteArray × Nat × Option FieldType × List (Nat × Nat × Nat × Nat) := (⟨RHa, "broke", "(II)I"⟩, prog_1_method_10_code, 6, some Jvm.ClassFile.FieldType.int, [])
def m_Ha_reopenPanes : MethodName × ByteArray × Nat × Option FieldType × List (Nat × Nat × Nat × Nat) := (⟨RHa, "reopenPanes", "(LGlassHall$Tree;I)I"⟩, prog_1_method_29_code, 6, some Jvm.ClassFile.FieldType.int, [])
def m_Tr_endOf : MethodName × ByteArray × Nat × Option FieldType × List (Nat × Nat × Nat × Nat) := (⟨RTr, "endOf", "(I)I"⟩, prog_9_method_16_code, 4, some Jvm.ClassFile.FieldType.int, [])
def m_Bk_reopen : MethodName × ByteArray × Nat × Option FieldType × List (Nat × Nat × Nat × Nat) := (⟨RBk, "reopen", "(I)V"⟩, prog_5_method_5_code, 3, none, [])
def m_Tr_breakFrom : MethodName × ByteArray × Nat × Option FieldType × List (Nat × Nat × Nat × Nat) := (⟨RTr, "breakFrom", "(I)V"⟩, prog_9_method_17_code, 4, none, [])
def m_Lw_cancel : MethodName × ByteArray × Nat × Option FieldType × List (Nat × Nat × Nat × Nat) := (⟨RLw, "cancel", "(LGlassHall;I[J)I"⟩, method_12_code, 4, some Jvm.ClassFile.FieldType.int, [(0, 9, 12, 21), (0, 9, 15, 15)])
def m_Ha_cancel : MethodName × ByteArray × Nat × Option FieldType × List (Nat × Nat × Nat × Nat) := (⟨RHa, "cancel", "(I)I"⟩, prog_1_method_11_code, 4, some Jvm.ClassFile.FieldType.int, [])
def m_Lw_use : MethodName × ByteArray × Nat × Option FieldType × List (Nat × Nat × Nat × Nat) := (⟨RLw, "use", "(LGlassHall;I[J)I"⟩, method_13_code, 4, some Jvm.ClassFile.FieldType.int, [(0, 9, 12, 21), (0, 9, 15, 15)])
def m_Ha_use : MethodName × ByteArray × Nat × Option FieldType × List (Nat × Nat × Nat × Nat) := (⟨RHa, "use", "(I)I"⟩, prog_1_method_12_code, 4, some Jvm.ClassFile.FieldType.int, [])
def m_Ha_findOffcut : MethodName × ByteArray × Nat × Option FieldType × List (Nat × Nat × Nat × Nat) := (⟨RHa, "findOffcut", "(I)LGlassHall$Glass;"⟩, prog_1_method_24_code, 2, some (Jvm.ClassFile.FieldType.object "GlassHall$Glass"), [])
def m_Rk_has : MethodName × ByteArray × Nat × Option FieldType × List (Nat × Nat × Nat × Nat) := (⟨RRk, "has", "(I)Z"⟩, prog_6_method_2_code, 2, some Jvm.ClassFile.FieldType.boolean, [])
def m_Rk_remove : MethodName × ByteArray × Nat × Option FieldType × List (Nat × Nat × Nat × Nat) := (⟨RRk, "remove", "(I)V"⟩, prog_6_method_4_code, 4, none, [])
def m_Lw_rack : MethodName × ByteArray × Nat × Option FieldType × List (Nat × Nat × Nat × Nat) := (⟨RLw, "rack", "(LGlassHall;II[J)I"⟩, method_14_code, 5, some Jvm.ClassFile.FieldType.int, [(0, 10, 13, 21), (0, 10, 17, 13)])
def m_Ha_rack : MethodName × ByteArray × Nat × Option FieldType × List (Nat × Nat × Nat × Nat) := (⟨RHa, "rack", "(II)I"⟩, prog_1_method_13_code, 4, some Jvm.ClassFile.FieldType.int, [])
def m_Lw_flawed : MethodName × ByteArray × Nat × Option FieldType × List (Nat × Nat × Nat × Nat) := (⟨RLw, "flawed", "(LGlassHall;III[J)I"⟩, method_15_code, 6, some Jvm.ClassFile.FieldType.int, [(0, 12, 15, 21), (0, 12, 19, 39), (0, 12, 23, 13)])
def m_Ha_flawed : MethodName × ByteArray × Nat × Option FieldType × List (Nat × Nat × Nat × Nat) := (⟨RHa, "flawed", "(III)I"⟩, prog_1_method_15_code, 5, some Jvm.ClassFile.FieldType.int, [])
def m_Lw_panes : MethodName × ByteArray × Nat × Option FieldType × List (Nat × Nat × Nat × Nat) := (⟨RLw, "panes", "(LGlassHall;II[J)I"⟩, method_16_code, 5, some Jvm.ClassFile.FieldType.int, [(0, 10, 13, 21), (0, 10, 17, 13)])
def m_Ha_panes : MethodName × ByteArray × Nat × Option FieldType × List (Nat × Nat × Nat × Nat) := (⟨RHa, "panes", "(II)I"⟩, prog_1_method_16_code, 4, some Jvm.ClassFile.FieldType.int, [])
def m_Mo_init : MethodName × ByteArray × Nat × Option FieldType × List (Nat × Nat × Nat × Nat) := (⟨RMo, "<init>", "()V"⟩, prog_12_method_1_code, 1, none, [])
def m_Mo_thrown : MethodName × ByteArray × Nat × Option FieldType × List (Nat × Nat × Nat × Nat) := (⟨RMo, "thrown", "()I"⟩, prog_12_method_2_code, 1, some Jvm.ClassFile.FieldType.int, [])
def m_Mo_sheet : MethodName × ByteArray × Nat × Option FieldType × List (Nat × Nat × Nat × Nat) := (⟨RMo, "sheet", "(II)I"⟩, prog_12_method_8_code, 3, some Jvm.ClassFile.FieldType.int, [])
def m_Mo_isLength : MethodName × ByteArray × Nat × Option FieldType × List (Nat × Nat × Nat × Nat) := (⟨RMo, "isLength", "(I)Z"⟩, prog_12_method_6_code, 1, some Jvm.ClassFile.FieldType.boolean, [])
def m_Mo_sheets : MethodName × ByteArray × Nat × Option FieldType × List (Nat × Nat × Nat × Nat) := (⟨RMo, "sheets", "()I"⟩, prog_12_method_4_code, 3, some Jvm.ClassFile.FieldType.int, [])
def m_Mo_make : MethodName × ByteArray × Nat × Option FieldType × List (Nat × Nat × Nat × Nat) := (⟨RMo, "make", "(II)I"⟩, prog_12_method_7_code, 4, some Jvm.ClassFile.FieldType.int, [])
def m_Mo_flaw : MethodName × ByteArray × Nat × Option FieldType × List (Nat × Nat × Nat × Nat) := (⟨RMo, "flaw", "(IIIII)I"⟩, prog_12_method_10_code, 8, some Jvm.ClassFile.FieldType.int, [])
def m_Mo_find : MethodName × ByteArray × Nat × Option FieldType × List (Nat × Nat × Nat × Nat) := (⟨RMo, "find", "(I)I"⟩, prog_12_method_3_code, 4, some Jvm.ClassFile.FieldType.int, [])
def m_Mo_putFlaw : MethodName × ByteArray × Nat × Option FieldType × List (Nat × Nat × Nat × Nat) := (⟨RMo, "putFlaw", "(IIIII)V"⟩, prog_12_method_9_code, 7, none, [])
def m_Mo_order : MethodName × ByteArray × Nat × Option FieldType × List (Nat × Nat × Nat × Nat) := (⟨RMo, "order", "(IIZI)I"⟩, prog_12_method_11_code, 6, some Jvm.ClassFile.FieldType.int, [])
def m_Mo_plan : MethodName × ByteArray × Nat × Option FieldType × List (Nat × Nat × Nat × Nat) := (⟨RMo, "plan", "(I)I"⟩, prog_12_method_32_code, 3, some Jvm.ClassFile.FieldType.int, [])
def m_Mo_strips : MethodName × ByteArray × Nat × Option FieldType × List (Nat × Nat × Nat × Nat) := (⟨RMo, "strips", "(I)V"⟩, prog_12_method_25_code, 9, none, [])
def m_Mo_choose : MethodName × ByteArray × Nat × Option FieldType × List (Nat × Nat × Nat × Nat) := (⟨RMo, "choose", "(III)I"⟩, prog_12_method_24_code, 8, some Jvm.ClassFile.FieldType.int, [])
def m_Mo_isPossible : MethodName × ByteArray × Nat × Option FieldType × List (Nat × Nat × Nat × Nat) := (⟨RMo, "isPossible", "(IIIIZ)Z"⟩, prog_12_method_22_code, 12, some Jvm.ClassFile.FieldType.boolean, [])
def m_Mo_meets : MethodName × ByteArray × Nat × Option FieldType × List (Nat × Nat × Nat × Nat) := (⟨RMo, "meets", "(IIIIII)Z"⟩, prog_12_method_21_code, 8, some Jvm.ClassFile.FieldType.boolean, [])
def m_Mo_overlap : MethodName × ByteArray × Nat × Option FieldType × List (Nat × Nat × Nat × Nat) := (⟨RMo, "overlap", "(IIII)Z"⟩, prog_12_method_20_code, 4, some Jvm.ClassFile.FieldType.boolean, [])
def m_Mo_isBefore : MethodName × ByteArray × Nat × Option FieldType × List (Nat × Nat × Nat × Nat) := (⟨RMo, "isBefore", "(II)Z"⟩, prog_12_method_23_code, 3, some Jvm.ClassFile.FieldType.boolean, [])
def m_Mo_lay : MethodName × ByteArray × Nat × Option FieldType × List (Nat × Nat × Nat × Nat) := (⟨RMo, "lay", "(IZII)V"⟩, prog_12_method_12_code, 5, none, [])
def m_Mo_adopt : MethodName × ByteArray × Nat × Option FieldType × List (Nat × Nat × Nat × Nat) := (⟨RMo, "adopt", "(I)I"⟩, prog_12_method_31_code, 3, some Jvm.ClassFile.FieldType.int, [])
def m_Mo_push : MethodName × ByteArray × Nat × Option FieldType × List (Nat × Nat × Nat × Nat) := (⟨RMo, "push", "(IIIII)V"⟩, prog_12_method_26_code, 6, none, [])
def m_Mo_at : MethodName × ByteArray × Nat × Option FieldType × List (Nat × Nat × Nat × Nat) := (⟨RMo, "at", "(IIII)V"⟩, prog_12_method_27_code, 5, none, [])
def m_Mo_grow : MethodName × ByteArray × Nat × Option FieldType × List (Nat × Nat × Nat × Nat) := (⟨RMo, "grow", "(I)V"⟩, prog_12_method_29_code, 9, none, [])
def m_Mo_reach : MethodName × ByteArray × Nat × Option FieldType × List (Nat × Nat × Nat × Nat) := (⟨RMo, "reach", "(IIII)I"⟩, prog_12_method_28_code, 6, some Jvm.ClassFile.FieldType.int, [])
def m_Mo_paneAt : MethodName × ByteArray × Nat × Option FieldType × List (Nat × Nat × Nat × Nat) := (⟨RMo, "paneAt", "(III)I"⟩, prog_12_method_13_code, 6, some Jvm.ClassFile.FieldType.int, [])
def m_Mo_columnWidth : MethodName × ByteArray × Nat × Option FieldType × List (Nat × Nat × Nat × Nat) := (⟨RMo, "columnWidth", "(I)I"⟩, prog_12_method_16_code, 5, some Jvm.ClassFile.FieldType.int, [])
def m_Mo_rowWidth : MethodName × ByteArray × Nat × Option FieldType × List (Nat × Nat × Nat × Nat) := (⟨RMo, "rowWidth", "(II)I"⟩, prog_12_method_14_code, 5, some Jvm.ClassFile.FieldType.int, [])
def m_Mo_rowHeight : MethodName × ByteArray × Nat × Option FieldType × List (Nat × Nat × Nat × Nat) := (⟨RMo, "rowHeight", "(II)I"⟩, prog_12_method_15_code, 6, some Jvm.ClassFile.FieldType.int, [])
def m_Mo_split : MethodName × ByteArray × Nat × Option FieldType × List (Nat × Nat × Nat × Nat) := (⟨RMo, "split", "(IIIIII)V"⟩, prog_12_method_30_code, 10, none, [])
def m_Mo_exact : MethodName × ByteArray × Nat × Option FieldType × List (Nat × Nat × Nat × Nat) := (⟨RMo, "exact", "(IIII)I"⟩, prog_12_method_36_code, 7, some Jvm.ClassFile.FieldType.int, [])
def m_Mo_isOrder : MethodName × ByteArray × Nat × Option FieldType × List (Nat × Nat × Nat × Nat) := (⟨RMo, "isOrder", "(I)Z"⟩, prog_12_method_5_code, 2, some Jvm.ClassFile.FieldType.boolean, [])
def m_Mo_hasOpen : MethodName × ByteArray × Nat × Option FieldType × List (Nat × Nat × Nat × Nat) := (⟨RMo, "hasOpen", "(III)Z"⟩, prog_12_method_35_code, 7, some Jvm.ClassFile.FieldType.boolean, [])
def m_Mo_isFound : MethodName × ByteArray × Nat × Option FieldType × List (Nat × Nat × Nat × Nat) := (⟨RMo, "isFound", "(IIII)Z"⟩, prog_12_method_34_code, 9, some Jvm.ClassFile.FieldType.boolean, [])
def m_Mo_name : MethodName × ByteArray × Nat × Option FieldType × List (Nat × Nat × Nat × Nat) := (⟨RMo, "name", "(II)Z"⟩, prog_12_method_33_code, 6, some Jvm.ClassFile.FieldType.boolean, [])
def m_Mo_columns : MethodName × ByteArray × Nat × Option FieldType × List (Nat × Nat × Nat × Nat) := (⟨RMo, "columns", "()I"⟩, prog_12_method_18_code, 3, some Jvm.ClassFile.FieldType.int, [])
def m_Mo_rowsOf : MethodName × ByteArray × Nat × Option FieldType × List (Nat × Nat × Nat × Nat) := (⟨RMo, "rowsOf", "(I)I"⟩, prog_12_method_17_code, 4, some Jvm.ClassFile.FieldType.int, [])
def m_Mo_fits : MethodName × ByteArray × Nat × Option FieldType × List (Nat × Nat × Nat × Nat) := (⟨RMo, "fits", "(I)Z"⟩, prog_12_method_19_code, 6, some Jvm.ClassFile.FieldType.boolean, [])
def m_Mo_score : MethodName × ByteArray × Nat × Option FieldType × List (Nat × Nat × Nat × Nat) := (⟨RMo, "score", "(I)I"⟩, prog_12_method_40_code, 5, some Jvm.ClassFile.FieldType.int, [])
def m_Mo_arrive : MethodName × ByteArray × Nat × Option FieldType × List (Nat × Nat × Nat × Nat) := (⟨RMo, "arrive", "(II)V"⟩, prog_12_method_38_code, 5, none, [])
def m_Mo_store : MethodName × ByteArray × Nat × Option FieldType × List (Nat × Nat × Nat × Nat) := (⟨RMo, "store", "(II)V"⟩, prog_12_method_37_code, 11, none, [])
def m_Mo_leave : MethodName × ByteArray × Nat × Option FieldType × List (Nat × Nat × Nat × Nat) := (⟨RMo, "leave", "(I)V"⟩, prog_12_method_39_code, 4, none, [])
def m_Mo_broke : MethodName × ByteArray × Nat × Option FieldType × List (Nat × Nat × Nat × Nat) := (⟨RMo, "broke", "(II)I"⟩, prog_12_method_41_code, 9, some Jvm.ClassFile.FieldType.int, [])
def m_Mo_cancel : MethodName × ByteArray × Nat × Option FieldType × List (Nat × Nat × Nat × Nat) := (⟨RMo, "cancel", "(I)I"⟩, prog_12_method_42_code, 6, some Jvm.ClassFile.FieldType.int, [])
def m_Mo_nodes : MethodName × ByteArray × Nat × Option FieldType × List (Nat × Nat × Nat × Nat) := (⟨RMo, "nodes", "(I)I"⟩, prog_12_method_43_code, 3, some Jvm.ClassFile.FieldType.int, [])
def m_Mo_node : MethodName × ByteArray × Nat × Option FieldType × List (Nat × Nat × Nat × Nat) := (⟨RMo, "node", "(III)I"⟩, prog_12_method_44_code, 6, some Jvm.ClassFile.FieldType.int, [])
def m_Mo_use : MethodName × ByteArray × Nat × Option FieldType × List (Nat × Nat × Nat × Nat) := (⟨RMo, "use", "(I)I"⟩, prog_12_method_47_code, 5, some Jvm.ClassFile.FieldType.int, [])
def m_Mo_isOffcut : MethodName × ByteArray × Nat × Option FieldType × List (Nat × Nat × Nat × Nat) := (⟨RMo, "isOffcut", "(I)Z"⟩, prog_12_method_45_code, 2, some Jvm.ClassFile.FieldType.boolean, [])
def m_Mo_moveOffcut : MethodName × ByteArray × Nat × Option FieldType × List (Nat × Nat × Nat × Nat) := (⟨RMo, "moveOffcut", "(II)V"⟩, prog_12_method_46_code, 4, none, [])
def m_Mo_rack : MethodName × ByteArray × Nat × Option FieldType × List (Nat × Nat × Nat × Nat) := (⟨RMo, "rack", "(II)I"⟩, prog_12_method_48_code, 3, some Jvm.ClassFile.FieldType.int, [])
def m_Mo_fit : MethodName × ByteArray × Nat × Option FieldType × List (Nat × Nat × Nat × Nat) := (⟨RMo, "fit", "(II)I"⟩, prog_12_method_49_code, 7, some Jvm.ClassFile.FieldType.int, [])
def m_Mo_flawed : MethodName × ByteArray × Nat × Option FieldType × List (Nat × Nat × Nat × Nat) := (⟨RMo, "flawed", "(III)I"⟩, prog_12_method_50_code, 5, some Jvm.ClassFile.FieldType.int, [])
def m_Mo_panes : MethodName × ByteArray × Nat × Option FieldType × List (Nat × Nat × Nat × Nat) := (⟨RMo, "panes", "(II)I"⟩, prog_12_method_51_code, 3, some Jvm.ClassFile.FieldType.int, [])
def m_Mo_area : MethodName × ByteArray × Nat × Option FieldType × List (Nat × Nat × Nat × Nat) := (⟨RMo, "area", "(I)J"⟩, prog_12_method_52_code, 9, some Jvm.ClassFile.FieldType.long, [])
def m_Mo_total : MethodName × ByteArray × Nat × Option FieldType × List (Nat × Nat × Nat × Nat) := (⟨RMo, "total", "(I)I"⟩, prog_12_method_53_code, 4, some Jvm.ClassFile.FieldType.int, [])
def m_Lw_law : MethodName × ByteArray × Nat × Option FieldType × List (Nat × Nat × Nat × Nat) := (⟨RLw, "law", "([I)Z"⟩, code, 7, some Jvm.ClassFile.FieldType.boolean, [])
