/-! the hall, the reference, the law's row of answers: one fixed heap, its contents told by functions -/
-- fields of ints; arrays of ints and booleans; fields and arrays of longs; arrays of references; cells made later, by their address; the next address; the slots made
abbrev xS : Type := (Nat → Nat → Int32) × (Nat → Nat → Int32) × (Nat → Nat → Int64) × (Nat → Nat → Option Nat) × (Nat → Option va_E) × Nat × Nat
abbrev sF (S : xS) : Nat → Nat → Int32 := S.1
abbrev sA (S : xS) : Nat → Nat → Int32 := S.2.1
abbrev sJ (S : xS) : Nat → Nat → Int64 := S.2.2.1
abbrev sR (S : xS) : Nat → Nat → Option Nat := S.2.2.2.1
abbrev sE (S : xS) : Nat → Option va_E := S.2.2.2.2.1
abbrev sN (S : xS) : Nat := S.2.2.2.2.2.1
abbrev sL (S : xS) : Nat := S.2.2.2.2.2.2
def up2 {α : Type} (f : Nat → Nat → α) (o k : Nat) (v : α) : Nat → Nat → α := fun a => if a = o then va_up (f o) k v else f a
def uF (S : xS) (o k : Nat) (v : Int32) : xS := (up2 (sF S) o k v, sA S, sJ S, sR S, sE S, sN S, sL S)
def uA (S : xS) (o k : Nat) (v : Int32) : xS := (sF S, up2 (sA S) o k v, sJ S, sR S, sE S, sN S, sL S)
def uJ (S : xS) (o k : Nat) (v : Int64) : xS := (sF S, sA S, up2 (sJ S) o k v, sR S, sE S, sN S, sL S)
def uR (S : xS) (o k : Nat) (v : Option Nat) : xS := (sF S, sA S, sJ S, up2 (sR S) o k v, sE S, sN S, sL S)
def uE (S : xS) (a : Nat) (v : va_E) : xS := (sF S, sA S, sJ S, sR S, va_up (sE S) a (some v), sN S, sL S)
def uN (S : xS) (N : Nat) (v : va_E) : xS := (sF S, sA S, sJ S, sR S, va_up (sE S) (sN S) (some v), sN S + 1, sL S + N)
theorem up2_self {α : Type} (f : Nat → Nat → α) (o k : Nat) (v : α) : up2 f o k v o = va_up (f o) k v := by simp [up2]
theorem up2_ne {α : Type} (f : Nat → Nat → α) {o p : Nat} (k : Nat) (v : α) (h : p ≠ o) : up2 f o k v p = f p := by simp [up2, h]
theorem sF_uF (S : xS) (o k : Nat) (v : Int32) : sF (uF S o k v) o = va_up (sF S o) k v := up2_self _ _ _ _
theorem sA_uA (S : xS) (o k : Nat) (v : Int32) : sA (uA S o k v) o = va_up (sA S o) k v := up2_self _ _ _ _
theorem sJ_uJ (S : xS) (o k : Nat) (v : Int64) : sJ (uJ S o k v) o = va_up (sJ S o) k v := up2_self _ _ _ _
theorem sR_uR (S : xS) (o k : Nat) (v : Option Nat) : sR (uR S o k v) o = va_up (sR S o) k v := up2_self _ _ _ _
theorem sF_uFn (S : xS) {o p : Nat} (k : Nat) (v : Int32) (h : p ≠ o) : sF (uF S o k v) p = sF S p := up2_ne _ _ _ h
theorem sA_uAn (S : xS) {o p : Nat} (k : Nat) (v : Int32) (h : p ≠ o) : sA (uA S o k v) p = sA S p := up2_ne _ _ _ h
theorem sJ_uJn (S : xS) {o p : Nat} (k : Nat) (v : Int64) (h : p ≠ o) : sJ (uJ S o k v) p = sJ S p := up2_ne _ _ _ h
theorem sR_uRn (S : xS) {o p : Nat} (k : Nat) (v : Option Nat) (h : p ≠ o) : sR (uR S o k v) p = sR S p := up2_ne _ _ _ h
/-- the array classes that the program has, in this order -/
def xTys : List FieldType := [.int, .long, .boolean, .object RSh, .object RGl, .object ROr]
def xOkG (G : xG) : Prop := (gT G).map (·.2) = xTys ∧ (gL G).stackTraces = false
def tA (G : xG) (k : Nat) : ClassId := ((gT G)[k]?.map (·.1)).getD 0
theorem tA_at {G : xG} (h : xOkG G) (k : Nat) {ty : FieldType} (hk : xTys[k]? = some ty) : (gT G)[k]? = some (tA G k, ty) := by
  have h1 : ((gT G).map (·.2))[k]? = some ty := by rw [h.1]; exact hk
  rw [List.getElem?_map] at h1
  cases hq : (gT G)[k]? with
  | none => rw [hq] at h1; cases h1
  | some q =>
    rw [hq] at h1
    have h2 : q.2 = ty := Option.some.inj h1
    rw [← h2]
    simp [tA, hq]
abbrev eI (G : xG) (n : Nat) (A : Nat → Int32) : va_E := .inl (tA G 0, n, .inl A)
abbrev eJ (G : xG) (n : Nat) (J : Nat → Int64) : va_E := .inl (tA G 1, n, .inr (.inl J))
abbrev eZ (G : xG) (n : Nat) (A : Nat → Int32) : va_E := .inl (tA G 2, n, .inl A)
abbrev eR (G : xG) (k n : Nat) (R : Nat → Option Nat) : va_E := .inl (tA G k, n, .inr (.inr (.inr (.inr R))))
abbrev rB (B o : Nat) : Value := .ref (B + o)
def cGlass (G : xG) (B b t : Nat) (F : Nat → Int32) (A : Nat → Int32) : va_E := match t with
  | 0 => .inr (0, [rB B (b + 1), rB B (b + 2), rB B (b + 3), rB B (b + 4), .int (F 4), .int (F 5), .int (F 6)])
  | _ => eI G 6 A
def cTree (G : xG) (B b t : Nat) (F : Nat → Int32) (A : Nat → Int32) : va_E := match t with
  | 0 => .inr (7, [rB B (b + 1), rB B (b + 2), rB B (b + 3), rB B (b + 4), rB B (b + 5), rB B (b + 6), rB B (b + 7), rB B (b + 8), .int (F 8)])
  | _ => eI G 145 A
def fModel (B : Nat) (F : Nat → Int32) (J : Nat → Int64) : List Value := [.int (F 0), .int (F 1), rB B 187, rB B 188, rB B 189, rB B 190, rB B 191, rB B 192, rB B 193, rB B 194, rB B 195, rB B 196, rB B 197, rB B 198, rB B 199, rB B 200, rB B 201, rB B 202, rB B 203, rB B 204, .int (F 20), rB B 205, rB B 206, rB B 207, rB B 208, rB B 209, rB B 210, .int (F 27), rB B 211, rB B 212, rB B 213, rB B 214, .long (J 32), .long (J 33), .long (J 34), .long (J 35), .int (F 36), rB B 215, rB B 216, rB B 217, rB B 218, rB B 219, rB B 220, .int (F 43), rB B 221, rB B 222, rB B 223, rB B 224, rB B 225, rB B 226, rB B 227, rB B 228, rB B 229]
def lModel : Nat → Nat := fun t => match t with
  | 1 => 8
  | 2 => 8
  | 3 => 8
  | 4 => 8
  | 5 => 8
  | 6 => 8
  | 7 => 8
  | 8 => 192
  | 9 => 8
  | 10 => 1280
  | 11 => 1280
  | 12 => 1280
  | 13 => 1280
  | 14 => 1280
  | 15 => 1280
  | 16 => 1280
  | 17 => 1280
  | 18 => 1280
  | 19 => 6
  | 20 => 6
  | 21 => 6
  | 22 => 6
  | 23 => 6
  | 24 => 6
  | 25 => 10
  | 26 => 10
  | 27 => 10
  | 28 => 240
  | 29 => 40
  | 30 => 40
  | 31 => 40
  | 32 => 40
  | 33 => 40
  | 34 => 6
  | 35 => 64
  | 36 => 64
  | 37 => 64
  | 38 => 64
  | 39 => 64
  | 40 => 64
  | 41 => 64
  | 42 => 64
  | 43 => 64
  | _ => 0
def cModel (G : xG) (B t : Nat) (F : Nat → Int32) (A : Nat → Int32) (J : Nat → Int64) : va_E :=
  if t = 0 then .inr (10, fModel B F J)
  else if t = 1 ∨ t = 5 ∨ t = 6 ∨ t = 21 then eZ G (lModel t) A else eI G (lModel t) A
def cLow (G : xG) (B o : Nat) (F : Nat → Int32) (A : Nat → Int32) (J : Nat → Int64) (R : Nat → Option Nat) : va_E := match o with
  | 0 => .inr (9, [rB B 1, rB B 2, rB B 5, rB B 57, rB B 63, rB B 64, .int (F 6), .long (J 7), .long (J 8), .long (J 9), .long (J 10)])
  | 1 => eR G 3 8 R
  | 2 => .inr (3, [rB B 3, rB B 4, .int (F 2)])
  | 3 => eR G 5 6 R
  | 4 => eI G 6 A
  | 5 => .inr (4, [rB B 6, .int (F 1)])
  | _ => eR G 4 10 R
def cMid (G : xG) (B o : Nat) (F : Nat → Int32) (A : Nat → Int32) : va_E := match o with
  | 57 => .inr (1, [rB B 58, rB B 59, rB B 60, rB B 61, rB B 62, .int (F 5)])
  | 63 => .inr (6, [rB B 2, rB B 57, .int (F 2), .int (F 3), .int (F 4), .int (F 5), .int (F 6)])
  | 64 => .inr (8, [rB B 2, rB B 57, rB B 65, .int (F 3)])
  | 65 => eI G 3 A
  | _ => eI G 36 A
def cSheet (G : xG) (B j t : Nat) (F : Nat → Int32) (A : Nat → Int32) : va_E :=
  if t = 0 then .inr (5, [rB B (67 + 15 * j), rB B (72 + 15 * j), .int (F 2), .int (F 3)])
  else if t < 6 then cGlass G B (67 + 15 * j) (t - 1) F A else cTree G B (72 + 15 * j) (t - 6) F A
def cAt (G : xG) (B o : Nat) (F : Nat → Int32) (A : Nat → Int32) (J : Nat → Int64) (R : Nat → Option Nat) : va_E :=
  if o < 7 then cLow G B o F A J R
  else if o < 57 then cGlass G B (7 + 5 * ((o - 7) / 5)) ((o - 7) % 5) F A
  else if o < 66 then cMid G B o F A
  else if o < 186 then cSheet G B ((o - 66) / 15) ((o - 66) % 15) F A
  else if o < 230 then cModel G B (o - 186) F A J
  else eJ G 1 J
def mk (G : xG) (B : Nat) (S : xS) : xH := (sN S, sL S, fun a => if a < B then none else if a < B + 231 then some (cAt G B (a - B) (sF S (a - B)) (sA S (a - B)) (sJ S (a - B)) (sR S (a - B))) else sE S a)
section MK
variable {G : xG} {B : Nat} {S : xS}
theorem mk_at {o : Nat} (ho : o < 231) : (mk G B S).2.2 (B + o) = some (cAt G B o (sF S o) (sA S o) (sJ S o) (sR S o)) := by
  show (if B + o < B then none else if B + o < B + 231 then _ else _) = _
  rw [if_neg (by omega), if_pos (by omega), Nat.add_sub_cancel_left]
theorem mk_dyn {a : Nat} (ha : B + 231 ≤ a) : (mk G B S).2.2 a = sE S a := by
  show (if a < B then none else if a < B + 231 then _ else _) = _
  rw [if_neg (by omega), if_neg (by omega)]
theorem mk_set {S' : xS} {o : Nat} {e : va_E} (ho : o < 231) (hN : sN S' = sN S) (hL : sL S' = sL S) (hE : sE S' = sE S) (h1 : cAt G B o (sF S' o) (sA S' o) (sJ S' o) (sR S' o) = e) (h2 : ∀ p, p ≠ o → sF S' p = sF S p ∧ sA S' p = sA S p ∧ sJ S' p = sJ S p ∧ sR S' p = sR S p) : xSet (mk G B S) (B + o) e = mk G B S' := by
  show ((sN S, sL S, _) : xH) = (sN S', sL S', _)
  rw [hN, hL]
  congr 2
  funext a
  by_cases ha : a = B + o
  · subst ha
    rw [va_up_self]
    show some e = (if B + o < B then none else if B + o < B + 231 then _ else _)
    rw [if_neg (by omega), if_pos (by omega), Nat.add_sub_cancel_left, h1]
  · rw [va_up_ne _ _ ha]
    show (if a < B then none else if a < B + 231 then _ else _) = (if a < B then none else if a < B + 231 then _ else _)
    by_cases c1 : a < B
    · rw [if_pos c1, if_pos c1]
    · rw [if_neg c1, if_neg c1]
      by_cases c2 : a < B + 231
      · rw [if_pos c2, if_pos c2]
        obtain ⟨q1, q2, q3, q4⟩ := h2 (a - B) (by omega)
        rw [q1, q2, q3, q4]
      · rw [if_neg c2, if_neg c2, hE]
theorem mk_setE {a : Nat} {e : va_E} (ha : B + 231 ≤ a) : xSet (mk G B S) a e = mk G B (uE S a e) := by
  show ((sN S, sL S, _) : xH) = (sN S, sL S, _)
  congr 2
  funext b
  by_cases hb : b = a
  · subst hb
    rw [va_up_self]
    show some e = (if b < B then none else if b < B + 231 then _ else va_up (sE S) b (some e) b)
    rw [if_neg (by omega), if_neg (by omega), va_up_self]
  · rw [va_up_ne _ _ hb]
    show (if b < B then none else if b < B + 231 then _ else sE S b) = (if b < B then none else if b < B + 231 then _ else va_up (sE S) a (some e) b)
    rw [va_up_ne _ _ hb]
    rfl
theorem mk_new {N : Nat} {e : va_E} (ha : B + 231 ≤ sN S) : xNew (mk G B S) N e = mk G B (uN S N e) := by
  show ((sN S + 1, sL S + N, _) : xH) = (sN S + 1, sL S + N, _)
  congr 2
  funext b
  show va_up (mk G B S).2.2 (sN S) (some e) b = _
  by_cases hb : b = sN S
  · subst hb
    rw [va_up_self]
    show some e = (if sN S < B then none else if sN S < B + 231 then _ else va_up (sE S) (sN S) (some e) (sN S))
    rw [if_neg (by omega), if_neg (by omega), va_up_self]
  · rw [va_up_ne _ _ hb]
    show (if b < B then none else if b < B + 231 then _ else sE S b) = (if b < B then none else if b < B + 231 then _ else va_up (sE S) (sN S) (some e) b)
    rw [va_up_ne _ _ hb]
    rfl
/-- the kinds of cells, by their offset -/
def kI (G : xG) (B o n : Nat) : Prop := o < 231 ∧ n < 2 ^ 31 ∧ ∀ F A J R, cAt G B o F A J R = eI G n A
def kZ (G : xG) (B o n : Nat) : Prop := o < 231 ∧ n < 2 ^ 31 ∧ ∀ F A J R, cAt G B o F A J R = eZ G n A
def kJ (G : xG) (B o n : Nat) : Prop := o < 231 ∧ n < 2 ^ 31 ∧ ∀ F A J R, cAt G B o F A J R = eJ G n J
def kR (G : xG) (B o k n : Nat) : Prop := o < 231 ∧ n < 2 ^ 31 ∧ ∀ F A J R, cAt G B o F A J R = eR G k n R
def kO (G : xG) (B o ci : Nat) (f : (Nat → Int32) → (Nat → Int64) → List Value) : Prop := o < 231 ∧ ∀ F A J R, cAt G B o F A J R = .inr (ci, f F J)
end MK
section YR
variable {G : xG} {M : xM} {d pc : Nat} {lv : List (Nat × Value)} {st : List Value} {Q : xR → xH → Prop} {B : Nat} {S : xS} {o n k ci index : Nat} {i : Int32} {f : (Nat → Int32) → (Nat → Int64) → List Value}
theorem y_getf {v : Value} (hd : decode M.2.1 pc = .ok (.getfield index, 3)) (hk : xFd M.1.cls index ci k) (ho : kO G B o ci f) (hv : (f (sF S o) (sJ S o))[k]? = some v) (kk : EX G M d (pc + 3) lv (v :: st) (mk G B S) Q) : EX G M d pc lv (.ref (B + o) :: st) (mk G B S) Q :=
  x_getf hd hk (by rw [mk_at ho.1, ho.2]) hv kk
theorem y_iald (hG : xOkG G) (hd : decode M.2.1 pc = .ok (.iaload, 1)) (ho : kI G B o n) (j : Nat) (hi : i = nI j) (hj : j < n) (kk : EX G M d (pc + 1) lv (.int (sA S o j) :: st) (mk G B S) Q) : EX G M d pc lv (.int i :: .ref (B + o) :: st) (mk G B S) Q :=
  x_iald hd (tA_at hG 0 rfl) (by rw [mk_at ho.1, ho.2.2]) hi hj ho.2.1 kk
theorem y_zald (hG : xOkG G) (hd : decode M.2.1 pc = .ok (.baload, 1)) (ho : kZ G B o n) (j : Nat) (hi : i = nI j) (hj : j < n) (kk : EX G M d (pc + 1) lv (.int (sA S o j) :: st) (mk G B S) Q) : EX G M d pc lv (.int i :: .ref (B + o) :: st) (mk G B S) Q :=
  x_zald hd (tA_at hG 2 rfl) (by rw [mk_at ho.1, ho.2.2]) hi hj ho.2.1 kk
theorem y_lald (hG : xOkG G) (hd : decode M.2.1 pc = .ok (.laload, 1)) (ho : kJ G B o n) (j : Nat) (hi : i = nI j) (hj : j < n) (kk : EX G M d (pc + 1) lv (.long (sJ S o j) :: st) (mk G B S) Q) : EX G M d pc lv (.int i :: .ref (B + o) :: st) (mk G B S) Q :=
  x_lald hd (tA_at hG 1 rfl) (by rw [mk_at ho.1, ho.2.2]) hi hj ho.2.1 kk
theorem y_aald {C : String} (hG : xOkG G) (hd : decode M.2.1 pc = .ok (.aaload, 1)) (ho : kR G B o k n) (hC : xTys[k]? = some (.object C)) (j : Nat) (hi : i = nI j) (hj : j < n) (kk : EX G M d (pc + 1) lv (va_rf (sR S o j) :: st) (mk G B S) Q) : EX G M d pc lv (.int i :: .ref (B + o) :: st) (mk G B S) Q :=
  x_aald hd (tA_at hG k hC) (by rw [mk_at ho.1, ho.2.2]) hi hj ho.2.1 kk
theorem y_alenR {C : String} (hG : xOkG G) (hd : decode M.2.1 pc = .ok (.arraylength, 1)) (ho : kR G B o k n) (hC : xTys[k]? = some (.object C)) (kk : EX G M d (pc + 1) lv (.int (nI n) :: st) (mk G B S) Q) : EX G M d pc lv (.ref (B + o) :: st) (mk G B S) Q :=
  x_alen hd (tA_at hG k hC) (by rw [mk_at ho.1, ho.2.2]) kk
theorem y_iast {x : Int32} (hG : xOkG G) (hd : decode M.2.1 pc = .ok (.iastore, 1)) (ho : kI G B o n) (j : Nat) (hi : i = nI j) (hj : j < n) (kk : EX G M d (pc + 1) lv st (mk G B (uA S o j x)) Q) : EX G M d pc lv (.int x :: .int i :: .ref (B + o) :: st) (mk G B S) Q := by
  refine x_iast hd (tA_at hG 0 rfl) (by rw [mk_at ho.1, ho.2.2]) hi hj ho.2.1 ?_
  rw [mk_set (S := S) (S' := uA S o j x) ho.1 rfl rfl rfl (by rw [ho.2.2, sA_uA]) (fun p hp => ⟨rfl, up2_ne _ _ _ hp, rfl, rfl⟩)]
  exact kk
theorem y_zast {x : Int32} (hG : xOkG G) (hd : decode M.2.1 pc = .ok (.bastore, 1)) (ho : kZ G B o n) (j : Nat) (hi : i = nI j) (hj : j < n) (hx : narrow .boolean (.int x) = .int x) (kk : EX G M d (pc + 1) lv st (mk G B (uA S o j x)) Q) : EX G M d pc lv (.int x :: .int i :: .ref (B + o) :: st) (mk G B S) Q := by
  refine x_zast hd (tA_at hG 2 rfl) (by rw [mk_at ho.1, ho.2.2]) hi hj ho.2.1 hx ?_
  rw [mk_set (S := S) (S' := uA S o j x) ho.1 rfl rfl rfl (by rw [ho.2.2, sA_uA]) (fun p hp => ⟨rfl, up2_ne _ _ _ hp, rfl, rfl⟩)]
  exact kk
theorem y_last {x : Int64} (hG : xOkG G) (hd : decode M.2.1 pc = .ok (.lastore, 1)) (ho : kJ G B o n) (j : Nat) (hi : i = nI j) (hj : j < n) (kk : EX G M d (pc + 1) lv st (mk G B (uJ S o j x)) Q) : EX G M d pc lv (.long x :: .int i :: .ref (B + o) :: st) (mk G B S) Q := by
  refine x_last hd (tA_at hG 1 rfl) (by rw [mk_at ho.1, ho.2.2]) hi hj ho.2.1 ?_
  rw [mk_set (S := S) (S' := uJ S o j x) ho.1 rfl rfl rfl (by rw [ho.2.2, sJ_uJ]) (fun p hp => ⟨rfl, rfl, up2_ne _ _ _ hp, rfl⟩)]
  exact kk
/-- a store of an int, of a boolean, of a long into a field -/
theorem y_puti {x : Int32} {ty : FieldType} (hd : decode M.2.1 pc = .ok (.putfield index, 3)) (hk : xPd M.1.cls index ci k ty) (ho : kO G B o ci f) (hl : k < (f (sF S o) (sJ S o)).length) (hn : narrow ty (.int x) = .int x) (hfit : fits ty (.int x) = true) (hf : f (va_up (sF S o) k x) (sJ S o) = (f (sF S o) (sJ S o)).set k (.int x))
    (kk : EX G M d (pc + 3) lv st (mk G B (uF S o k x)) Q) : EX G M d pc lv (.int x :: .ref (B + o) :: st) (mk G B S) Q := by
  refine x_putf hd hk (by rw [mk_at ho.1, ho.2]) hl hn hfit ?_
  rw [mk_set (S := S) (S' := uF S o k x) ho.1 rfl rfl rfl (by rw [ho.2, sF_uF]; exact congrArg (fun q => Sum.inr (ci, q)) hf) (fun p hp => ⟨up2_ne _ _ _ hp, rfl, rfl, rfl⟩)]
  exact kk
theorem y_putl {x : Int64} (hd : decode M.2.1 pc = .ok (.putfield index, 3)) (hk : xPd M.1.cls index ci k .long) (ho : kO G B o ci f) (hl : k < (f (sF S o) (sJ S o)).length) (hf : f (sF S o) (va_up (sJ S o) k x) = (f (sF S o) (sJ S o)).set k (.long x))
    (kk : EX G M d (pc + 3) lv st (mk G B (uJ S o k x)) Q) : EX G M d pc lv (.long x :: .ref (B + o) :: st) (mk G B S) Q := by
  refine x_putf hd hk (by rw [mk_at ho.1, ho.2]) hl rfl rfl ?_
  rw [mk_set (S := S) (S' := uJ S o k x) ho.1 rfl rfl rfl (by rw [ho.2, sJ_uJ]; exact congrArg (fun q => Sum.inr (ci, q)) hf) (fun p hp => ⟨rfl, rfl, up2_ne _ _ _ hp, rfl⟩)]
  exact kk
end YR
section KD
variable {G : xG} {B : Nat}
def fHall (B : Nat) (F : Nat → Int32) (J : Nat → Int64) : List Value := [rB B 1, rB B 2, rB B 5, rB B 57, rB B 63, rB B 64, .int (F 6), .long (J 7), .long (J 8), .long (J 9), .long (J 10)]
theorem k_hall : kO G B 0 9 (fHall B) := ⟨by decide, fun _ _ _ _ => rfl⟩
theorem k_slots : kR G B 1 3 8 := ⟨by decide, by decide, fun _ _ _ _ => rfl⟩
def fBook (B : Nat) (F : Nat → Int32) (_ : Nat → Int64) : List Value := [rB B 3, rB B 4, .int (F 2)]
theorem k_book : kO G B 2 3 (fBook B) := ⟨by decide, fun _ _ _ _ => rfl⟩
theorem k_orders : kR G B 3 5 6 := ⟨by decide, by decide, fun _ _ _ _ => rfl⟩
theorem k_ranked : kI G B 4 6 := ⟨by decide, by decide, fun _ _ _ _ => rfl⟩
def fRack (B : Nat) (F : Nat → Int32) (_ : Nat → Int64) : List Value := [rB B 6, .int (F 1)]
theorem k_rack : kO G B 5 4 (fRack B) := ⟨by decide, fun _ _ _ _ => rfl⟩
theorem k_rows : kR G B 6 4 10 := ⟨by decide, by decide, fun _ _ _ _ => rfl⟩
def fLay (B : Nat) (F : Nat → Int32) (_ : Nat → Int64) : List Value := [rB B 58, rB B 59, rB B 60, rB B 61, rB B 62, .int (F 5)]
theorem k_lay : kO G B 57 1 (fLay B) := ⟨by decide, fun _ _ _ _ => rfl⟩
theorem k_lay0 : kI G B 58 36 := ⟨by decide, by decide, fun _ _ _ _ => rfl⟩
theorem k_lay1 : kI G B 59 36 := ⟨by decide, by decide, fun _ _ _ _ => rfl⟩
theorem k_lay2 : kI G B 60 36 := ⟨by decide, by decide, fun _ _ _ _ => rfl⟩
theorem k_lay3 : kI G B 61 36 := ⟨by decide, by decide, fun _ _ _ _ => rfl⟩
theorem k_lay4 : kI G B 62 36 := ⟨by decide, by decide, fun _ _ _ _ => rfl⟩
def fStrips (B : Nat) (F : Nat → Int32) (_ : Nat → Int64) : List Value := [rB B 2, rB B 57, .int (F 2), .int (F 3), .int (F 4), .int (F 5), .int (F 6)]
theorem k_strips : kO G B 63 6 (fStrips B) := ⟨by decide, fun _ _ _ _ => rfl⟩
def fTrial (B : Nat) (F : Nat → Int32) (_ : Nat → Int64) : List Value := [rB B 2, rB B 57, rB B 65, .int (F 3)]
theorem k_trial : kO G B 64 8 (fTrial B) := ⟨by decide, fun _ _ _ _ => rfl⟩
theorem k_named : kI G B 65 3 := ⟨by decide, by decide, fun _ _ _ _ => rfl⟩
def fGlass (B b : Nat) (F : Nat → Int32) (_ : Nat → Int64) : List Value := [rB B (b + 1), rB B (b + 2), rB B (b + 3), rB B (b + 4), .int (F 4), .int (F 5), .int (F 6)]
def fTree (B b : Nat) (F : Nat → Int32) (_ : Nat → Int64) : List Value := [rB B (b + 1), rB B (b + 2), rB B (b + 3), rB B (b + 4), rB B (b + 5), rB B (b + 6), rB B (b + 7), rB B (b + 8), .int (F 8)]
def fSheet (B j : Nat) (F : Nat → Int32) (_ : Nat → Int64) : List Value := [rB B (67 + 15 * j), rB B (72 + 15 * j), .int (F 2), .int (F 3)]
theorem cAt_rack {k t : Nat} (hk : k < 10) (ht : t < 5) (F A J R) : cAt G B (7 + 5 * k + t) F A J R = cGlass G B (7 + 5 * k) t F A := by
  unfold cAt
  rw [if_neg (by omega), if_pos (by omega), show (7 + 5 * k + t - 7) / 5 = k by omega, show (7 + 5 * k + t - 7) % 5 = t by omega]
theorem cAt_sheet {j t : Nat} (hj : j < 8) (ht : t < 15) (F A J R) : cAt G B (66 + 15 * j + t) F A J R = cSheet G B j t F A := by
  unfold cAt
  rw [if_neg (by omega), if_neg (by omega), if_neg (by omega), if_pos (by omega), show (66 + 15 * j + t - 66) / 15 = j by omega, show (66 + 15 * j + t - 66) % 15 = t by omega]
theorem k_sheet {j : Nat} (hj : j < 8) : kO G B (66 + 15 * j) 5 (fSheet B j) := ⟨by omega, fun F A J R => (cAt_sheet (t := 0) hj (by decide) F A J R).trans rfl⟩
/-- where a glass lies: a sheet's, an offcut's -/
def isGlass (b : Nat) : Prop := (∃ j, j < 8 ∧ b = 67 + 15 * j) ∨ ∃ k, k < 10 ∧ b = 7 + 5 * k
theorem isGlass.cell {b t : Nat} (h : isGlass b) (ht : t < 5) (F A J R) : cAt G B (b + t) F A J R = cGlass G B b t F A := by
  rcases h with ⟨j, hj, rfl⟩ | ⟨k, hk, rfl⟩
  · rw [show 67 + 15 * j + t = 66 + 15 * j + (t + 1) by omega, cAt_sheet hj (by omega)]
    unfold cSheet
    rw [if_neg (by omega), if_pos (by omega), Nat.add_sub_cancel]
  · exact cAt_rack hk ht F A J R
theorem isGlass.lt {b : Nat} (h : isGlass b) : b + 4 < 231 := by
  rcases h with ⟨j, hj, rfl⟩ | ⟨k, hk, rfl⟩ <;> omega
theorem k_glass {b : Nat} (h : isGlass b) : kO G B b 0 (fGlass B b) := ⟨by have := h.lt; omega, fun F A J R => (h.cell (t := 0) (by decide) F A J R).trans rfl⟩
theorem k_glassA {b t : Nat} (h : isGlass b) (ht : t < 4) : kI G B (b + (t + 1)) 6 := ⟨by have := h.lt; omega, by decide, fun F A J R => (h.cell (t := t + 1) (by omega) F A J R).trans rfl⟩
/-- where a tree lies -/
def isTree (b : Nat) : Prop := ∃ j, j < 8 ∧ b = 72 + 15 * j
theorem isTree.cell {b t : Nat} (h : isTree b) (ht : t < 9) (F A J R) : cAt G B (b + t) F A J R = cTree G B b t F A := by
  obtain ⟨j, hj, rfl⟩ := h
  rw [show 72 + 15 * j + t = 66 + 15 * j + (t + 6) by omega, cAt_sheet hj (by omega)]
  unfold cSheet
  rw [if_neg (by omega), if_neg (by omega), Nat.add_sub_cancel]
theorem isTree.lt {b : Nat} (h : isTree b) : b + 8 < 231 := by
  obtain ⟨j, hj, rfl⟩ := h
  omega
theorem k_tree {b : Nat} (h : isTree b) : kO G B b 7 (fTree B b) := ⟨by have := h.lt; omega, fun F A J R => (h.cell (t := 0) (by decide) F A J R).trans rfl⟩
theorem k_treeA {b t : Nat} (h : isTree b) (ht : t < 8) : kI G B (b + (t + 1)) 145 := ⟨by have := h.lt; omega, by decide, fun F A J R => (h.cell (t := t + 1) (by omega) F A J R).trans rfl⟩
theorem k_model : kO G B 186 10 (fModel B) := ⟨by decide, fun _ _ _ _ => rfl⟩
theorem k_out : kJ G B 230 1 := ⟨by decide, by decide, fun _ _ _ _ => rfl⟩
theorem k_m_there : kZ G B 187 8 := ⟨by decide, by decide, fun _ _ _ _ => rfl⟩
theorem k_m_ids : kI G B 188 8 := ⟨by decide, by decide, fun _ _ _ _ => rfl⟩
theorem k_m_widths : kI G B 189 8 := ⟨by decide, by decide, fun _ _ _ _ => rfl⟩
theorem k_m_heights : kI G B 190 8 := ⟨by decide, by decide, fun _ _ _ _ => rfl⟩
theorem k_m_planned : kZ G B 191 8 := ⟨by decide, by decide, fun _ _ _ _ => rfl⟩
theorem k_m_scored : kZ G B 192 8 := ⟨by decide, by decide, fun _ _ _ _ => rfl⟩
theorem k_m_flawCounts : kI G B 193 8 := ⟨by decide, by decide, fun _ _ _ _ => rfl⟩
theorem k_m_flaws : kI G B 194 192 := ⟨by decide, by decide, fun _ _ _ _ => rfl⟩
theorem k_m_nodeCounts : kI G B 195 8 := ⟨by decide, by decide, fun _ _ _ _ => rfl⟩
theorem k_m_kinds : kI G B 196 1280 := ⟨by decide, by decide, fun _ _ _ _ => rfl⟩
theorem k_m_xs : kI G B 197 1280 := ⟨by decide, by decide, fun _ _ _ _ => rfl⟩
theorem k_m_ys : kI G B 198 1280 := ⟨by decide, by decide, fun _ _ _ _ => rfl⟩
theorem k_m_ws : kI G B 199 1280 := ⟨by decide, by decide, fun _ _ _ _ => rfl⟩
theorem k_m_hs : kI G B 200 1280 := ⟨by decide, by decide, fun _ _ _ _ => rfl⟩
theorem k_m_cuts : kI G B 201 1280 := ⟨by decide, by decide, fun _ _ _ _ => rfl⟩
theorem k_m_firsts : kI G B 202 1280 := ⟨by decide, by decide, fun _ _ _ _ => rfl⟩
theorem k_m_seconds : kI G B 203 1280 := ⟨by decide, by decide, fun _ _ _ _ => rfl⟩
theorem k_m_states : kI G B 204 1280 := ⟨by decide, by decide, fun _ _ _ _ => rfl⟩
theorem k_m_orderW : kI G B 205 6 := ⟨by decide, by decide, fun _ _ _ _ => rfl⟩
theorem k_m_orderH : kI G B 206 6 := ⟨by decide, by decide, fun _ _ _ _ => rfl⟩
theorem k_m_turns : kZ G B 207 6 := ⟨by decide, by decide, fun _ _ _ _ => rfl⟩
theorem k_m_open : kI G B 208 6 := ⟨by decide, by decide, fun _ _ _ _ => rfl⟩
theorem k_m_coming : kI G B 209 6 := ⟨by decide, by decide, fun _ _ _ _ => rfl⟩
theorem k_m_done : kI G B 210 6 := ⟨by decide, by decide, fun _ _ _ _ => rfl⟩
theorem k_m_offW : kI G B 211 10 := ⟨by decide, by decide, fun _ _ _ _ => rfl⟩
theorem k_m_offH : kI G B 212 10 := ⟨by decide, by decide, fun _ _ _ _ => rfl⟩
theorem k_m_offFlawCounts : kI G B 213 10 := ⟨by decide, by decide, fun _ _ _ _ => rfl⟩
theorem k_m_offFlaws : kI G B 214 240 := ⟨by decide, by decide, fun _ _ _ _ => rfl⟩
theorem k_m_paneOrder : kI G B 215 40 := ⟨by decide, by decide, fun _ _ _ _ => rfl⟩
theorem k_m_paneW : kI G B 216 40 := ⟨by decide, by decide, fun _ _ _ _ => rfl⟩
theorem k_m_paneH : kI G B 217 40 := ⟨by decide, by decide, fun _ _ _ _ => rfl⟩
theorem k_m_paneColumn : kI G B 218 40 := ⟨by decide, by decide, fun _ _ _ _ => rfl⟩
theorem k_m_paneRow : kI G B 219 40 := ⟨by decide, by decide, fun _ _ _ _ => rfl⟩
theorem k_m_taken : kI G B 220 6 := ⟨by decide, by decide, fun _ _ _ _ => rfl⟩
theorem k_m_pieceHas : kI G B 221 64 := ⟨by decide, by decide, fun _ _ _ _ => rfl⟩
theorem k_m_pieceColumn : kI G B 222 64 := ⟨by decide, by decide, fun _ _ _ _ => rfl⟩
theorem k_m_pieceRow : kI G B 223 64 := ⟨by decide, by decide, fun _ _ _ _ => rfl⟩
theorem k_m_piecePane : kI G B 224 64 := ⟨by decide, by decide, fun _ _ _ _ => rfl⟩
theorem k_m_pieceX : kI G B 225 64 := ⟨by decide, by decide, fun _ _ _ _ => rfl⟩
theorem k_m_pieceY : kI G B 226 64 := ⟨by decide, by decide, fun _ _ _ _ => rfl⟩
theorem k_m_pieceW : kI G B 227 64 := ⟨by decide, by decide, fun _ _ _ _ => rfl⟩
theorem k_m_pieceH : kI G B 228 64 := ⟨by decide, by decide, fun _ _ _ _ => rfl⟩
theorem k_m_pieceOf : kI G B 229 64 := ⟨by decide, by decide, fun _ _ _ _ => rfl⟩
theorem k_glA1 {b : Nat} (h : isGlass b) : kI G B (b + 1) 6 := k_glassA (t := 0) h (by decide)
theorem k_glA2 {b : Nat} (h : isGlass b) : kI G B (b + 2) 6 := k_glassA (t := 1) h (by decide)
theorem k_glA3 {b : Nat} (h : isGlass b) : kI G B (b + 3) 6 := k_glassA (t := 2) h (by decide)
theorem k_glA4 {b : Nat} (h : isGlass b) : kI G B (b + 4) 6 := k_glassA (t := 3) h (by decide)
theorem k_trA1 {b : Nat} (h : isTree b) : kI G B (b + 1) 145 := k_treeA (t := 0) h (by decide)
theorem k_trA2 {b : Nat} (h : isTree b) : kI G B (b + 2) 145 := k_treeA (t := 1) h (by decide)
theorem k_trA3 {b : Nat} (h : isTree b) : kI G B (b + 3) 145 := k_treeA (t := 2) h (by decide)
theorem k_trA4 {b : Nat} (h : isTree b) : kI G B (b + 4) 145 := k_treeA (t := 3) h (by decide)
theorem k_trA5 {b : Nat} (h : isTree b) : kI G B (b + 5) 145 := k_treeA (t := 4) h (by decide)
theorem k_trA6 {b : Nat} (h : isTree b) : kI G B (b + 6) 145 := k_treeA (t := 5) h (by decide)
theorem k_trA7 {b : Nat} (h : isTree b) : kI G B (b + 7) 145 := k_treeA (t := 6) h (by decide)
theorem k_trA8 {b : Nat} (h : isTree b) : kI G B (b + 8) 145 := k_treeA (t := 7) h (by decide)
theorem glS {j : Nat} (h : j < 8) : isGlass (67 + 15 * j) := Or.inl ⟨j, h, rfl⟩
theorem glR {k : Nat} (h : k < 10) : isGlass (7 + 5 * k) := Or.inr ⟨k, h, rfl⟩
theorem trS {j : Nat} (h : j < 8) : isTree (72 + 15 * j) := ⟨j, h, rfl⟩
end KD
