/-! class and reference: may an order's pane lie here -/
def flEq (S : xS) (b s fl : Nat) : Prop := ∀ k, k < fl → sA S (b + 1) k = sA S 194 (24 * s + 4 * k) ∧ sA S (b + 2) k = sA S 194 (24 * s + 4 * k + 1) ∧ sA S (b + 3) k = sA S 194 (24 * s + 4 * k + 2) ∧ sA S (b + 4) k = sA S 194 (24 * s + 4 * k + 3)
theorem le_nlt {a b : Int32} : decide (a ≤ b) = !decide (b < a) := by
  by_cases q : b < a
  · rw [decide_eq_true q, decide_eq_false (Int32.not_le.mpr q)]; rfl
  · rw [decide_eq_false q, decide_eq_true (Int32.not_lt.mp q)]; rfl
theorem glBes_eq {S : xS} {b s fl k : Nat} {x w : Int32} (h : flEq S b s fl) (hk : k < fl) : glBes S b k x w = !moOver (sA S 194 (24 * s + 4 * k)) (sA S 194 (24 * s + 4 * k + 2)) x w := by
  unfold glBes moOver
  rw [(h k hk).1, (h k hk).2.2.1, le_nlt, Bool.not_and]
theorem glAbo_eq {S : xS} {b s fl k : Nat} {y h0 : Int32} (h : flEq S b s fl) (hk : k < fl) : glAbo S b k y h0 = !moOver (sA S 194 (24 * s + 4 * k + 1)) (sA S 194 (24 * s + 4 * k + 3)) y h0 := by
  unfold glAbo moOver
  rw [(h k hk).2.1, (h k hk).2.2.2, le_nlt, Bool.not_and]
theorem moPo_and {m : Bool} {S : xS} {s : Nat} {x y w h : Int32} : ∀ n, moPo m S s x y w h n = (m && moPo true S s x y w h n)
  | 0 => by show m = (m && true); rw [Bool.and_true]
  | n + 1 => by
    simp only [moPo]
    rw [moPo_and n, Bool.and_assoc]
theorem glClear_eq {S : xS} {b s fl : Nat} {x y w h : Int32} (e : flEq S b s fl) : ∀ n, n ≤ fl → glClear S b n x y w h = moPo true S s x y w h n
  | 0, _ => rfl
  | n + 1, hn => by
    have ih := glClear_eq (x := x) (y := y) (w := w) (h := h) e n (by omega)
    unfold glClear at ih ⊢
    rw [List.range_succ, List.all_append, ih]
    simp only [moPo, List.all_cons, List.all_nil, Bool.and_true]
    rw [glBes_eq e (show n < fl by omega), glAbo_eq e (show n < fl by omega)]
    unfold moMeets
    rw [Bool.not_and]
/-- the spot, the orders and the counts are the same -/
def stEq (S : xS) (b s fl n x y : Nat) (room : Int32) (D : Nat → Int32) (o : Nat) : Prop :=
  flEq S b s fl ∧ (D 3 = sA S 208 o ∧ nI (laCount S (nI o) n) = sA S 220 o) ∧ (sF S 63 6 = room ∧ sF S b 5 = sA S 190 s) ∧ (sF S 63 5 = nI y ∧ sF S 63 4 = nI x) ∧ (D 0 = sA S 205 o ∧ D 1 = sA S 206 o) ∧ (D 2 = 0 ↔ sA S 207 o = 0)
theorem can_plain {S : xS} {b s fl n x y o : Nat} {room : Int32} {D : Nat → Int32} (e : stEq S b s fl n x y room D o) : stCan S b fl n D o false = moPos S s fl x y room o false := by
  obtain ⟨e1, ⟨e2, e3⟩, ⟨e4, e5⟩, ⟨e6, e7⟩, ⟨e8, e9⟩, e10⟩ := e
  unfold stCan moPos moMay moPw moPh
  rw [moPo_and, ← glClear_eq e1 fl (Nat.le_refl _), e2, e3, e4, e5, e6, e7, e8, e9]
  simp only [Bool.false_eq_true, if_false, Bool.not_false, Bool.true_or, Bool.true_and, Bool.and_true, Bool.and_assoc]
theorem can_turn {S : xS} {b s fl n x y o : Nat} {room : Int32} {D : Nat → Int32} (e : stEq S b s fl n x y room D o) : stCan S b fl n D o true = true → moPos S s fl x y room o false = true ∨ moPos S s fl x y room o true = true := by
  intro h
  by_cases q : sA S 205 o = sA S 206 o
  · left
    rw [← can_plain e]
    obtain ⟨e1, ⟨e2, e3⟩, ⟨e4, e5⟩, ⟨e6, e7⟩, ⟨e8, e9⟩, e10⟩ := e
    unfold stCan at h ⊢
    rw [e8, e9, q] at h ⊢
    simp only [if_true, if_false, Bool.false_eq_true, Bool.and_eq_true, Bool.not_false, Bool.true_or] at h ⊢
    exact ⟨h.1, trivial, h.2.2⟩
  · right
    obtain ⟨e1, ⟨e2, e3⟩, ⟨e4, e5⟩, ⟨e6, e7⟩, ⟨e8, e9⟩, e10⟩ := e
    unfold stCan at h
    rw [e2, e3, e4, e5, e6, e7, e8, e9, glClear_eq e1 fl (Nat.le_refl _)] at h
    unfold moPos moMay moPw moPh
    rw [moPo_and]
    simp only [if_true, Bool.and_eq_true, Bool.not_true, Bool.false_or] at h ⊢
    refine ⟨⟨h.1, h.2.2.1, h.2.2.2.1, ?_, ?_⟩, h.2.2.2.2⟩
    · have h2 := h.2.1
      simp only [Bool.not_eq_true', decide_eq_false_iff_not] at h2 ⊢
      exact fun z => h2 (e10.mpr z)
    · simp only [Bool.not_eq_true', decide_eq_false_iff_not]
      exact fun z => q z.symm
theorem turn_can {S : xS} {b s fl n x y o : Nat} {room : Int32} {D : Nat → Int32} (e : stEq S b s fl n x y room D o) (h : moPos S s fl x y room o true = true) : stCan S b fl n D o true = true := by
  obtain ⟨e1, ⟨e2, e3⟩, ⟨e4, e5⟩, ⟨e6, e7⟩, ⟨e8, e9⟩, e10⟩ := e
  unfold moPos moMay moPw moPh at h
  rw [moPo_and] at h
  unfold stCan
  rw [e2, e3, e4, e5, e6, e7, e8, e9, glClear_eq e1 fl (Nat.le_refl _)]
  simp only [if_true, Bool.and_eq_true, Bool.not_true, Bool.false_or] at h ⊢
  refine ⟨h.1.1, ?_, h.1.2.1, h.1.2.2.1, h.2⟩
  have h2 := h.1.2.2.2.1
  simp only [Bool.not_eq_true', decide_eq_false_iff_not] at h2 ⊢
  exact fun z => h2 (e10.mp z)
theorem any_eq {S : xS} {b s fl n x y o : Nat} {room : Int32} {D : Nat → Int32} (e : stEq S b s fl n x y room D o) : (stCan S b fl n D o false || stCan S b fl n D o true) = (moPos S s fl x y room o false || moPos S s fl x y room o true) := by
  rw [can_plain e]
  cases hp : moPos S s fl x y room o false with
  | true => rfl
  | false =>
    rw [Bool.false_or, Bool.false_or]
    cases ht : moPos S s fl x y room o true with
    | true => exact turn_can e ht
    | false =>
      cases hc : stCan S b fl n D o true with
      | false => rfl
      | true =>
        rcases can_turn e hc with q | q
        · rw [hp] at q; cases q
        · rw [ht] at q; cases q
