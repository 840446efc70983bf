/-! class and reference: the same tree -/
def ndEq (S : xS) (b n i : Nat) : Prop := (sA S (b + 1) i = sA S 196 n ∧ sA S (b + 2) i = sA S 197 n ∧ sA S (b + 3) i = sA S 198 n ∧ sA S (b + 4) i = sA S 199 n ∧ sA S (b + 5) i = sA S 200 n ∧ sA S (b + 6) i = sA S 201 n) ∧ (sA S 202 n = if trCut S b i = true then nI (i + 1) else -1) ∧ sA S (b + 7) i = sA S 203 n ∧ sA S (b + 8) i = sA S 204 n
def trEq (S : xS) (j n : Nat) : Prop := ∀ i, i < n → ndEq S (72 + 15 * j) (160 * j + i) i
theorem tell_eq {S : xS} {b n i w : Nat} (h : ndEq S b n i) (hw : w ≤ 8) : trTell S b i w = moNodeV S n w := by
  obtain ⟨⟨e1, e2, e3, e4, e5, e6⟩, e7, e8, e9⟩ := h
  have : w = 0 ∨ w = 1 ∨ w = 2 ∨ w = 3 ∨ w = 4 ∨ w = 5 ∨ w = 6 ∨ w = 7 ∨ w = 8 := by omega
  rcases this with rfl | rfl | rfl | rfl | rfl | rfl | rfl | rfl | rfl
  · exact e1
  · exact e2
  · exact e3
  · exact e4
  · exact e5
  · exact e6
  · show (if trCut S b i = true then nI i + nI 1 else -1) = sA S 202 n
    rw [e7, nI_add]
  · exact e8
  · exact e9
