/-! class and reference: sums over the sheets -/
def shEq (S : xS) (tn nc : Nat → Nat) (j : Nat) : Prop := (thB S j = true ↔ ¬ sA S 187 j = 0) ∧ (thB S j = true → sF S (67 + 15 * j) 4 = sA S 189 j ∧ sF S (67 + 15 * j) 5 = sA S 190 j ∧ (0 < tn j ↔ ¬ sA S 191 j = 0)) ∧ (thB S j = false → tn j = 0) ∧
  (0 < tn j → nc j = tn j ∧ ∀ i, i < tn j → sA S (72 + 15 * j + 8) i = sA S 204 (160 * j + i) ∧ sA S (72 + 15 * j + 4) i = sA S 199 (160 * j + i) ∧ sA S (72 + 15 * j + 5) i = sA S 200 (160 * j + i))
theorem haUn_eq {S : xS} {tn nc : Nat → Nat} (h : ∀ j, j < 8 → shEq S tn nc j) : ∀ m, m ≤ 8 → haUn S tn m = moFr S m
  | 0, _ => rfl
  | m + 1, hm => by
    obtain ⟨e1, e2, e3, -⟩ := h m (by omega)
    simp only [haUn, moFr]
    rw [haUn_eq h m (by omega)]
    cases q : thB S m with
    | false =>
      have z : ¬ ¬ sA S 187 m = 0 := fun w => by rw [e1.mpr w] at q; cases q
      rw [if_neg (fun w => by cases w.1), if_neg (fun w => z w.1), Int64.add_zero]
    | true =>
      obtain ⟨w1, w2, w3⟩ := e2 q
      by_cases t : tn m = 0
      · have pz : sA S 191 m = 0 := Classical.byContradiction fun w => by have := w3.mpr w; omega
        rw [if_pos ⟨rfl, t⟩, if_pos ⟨e1.mp q, pz⟩]
        unfold glSurf
        rw [w1, w2]
      · have pz : ¬ sA S 191 m = 0 := w3.mp (by omega)
        rw [if_neg (fun w => t w.2), if_neg (fun w => pz w.2), Int64.add_zero]
theorem moWi_eq {S : xS} {j : Nat} {a : Int64} {n : Nat} (h : ∀ i, i < n → sA S (72 + 15 * j + 8) i = sA S 204 (160 * j + i) ∧ sA S (72 + 15 * j + 4) i = sA S 199 (160 * j + i) ∧ sA S (72 + 15 * j + 5) i = sA S 200 (160 * j + i)) : ∀ m, m ≤ n → moWi S j a m = a + trWait S (72 + 15 * j) m
  | 0, _ => (Int64.add_zero a).symm
  | m + 1, hm => by
    obtain ⟨e1, e2, e3⟩ := h m (by omega)
    simp only [moWi, trWait]
    rw [moWi_eq h m (by omega)]
    unfold trWaits
    rw [e1]
    by_cases q : sA S 204 (160 * j + m) = nI 1
    · rw [if_pos q, if_pos (decide_eq_true q), Int64.add_assoc]
      unfold trSurf moAr
      rw [e2, e3]
    · rw [if_neg q, if_neg (fun w => q (of_decide_eq_true w)), Int64.add_zero]
theorem haWa_eq {S : xS} {tn nc : Nat → Nat} (h : ∀ j, j < 8 → shEq S tn nc j) : ∀ m, m ≤ 8 → haWa S tn m = moWt S nc m
  | 0, _ => rfl
  | m + 1, hm => by
    obtain ⟨e1, e2, e3, e4⟩ := h m (by omega)
    simp only [haWa, moWt]
    rw [haWa_eq h m (by omega)]
    by_cases t : tn m = 0
    · have hz : ¬ (¬ sA S 187 m = 0 ∧ ¬ sA S 191 m = 0) := fun w => by
        have := (e2 (e1.mpr w.1)).2.2.mpr w.2
        omega
      rw [if_neg hz, t]
      exact Int64.add_zero _
    · have q : thB S m = true := by
        cases z : thB S m with
        | true => rfl
        | false => exact absurd (e3 z) t
      rw [if_pos ⟨e1.mp q, (e2 q).2.2.mp (by omega)⟩, (e4 (by omega)).1, moWi_eq (e4 (by omega)).2 (tn m) (Nat.le_refl _)]
theorem haCo_eq0 {S : xS} {tn nc : Nat → Nat} (h : ∀ j, j < 8 → shEq S tn nc j) : ∀ m, m ≤ 8 → haCo S tn false m = moSh S m
  | 0, _ => rfl
  | m + 1, hm => by
    obtain ⟨e1, -⟩ := h m (by omega)
    simp only [haCo, moSh]
    rw [haCo_eq0 h m (by omega)]
    by_cases q : sA S 187 m = 0
    · rw [if_pos q, if_neg (fun w => e1.mp w.1 q)]
    · rw [if_neg q, if_pos ⟨e1.mpr q, fun w => by cases w⟩]
theorem haCo_eq1 {S : xS} {tn nc : Nat → Nat} (h : ∀ j, j < 8 → shEq S tn nc j) : ∀ m, m ≤ 8 → haCo S tn true m = moPl S m
  | 0, _ => rfl
  | m + 1, hm => by
    obtain ⟨e1, e2, -⟩ := h m (by omega)
    simp only [haCo, moPl]
    rw [haCo_eq1 h m (by omega)]
    by_cases q : ¬ sA S 187 m = 0 ∧ ¬ sA S 191 m = 0
    · rw [if_pos q, if_pos ⟨e1.mpr q.1, fun _ => (e2 (e1.mpr q.1)).2.2.mpr q.2⟩]
    · rw [if_neg q, if_neg (fun w => q ⟨e1.mp w.1, (e2 w.1).2.2.mp (w.2 trivial)⟩)]
