/-! class and reference: a sheet by its id, a place that is free -/
theorem moFind_some {S : xS} {x : Int32} : ∀ {n s : Nat}, moFind S x n = some s → ¬ sA S 187 s = 0 ∧ sA S 188 s = x
  | n + 1, s, h => by
    unfold moFind at h
    split at h
    · rename_i q; cases h; exact q
    · exact moFind_some h
theorem moFind_none {S : xS} {x : Int32} : ∀ {n : Nat}, moFind S x n = none → ∀ s, s < n → ¬ (¬ sA S 187 s = 0 ∧ sA S 188 s = x)
  | n + 1, h, s, hs => by
    unfold moFind at h
    split at h
    · cases h
    · rename_i q
      by_cases e : s = n
      · rw [e]; exact q
      · exact moFind_none h s (by omega)
/-- who is there, under which id; no two bear the same -/
def idEq (S : xS) : Prop := (∀ j, j < 8 → (thB S j = true ↔ ¬ sA S 187 j = 0)) ∧ (∀ j, j < 8 → thB S j = true → sF S (66 + 15 * j) 3 = sA S 188 j) ∧ ∀ i j, i < 8 → j < 8 → thB S i = true → thB S j = true → sA S 188 i = sA S 188 j → i = j
theorem idB_iff {S : xS} (h : idEq S) {x : Int32} {j : Nat} (hj : j < 8) : idB S x j = true ↔ ¬ sA S 187 j = 0 ∧ sA S 188 j = x := by
  unfold idB
  rw [Bool.and_eq_true, decide_eq_true_eq]
  constructor
  · rintro ⟨a, b⟩
    exact ⟨(h.1 j hj).mp a, by rw [← h.2.1 j hj a]; exact b⟩
  · rintro ⟨a, b⟩
    have t := (h.1 j hj).mpr a
    exact ⟨t, by rw [h.2.1 j hj t]; exact b⟩
theorem find_eq {S : xS} (h : idEq S) (x : Int32) : moFind S x 8 = fstN (idB S x) 8 := by
  cases e : moFind S x 8 with
  | none =>
    symm
    refine fstN_none (fun j hj => ?_)
    cases q : idB S x j with
    | false => rfl
    | true => exact absurd ((idB_iff h hj).mp q) (moFind_none e j hj)
  | some s =>
    symm
    have hs := moFind_lt e
    have c := moFind_some e
    refine fstN_some ((idB_iff h hs).mpr c) (fun j hj => ?_) hs
    cases q : idB S x j with
    | false => rfl
    | true =>
      have d := (idB_iff h (show j < 8 by omega)).mp q
      have := h.2.2 j s (by omega) hs ((h.1 j (by omega)).mpr d.1) ((h.1 s hs).mpr c.1) (d.2.trans c.2.symm)
      omega
theorem free_eq {S : xS} (h : idEq S) : fstN (fun s => decide (sA S 187 s = 0)) 8 = fstN (fun j => !thB S j) 8 := by
  refine fstN_c (fun j hj => ?_)
  have := h.1 j hj
  cases q : thB S j with
  | true => exact decide_eq_false (this.mp q)
  | false =>
    refine decide_eq_true (Classical.byContradiction fun w => ?_)
    rw [this.mpr w] at q; cases q
theorem moSh_lt {S : xS} : ∀ {n s : Nat}, s < n → sA S 187 s = 0 → moSh S n < n
  | n + 1, s, hs, e => by
    simp only [moSh]
    by_cases q : s = n
    · subst q
      rw [if_pos e]
      have := moSh_le (S := S) s
      omega
    · have := moSh_lt (S := S) (n := n) (s := s) (by omega) e
      split <;> omega
theorem moSh_full {S : xS} : ∀ {n : Nat}, (∀ s, s < n → ¬ sA S 187 s = 0) → moSh S n = n
  | 0, _ => rfl
  | n + 1, h => by
    simp only [moSh]
    rw [if_neg (h n (by omega)), moSh_full (fun s hs => h s (by omega))]
theorem full_iff {S : xS} : moSh S 8 = 8 ↔ fstN (fun s => decide (sA S 187 s = 0)) 8 = none := by
  constructor
  · intro h
    refine fstN_none (fun j hj => ?_)
    refine decide_eq_false (fun w => ?_)
    have := moSh_lt hj w
    omega
  · intro h
    exact moSh_full (fun s hs => of_decide_eq_false (fstN_no h hs))
