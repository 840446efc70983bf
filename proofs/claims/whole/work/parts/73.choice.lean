/-! class and reference: the first of the ranked against the best of all -/
def chB (p : Nat → Bool) (lt : Nat → Nat → Bool) : Nat → Option Nat
  | 0 => none
  | o + 1 => match chB p lt o with
    | none => if p o = true then some o else none
    | some v => if p o = true ∧ lt o v = true then some o else some v
def isC (p : Nat → Bool) (lt : Nat → Nat → Bool) (n : Nat) (o : Option Nat) : Prop := match o with
  | none => ∀ j, j < n → p j = false
  | some m => m < n ∧ p m = true ∧ ∀ j, j < n → p j = true → j = m ∨ lt m j = true
theorem isC.uniq {p : Nat → Bool} {lt : Nat → Nat → Bool} {n : Nat} (asy : ∀ a b, a < n → b < n → lt a b = true → lt b a = true → False) {o q : Option Nat} (h : isC p lt n o) (k : isC p lt n q) : o = q := by
  cases o with
  | none =>
    cases q with
    | none => rfl
    | some r => exact absurd k.2.1 (by rw [h r k.1]; decide)
  | some m =>
    cases q with
    | none => exact absurd h.2.1 (by rw [k m h.1]; decide)
    | some r =>
      rcases h.2.2 r k.1 k.2.1 with e | e
      · rw [e]
      · rcases k.2.2 m h.1 h.2.1 with e' | e'
        · rw [e']
        · exact (asy m r h.1 k.1 e e').elim
theorem chB_is {p : Nat → Bool} {lt : Nat → Nat → Bool} {N : Nat} (tr : ∀ a b c, a < N → b < N → c < N → lt a b = true → lt b c = true → lt a c = true) (tot : ∀ a b, a < N → b < N → a ≠ b → lt a b = true ∨ lt b a = true) : ∀ n, n ≤ N → isC p lt n (chB p lt n)
  | 0, _ => fun j h => absurd h (Nat.not_lt_zero j)
  | n + 1, hn => by
    have ih := chB_is (p := p) tr tot n (by omega)
    simp only [chB]
    cases e : chB p lt n with
    | none =>
      rw [e] at ih
      simp only []
      by_cases q : p n = true
      · rw [if_pos q]
        refine ⟨by omega, q, fun j hj pj => ?_⟩
        by_cases z : j = n
        · exact Or.inl z
        · rw [ih j (by omega)] at pj; cases pj
      · rw [if_neg q]
        intro j hj
        by_cases z : j = n
        · subst z; exact Bool.eq_false_iff.mpr q
        · exact ih j (by omega)
    | some v =>
      rw [e] at ih
      simp only []
      obtain ⟨a1, a2, a3⟩ := ih
      by_cases q : p n = true ∧ lt n v = true
      · rw [if_pos q]
        refine ⟨by omega, q.1, fun j hj pj => ?_⟩
        by_cases z : j = n
        · exact Or.inl z
        · right
          rcases a3 j (by omega) pj with w | w
          · rw [w]; exact q.2
          · exact tr n v j (by omega) (by omega) (by omega) q.2 w
      · rw [if_neg q]
        refine ⟨by omega, a2, fun j hj pj => ?_⟩
        by_cases z : j = n
        · subst z
          right
          rcases tot j v (by omega) (by omega) (by omega) with w | w
          · exact absurd ⟨pj, w⟩ q
          · exact w
        · exact a3 j (by omega) pj
theorem fst_is {p : Nat → Bool} {lt : Nat → Nat → Bool} {N : Nat} {rk : Nat → Nat} (hr : ∀ q, q < N → rk q < N) (hs : ∀ x, x < N → ∃ q, q < N ∧ rk q = x) (hso : ∀ a b, a < b → b < N → lt (rk a) (rk b) = true) : isC p lt N ((fstN (fun k => p (rk k)) N).map rk) := by
  cases e : fstN (fun k => p (rk k)) N with
  | none =>
    intro j hj
    obtain ⟨q, hq, rfl⟩ := hs j hj
    exact fstN_no (p := fun k => p (rk k)) e hq
  | some k =>
    obtain ⟨h1, h2, h3⟩ := fstN_spec e
    refine ⟨hr k h1, h2, fun j hj pj => ?_⟩
    obtain ⟨q, hq, rfl⟩ := hs j hj
    rcases Nat.lt_trichotomy q k with z | z | z
    · have := h3 q z
      rw [pj] at this; cases this
    · exact Or.inl (by rw [z])
    · exact Or.inr (hso k q z hq)
/-- the best of all is the first of the ranked -/
theorem ch_fst {p : Nat → Bool} {lt : Nat → Nat → Bool} {N : Nat} {rk : Nat → Nat} (asy : ∀ a b, a < N → b < N → lt a b = true → lt b a = true → False) (tr : ∀ a b c, a < N → b < N → c < N → lt a b = true → lt b c = true → lt a c = true) (tot : ∀ a b, a < N → b < N → a ≠ b → lt a b = true ∨ lt b a = true)
    (hr : ∀ q, q < N → rk q < N) (hs : ∀ x, x < N → ∃ q, q < N ∧ rk q = x) (hso : ∀ a b, a < b → b < N → lt (rk a) (rk b) = true) : chB p lt N = (fstN (fun k => p (rk k)) N).map rk :=
  (chB_is tr tot N (Nat.le_refl _)).uniq asy (fst_is hr hs hso)
/-! the reference's order is total -/
theorem i32_tri (a b : Int32) : a < b ∨ a = b ∨ b < a := by
  by_cases h : a < b
  · exact Or.inl h
  · by_cases e : a = b
    · exact Or.inr (Or.inl e)
    · right; right
      rcases Int32.lt_or_eq_of_le (Int32.not_lt.mp h) with q | q
      · exact q
      · exact absurd q.symm e
theorem moBef_iff {S : xS} {a b : Nat} : moBef S a b = true ↔ sA S 206 b < sA S 206 a ∨ (sA S 206 a = sA S 206 b ∧ (sA S 205 b < sA S 205 a ∨ (sA S 205 a = sA S 205 b ∧ a < b))) := by
  unfold moBef
  simp only [Bool.or_eq_true, Bool.and_eq_true, decide_eq_true_eq]
theorem moBef_tot {S : xS} {a b : Nat} (h : a ≠ b) : moBef S a b = true ∨ moBef S b a = true := by
  rw [moBef_iff, moBef_iff]
  rcases i32_tri (sA S 206 a) (sA S 206 b) with q | q | q
  · exact Or.inr (Or.inl q)
  · rcases i32_tri (sA S 205 a) (sA S 205 b) with z | z | z
    · exact Or.inr (Or.inr ⟨q.symm, Or.inl z⟩)
    · rcases Nat.lt_or_gt_of_ne h with w | w
      · exact Or.inl (Or.inr ⟨q, Or.inr ⟨z, w⟩⟩)
      · exact Or.inr (Or.inr ⟨q.symm, Or.inr ⟨z.symm, w⟩⟩)
    · exact Or.inl (Or.inr ⟨q, Or.inl z⟩)
  · exact Or.inl (Or.inl q)
theorem moBef_asy {S : xS} {a b : Nat} (h : moBef S a b = true) (k : moBef S b a = true) : False := by
  rw [moBef_iff] at h k
  rcases h with h | ⟨h, h2⟩
  · rcases k with k | ⟨k, -⟩
    · exact Int32.lt_irrefl (Int32.lt_trans h k)
    · rw [k] at h; exact Int32.lt_irrefl h
  · rcases k with k | ⟨-, k2⟩
    · rw [h] at k; exact Int32.lt_irrefl k
    · rcases h2 with h2 | ⟨h2, h3⟩
      · rcases k2 with k2 | ⟨k2, -⟩
        · exact Int32.lt_irrefl (Int32.lt_trans h2 k2)
        · rw [k2] at h2; exact Int32.lt_irrefl h2
      · rcases k2 with k2 | ⟨-, k3⟩
        · rw [h2] at k2; exact Int32.lt_irrefl k2
        · omega
theorem moBef_tr {S : xS} {a b c : Nat} (h : moBef S a b = true) (k : moBef S b c = true) : moBef S a c = true := by
  rw [moBef_iff] at h k ⊢
  rcases h with h | ⟨h, h2⟩
  · rcases k with k | ⟨k, -⟩
    · exact Or.inl (Int32.lt_trans k h)
    · left; rw [← k]; exact h
  · rcases k with k | ⟨k, k2⟩
    · left; rw [h]; exact k
    · right
      refine ⟨h.trans k, ?_⟩
      rcases h2 with h2 | ⟨h2, h3⟩
      · rcases k2 with k2 | ⟨k2, -⟩
        · exact Or.inl (Int32.lt_trans k2 h2)
        · left; rw [← k2]; exact h2
      · rcases k2 with k2 | ⟨k2, k3⟩
        · left; rw [h2]; exact k2
        · exact Or.inr ⟨h2.trans k2, by omega⟩
