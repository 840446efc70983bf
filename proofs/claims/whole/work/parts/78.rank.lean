/-! an order that is put into the ranked row -/
def rkIns (rk : Nat → Nat) (N r : Nat) : Nat → Nat := fun q => if q < r then rk q else if q = r then N else rk (q - 1)
theorem bkPos_spec {f : Nat → Bool} : ∀ n, bkPos f n ≤ n ∧ (∀ q, bkPos f n ≤ q → q < n → f q = true) ∧ (bkPos f n = 0 ∨ f (bkPos f n - 1) = false)
  | 0 => ⟨Nat.le_refl _, fun q _ h => absurd h (Nat.not_lt_zero q), Or.inl rfl⟩
  | n + 1 => by
    obtain ⟨h1, h2, h3⟩ := bkPos_spec (f := f) n
    cases e : f n with
    | true =>
      rw [show bkPos f (n + 1) = bkPos f n by simp only [bkPos, e, if_true]]
      refine ⟨by omega, fun q hq hn => ?_, h3⟩
      by_cases z : q = n
      · rw [z]; exact e
      · exact h2 q hq (by omega)
    | false =>
      rw [show bkPos f (n + 1) = n + 1 by simp only [bkPos, e, Bool.false_eq_true, if_false]]
      exact ⟨Nat.le_refl _, fun q hq hn => by omega, Or.inr (by rw [Nat.add_sub_cancel]; exact e)⟩
theorem rkIns_ok {lt : Nat → Nat → Bool} {N : Nat} {rk : Nat → Nat} (tr : ∀ a b c, lt a b = true → lt b c = true → lt a c = true) (tot : ∀ a b, a ≠ b → lt a b = true ∨ lt b a = true)
    (hr : ∀ q, q < N → rk q < N) (hs : ∀ x, x < N → ∃ q, q < N ∧ rk q = x) (hso : ∀ a b, a < b → b < N → lt (rk a) (rk b) = true) {f : Nat → Bool} (hf : ∀ q, q < N → f q = lt N (rk q)) :
    (∀ q, q < N + 1 → rkIns rk N (bkPos f N) q < N + 1) ∧ (∀ x, x < N + 1 → ∃ q, q < N + 1 ∧ rkIns rk N (bkPos f N) q = x) ∧ ∀ a b, a < b → b < N + 1 → lt (rkIns rk N (bkPos f N) a) (rkIns rk N (bkPos f N) b) = true := by
  obtain ⟨h1, h2, h3⟩ := bkPos_spec (f := f) N
  generalize bkPos f N = r at h1 h2 h3
  have lo : ∀ q, q < r → lt (rk q) N = true := fun q hq => by
    have hl : lt (rk (r - 1)) N = true := by
      rcases h3 with z | z
      · omega
      · rw [hf (r - 1) (by omega)] at z
        have := hr (r - 1) (by omega)
        rcases tot (rk (r - 1)) N (by omega) with w | w
        · exact w
        · rw [z] at w; cases w
    by_cases e : q = r - 1
    · rw [e]; exact hl
    · exact tr _ _ _ (hso q (r - 1) (by omega) (by omega)) hl
  have up : ∀ q, r ≤ q → q < N → lt N (rk q) = true := fun q h4 h5 => by rw [← hf q h5]; exact h2 q h4 h5
  refine ⟨fun q hq => ?_, fun x hx => ?_, fun a b hab hb => ?_⟩
  · unfold rkIns
    split
    · have := hr q (by omega); omega
    · split
      · omega
      · have := hr (q - 1) (by omega); omega
  · by_cases e : x = N
    · refine ⟨r, by omega, ?_⟩
      unfold rkIns
      rw [if_neg (by omega), if_pos rfl, e]
    · obtain ⟨q, hq, rfl⟩ := hs x (by omega)
      by_cases z : q < r
      · refine ⟨q, by omega, ?_⟩
        unfold rkIns
        rw [if_pos z]
      · refine ⟨q + 1, by omega, ?_⟩
        unfold rkIns
        rw [if_neg (by omega), if_neg (by omega), Nat.add_sub_cancel]
  · unfold rkIns
    by_cases a1 : a < r
    · rw [if_pos a1]
      by_cases b1 : b < r
      · rw [if_pos b1]; exact hso a b hab (by omega)
      · rw [if_neg b1]
        by_cases b2 : b = r
        · rw [if_pos b2]; exact lo a a1
        · rw [if_neg b2]; exact hso a (b - 1) (by omega) (by omega)
    · rw [if_neg a1, if_neg (show ¬ b < r by omega)]
      by_cases a2 : a = r
      · rw [if_pos a2, if_neg (show ¬ b = r by omega)]
        exact up (b - 1) (by omega) (by omega)
      · rw [if_neg a2, if_neg (show ¬ b = r by omega)]
        exact hso (a - 1) (b - 1) (by omega) (by omega)
