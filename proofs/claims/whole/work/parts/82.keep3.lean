/-! what always holds: a tree is cleared; a layout of another size -/
section HC
variable {S : xS} {B N R : Nat} {oa : Nat → Nat} {D : Nat → Nat → Int32} {rk g tn fl : Nat → Nat}
theorem haI_cut (h : haI S B N R oa D rk g tn fl) {j : Nat} (hj : j < 8) : haI (uF S (72 + 15 * j) 8 (nI 0)) B N R oa D rk g (va_up tn j 0) fl := by
  have hg : ∀ k, k < 10 → ∃ t, t < 10 ∧ g k = 7 + 5 * t := fun k hk => rkGl h hk
  obtain ⟨a1, a2, a3, a4, a5, a6, a7, a8, a9, a10, a11, a12, a13⟩ := h
  refine ⟨a1, ?_, a3, a4, a5, ?_, a7, a8, fun k hk => ?_, fun k hk => ?_, fun k hk => ?_, fun q i hq hi h2 => ?_, ?_⟩
  · rw [sF_uFn _ _ _ (by omega)]; exact a2
  · rw [sF_uFn _ _ _ (by omega)]; exact a6
  · by_cases e : k = j
    · subst e
      rw [va_up_self, sF_uF, va_up_self]
      exact ⟨rfl, by omega⟩
    · rw [va_up_ne _ _ e, sF_uFn _ _ _ (by omega)]; exact a9 k hk
  · rw [sF_uFn _ _ _ (by omega)]; exact a10 k hk
  · obtain ⟨t', ht', et'⟩ := hg k hk
    rw [sF_uFn _ _ _ (by omega)]; exact a11 k hk
  · by_cases e : q = j
    · subst e
      rw [va_up_self] at hi; omega
    · rw [va_up_ne _ _ e] at hi
      exact a12 q i hq hi h2
  · rw [sF_uFn _ _ _ (by omega)]; exact a13
theorem haI_57 (h : haI S B N R oa D rk g tn fl) {n : Nat} (hn : n ≤ 36) : haI (uF S 57 5 (nI n)) B N R oa D rk g tn fl := by
  have hg : ∀ k, k < 10 → ∃ t, t < 10 ∧ g k = 7 + 5 * t := fun k hk => rkGl h hk
  obtain ⟨a1, a2, a3, a4, a5, a6, a7, a8, a9, a10, a11, a12, a13⟩ := h
  refine ⟨a1, ?_, a3, a4, a5, ?_, a7, a8, fun k hk => ?_, fun k hk => ?_, fun k hk => ?_, a12, n, hn, ?_⟩
  · rw [sF_uFn _ _ _ (by omega)]; exact a2
  · rw [sF_uFn _ _ _ (by omega)]; exact a6
  · rw [sF_uFn _ _ _ (by omega)]; exact a9 k hk
  · rw [sF_uFn _ _ _ (by omega)]; exact a10 k hk
  · obtain ⟨t', ht', et'⟩ := hg k hk
    rw [sF_uFn _ _ _ (by omega)]; exact a11 k hk
  · rw [sF_uF, va_up_self]
end HC
