/-! what always holds: a cell more, a sheet's glass anew -/
section HK
variable {S S' : xS} {B N R : Nat} {oa : Nat → Nat} {D : Nat → Nat → Int32} {rk g tn fl : Nat → Nat}
theorem haI_N (h : haI S B N R oa D rk g tn fl) (hoa : ∀ k, k < N → oa k < sN S) {c : Nat} {e : va_E} : haI (uN S c e) B N R oa D rk g tn fl := by
  obtain ⟨a1, a2, a3, a4, a5, a6, a7, a8, a9, a10, a11, a12, a13⟩ := h
  refine ⟨a1, a2, fun k hk => ⟨(a3 k hk).1, (a3 k hk).2.1, ?_⟩, a4, a5, a6, a7, a8, a9, a10, a11, a12, a13⟩
  show va_up (sE S) (sN S) _ (oa k) = _
  rw [va_up_ne _ _ (Nat.ne_of_lt (hoa k hk))]
  exact (a3 k hk).2.2
theorem haI_gl (h : haI S B N R oa D rk g tn fl) {j v : Nat} (hj : j < 8) (hK : sK (67 + 15 * j) (67 + 15 * j + 5) S S') (hv : sF S' (67 + 15 * j) 6 = nI v) (hv6 : v ≤ 6) : haI S' B N R oa D rk g tn (va_up fl j v) := by
  have hg : ∀ k, k < 10 → ∃ t, t < 10 ∧ g k = 7 + 5 * t := fun k hk => rkGl h hk
  obtain ⟨a1, a2, a3, a4, a5, a6, a7, a8, a9, a10, a11, a12, a13⟩ := h
  have eF : ∀ q, (q < 67 + 15 * j ∨ 67 + 15 * j + 5 ≤ q) → sF S' q = sF S q := fun q hq => (hK.1 q hq).1
  have eA : ∀ q, (q < 67 + 15 * j ∨ 67 + 15 * j + 5 ≤ q) → sA S' q = sA S q := fun q hq => (hK.1 q hq).2.1
  have eR : ∀ q, (q < 67 + 15 * j ∨ 67 + 15 * j + 5 ≤ q) → sR S' q = sR S q := fun q hq => (hK.1 q hq).2.2.2
  refine ⟨fun i hi => ?_, ⟨?_, a2.2⟩, fun k hk => ⟨?_, (a3 k hk).2.1, ?_⟩, a4, fun q hq => ?_, ⟨?_, a6.2⟩, fun k hk => ⟨?_, (a7 k hk).2⟩, a8, fun i hi => ⟨?_, (a9 i hi).2⟩, fun i hi => ?_, fun k hk => ?_, fun i q hi hq h2 => ?_, ?_⟩
  · rw [eR 1 (by omega)]; exact a1 i hi
  · rw [eF 2 (by omega)]; exact a2.1
  · rw [eR 3 (by omega)]; exact (a3 k hk).1
  · rw [hK.2.1]; exact (a3 k hk).2.2
  · rw [eA 4 (by omega)]; exact a5 q hq
  · rw [eF 5 (by omega)]; exact a6.1
  · rw [eR 6 (by omega)]; exact (a7 k hk).1
  · rw [eF _ (by omega)]; exact (a9 i hi).1
  · by_cases e : i = j
    · subst e
      rw [va_up_self]
      exact ⟨hv, hv6⟩
    · rw [va_up_ne _ _ e, eF _ (by omega)]
      exact a10 i hi
  · obtain ⟨t, ht, et⟩ := hg k hk
    rw [eF _ (by omega)]; exact a11 k hk
  · rw [eA _ (by omega)] at h2
    rw [eA _ (by omega)]
    exact a12 i q hi hq h2
  · rw [eF 57 (by omega)]; exact a13
theorem haI_bec (h : haI S B N R oa D rk g tn fl) {j : Nat} (hj : j < 8) {w z : Int32} : haI (glBec S (67 + 15 * j) w z) B N R oa D rk g tn (va_up fl j 0) :=
  haI_gl h hj glBec_K (by unfold glBec; rw [sF_uF, va_up_self]) (by omega)
theorem haI_addF (h : haI S B N R oa D rk g tn fl) {j : Nat} (hj : j < 8) {x y w z : Int32} : haI (glAdd S (67 + 15 * j) (fl j) x y w z) B N R oa D rk g tn (va_up fl j (glN (fl j))) :=
  haI_gl h hj glAdd_K (glAdd_n (h.2.2.2.2.2.2.2.2.2.1 j hj).1) (glN_le (h.2.2.2.2.2.2.2.2.2.1 j hj).2)
theorem haI_in (h : haI S B N R oa D rk g tn fl) {j : Nat} (hj : j < 8) : haI (haIn S j) B N R oa D rk g tn fl := by
  have hg : ∀ k, k < 10 → ∃ t, t < 10 ∧ g k = 7 + 5 * t := fun k hk => rkGl h hk
  obtain ⟨a1, a2, a3, a4, a5, a6, a7, a8, a9, a10, a11, a12, a13⟩ := h
  have eF : ∀ q, q ≠ 0 → q ≠ 66 + 15 * j → sF (haIn S j) q = sF S q := fun q h1 h2 => by unfold haIn; rw [sF_uFn _ _ _ h1, sF_uFn _ _ _ h2, sF_uFn _ _ _ h2]
  refine ⟨a1, ⟨?_, a2.2⟩, a3, a4, a5, ⟨?_, a6.2⟩, a7, a8, fun i hi => ⟨?_, (a9 i hi).2⟩, fun i hi => ⟨?_, (a10 i hi).2⟩, fun k hk => ?_, a12, ?_⟩
  · rw [eF 2 (by omega) (by omega)]; exact a2.1
  · rw [eF 5 (by omega) (by omega)]; exact a6.1
  · rw [eF _ (by omega) (by omega)]; exact (a9 i hi).1
  · rw [eF _ (by omega) (by omega)]; exact (a10 i hi).1
  · obtain ⟨t, ht, et⟩ := hg k hk
    rw [eF _ (by omega) (by omega)]; exact a11 k hk
  · rw [eF 57 (by omega) (by omega)]; exact a13
end HK
