/-! an offcut becomes a sheet -/
def rmX (k R q : Nat) : Nat := if q < k then q else if q + 1 < R then q + 1 else if q + 1 = R then k else q
theorem rmX_is (k R q : Nat) : (q < k ∧ rmX k R q = q) ∨ (k ≤ q ∧ q + 1 < R ∧ rmX k R q = q + 1) ∨ (k ≤ q ∧ q + 1 = R ∧ rmX k R q = k) ∨ (k ≤ q ∧ R < q + 1 ∧ rmX k R q = q) := by
  unfold rmX
  by_cases h1 : q < k
  · rw [if_pos h1]; omega
  · rw [if_neg h1]
    by_cases h2 : q + 1 < R
    · rw [if_pos h2]; omega
    · rw [if_neg h2]
      by_cases h3 : q + 1 = R
      · rw [if_pos h3]; omega
      · rw [if_neg h3]; omega
theorem rmX_lt {k R q : Nat} (hk : k < R) (hR : R ≤ 10) (hq : q < 10) : rmX k R q < 10 := by
  have := rmX_is k R q
  omega
theorem rmX_inj {k R a b : Nat} (hk : k < R) (h : rmX k R a = rmX k R b) : a = b := by
  have := rmX_is k R a
  have := rmX_is k R b
  omega
theorem rkShift_all {S : xS} {B k : Nat} {g : Nat → Nat} : ∀ i, sA (rkShift S B g k i) = sA S ∧ sJ (rkShift S B g k i) = sJ S ∧ sE (rkShift S B g k i) = sE S ∧ sN (rkShift S B g k i) = sN S ∧ sL (rkShift S B g k i) = sL S ∧ (∀ o, o ≠ 6 → sR (rkShift S B g k i) o = sR S o) ∧ ∀ q, sR (rkShift S B g k i) 6 q = if k ≤ q ∧ q < k + i then some (B + g (q + 1)) else sR S 6 q
  | 0 => ⟨rfl, rfl, rfl, rfl, rfl, fun _ _ => rfl, fun q => by rw [if_neg (by omega)]; rfl⟩
  | i + 1 => by
    obtain ⟨h1, h2, h3, h4, h5, h6, h7⟩ := rkShift_all (S := S) (B := B) (k := k) (g := g) i
    simp only [rkShift]
    refine ⟨h1, h2, h3, h4, h5, fun o ho => ?_, fun q => ?_⟩
    · show up2 (sR (rkShift S B g k i)) 6 _ _ o = _
      rw [up2_ne _ _ _ ho]; exact h6 o ho
    · rw [sR_uR]
      by_cases e : q = k + i
      · subst e
        rw [va_up_self, if_pos (by omega)]
      · rw [va_up_ne _ _ e, h7]
        by_cases e2 : k ≤ q ∧ q < k + i
        · rw [if_pos e2, if_pos (by omega)]
        · rw [if_neg e2, if_neg (by omega)]
theorem rkRem_all {S : xS} {B k n : Nat} {g : Nat → Nat} : sA (rkRem S B g k n) = sA S ∧ sJ (rkRem S B g k n) = sJ S ∧ sE (rkRem S B g k n) = sE S ∧ sN (rkRem S B g k n) = sN S ∧ sL (rkRem S B g k n) = sL S ∧ ∀ o, o ≠ 6 → sR (rkRem S B g k n) o = sR S o := by
  obtain ⟨h1, h2, h3, h4, h5, h6, -⟩ := rkShift_all (S := S) (B := B) (k := k) (g := g) (n - 1 - k)
  refine ⟨h1, h2, h3, h4, h5, fun o ho => ?_⟩
  show up2 (sR (rkShift S B g k (n - 1 - k))) 6 _ _ o = _
  rw [up2_ne _ _ _ ho]; exact h6 o ho
theorem haI_rem {S : xS} {B N R : Nat} {oa : Nat → Nat} {D : Nat → Nat → Int32} {rk g tn fl : Nat → Nat} (h : haI S B N R oa D rk g tn fl) {k : Nat} (hk : k < R) : haI (rkRem S B g k R) B N (R - 1) oa D rk (fun q => g (rmX k R q)) tn fl := by
  have hg : ∀ k, k < 10 → ∃ t, t < 10 ∧ g k = 7 + 5 * t := fun k hk => rkGl h hk
  obtain ⟨a1, a2, a3, a4, a5, a6, a7, a8, a9, a10, a11, a12, a13⟩ := h
  obtain ⟨h1, h2, h3, h4, h5, h6⟩ := rkRem_all (S := S) (B := B) (k := k) (n := R) (g := g)
  have eF : ∀ o, o ≠ 5 → sF (rkRem S B g k R) o = sF S o := fun o ho => rkRem_F ho
  refine ⟨fun j hj => ?_, ⟨?_, a2.2⟩, fun q hq => ⟨?_, (a3 q hq).2.1, ?_⟩, a4, fun q hq => ?_, ⟨?_, by omega⟩, fun q hq => ⟨?_, (a7 _ (rmX_lt hk a6.2 hq)).2⟩, fun q hq => a8 _ (rmX_lt hk a6.2 hq), fun j hj => ⟨?_, (a9 j hj).2⟩, fun j hj => ⟨?_, (a10 j hj).2⟩, fun q hq => ?_, fun j i hj hi z => ?_, ?_⟩
  · rw [h6 1 (by decide)]; exact a1 j hj
  · rw [eF 2 (by decide)]; exact a2.1
  · rw [h6 3 (by decide)]; exact (a3 q hq).1
  · rw [h3]; exact (a3 q hq).2.2
  · rw [h1]; exact a5 q hq
  · unfold rkRem
    show sF (uF (rkShift S B g k (R - 1 - k)) 5 1 (nI (R - 1))) 5 1 = _
    rw [sF_uF, va_up_self]
  · unfold rkRem
    rw [sR_uR]
    show va_up (sR (rkShift S B g k (R - 1 - k)) 6) _ _ _ = _
    have e7 := (rkShift_all (S := S) (B := B) (k := k) (g := g) (R - 1 - k)).2.2.2.2.2.2 q
    show _ = some (B + g (rmX k R q))
    rcases rmX_is k R q with ⟨x1, x2⟩ | ⟨x1, x2, x3⟩ | ⟨x1, x2, x3⟩ | ⟨x1, x2, x3⟩
    · rw [x2, va_up_ne _ _ (by omega), e7, if_neg (by omega)]; exact (a7 q hq).1
    · rw [x3, va_up_ne _ _ (by omega), e7, if_pos (by omega)]
    · rw [x3, show q = R - 1 by omega, va_up_self]
    · rw [x3, va_up_ne _ _ (by omega), e7, if_neg (by omega)]; exact (a7 q hq).1
  · rw [eF _ (by omega)]; exact (a9 j hj).1
  · rw [eF _ (by omega)]; exact (a10 j hj).1
  · obtain ⟨t, ht, et⟩ := hg _ (rmX_lt hk a6.2 hq)
    show ∃ m, m ≤ 6 ∧ sF (rkRem S B g k R) (g (rmX k R q)) 6 = nI m
    rw [eF _ (by omega)]; exact a11 _ (rmX_lt hk a6.2 hq)
  · rw [h1] at z ⊢
    exact a12 j i hj hi z
  · rw [eF _ (by decide)]; exact a13
theorem prt_all {w h m : Nat} {f : Nat → qd} (hf : ∀ k, k < m → ((f k).1 + (f k).2.2.1 ≤ w ∧ (f k).2.1 + (f k).2.2.2 ≤ h) ∧ 1 ≤ (f k).2.2.1 ∧ 1 ≤ (f k).2.2.2) : ∀ k, k ≤ m → (prt 0 0 w h f k).length = k ∧ ∀ c, c < k → (prt 0 0 w h f k)[c]? = some (f c)
  | 0, _ => ⟨rfl, fun c hc => by omega⟩
  | k + 1, hk => by
    obtain ⟨i1, i2⟩ := prt_all hf k (by omega)
    obtain ⟨⟨b1, b2⟩, b3, b4⟩ := hf k (by omega)
    simp only [prt]
    rw [if_neg (by omega), if_neg (by omega)]
    have eq : (max 0 (f k).1 - 0, max 0 (f k).2.1 - 0, min (0 + w) ((f k).1 + (f k).2.2.1) - max 0 (f k).1, min (0 + h) ((f k).2.1 + (f k).2.2.2) - max 0 (f k).2.1) = f k := by
      refine Prod.ext ?_ (Prod.ext ?_ (Prod.ext ?_ ?_))
      · show max 0 (f k).1 - 0 = (f k).1; omega
      · show max 0 (f k).2.1 - 0 = (f k).2.1; omega
      · show min (0 + w) ((f k).1 + (f k).2.2.1) - max 0 (f k).1 = (f k).2.2.1; omega
      · show min (0 + h) ((f k).2.1 + (f k).2.2.2) - max 0 (f k).2.1 = (f k).2.2.2; omega
    rw [eq]
    refine ⟨by rw [List.length_append, i1]; rfl, fun c hc => ?_⟩
    by_cases z : c < k
    · rw [List.getElem?_append_left (by omega)]; exact i2 c z
    · rw [List.getElem?_append_right (by omega), i1, show c - k = 0 by omega, show c = k by omega]; rfl
theorem moMoL_at {S : xS} {a b : Nat} (hab : a ≠ b) : ∀ i, i ≤ 24 → (∀ o, 211 ≤ o → o ≤ 213 → sA (moMoL S a b i) o = va_up (sA S o) b (sA S o a)) ∧ ∀ p, sA (moMoL S a b i) 214 p = if 24 * b ≤ p ∧ p < 24 * b + i then sA S 214 (24 * a + (p - 24 * b)) else sA S 214 p
  | 0, _ => by
    show (∀ o, 211 ≤ o → o ≤ 213 → sA (moMo0 S a b) o = _) ∧ ∀ p, sA (moMo0 S a b) 214 p = _
    unfold moMo0
    refine ⟨fun o o1 o2 => ?_, fun p => ?_⟩
    · by_cases z1 : o = 211
      · subst z1
        rw [sA_uAn _ _ _ (by decide), sA_uAn _ _ _ (by decide), sA_uA]
      · by_cases z2 : o = 212
        · subst z2
          rw [sA_uAn _ _ _ (by decide), sA_uA, sA_uAn _ _ _ (by decide)]
        · have z3 : o = 213 := by omega
          subst z3
          rw [sA_uA, sA_uAn _ _ _ (by decide), sA_uAn _ _ _ (by decide)]
    · rw [if_neg (by omega), sA_uAn _ _ _ (by decide), sA_uAn _ _ _ (by decide), sA_uAn _ _ _ (by decide)]
  | i + 1, hi => by
    obtain ⟨h1, h2⟩ := moMoL_at (S := S) hab i (by omega)
    simp only [moMoL]
    refine ⟨fun o o1 o2 => by rw [sA_uAn _ _ _ (by omega)]; exact h1 o o1 o2, fun p => ?_⟩
    rw [sA_uA]
    by_cases e : p = 24 * b + i
    · subst e
      rw [va_up_self, if_pos (by omega), h2, if_neg (by omega)]
      congr 1
      omega
    · rw [va_up_ne _ _ e, h2]
      by_cases e2 : 24 * b ≤ p ∧ p < 24 * b + i
      · rw [if_pos e2, if_pos (by omega)]
      · rw [if_neg e2, if_neg (by omega)]
theorem moUsM_at {S : xS} {k : Nat} : ∀ i, (∀ o q, 211 ≤ o → o ≤ 213 → sA (moUsM S k i) o q = if k ≤ q ∧ q < k + i then sA S o (q + 1) else sA S o q) ∧ ∀ p, sA (moUsM S k i) 214 p = if 24 * k ≤ p ∧ p < 24 * (k + i) then sA S 214 (p + 24) else sA S 214 p
  | 0 => ⟨fun o q _ _ => by rw [if_neg (by omega)]; rfl, fun p => by rw [if_neg (by omega)]; rfl⟩
  | i + 1 => by
    obtain ⟨h1, h2⟩ := moUsM_at (S := S) (k := k) i
    obtain ⟨g1, g2⟩ := moMoL_at (S := moUsM S k i) (a := k + i + 1) (b := k + i) (by omega) 24 (Nat.le_refl _)
    simp only [moUsM]
    refine ⟨fun o q o1 o2 => ?_, fun p => ?_⟩
    · rw [g1 o o1 o2]
      by_cases e : q = k + i
      · subst e
        rw [va_up_self, if_pos (by omega), h1 o _ o1 o2, if_neg (by omega)]
      · rw [va_up_ne _ _ e, h1 o q o1 o2]
        by_cases e2 : k ≤ q ∧ q < k + i
        · rw [if_pos e2, if_pos (by omega)]
        · rw [if_neg e2, if_neg (by omega)]
    · rw [g2]
      by_cases e : 24 * (k + i) ≤ p ∧ p < 24 * (k + i) + 24
      · rw [if_pos e, if_pos (by omega), h2, if_neg (by omega)]
        congr 1
        omega
      · rw [if_neg e, h2]
        by_cases e2 : 24 * k ≤ p ∧ p < 24 * (k + i)
        · rw [if_pos e2, if_pos (by omega)]
        · rw [if_neg e2, if_neg (by omega)]
theorem moUsL_at {S : xS} {k s : Nat} : ∀ i, (∀ p, (p < 24 * s ∨ 24 * s + 4 * i ≤ p) → sA (moUsL S k s i) 194 p = sA S 194 p) ∧ (∀ c, c < 4 * i → sA (moUsL S k s i) 194 (24 * s + c) = sA S 214 (24 * k + c)) ∧ ∀ q, q ≠ s → sA (moUsL S k s i) 193 q = sA S 193 q
  | 0 => ⟨fun _ _ => rfl, fun c hc => by omega, fun _ _ => rfl⟩
  | i + 1 => by
    obtain ⟨h1, h2, h3⟩ := moUsL_at (S := S) (k := k) (s := s) i
    simp only [moUsL]
    unfold moPutFlaw
    refine ⟨fun p hp => ?_, fun c hc => ?_, fun q hq => ?_⟩
    · rw [sA_uAn _ _ _ (by decide), sA_uA, sA_uA, sA_uA, sA_uA, va_up_ne _ _ (by omega), va_up_ne _ _ (by omega), va_up_ne _ _ (by omega), va_up_ne _ _ (by omega)]
      exact h1 p (by omega)
    · rw [sA_uAn _ _ _ (by decide), sA_uA, sA_uA, sA_uA, sA_uA]
      by_cases e3 : c = 4 * i + 3
      · subst e3
        rw [show 24 * s + (4 * i + 3) = 24 * s + 4 * i + 3 by omega, va_up_self]
        congr 1
      · rw [va_up_ne _ _ (by omega)]
        by_cases e2 : c = 4 * i + 2
        · subst e2
          rw [show 24 * s + (4 * i + 2) = 24 * s + 4 * i + 2 by omega, va_up_self]
          congr 1
        · rw [va_up_ne _ _ (by omega)]
          by_cases e1 : c = 4 * i + 1
          · subst e1
            rw [show 24 * s + (4 * i + 1) = 24 * s + 4 * i + 1 by omega, va_up_self]
            congr 1
          · rw [va_up_ne _ _ (by omega)]
            by_cases e0 : c = 4 * i
            · subst e0
              rw [va_up_self]
            · rw [va_up_ne _ _ (by omega)]
              exact h2 c (by omega)
    · rw [sA_uA, va_up_ne _ _ hq, sA_uAn _ _ _ (by decide), sA_uAn _ _ _ (by decide), sA_uAn _ _ _ (by decide), sA_uAn _ _ _ (by decide)]
      exact h3 q hq
theorem moUsL_lo {S : xS} {k s : Nat} : ∀ i, loE S (moUsL S k s i) ∧ sJ (moUsL S k s i) = sJ S
  | 0 => ⟨loE.rf, rfl⟩
  | i + 1 => by
    obtain ⟨h1, h2⟩ := moUsL_lo (S := S) (k := k) (s := s) i
    exact ⟨((((h1.A (by decide)).A (by decide)).A (by decide)).A (by decide)).A (by decide), h2⟩
theorem moMoL_lo {S : xS} {a b : Nat} : ∀ i, loE S (moMoL S a b i) ∧ sJ (moMoL S a b i) = sJ S
  | 0 => ⟨((loE.rf.A (by decide)).A (by decide)).A (by decide), rfl⟩
  | i + 1 => ⟨(moMoL_lo i).1.A (by decide), (moMoL_lo i).2⟩
theorem moUsM_lo {S : xS} {k : Nat} : ∀ i, loE S (moUsM S k i) ∧ sJ (moUsM S k i) = sJ S
  | 0 => ⟨loE.rf, rfl⟩
  | i + 1 => ⟨(moUsM_lo i).1.trans (moMoL_lo 24).1, (moMoL_lo 24).2.trans (moUsM_lo i).2⟩
