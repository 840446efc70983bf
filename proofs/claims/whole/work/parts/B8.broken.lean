/-! what breaks with a node -/
theorem brIn_iff {S : xS} {m n : Nat} {v u : nd} (a1 : sA S 197 m = nI v.2.1) (a2 : sA S 198 m = nI v.2.2.1) (a3 : sA S 199 m = nI v.2.2.2.1) (a4 : sA S 200 m = nI v.2.2.2.2.1) (b1 : sA S 197 n = nI u.2.1) (b2 : sA S 198 n = nI u.2.2.1) (b3 : sA S 199 n = nI u.2.2.2.1) (b4 : sA S 200 n = nI u.2.2.2.2.1)
    (hv : v.2.1 + v.2.2.2.1 ≤ 6000 ∧ v.2.2.1 + v.2.2.2.2.1 ≤ 6000) (hu : u.2.1 + u.2.2.2.1 ≤ 6000 ∧ u.2.2.1 + u.2.2.2.2.1 ≤ 6000) : moBrIn S m n = true ↔ inR v u.2.1 u.2.2.1 u.2.2.2.1 u.2.2.2.2.1 := by
  unfold moBrIn inR
  rw [a1, a2, a3, a4, b1, b2, b3, b4, nI_add, nI_add, nI_add, nI_add]
  simp only [Bool.and_eq_true, Bool.not_eq_true', decide_eq_false_iff_not]
  rw [nI_ltI (by omega) (by omega), nI_ltI (by omega) (by omega), nI_ltI (by omega) (by omega), nI_ltI (by omega) (by omega)]
  omega
def shF (f : Nat → Option Nat) (i : Nat) : Nat → Option Nat := fun q => f (i + q)
theorem moBrL_N {S : xS} {s n i M : Nat} (hin : ∀ q, q < M → moBrIn S (160 * s + (i + q)) n = true) : ∀ k, k ≤ M → (∀ o, o ≠ 204 → o ≠ 208 → o ≠ 209 → sA (moBrL S s n i k).1 o = sA S o) ∧ (∀ y, sA (moBrL S s n i k).1 204 y = if 160 * s + i ≤ y ∧ y < 160 * s + i + k then nI 3 else sA S 204 y) ∧
    (sA (moBrL S s n i k).1 208 = sA (moSeq S (shF (moPaF S s) i) 209 208 k) 208 ∧ sA (moBrL S s n i k).1 209 = sA (moSeq S (shF (moPaF S s) i) 209 208 k) 209) ∧ (moBrL S s n i k).2 = cntN (shF (moPaF S s) i) k ∧ sF (moBrL S s n i k).1 = sF S ∧ sJ (moBrL S s n i k).1 = sJ S
  | 0, _ => ⟨fun _ _ _ _ => rfl, fun y => by rw [if_neg (by omega)]; rfl, ⟨rfl, rfl⟩, rfl, rfl, rfl⟩
  | k + 1, hk => by
    obtain ⟨h1, h2, ⟨h3, h4⟩, h5, h6, h7⟩ := moBrL_N hin k (by omega)
    have e204 : ∀ (Z : xS), (∀ y, sA Z 204 y = sA (uA (moBrL S s n i k).1 204 (160 * s + (i + k)) (nI 3)) 204 y) → ∀ y, sA Z 204 y = if 160 * s + i ≤ y ∧ y < 160 * s + i + (k + 1) then nI 3 else sA S 204 y := fun Z hZ y => by
      rw [hZ, sA_uA]
      by_cases e : y = 160 * s + (i + k)
      · subst e
        rw [va_up_self, if_pos (by omega)]
      · rw [va_up_ne _ _ e, h2]
        by_cases e2 : 160 * s + i ≤ y ∧ y < 160 * s + i + k
        · rw [if_pos e2, if_pos (by omega)]
        · rw [if_neg e2, if_neg (by omega)]
    simp only [moBrL]
    rw [if_pos (hin k (by omega))]
    by_cases e : sA S 196 (160 * s + (i + k)) = nI 2
    · have hf : shF (moPaF S s) i k = some (sA S 201 (160 * s + (i + k))).toNatClampNeg := by
        unfold shF moPaF; rw [if_pos e]
      rw [if_pos e, moSeq_s hf]
      simp only [cntN]
      rw [hf]
      refine ⟨fun o o1 o2 o3 => ?_, e204 _ (fun y => ?_), ⟨?_, ?_⟩, ?_, h6, h7⟩
      · unfold moMv
        rw [sA_uAn _ _ _ o2, sA_uAn _ _ _ o3, sA_uAn _ _ _ o1]; exact h1 o o1 o2 o3
      · unfold moMv
        rw [sA_uAn _ _ _ (by decide), sA_uAn _ _ _ (by decide)]
      · unfold moMv
        rw [sA_uA, sA_uAn _ _ _ (by decide), sA_uAn _ _ _ (by decide), sA_uA, sA_uAn _ _ _ (by decide), h3]
      · unfold moMv
        rw [sA_uAn _ _ _ (by decide), sA_uA, sA_uAn _ _ _ (by decide), sA_uAn _ _ _ (by decide), sA_uA, h4]
      · rw [h5]
    · have hf : shF (moPaF S s) i k = none := by
        unfold shF moPaF; rw [if_neg e]
      rw [if_neg e, moSeq_n hf]
      simp only [cntN]
      rw [hf]
      refine ⟨fun o o1 o2 o3 => ?_, e204 _ (fun y => rfl), ⟨?_, ?_⟩, h5, h6, h7⟩
      · rw [sA_uAn _ _ _ o1]; exact h1 o o1 o2 o3
      · rw [sA_uAn _ _ _ (by decide)]; exact h3
      · rw [sA_uAn _ _ _ (by decide)]; exact h4
theorem moBrL_stop {S : xS} {s n i M K : Nat} (hout : ∀ q, M ≤ q → q < K → moBrIn S (160 * s + (i + q)) n = false) : ∀ k, M ≤ k → k ≤ K → moBrL S s n i k = moBrL S s n i M := by
  intro k hk
  induction hk with
  | refl => intro _; rfl
  | step hk' ih =>
    rename_i k'
    intro h
    have hh : M ≤ k' := hk'
    simp only [moBrL]
    rw [if_neg (by rw [hout k' hh (by omega)]; decide)]
    exact ih (by omega)
theorem moBrL_lo {S : xS} {s n i : Nat} : ∀ k, loE S (moBrL S s n i k).1
  | 0 => loE.rf
  | k + 1 => by
    have ih := moBrL_lo (S := S) (s := s) (n := n) (i := i) k
    simp only [moBrL]
    split
    · split
      · unfold moMv
        exact ((ih.A (by decide)).A (by decide)).A (by decide)
      · exact ih.A (by decide)
    · exact ih
theorem trBrk_A {S : xS} {b f : Nat} : ∀ k, (∀ o, o ≠ b + 8 → sA (trBrk S b f k) o = sA S o) ∧ (∀ y, sA (trBrk S b f k) (b + 8) y = if f ≤ y ∧ y < f + k then nI 3 else sA S (b + 8) y) ∧ sJ (trBrk S b f k) = sJ S ∧ sR (trBrk S b f k) = sR S ∧ sE (trBrk S b f k) = sE S ∧ sN (trBrk S b f k) = sN S ∧ sL (trBrk S b f k) = sL S
  | 0 => ⟨fun _ _ => rfl, fun y => by rw [if_neg (by omega)]; rfl, rfl, rfl, rfl, rfl, rfl⟩
  | k + 1 => by
    obtain ⟨h1, h2, h3⟩ := trBrk_A (S := S) (b := b) (f := f) k
    simp only [trBrk]
    refine ⟨fun o ho => ?_, fun y => ?_, h3⟩
    · rw [sA_uAn _ _ _ ho]; exact h1 o ho
    · rw [sA_uA]
      by_cases e : y = f + k
      · subst e
        rw [va_up_self, if_pos (by omega)]
      · rw [va_up_ne _ _ e, h2]
        by_cases e2 : f ≤ y ∧ y < f + k
        · rw [if_pos e2, if_pos (by omega)]
        · rw [if_neg e2, if_neg (by omega)]
theorem haI_brk {S : xS} {B N R : Nat} {oa : Nat → Nat} {D : Nat → Nat → Int32} {rk g tn fl : Nat → Nat} (h : haI S B N R oa D rk g tn fl) {j f : Nat} (hj : j < 8) : ∀ k, haI (trBrk S (72 + 15 * j) f k) B N R oa D rk g tn fl
  | 0 => h
  | k + 1 => haI_A (haI_brk h hj k) (by omega) (fun q hq => by omega)
theorem tS.over : ∀ {f : Nat} {T : List nd} {σ : Nat → Nat} {o : Nat}, tS f T σ o → (∀ q, q < T.length → σ (o + q) ≠ 1) → ∀ q, q < T.length → σ (o + q) ≠ 0
  | 0, _, _, _, s, _, _, _ => s.elim
  | f + 1, T, σ, o, s, hn, q, hq => by
    rcases s with ⟨s1, s2⟩ | s | ⟨s1, ⟨v, e, hv⟩ | ⟨v, A, C, e, hv, sA', sC'⟩⟩
    · exact absurd s1 (hn 0 (by omega))
    · rw [s q hq]; decide
    · subst e
      have : q = 0 := by simp at hq; omega
      subst this
      rw [Nat.add_zero, s1]; decide
    · subst e
      have hl : (v :: (A ++ C)).length = 1 + A.length + C.length := by simp; omega
      rw [hl] at hn hq
      by_cases z : q = 0
      · subst z
        rw [Nat.add_zero, s1]; decide
      · by_cases z2 : q < 1 + A.length
        · have := sA'.over (fun i hi => by rw [show o + 1 + i = o + (1 + i) by omega]; exact hn _ (by omega)) (q - 1) (by omega)
          rw [show o + 1 + (q - 1) = o + q by omega] at this
          exact this
        · have := sC'.over (fun i hi => by rw [show o + 1 + A.length + i = o + (1 + A.length + i) by omega]; exact hn _ (by omega)) (q - 1 - A.length) (by omega)
          rw [show o + 1 + A.length + (q - 1 - A.length) = o + q by omega] at this
          exact this
theorem sumN_split {f : Nat → Nat} {i M : Nat} : ∀ {n : Nat}, i + M ≤ n → sumN f n = sumN (fun q => if i ≤ q ∧ q < i + M then 0 else f q) n + sumN (fun q => f (i + q)) M := by
  intro n hn
  have key : ∀ k, k ≤ n → sumN f k = sumN (fun q => if i ≤ q ∧ q < i + M then 0 else f q) k + sumN (fun q => f (i + q)) (min M (k - i)) := by
    intro k
    induction k with
    | zero => intro _; rw [show min M (0 - i) = 0 by omega]; rfl
    | succ k ih =>
      intro hk
      have := ih (by omega)
      simp only [sumN]
      by_cases e : i ≤ k ∧ k < i + M
      · rw [if_pos e, show min M (k + 1 - i) = min M (k - i) + 1 by omega]
        simp only [sumN]
        rw [show i + min M (k - i) = k by omega]
        omega
      · rw [if_neg e, show min M (k + 1 - i) = min M (k - i) by omega]
        omega
  have := key n (Nat.le_refl _)
  rw [show min M (n - i) = M by omega] at this
  exact this
theorem lv_iff {S : xS} {s : Nat} : ∀ {n : Nat}, moLv S s n = true ↔ ∃ i, i < n ∧ sA S 204 (160 * s + i) = nI 1
  | 0 => ⟨(fun z => by cases z), fun z => by obtain ⟨i, hi, -⟩ := z; omega⟩
  | n + 1 => by
    simp only [moLv]
    rw [Bool.or_eq_true, lv_iff, decide_eq_true_eq]
    constructor
    · rintro (⟨i, hi, h⟩ | h)
      · exact ⟨i, by omega, h⟩
      · exact ⟨n, by omega, h⟩
    · rintro ⟨i, hi, h⟩
      by_cases e : i = n
      · subst e; exact Or.inr h
      · exact Or.inl ⟨i, by omega, h⟩
