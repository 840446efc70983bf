/-! class and reference: what fits, sums over the rack -/
theorem moRo_gt {S : xS} {c : Int32} {N : Nat} : ∀ {m : Nat}, moLI S m N → ∀ i, i < m → sA S 218 i = c → ∃ r, r < (moRo S c m).toNatClampNeg ∧ sA S 219 i = nI r
  | m + 1, hL, i, hi, hc => by
    have hL' : moLI S m N := fun q hq => hL q (by omega)
    obtain ⟨C, hC, e⟩ := moRo_M (S := S) (c := c) (n := m) (fun q hq => (hL' q hq).2.2)
    obtain ⟨r, hr, e2⟩ := (hL m (by omega)).2.2
    have hstep : moRo S c (m + 1) = if sA S 218 m = c ∧ moRo S c m ≤ sA S 219 m then sA S 219 m + nI 1 else moRo S c m := rfl
    rw [hstep, e, e2]
    by_cases q : sA S 218 m = c ∧ nI C ≤ nI r
    · rw [if_pos q, nI_add, nI_clamp (by omega)]
      have hCr := (nI_leI (by omega) (by omega)).mp q.2
      by_cases him : i = m
      · subst him; exact ⟨r, by omega, e2⟩
      · obtain ⟨r', h1, h2⟩ := moRo_gt hL' i (by omega) hc
        rw [e, nI_clamp (by omega)] at h1
        exact ⟨r', by omega, h2⟩
    · rw [if_neg q, nI_clamp (by omega)]
      by_cases him : i = m
      · subst him
        have : ¬ C ≤ r := fun z => q ⟨hc, (nI_leI (by omega) (by omega)).mpr z⟩
        exact ⟨r, by omega, e2⟩
      · obtain ⟨r', h1, h2⟩ := moRo_gt hL' i (by omega) hc
        rw [e, nI_clamp (by omega)] at h1
        exact ⟨r', h1, h2⟩
theorem laSum_eq {S : xS} {n N : Nat} (h : layEq S n) (hL : moLI S n N) : ∀ K, laSum S n (fun c => (laRows S (nI c) n).toNatClampNeg) K = moSW S n K
  | 0 => rfl
  | K + 1 => by
    simp only [laSum, moSW]
    rw [laSum_eq h hL K, laRows_eq h hL n (Nat.le_refl _)]
    have := (hL.rows (nI K)).1
    rw [laCW_eq (N := N) h (by omega) (fun i hi hc => moRo_gt hL i hi hc)]
theorem laFit_eq {S : xS} {b s n N : Nat} (h : layEq S n) (hL : moLI S n N) (hH : sF S b 5 = sA S 190 s) (hW : sF S b 4 = sA S 189 s) : laFit S b n = moFits S s n := by
  unfold laFit moFits
  rw [laSum_eq h hL, laCols_eq h hL n (Nat.le_refl _), hH, hW]
  congr 1
  apply congrArg
  funext j
  rw [laCH_eq h, laRows_eq h hL n (Nat.le_refl _)]
/-! the rack -/
def offEq (S : xS) (g : Nat → Nat) (R : Nat) : Prop := ∀ k, k < R → sF S (g k) 4 = sA S 211 k ∧ sF S (g k) 5 = sA S 212 k ∧ ∃ w h, w ≤ 6000 ∧ h ≤ 6000 ∧ sA S 211 k = nI w ∧ sA S 212 k = nI h
theorem rkSurf_eq {S : xS} {g : Nat → Nat} {R : Nat} (h : offEq S g R) : ∀ m, m ≤ R → rkSurf S g m = moRk S m
  | 0, _ => rfl
  | m + 1, hm => by
    simp only [rkSurf, moRk]
    rw [rkSurf_eq h m (by omega)]
    unfold glSurf
    rw [(h m (by omega)).1, (h m (by omega)).2.1]
