/-! the reference grows the same list: its numbers -/
def lyM (S : xS) (Y : lY) (m : Nat) : Prop := ∀ i, i < m → sA S 215 i = nI (yO Y i) ∧ sA S 216 i = nI (yW Y i) ∧ sA S 217 i = nI (yH Y i) ∧ sA S 218 i = nI (yC Y i) ∧ sA S 219 i = nI (yR Y i)
theorem moInR_y {S : xS} {Y : lY} {m c r i : Nat} (h : lyM S Y m) (hB : lyB Y m) (hc : c < 2 ^ 30) (hr : r < 2 ^ 30) (hi : i < m) : moInR S i (nI c) (nI r) = yIn Y c r i := by
  obtain ⟨-, -, -, a4, a5⟩ := h i hi
  obtain ⟨-, -, b3, b4⟩ := hB i hi
  unfold moInR yIn
  rw [a4, a5]
  congr 1
  · exact decide_eq_decide.mpr (nI_eq (by omega) (by omega))
  · exact decide_eq_decide.mpr (nI_eq (by omega) (by omega))
theorem moRW_y {S : xS} {Y : lY} {m c r : Nat} (h : lyM S Y m) (hB : lyB Y m) (hc : c < 2 ^ 30) (hr : r < 2 ^ 30) : ∀ i, i ≤ m → moRW S (nI c) (nI r) i = nI (nRW Y c r i)
  | 0, _ => rfl
  | i + 1, hi => by
    simp only [moRW, nRW]
    rw [moInR_y h hB hc hr (by omega), moRW_y h hB hc hr i (by omega), (h i (by omega)).2.1]
    split
    · exact nI_add _ _
    · rfl
theorem moRH_y {S : xS} {Y : lY} {m c r : Nat} (h : lyM S Y m) (hB : lyB Y m) (hc : c < 2 ^ 30) (hr : r < 2 ^ 30) : ∀ i, i ≤ m → moRH S (nI c) (nI r) i = nI (nRH Y c r i)
  | 0, _ => rfl
  | i + 1, hi => by
    have hb := nRH_le (c := c) (r := r) hB i (by omega)
    have hb2 := (hB i (by omega)).2.1.2
    simp only [moRH, nRH]
    rw [moInR_y h hB hc hr (by omega), moRH_y h hB hc hr i (by omega), (h i (by omega)).2.2.1]
    split
    · exact mx_nI (by omega) (by omega)
    · rfl
def nCM (Y : lY) (c m : Nat) : Nat → Nat
  | 0 => 0
  | i + 1 => max (nCM Y c m i) (if yC Y i = c then nRW Y c (yR Y i) m else 0)
theorem nCM_le {Y : lY} {c m b : Nat} (h : ∀ r, nRW Y c r m ≤ b) : ∀ i, nCM Y c m i ≤ b
  | 0 => Nat.zero_le _
  | i + 1 => by
    have h1 := nCM_le h i
    have h2 := h (yR Y i)
    simp only [nCM]
    split <;> omega
theorem nCM_ge {Y : lY} {c m : Nat} : ∀ {k i : Nat}, i < k → yC Y i = c → nRW Y c (yR Y i) m ≤ nCM Y c m k
  | 0, _, h, _ => by omega
  | k + 1, i, h, hi => by
    simp only [nCM]
    by_cases e : i = k
    · subst e
      rw [if_pos hi]; omega
    · have := nCM_ge (Y := Y) (c := c) (m := m) (k := k) (i := i) (by omega) hi
      omega
theorem nCM_up {Y : lY} {c m b : Nat} : ∀ k, (∀ i, i < k → yC Y i = c → nRW Y c (yR Y i) m ≤ b) → nCM Y c m k ≤ b
  | 0, _ => Nat.zero_le _
  | k + 1, h => by
    have h1 := nCM_up k (fun i hi => h i (by omega))
    simp only [nCM]
    by_cases e : yC Y k = c
    · have := h k (by omega) e
      rw [if_pos e]; omega
    · rw [if_neg e]; omega
theorem nCW_up {Y : lY} {c m b : Nat} : ∀ k, (∀ r, r < k → nRW Y c r m ≤ b) → nCW Y c m k ≤ b
  | 0, _ => Nat.zero_le _
  | k + 1, h => by
    have h1 := nCW_up k (fun r hr => h r (by omega))
    have h2 := h k (by omega)
    simp only [nCW]
    omega
theorem nRW_no {Y : lY} {c r : Nat} : ∀ {m : Nat}, (∀ i, i < m → ¬ yIn Y c r i = true) → nRW Y c r m = 0
  | 0, _ => rfl
  | m + 1, h => by
    simp only [nRW]
    rw [if_neg (h m (by omega))]
    exact nRW_no (fun i hi => h i (by omega))
theorem nCM_eq {Y : lY} {c m : Nat} : nCM Y c m m = nCWt Y m c := by
  apply Nat.le_antisymm
  · exact nCM_up m (fun i hi e => nCW_ge (nRo_gt hi e))
  · refine nCW_up _ (fun r _ => ?_)
    by_cases q : ∃ i, i < m ∧ yIn Y c r i = true
    · obtain ⟨i, hi, hin⟩ := q
      obtain ⟨e1, e2⟩ := yIn_iff.mp hin
      have := nCM_ge (Y := Y) (c := c) (m := m) hi e1
      rw [e2] at this
      exact this
    · rw [nRW_no (fun i hi hin => q ⟨i, hi, hin⟩)]
      exact Nat.zero_le _
theorem moCW_y {S : xS} {Y : lY} {m c : Nat} (h : lyM S Y m) (hB : lyB Y m) (hm : m ≤ 36) (hc : c < 2 ^ 30) : ∀ i, i ≤ m → moCW S (nI c) m i = nI (nCM Y c m i)
  | 0, _ => rfl
  | i + 1, hi => by
    have hb : ∀ r, nRW Y c r m ≤ 216000 := fun r => by have := nRW_le (c := c) (r := r) hB m (Nat.le_refl _); omega
    have h1 := nCM_le (Y := Y) (c := c) (m := m) hb i
    have h2 := hb (yR Y i)
    obtain ⟨-, -, -, a4, a5⟩ := h i (by omega)
    obtain ⟨-, -, b3, b4⟩ := hB i (by omega)
    simp only [moCW, nCM]
    rw [moCW_y h hB hm hc i (by omega), a4, a5, moRW_y h hB hc (by omega) m (Nat.le_refl _)]
    by_cases e : yC Y i = c
    · rw [if_pos e, if_pos (by rw [e])]
      exact mx_nI (by omega) (by omega)
    · rw [if_neg e, if_neg (fun q => e ((nI_eq (by omega) (by omega)).mp q))]
      exact mx_nI (by omega) (by omega)
/-! the q-th pane of a row -/
def nPA (Y : lY) (c r p : Nat) : Nat → Nat → Nat → Option Nat
  | 0, _, _ => none
  | k + 1, i, q => if yIn Y c r i = true then (if q = p then some i else nPA Y c r p k (i + 1) (q + 1)) else nPA Y c r p k (i + 1) q
def nIx (Y : lY) (c r : Nat) : Nat → Nat
  | 0 => 0
  | i + 1 => if yIn Y c r i = true then nIx Y c r i + 1 else nIx Y c r i
theorem moPA_y {S : xS} {Y : lY} {m c r p : Nat} (h : lyM S Y m) (hB : lyB Y m) (hc : c < 2 ^ 30) (hr : r < 2 ^ 30) : ∀ k i q, i + k ≤ m → moPA S (nI c) (nI r) p k i q = nPA Y c r p k i q
  | 0, _, _, _ => rfl
  | k + 1, i, q, hi => by
    simp only [moPA, nPA]
    rw [moInR_y h hB hc hr (by omega), moPA_y h hB hc hr k (i + 1) (q + 1) (by omega), moPA_y h hB hc hr k (i + 1) q (by omega)]
theorem nPA_skip {Y : lY} {c r p m : Nat} : ∀ i, i ≤ m → nIx Y c r i ≤ p → nPA Y c r p m 0 0 = nPA Y c r p (m - i) i (nIx Y c r i)
  | 0, _, _ => rfl
  | i + 1, hi, hp => by
    simp only [nIx] at hp ⊢
    by_cases e : yIn Y c r i = true
    · rw [if_pos e] at hp ⊢
      rw [nPA_skip i (by omega) (by omega), show m - i = (m - (i + 1)) + 1 by omega]
      simp only [nPA]
      rw [if_pos e, if_neg (by omega)]
    · rw [if_neg e] at hp ⊢
      rw [nPA_skip i (by omega) hp, show m - i = (m - (i + 1)) + 1 by omega]
      simp only [nPA]
      rw [if_neg e]
theorem nPA_lt {Y : lY} {c r p : Nat} : ∀ {k i q j : Nat}, nPA Y c r p k i q = some j → j < i + k ∧ yIn Y c r j = true
  | k + 1, i, q, j, h => by
    unfold nPA at h
    split at h
    next e =>
      split at h
      · cases h
        exact ⟨by omega, e⟩
      · have := nPA_lt h
        exact ⟨by omega, this.2⟩
    next =>
      have := nPA_lt h
      exact ⟨by omega, this.2⟩
def rch (Y : lY) (m has c r q : Nat) : Nat := match has with
  | 0 => nCWt Y m c
  | 1 => nRH Y c r m
  | 2 => ((nPA Y c r q m 0 0).map (yW Y)).getD 0
  | 3 => ((nPA Y c r q m 0 0).map (yH Y)).getD 0
  | _ => 0
theorem rch_le {Y : lY} {m has c r q : Nat} (hB : lyB Y m) (hm : m ≤ 36) : rch Y m has c r q ≤ 216000 := by
  unfold rch
  split
  · refine nCW_le (fun r => ?_) _
    have := nRW_le (c := c) (r := r) hB m (Nat.le_refl _)
    omega
  · have := nRH_le (c := c) (r := r) hB m (Nat.le_refl _)
    omega
  · cases e : nPA Y c r q m 0 0 with
    | none => exact Nat.zero_le _
    | some j =>
      have := (hB j (by have := nPA_lt e; omega)).1.2
      show yW Y j ≤ _
      omega
  · cases e : nPA Y c r q m 0 0 with
    | none => exact Nat.zero_le _
    | some j =>
      have := (hB j (by have := nPA_lt e; omega)).2.1.2
      show yH Y j ≤ _
      omega
  · exact Nat.zero_le _
theorem moReach_y {S : xS} {Y : lY} {m has c r q : Nat} (h : lyM S Y m) (hB : lyB Y m) (hm : m ≤ 36) (hc : c < 2 ^ 30) (hr : r < 2 ^ 30) : moReach S m has (nI c) (nI r) q = nI (rch Y m has c r q) := by
  rcases has with _ | _ | _ | _ | has
  · show moCW S (nI c) m m = nI (nCWt Y m c)
    rw [moCW_y h hB hm hc m (Nat.le_refl _), nCM_eq]
  · exact moRH_y h hB hc hr m (Nat.le_refl _)
  · show (match moPA S (nI c) (nI r) q m 0 0 with
      | none => nI 0
      | some i => sA S 216 i) = nI (((nPA Y c r q m 0 0).map (yW Y)).getD 0)
    rw [moPA_y h hB hc hr m 0 0 (by omega)]
    cases e : nPA Y c r q m 0 0 with
    | none => rfl
    | some j => exact (h j (by have := nPA_lt e; omega)).2.1
  · show (match moPA S (nI c) (nI r) q m 0 0 with
      | none => nI 0
      | some i => sA S 217 i) = nI (((nPA Y c r q m 0 0).map (yH Y)).getD 0)
    rw [moPA_y h hB hc hr m 0 0 (by omega)]
    cases e : nPA Y c r q m 0 0 with
    | none => rfl
    | some j => exact (h j (by have := nPA_lt e; omega)).2.2.1
  · rfl
