/-! a layout in counts: columns, rows, widths, heights, orders -/
abbrev lY : Type := (Nat → Nat) × (Nat → Nat) × (Nat → Nat) × (Nat → Nat) × (Nat → Nat)
abbrev yC (Y : lY) : Nat → Nat := Y.1
abbrev yR (Y : lY) : Nat → Nat := Y.2.1
abbrev yW (Y : lY) : Nat → Nat := Y.2.2.1
abbrev yH (Y : lY) : Nat → Nat := Y.2.2.2.1
abbrev yO (Y : lY) : Nat → Nat := Y.2.2.2.2
def lyOf (S : xS) (Y : lY) (m : Nat) : Prop := ∀ i, i < m → sA S 58 i = nI (yO Y i) ∧ sA S 59 i = nI (yW Y i) ∧ sA S 60 i = nI (yH Y i) ∧ sA S 61 i = nI (yC Y i) ∧ sA S 62 i = nI (yR Y i)
def lyB (Y : lY) (m : Nat) : Prop := ∀ i, i < m → (1 ≤ yW Y i ∧ yW Y i ≤ 6000) ∧ (1 ≤ yH Y i ∧ yH Y i ≤ 6000) ∧ yC Y i ≤ 36 ∧ yR Y i ≤ 36
def yIn (Y : lY) (c r i : Nat) : Bool := decide (yC Y i = c) && decide (yR Y i = r)
def nRW (Y : lY) (c r : Nat) : Nat → Nat
  | 0 => 0
  | i + 1 => if yIn Y c r i = true then nRW Y c r i + yW Y i else nRW Y c r i
def nRH (Y : lY) (c r : Nat) : Nat → Nat
  | 0 => 0
  | i + 1 => if yIn Y c r i = true then max (nRH Y c r i) (yH Y i) else nRH Y c r i
def nRo (Y : lY) (c : Nat) : Nat → Nat
  | 0 => 0
  | i + 1 => if yC Y i = c then max (nRo Y c i) (yR Y i + 1) else nRo Y c i
def nCo (Y : lY) : Nat → Nat
  | 0 => 0
  | i + 1 => max (nCo Y i) (yC Y i + 1)
def nCW (Y : lY) (c m : Nat) : Nat → Nat
  | 0 => 0
  | r + 1 => max (nCW Y c m r) (nRW Y c r m)
def nCH (Y : lY) (c m : Nat) : Nat → Nat
  | 0 => 0
  | r + 1 => nCH Y c m r + nRH Y c r m
def nCWt (Y : lY) (m c : Nat) : Nat := nCW Y c m (nRo Y c m)
def nSum (Y : lY) (m : Nat) : Nat → Nat
  | 0 => 0
  | c + 1 => nSum Y m c + nCWt Y m c
theorem lyB.mono {Y : lY} {m k : Nat} (h : lyB Y m) (hk : k ≤ m) : lyB Y k := fun i hi => h i (by omega)
theorem lyOf.mono {S : xS} {Y : lY} {m k : Nat} (h : lyOf S Y m) (hk : k ≤ m) : lyOf S Y k := fun i hi => h i (by omega)
theorem lyOf.K {S S' : xS} {Y : lY} {m b : Nat} (h : lyOf S Y m) (hb : 72 ≤ b) (hK : sK b (b + 9) S S') : lyOf S' Y m := fun i hi => by
  obtain ⟨a1, a2, a3, a4, a5⟩ := h i hi
  rw [(hK.1 58 (by omega)).2.1, (hK.1 59 (by omega)).2.1, (hK.1 60 (by omega)).2.1, (hK.1 61 (by omega)).2.1, (hK.1 62 (by omega)).2.1]
  exact ⟨a1, a2, a3, a4, a5⟩
theorem yIn_iff {Y : lY} {c r i : Nat} : yIn Y c r i = true ↔ yC Y i = c ∧ yR Y i = r := by
  simp [yIn]
theorem nRW_mono {Y : lY} {c r : Nat} : ∀ {i j : Nat}, i ≤ j → nRW Y c r i ≤ nRW Y c r j := by
  intro i j hij
  induction hij with
  | refl => exact Nat.le_refl _
  | step _ ih =>
    simp only [nRW]
    split <;> omega
theorem nRW_le {Y : lY} {c r m : Nat} (h : lyB Y m) : ∀ i, i ≤ m → nRW Y c r i ≤ 6000 * i
  | 0, _ => Nat.le_refl _
  | i + 1, hi => by
    have := nRW_le (c := c) (r := r) h i (by omega)
    have hw := (h i (by omega)).1.2
    simp only [nRW]
    split <;> omega
theorem nRH_le {Y : lY} {c r m : Nat} (h : lyB Y m) : ∀ i, i ≤ m → nRH Y c r i ≤ 6000
  | 0, _ => by simp [nRH]
  | i + 1, hi => by
    have := nRH_le (c := c) (r := r) h i (by omega)
    have hw := (h i (by omega)).2.1.2
    simp only [nRH]
    split <;> omega
theorem nRH_ge {Y : lY} {c r : Nat} : ∀ {m i : Nat}, i < m → yIn Y c r i = true → yH Y i ≤ nRH Y c r m
  | 0, _, h, _ => by omega
  | m + 1, i, h, hi => by
    simp only [nRH]
    by_cases e : i = m
    · subst e
      rw [if_pos hi]; omega
    · have := nRH_ge (m := m) (by omega) hi
      split <;> omega
theorem nRW_ge {Y : lY} {c r : Nat} : ∀ {m i : Nat}, i < m → yIn Y c r i = true → yW Y i ≤ nRW Y c r m
  | 0, _, h, _ => by omega
  | m + 1, i, h, hi => by
    simp only [nRW]
    by_cases e : i = m
    · subst e
      rw [if_pos hi]; omega
    · have := nRW_ge (m := m) (by omega) hi
      split <;> omega
theorem nRo_le {Y : lY} {c m : Nat} (h : lyB Y m) : ∀ i, i ≤ m → nRo Y c i ≤ 37
  | 0, _ => by simp [nRo]
  | i + 1, hi => by
    have := nRo_le (c := c) h i (by omega)
    have hw := (h i (by omega)).2.2.2
    simp only [nRo]
    split <;> omega
theorem nRo_gt {Y : lY} {c : Nat} : ∀ {m i : Nat}, i < m → yC Y i = c → yR Y i < nRo Y c m
  | 0, _, h, _ => by omega
  | m + 1, i, h, hi => by
    simp only [nRo]
    by_cases e : i = m
    · subst e
      rw [if_pos hi]; omega
    · have := nRo_gt (m := m) (by omega) hi
      split <;> omega
theorem nCo_le {Y : lY} {m : Nat} (h : lyB Y m) : ∀ i, i ≤ m → nCo Y i ≤ 37
  | 0, _ => by simp [nCo]
  | i + 1, hi => by
    have := nCo_le h i (by omega)
    have hw := (h i (by omega)).2.2.1
    simp only [nCo]
    omega
theorem nCo_gt {Y : lY} : ∀ {m i : Nat}, i < m → yC Y i < nCo Y m
  | 0, _, h => by omega
  | m + 1, i, h => by
    simp only [nCo]
    by_cases e : i = m
    · subst e; omega
    · have := nCo_gt (Y := Y) (m := m) (i := i) (by omega)
      omega
theorem nCW_ge {Y : lY} {c m : Nat} : ∀ {k r : Nat}, r < k → nRW Y c r m ≤ nCW Y c m k
  | 0, _, h => by omega
  | k + 1, r, h => by
    simp only [nCW]
    by_cases e : r = k
    · subst e; omega
    · have := nCW_ge (Y := Y) (c := c) (m := m) (k := k) (r := r) (by omega)
      omega
theorem nCW_le {Y : lY} {c m b : Nat} (h : ∀ r, nRW Y c r m ≤ b) : ∀ k, nCW Y c m k ≤ b
  | 0 => Nat.zero_le _
  | k + 1 => by
    have := nCW_le h k
    have := h k
    simp only [nCW]
    omega
theorem nCH_mono {Y : lY} {c m : Nat} : ∀ {i j : Nat}, i ≤ j → nCH Y c m i ≤ nCH Y c m j := by
  intro i j hij
  induction hij with
  | refl => exact Nat.le_refl _
  | step _ ih =>
    simp only [nCH]
    omega
theorem nSum_mono {Y : lY} {m : Nat} : ∀ {i j : Nat}, i ≤ j → nSum Y m i ≤ nSum Y m j := by
  intro i j hij
  induction hij with
  | refl => exact Nat.le_refl _
  | step _ ih =>
    simp only [nSum]
    omega
/-! the class's numbers are these -/
theorem laIn_y {S : xS} {Y : lY} {m c r i : Nat} (h : lyOf S Y m) (hB : lyB Y m) (hc : c < 2 ^ 30) (hr : r < 2 ^ 30) (hi : i < m) : laIn S i (nI c) (nI r) = yIn Y c r i := by
  obtain ⟨-, -, -, a4, a5⟩ := h i hi
  obtain ⟨-, -, b3, b4⟩ := hB i hi
  unfold laIn yIn
  rw [a4, a5]
  congr 1
  · exact decide_eq_decide.mpr (nI_eq (by omega) (by omega))
  · exact decide_eq_decide.mpr (nI_eq (by omega) (by omega))
theorem laRW_y {S : xS} {Y : lY} {m c r : Nat} (h : lyOf S Y m) (hB : lyB Y m) (hc : c < 2 ^ 30) (hr : r < 2 ^ 30) : ∀ i, i ≤ m → laRW S (nI c) (nI r) i = nI (nRW Y c r i)
  | 0, _ => rfl
  | i + 1, hi => by
    simp only [laRW, nRW]
    rw [laIn_y h hB hc hr (by omega), laRW_y h hB hc hr i (by omega), (h i (by omega)).2.1]
    split
    · exact nI_add _ _
    · rfl
theorem laRH_y {S : xS} {Y : lY} {m c r : Nat} (h : lyOf S Y m) (hB : lyB Y m) (hc : c < 2 ^ 30) (hr : r < 2 ^ 30) : ∀ i, i ≤ m → laRH S (nI c) (nI r) i = nI (nRH Y c r i)
  | 0, _ => rfl
  | i + 1, hi => by
    have hb := nRH_le (c := c) (r := r) hB i (by omega)
    have hb2 := (hB i (by omega)).2.1.2
    simp only [laRH, nRH]
    rw [laIn_y h hB hc hr (by omega), laRH_y h hB hc hr i (by omega), (h i (by omega)).2.2.1]
    split
    · exact mx_nI (by omega) (by omega)
    · rfl
theorem laRows_y {S : xS} {Y : lY} {m c : Nat} (h : lyOf S Y m) (hB : lyB Y m) (hc : c < 2 ^ 30) : ∀ i, i ≤ m → laRows S (nI c) i = nI (nRo Y c i)
  | 0, _ => rfl
  | i + 1, hi => by
    have hb := nRo_le (c := c) hB i (by omega)
    obtain ⟨-, -, b3, b4⟩ := hB i (by omega)
    obtain ⟨-, -, -, a4, a5⟩ := h i (by omega)
    simp only [laRows, nRo]
    rw [laRows_y h hB hc i (by omega), a4, a5, nI_add]
    by_cases e : yC Y i = c
    · rw [if_pos e, if_pos (by rw [e])]
      exact mx_nI (by omega) (by omega)
    · rw [if_neg e, if_neg (fun q => e ((nI_eq (by omega) (by omega)).mp q))]
theorem laCols_y {S : xS} {Y : lY} {m : Nat} (h : lyOf S Y m) (hB : lyB Y m) : ∀ i, i ≤ m → laCols S i = nI (nCo Y i)
  | 0, _ => rfl
  | i + 1, hi => by
    have hb := nCo_le hB i (by omega)
    obtain ⟨-, -, b3, b4⟩ := hB i (by omega)
    obtain ⟨-, -, -, a4, a5⟩ := h i (by omega)
    simp only [laCols, nCo]
    rw [laCols_y h hB i (by omega), a4, nI_add]
    exact mx_nI (by omega) (by omega)
theorem laCW_y {S : xS} {Y : lY} {m c : Nat} (h : lyOf S Y m) (hB : lyB Y m) (hm : m ≤ 36) (hc : c < 2 ^ 30) : ∀ R, R < 2 ^ 30 → laCW S (nI c) m R = nI (nCW Y c m R)
  | 0, _ => rfl
  | R + 1, hR => by
    have hb : ∀ r, nRW Y c r m ≤ 216000 := fun r => by have := nRW_le (c := c) (r := r) hB m (Nat.le_refl _); omega
    have := nCW_le (Y := Y) (c := c) (m := m) hb R
    have := hb R
    simp only [laCW, nCW]
    rw [laCW_y h hB hm hc R (by omega), laRW_y h hB hc (by omega) m (Nat.le_refl _)]
    exact mx_nI (by omega) (by omega)
theorem laCH_y {S : xS} {Y : lY} {m c : Nat} (h : lyOf S Y m) (hB : lyB Y m) (hc : c < 2 ^ 30) : ∀ R, R < 2 ^ 30 → laCH S (nI c) m R = nI (nCH Y c m R)
  | 0, _ => rfl
  | R + 1, hR => by
    simp only [laCH, nCH]
    rw [laCH_y h hB hc R (by omega), laRH_y h hB hc (by omega) m (Nat.le_refl _), nI_add]
theorem laSum_y {S : xS} {Y : lY} {m : Nat} (h : lyOf S Y m) (hB : lyB Y m) (hm : m ≤ 36) : ∀ K, K < 2 ^ 30 → laSum S m (fun c => (laRows S (nI c) m).toNatClampNeg) K = nI (nSum Y m K)
  | 0, _ => rfl
  | K + 1, hK => by
    have hr := nRo_le (c := K) hB m (Nat.le_refl _)
    simp only [laSum, nSum]
    rw [laSum_y h hB hm K (by omega), laRows_y h hB (by omega) m (Nat.le_refl _), nI_clamp (by omega), laCW_y h hB hm (by omega) _ (by omega), nI_add]
    rfl
/-! the tree as a list of nodes: kind, x, y, wide, high, mark, how far on the second part begins (0: none) -/
abbrev nd : Type := Nat × Nat × Nat × Nat × Nat × Int32 × Nat
def optN (z : Bool) (v : nd) : List nd := if z = true then [] else [v]
def restL (x y w h : Nat) : List nd := if w = 0 then [] else if h = 0 then [] else [(3, x, y, w, h, -1, 0)]
def paneN (Y : lY) (i x y : Nat) : nd := (2, x, y, yW Y i, yH Y i, nI (yO Y i), 0)
def cellL (Y : lY) (i l y h : Nat) : List nd := (optN (decide (h ≤ yH Y i)) (1, l, y, yW Y i, h, nI (yH Y i), 1 + [paneN Y i l y].length) ++ [paneN Y i l y]) ++ restL l (y + yH Y i) (yW Y i) (h - yH Y i)
def rowS (Y : lY) (i f y e h : Nat) : List nd := optN (decide (e - f ≤ yW Y i)) (0, f, y, e - f, h, nI (yW Y i), 1 + (cellL Y i f y h).length) ++ cellL Y i f y h
def rowG (Y : lY) (c r y e h : Nat) : Nat → Nat → Nat → List nd
  | 0, _, f => restL f y (e - f) h
  | k + 1, i, f => if yIn Y c r i = true then rowS Y i f y e h ++ rowG Y c r y e h k (i + 1) (f + yW Y i) else rowG Y c r y e h k (i + 1) f
def rowA (Y : lY) (m c r l y w : Nat) : List nd := rowG Y c r y (l + w) (nRH Y c r m) m 0 l
def colS (Y : lY) (m c r l y w h : Nat) : List nd := optN (decide (h - y ≤ nRH Y c r m)) (1, l, y, w, h - y, nI (nRH Y c r m), 1 + (rowA Y m c r l y w).length) ++ rowA Y m c r l y w
def colG (Y : lY) (m c l w h : Nat) : Nat → Nat → Nat → List nd
  | 0, _, y => restL l y w (h - y)
  | k + 1, r, y => colS Y m c r l y w h ++ colG Y m c l w h k (r + 1) (y + nRH Y c r m)
def colA (Y : lY) (m c f h : Nat) : List nd := colG Y m c f (nCWt Y m c) h (nRo Y c m) 0 0
def groS (Y : lY) (m c f w h : Nat) : List nd := optN (decide (w - f ≤ nCWt Y m c)) (0, f, 0, w - f, h, nI (nCWt Y m c), 1 + (colA Y m c f h).length) ++ colA Y m c f h
def groG (Y : lY) (m w h : Nat) : Nat → Nat → Nat → List nd
  | 0, _, f => restL f 0 (w - f) h
  | k + 1, c, f => groS Y m c f w h ++ groG Y m w h k (c + 1) (f + nCWt Y m c)
def groA (Y : lY) (m w h : Nat) : List nd := groG Y m w h (nCo Y m) 0 0
