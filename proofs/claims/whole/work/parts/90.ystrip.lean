/-! a layout made strip by strip, in counts -/
def yPut (Y : lY) (n c r w h o : Nat) : lY := (va_up (yC Y) n c, va_up (yR Y) n r, va_up (yW Y) n w, va_up (yH Y) n h, va_up (yO Y) n o)
section YP
variable {Y : lY} {n c r w h o : Nat}
theorem yPut_ne {i : Nat} (hi : i ≠ n) : yC (yPut Y n c r w h o) i = yC Y i ∧ yR (yPut Y n c r w h o) i = yR Y i ∧ yW (yPut Y n c r w h o) i = yW Y i ∧ yH (yPut Y n c r w h o) i = yH Y i ∧ yO (yPut Y n c r w h o) i = yO Y i := ⟨va_up_ne _ _ hi, va_up_ne _ _ hi, va_up_ne _ _ hi, va_up_ne _ _ hi, va_up_ne _ _ hi⟩
theorem yPut_at : yC (yPut Y n c r w h o) n = c ∧ yR (yPut Y n c r w h o) n = r ∧ yW (yPut Y n c r w h o) n = w ∧ yH (yPut Y n c r w h o) n = h ∧ yO (yPut Y n c r w h o) n = o := ⟨va_up_self _ _ _, va_up_self _ _ _, va_up_self _ _ _, va_up_self _ _ _, va_up_self _ _ _⟩
theorem yIn_put {c' r' i : Nat} (hi : i ≠ n) : yIn (yPut Y n c r w h o) c' r' i = yIn Y c' r' i := by
  obtain ⟨e1, e2, -⟩ := yPut_ne (Y := Y) (n := n) (c := c) (r := r) (w := w) (h := h) (o := o) hi
  unfold yIn
  rw [e1, e2]
theorem yIn_putn {c' r' : Nat} : yIn (yPut Y n c r w h o) c' r' n = (decide (c = c') && decide (r = r')) := by
  obtain ⟨e1, e2, -⟩ := yPut_at (Y := Y) (n := n) (c := c) (r := r) (w := w) (h := h) (o := o)
  unfold yIn
  rw [e1, e2]
theorem nRW_put {c' r' : Nat} : ∀ i, i ≤ n → nRW (yPut Y n c r w h o) c' r' i = nRW Y c' r' i
  | 0, _ => rfl
  | i + 1, hi => by
    simp only [nRW]
    rw [yIn_put (by omega), nRW_put i (by omega), (yPut_ne (by omega)).2.2.1]
theorem nRH_put {c' r' : Nat} : ∀ i, i ≤ n → nRH (yPut Y n c r w h o) c' r' i = nRH Y c' r' i
  | 0, _ => rfl
  | i + 1, hi => by
    simp only [nRH]
    rw [yIn_put (by omega), nRH_put i (by omega), (yPut_ne (by omega)).2.2.2.1]
theorem nRo_put {c' : Nat} : ∀ i, i ≤ n → nRo (yPut Y n c r w h o) c' i = nRo Y c' i
  | 0, _ => rfl
  | i + 1, hi => by
    simp only [nRo]
    rw [nRo_put i (by omega), (yPut_ne (by omega)).1, (yPut_ne (by omega)).2.1]
theorem nRW_p1 {c' r' : Nat} : nRW (yPut Y n c r w h o) c' r' (n + 1) = nRW Y c' r' n + (if c = c' ∧ r = r' then w else 0) := by
  simp only [nRW]
  rw [yIn_putn, nRW_put n (Nat.le_refl _), yPut_at.2.2.1]
  by_cases e : c = c' ∧ r = r'
  · rw [if_pos (by simp [e]), if_pos e]
  · rw [if_neg (by simpa using e), if_neg e, Nat.add_zero]
theorem nRH_p1 {c' r' : Nat} : nRH (yPut Y n c r w h o) c' r' (n + 1) = if c = c' ∧ r = r' then max (nRH Y c' r' n) h else nRH Y c' r' n := by
  simp only [nRH]
  rw [yIn_putn, nRH_put n (Nat.le_refl _), yPut_at.2.2.2.1]
  by_cases e : c = c' ∧ r = r'
  · rw [if_pos (by simp [e]), if_pos e]
  · rw [if_neg (by simpa using e), if_neg e]
theorem nRo_p1 {c' : Nat} : nRo (yPut Y n c r w h o) c' (n + 1) = if c = c' then max (nRo Y c' n) (r + 1) else nRo Y c' n := by
  simp only [nRo]
  rw [nRo_put n (Nat.le_refl _), yPut_at.1, yPut_at.2.1]
theorem nCW_c {Y' : lY} {m m' c' : Nat} : ∀ k, (∀ r, r < k → nRW Y' c' r m' = nRW Y c' r m) → nCW Y' c' m' k = nCW Y c' m k
  | 0, _ => rfl
  | k + 1, h => by
    simp only [nCW]
    rw [nCW_c k (fun r hr => h r (by omega)), h k (by omega)]
theorem nCH_c {Y' : lY} {m m' c' : Nat} : ∀ k, (∀ r, r < k → nRH Y' c' r m' = nRH Y c' r m) → nCH Y' c' m' k = nCH Y c' m k
  | 0, _ => rfl
  | k + 1, h => by
    simp only [nCH]
    rw [nCH_c k (fun r hr => h r (by omega)), h k (by omega)]
theorem nSum_c {Y' : lY} {m m' : Nat} : ∀ k, (∀ c, c < k → nCWt Y' m' c = nCWt Y m c) → nSum Y' m' k = nSum Y m k
  | 0, _ => rfl
  | k + 1, h => by
    simp only [nSum]
    rw [nSum_c k (fun r hr => h r (by omega)), h k (by omega)]
end YP
def nTot (Y : lY) (n : Nat) : Nat → Nat
  | 0 => 0
  | c + 1 => nTot Y n c + nRo Y c n
theorem nTot_c {Y Y' : lY} {m m' : Nat} : ∀ k, (∀ c, c < k → nRo Y' c m' = nRo Y c m) → nTot Y' m' k = nTot Y m k
  | 0, _ => rfl
  | k + 1, h => by
    simp only [nTot]
    rw [nTot_c k (fun r hr => h r (by omega)), h k (by omega)]
/-- the columns before c are made; in c there are row panes, up to y; room is what the next may take -/
def stY (Y : lY) (n c row x y room W H : Nat) : Prop := (lyB Y n ∧ (∀ i, i < n → yC Y i < c ∨ (yC Y i = c ∧ yR Y i < row)) ∧ (∀ i j, i < n → j < n → yC Y i = yC Y j → yR Y i = yR Y j → i = j)) ∧
  ((∀ c', c' < c → ∃ i, i < n ∧ yC Y i = c') ∧ ∀ c' r', r' < nRo Y c' n → ∃ i, i < n ∧ yIn Y c' r' i = true) ∧
  (nSum Y n c = x ∧ ∀ c', c' < c → nCH Y c' n (nRo Y c' n) ≤ H ∧ nRW Y c' 0 n = nCWt Y n c') ∧
  (nRo Y c n = row ∧ nCH Y c n row = y ∧ y ≤ H) ∧ (if row = 0 then x + room = W else nRW Y c 0 n = nCWt Y n c ∧ nCWt Y n c = room ∧ x + room ≤ W) ∧ nTot Y n c + row = n
theorem stY_0 {Y : lY} {W H : Nat} : stY Y 0 0 0 0 0 W W H := by
  refine ⟨⟨fun i hi => by omega, fun i hi => by omega, fun i j hi => by omega⟩, ⟨fun c hc => by omega, fun c r hr => by simp [nRo] at hr⟩, ⟨rfl, fun c hc => by omega⟩, ⟨rfl, rfl, Nat.zero_le _⟩, ?_, rfl⟩
  rw [if_pos rfl, Nat.zero_add]
theorem stY_put {Y : lY} {n c row x y room W H w h o : Nat} (q : stY Y n c row x y room W H) (hw : w ≤ room) (hh : y + h ≤ H) (w1 : 1 ≤ w ∧ w ≤ 6000) (h1 : 1 ≤ h ∧ h ≤ 6000) (hc : c ≤ 36) (hr : row ≤ 36) :
    stY (yPut Y n c row w h o) (n + 1) c (row + 1) x (y + h) (if row = 0 then w else room) W H := by
  obtain ⟨⟨a1, a2, a3⟩, ⟨b1, b2⟩, ⟨c1, c2⟩, ⟨d1, d2, d3⟩, e1, f1⟩ := q
  have hnone : ∀ i, i < n → ¬ yIn Y c row i = true := fun i hi z => by
    obtain ⟨z1, z2⟩ := yIn_iff.mp z
    rcases a2 i hi with e | e <;> omega
  have hRo : nRo (yPut Y n c row w h o) c (n + 1) = row + 1 := by
    rw [nRo_p1, if_pos rfl, d1]; omega
  have hRoN : ∀ c', c' ≠ c → nRo (yPut Y n c row w h o) c' (n + 1) = nRo Y c' n := fun c' hc' => by
    rw [nRo_p1, if_neg (fun z => hc' z.symm)]
  have hRWN : ∀ c' r', ¬ (c' = c ∧ r' = row) → nRW (yPut Y n c row w h o) c' r' (n + 1) = nRW Y c' r' n := fun c' r' z => by
    rw [nRW_p1, if_neg (fun u => z ⟨u.1.symm, u.2.symm⟩), Nat.add_zero]
  have hRHN : ∀ c' r', ¬ (c' = c ∧ r' = row) → nRH (yPut Y n c row w h o) c' r' (n + 1) = nRH Y c' r' n := fun c' r' z => by
    rw [nRH_p1, if_neg (fun u => z ⟨u.1.symm, u.2.symm⟩)]
  have hRW : nRW (yPut Y n c row w h o) c row (n + 1) = w := by
    rw [nRW_p1, if_pos ⟨rfl, rfl⟩, nRW_no hnone, Nat.zero_add]
  have hRH : nRH (yPut Y n c row w h o) c row (n + 1) = h := by
    rw [nRH_p1, if_pos ⟨rfl, rfl⟩, nRH_no hnone]; omega
  have hCWN : ∀ c', c' ≠ c → nCWt (yPut Y n c row w h o) (n + 1) c' = nCWt Y n c' := fun c' hc' => by
    unfold nCWt
    rw [hRoN c' hc']
    exact nCW_c _ (fun r _ => hRWN c' r (fun z => hc' z.1))
  have hCW : nCWt (yPut Y n c row w h o) (n + 1) c = max (nCWt Y n c) w := by
    unfold nCWt
    rw [hRo, d1]
    show max (nCW (yPut Y n c row w h o) c (n + 1) row) (nRW (yPut Y n c row w h o) c row (n + 1)) = _
    rw [hRW, nCW_c row (fun r hr => hRWN c r (by omega))]
  have hat := yPut_at (Y := Y) (n := n) (c := c) (r := row) (w := w) (h := h) (o := o)
  have hne : ∀ i, i < n → yC (yPut Y n c row w h o) i = yC Y i ∧ yR (yPut Y n c row w h o) i = yR Y i ∧ yW (yPut Y n c row w h o) i = yW Y i ∧ yH (yPut Y n c row w h o) i = yH Y i := fun i hi => by
    obtain ⟨z1, z2, z3, z4, -⟩ := yPut_ne (Y := Y) (n := n) (c := c) (r := row) (w := w) (h := h) (o := o) (i := i) (by omega)
    exact ⟨z1, z2, z3, z4⟩
  refine ⟨⟨fun i hi => ?_, fun i hi => ?_, fun i j hi hj z1 z2 => ?_⟩, ⟨fun c' hc' => ?_, fun c' r' hr' => ?_⟩, ⟨?_, fun c' hc' => ?_⟩, ⟨hRo, ?_, hh⟩, ?_, ?_⟩
  · by_cases e : i = n
    · subst e
      rw [hat.1, hat.2.1, hat.2.2.1, hat.2.2.2.1]
      exact ⟨w1, h1, hc, hr⟩
    · obtain ⟨z1, z2, z3, z4⟩ := hne i (by omega)
      rw [z1, z2, z3, z4]
      exact a1 i (by omega)
  · by_cases e : i = n
    · subst e
      rw [hat.1, hat.2.1]
      omega
    · obtain ⟨z1, z2, -⟩ := hne i (by omega)
      rw [z1, z2]
      rcases a2 i (by omega) with u | u <;> omega
  · by_cases ei : i = n
    · by_cases ej : j = n
      · omega
      · subst ei
        obtain ⟨u1, u2, -⟩ := hne j (by omega)
        rw [hat.1, u1] at z1
        rw [hat.2.1, u2] at z2
        rcases a2 j (by omega) with u | u <;> omega
    · obtain ⟨v1, v2, -⟩ := hne i (by omega)
      by_cases ej : j = n
      · subst ej
        rw [hat.1, v1] at z1
        rw [hat.2.1, v2] at z2
        rcases a2 i (by omega) with u | u <;> omega
      · obtain ⟨u1, u2, -⟩ := hne j (by omega)
        rw [v1, u1] at z1
        rw [v2, u2] at z2
        exact a3 i j (by omega) (by omega) z1 z2
  · obtain ⟨i, hi, e⟩ := b1 c' hc'
    exact ⟨i, by omega, by rw [(hne i hi).1]; exact e⟩
  · by_cases ec : c' = c
    · subst ec
      rw [hRo] at hr'
      by_cases er : r' = row
      · subst er
        exact ⟨n, by omega, by rw [yIn_putn]; simp⟩
      · obtain ⟨i, hi, e⟩ := b2 c' r' (by omega)
        exact ⟨i, by omega, by rw [yIn_put (by omega)]; exact e⟩
    · rw [hRoN c' ec] at hr'
      obtain ⟨i, hi, e⟩ := b2 c' r' hr'
      exact ⟨i, by omega, by rw [yIn_put (by omega)]; exact e⟩
  · rw [← c1]
    exact nSum_c c (fun c' hc' => hCWN c' (by omega))
  · obtain ⟨u1, u2⟩ := c2 c' hc'
    refine ⟨?_, ?_⟩
    · rw [hRoN c' (by omega), nCH_c (Y := Y) (m := n) _ (fun r _ => hRHN c' r (by omega))]
      exact u1
    · rw [hCWN c' (by omega), hRWN c' 0 (by omega)]
      exact u2
  · show nCH (yPut Y n c row w h o) c (n + 1) row + nRH (yPut Y n c row w h o) c row (n + 1) = _
    rw [hRH, nCH_c (Y := Y) (m := n) row (fun r hr => hRHN c r (by omega)), d2]
  · rw [if_neg (by omega)]
    by_cases e0 : row = 0
    · subst e0
      rw [if_pos rfl] at e1 ⊢
      have hz : nCWt Y n c = 0 := by unfold nCWt; rw [d1]; rfl
      rw [hCW, hz, hRW]
      refine ⟨by omega, by omega, by omega⟩
    · rw [if_neg e0] at e1 ⊢
      obtain ⟨u1, u2, u3⟩ := e1
      rw [hCW, hRWN c 0 (by omega)]
      refine ⟨by omega, by omega, u3⟩
  · rw [nTot_c (Y := Y) (m := n) c (fun c' hc' => hRoN c' (by omega))]
    omega
theorem stY_next {Y : lY} {n c row x y room W H : Nat} (q : stY Y n c row x y room W H) (h0 : 0 < row) : stY Y n (c + 1) 0 (x + room) 0 (W - (x + room)) W H := by
  obtain ⟨⟨a1, a2, a3⟩, ⟨b1, b2⟩, ⟨c1, c2⟩, ⟨d1, d2, d3⟩, e1, f1⟩ := q
  rw [if_neg (by omega)] at e1
  obtain ⟨u1, u2, u3⟩ := e1
  have hno : nRo Y (c + 1) n = 0 := nRo_no (fun i hi z => by rcases a2 i hi with e | e <;> omega)
  refine ⟨⟨a1, fun i hi => by rcases a2 i hi with e | e <;> omega, a3⟩, ⟨fun c' hc' => ?_, b2⟩, ⟨?_, fun c' hc' => ?_⟩, ⟨hno, rfl, Nat.zero_le _⟩, ?_, ?_⟩
  · by_cases e : c' = c
    · subst e
      obtain ⟨i, hi, z⟩ := b2 c' 0 (by omega)
      exact ⟨i, hi, (yIn_iff.mp z).1⟩
    · exact b1 c' (by omega)
  · show nSum Y n c + nCWt Y n c = _
    omega
  · by_cases e : c' = c
    · subst e
      rw [d1, d2]
      exact ⟨d3, u1⟩
    · exact c2 c' (by omega)
  · rw [if_pos rfl]
    omega
  · show nTot Y n c + nRo Y c n + 0 = n
    omega
/-! how many nodes such a layout gives -/
theorem restL_le {x y w h : Nat} : (restL x y w h).length ≤ 1 := by
  unfold restL
  split
  · simp
  · split <;> simp
theorem restL_0 {x y h : Nat} : restL x y 0 h = [] := rfl
theorem rowG_0 {Y : lY} {c r y e h : Nat} : ∀ k i f, (∀ j, i ≤ j → j < i + k → ¬ yIn Y c r j = true) → rowG Y c r y e h k i f = restL f y (e - f) h
  | 0, _, _, _ => rfl
  | k + 1, i, f, hn => by
    simp only [rowG]
    rw [if_neg (hn i (by omega) (by omega))]
    exact rowG_0 k (i + 1) f (fun j h1 h2 => hn j (by omega) (by omega))
theorem rowG_1 {Y : lY} {c r y e h p : Nat} : ∀ k i f, i ≤ p → p < i + k → yIn Y c r p = true → (∀ j, i ≤ j → j < i + k → yIn Y c r j = true → j = p) → rowG Y c r y e h k i f = rowS Y p f y e h ++ restL (f + yW Y p) y (e - (f + yW Y p)) h
  | 0, i, _, h1, h2, _, _ => by omega
  | k + 1, i, f, h1, h2, hp, hu => by
    simp only [rowG]
    by_cases e0 : i = p
    · subst e0
      rw [if_pos hp, rowG_0 k (i + 1) _ (fun j z1 z2 z => by have := hu j (by omega) (by omega) z; omega)]
    · rw [if_neg (fun z => e0 (hu i (by omega) (by omega) z))]
      exact rowG_1 k (i + 1) f (by omega) (by omega) hp (fun j z1 z2 z => hu j (by omega) (by omega) z)
theorem rowA_len {Y : lY} {m c r l y w i : Nat} (hi : i < m) (hin : yIn Y c r i = true) (hu : ∀ j, j < m → yIn Y c r j = true → j = i) (hh : nRH Y c r m = yH Y i) (hw : yW Y i ≤ w) : (rowA Y m c r l y w).length ≤ 3 ∧ (w = yW Y i → (rowA Y m c r l y w).length ≤ 1) := by
  unfold rowA
  rw [rowG_1 (p := i) m 0 l (by omega) (by omega) hin (fun j _ z1 z2 => hu j (by omega) z2), hh]
  have hc : cellL Y i l y (yH Y i) = [paneN Y i l y] := by simp [cellL, optN, restL]
  unfold rowS
  rw [hc, List.length_append, List.length_append]
  have h1 := restL_le (x := l + yW Y i) (y := y) (w := l + w - (l + yW Y i)) (h := yH Y i)
  have h2 := optN_le (z := decide (l + w - l ≤ yW Y i)) (v := (0, l, y, l + w - l, yH Y i, nI (yW Y i), 1 + [paneN Y i l y].length))
  have h3 : [paneN Y i l y].length = 1 := rfl
  refine ⟨by omega, fun e => ?_⟩
  rw [show l + w - (l + yW Y i) = 0 by omega, restL_0]
  unfold optN
  rw [if_pos (by simp; omega)]
  simp
section YL
variable {Y : lY} {n c x W H : Nat}
theorem strip_row {c' r' l y w : Nat} (hB : lyB Y n) (hu : ∀ i j, i < n → j < n → yC Y i = yC Y j → yR Y i = yR Y j → i = j) (hin : ∃ i, i < n ∧ yIn Y c' r' i = true) (hw : nRW Y c' r' n ≤ w) : (rowA Y n c' r' l y w).length ≤ 3 ∧ (w = nRW Y c' r' n → (rowA Y n c' r' l y w).length ≤ 1) := by
  obtain ⟨i, hi, hii⟩ := hin
  have huu : ∀ j, j < n → yIn Y c' r' j = true → j = i := fun j hj hjj => by
    obtain ⟨z1, z2⟩ := yIn_iff.mp hii
    obtain ⟨z3, z4⟩ := yIn_iff.mp hjj
    exact hu j i hj hi (by omega) (by omega)
  have hH : ∀ m, (∀ j, j < m → yIn Y c' r' j = true → j = i) → nRH Y c' r' m ≤ yH Y i ∧ nRW Y c' r' m ≤ yW Y i := by
    intro m
    induction m with
    | zero => intro _; exact ⟨Nat.zero_le _, Nat.zero_le _⟩
    | succ m ih =>
      intro hj
      have := ih (fun j hj' => hj j (by omega))
      simp only [nRH, nRW]
      by_cases e : yIn Y c' r' m = true
      · have em := hj m (by omega) e
        subst em
        have hz : nRW Y c' r' m = 0 := nRW_no (fun j hj' z => by have := hj j (by omega) z; omega)
        rw [if_pos e, if_pos e, hz]
        omega
      · rw [if_neg e, if_neg e]; exact this
  obtain ⟨g1, g2⟩ := hH n huu
  have g3 := nRH_ge hi hii
  have g4 := nRW_ge hi hii
  obtain ⟨k1, k2⟩ := rowA_len (l := l) (y := y) (w := w) hi hii huu (by omega) (by omega)
  exact ⟨k1, fun e => k2 (by omega)⟩
theorem strip_col {c' l h : Nat} (hB : lyB Y n) (hu : ∀ i j, i < n → j < n → yC Y i = yC Y j → yR Y i = yR Y j → i = j) (hN : ∀ r', r' < nRo Y c' n → ∃ i, i < n ∧ yIn Y c' r' i = true) (h0 : nRW Y c' 0 n = nCWt Y n c') : ∀ k r y, r + k = nRo Y c' n → (colG Y n c' l (nCWt Y n c') h k r y).length ≤ 4 * k + 1 ∧ (r = 0 → 0 < k → (colG Y n c' l (nCWt Y n c') h k r y).length ≤ 4 * k - 1)
  | 0, r, y, _ => ⟨by simp only [colG]; have := restL_le (x := l) (y := y) (w := nCWt Y n c') (h := h - y); omega, fun _ z => by omega⟩
  | k + 1, r, y, hr => by
    obtain ⟨i1, -⟩ := strip_col (l := l) (h := h) hB hu hN h0 k (r + 1) (y + nRH Y c' r n) (by omega)
    have hw : nRW Y c' r n ≤ nCWt Y n c' := nCW_ge (by omega)
    obtain ⟨j1, j2⟩ := strip_row (l := l) (y := y) hB hu (hN r (by omega)) hw
    have ho := optN_le (z := decide (h - y ≤ nRH Y c' r n)) (v := (1, l, y, nCWt Y n c', h - y, nI (nRH Y c' r n), 1 + (rowA Y n c' r l y (nCWt Y n c')).length))
    simp only [colG]
    unfold colS
    rw [List.length_append, List.length_append]
    refine ⟨by omega, fun e _ => ?_⟩
    subst e
    have := j2 h0.symm
    omega
theorem strip_gro {K : Nat} (hB : lyB Y n) (hu : ∀ i j, i < n → j < n → yC Y i = yC Y j → yR Y i = yR Y j → i = j) (hN : ∀ c' r', r' < nRo Y c' n → ∃ i, i < n ∧ yIn Y c' r' i = true) (h0 : ∀ c', c' < K → nRW Y c' 0 n = nCWt Y n c' ∧ 0 < nRo Y c' n) : ∀ k c f, c + k = K → (groG Y n W H k c f).length + 4 * nTot Y n c ≤ 4 * nTot Y n K + 1
  | 0, c, f, hc => by
    have := restL_le (x := f) (y := 0) (w := W - f) (h := H)
    simp only [groG]
    rw [show c = K by omega]
    omega
  | k + 1, c, f, hc => by
    have ih := strip_gro hB hu hN h0 k (c + 1) (f + nCWt Y n c) (by omega)
    obtain ⟨z1, z2⟩ := h0 c (by omega)
    obtain ⟨-, i2⟩ := strip_col (l := f) (h := H) hB hu (hN c) z1 (nRo Y c n) 0 0 (by omega)
    have i3 := i2 rfl z2
    have ho := optN_le (z := decide (W - f ≤ nCWt Y n c)) (v := (0, f, 0, W - f, H, nI (nCWt Y n c), 1 + (colA Y n c f H).length))
    have ht : nTot Y n (c + 1) = nTot Y n c + nRo Y c n := rfl
    simp only [groG]
    unfold groS
    rw [List.length_append, List.length_append]
    have hc2 : (colA Y n c f H).length ≤ 4 * nRo Y c n - 1 := i3
    omega
/-- a strip layout can be cut -/
theorem stY_F {y room : Nat} (q : stY Y n c 0 x y room W H) (hn : n ≤ 36) : lyF Y n W H ∧ nCo Y n = c := by
  obtain ⟨⟨a1, a2, a3⟩, ⟨b1, b2⟩, ⟨c1, c2⟩, ⟨d1, d2, d3⟩, e1, f1⟩ := q
  rw [if_pos rfl] at e1
  have hle : ∀ m, m ≤ n → nCo Y m ≤ c := by
    intro m
    induction m with
    | zero => intro _; exact Nat.zero_le _
    | succ m ih =>
      intro hm
      have := ih (by omega)
      have h2 := a2 m (by omega)
      simp only [nCo]
      omega
  have hco : nCo Y n = c := by
    apply Nat.le_antisymm (hle n (Nat.le_refl _))
    cases c with
    | zero => exact Nat.zero_le _
    | succ c =>
      obtain ⟨i, hi, e⟩ := b1 c (by omega)
      have := nCo_gt (Y := Y) hi
      omega
  have hpos : ∀ c', c' < c → nRW Y c' 0 n = nCWt Y n c' ∧ 0 < nRo Y c' n := fun c' hc' => by
    obtain ⟨i, hi, e⟩ := b1 c' hc'
    have := nRo_gt hi e
    exact ⟨(c2 c' hc').2, by omega⟩
  have hlen := strip_gro (W := W) (H := H) a1 a3 b2 hpos c 0 0 (by omega)
  refine ⟨⟨a1, ⟨fun c' hc' => b1 c' (by omega), b2⟩, by rw [hco]; omega, fun c' hc' => (c2 c' (by omega)).1, ?_⟩, hco⟩
  unfold groA
  rw [hco]
  have : nTot Y n 0 = 0 := rfl
  omega
end YL
