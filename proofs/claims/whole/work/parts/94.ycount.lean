/-! how many panes of an order a tree has -/
def sumN (f : Nat → Nat) : Nat → Nat
  | 0 => 0
  | n + 1 => sumN f n + f n
theorem sumN_c {f g : Nat → Nat} : ∀ {n : Nat}, (∀ i, i < n → f i = g i) → sumN f n = sumN g n
  | 0, _ => rfl
  | n + 1, h => by
    simp only [sumN]
    rw [sumN_c (fun i hi => h i (by omega)), h n (by omega)]
theorem sumN_add {f g : Nat → Nat} : ∀ n, sumN (fun i => f i + g i) n = sumN f n + sumN g n
  | 0 => rfl
  | n + 1 => by
    simp only [sumN]
    rw [sumN_add n]
    omega
theorem sumN_0 {f : Nat → Nat} : ∀ {n : Nat}, (∀ i, i < n → f i = 0) → sumN f n = 0
  | 0, _ => rfl
  | n + 1, h => by
    simp only [sumN]
    rw [sumN_0 (fun i hi => h i (by omega)), h n (by omega)]
theorem sumN_1 {a v : Nat} : ∀ n, sumN (fun i => if i = a then v else 0) n = if a < n then v else 0
  | 0 => rfl
  | n + 1 => by
    simp only [sumN]
    rw [sumN_1 n]
    by_cases e : n = a
    · subst e
      rw [if_neg (by omega), if_pos rfl, if_pos (by omega), Nat.zero_add]
    · rw [if_neg e, Nat.add_zero]
      by_cases e2 : a < n
      · rw [if_pos e2, if_pos (by omega)]
      · rw [if_neg e2, if_neg (by omega)]
def pCt (L : List nd) (o : Nat) : Nat := (L.filter (fun v => decide (v.1 = 2) && decide (v.2.2.2.2.2.1 = nI o))).length
theorem pCt_app {A C : List nd} {o : Nat} : pCt (A ++ C) o = pCt A o + pCt C o := by
  unfold pCt
  rw [List.filter_append, List.length_append]
theorem pCt_opt {z : Bool} {k x y w h s o : Nat} {m : Int32} (hk : k ≠ 2) : pCt (optN z (k, x, y, w, h, m, s)) o = 0 := by
  cases z <;> simp [optN, pCt, hk]
theorem pCt_rest {x y w h o : Nat} : pCt (restL x y w h) o = 0 := by
  unfold restL
  split
  · rfl
  · split <;> rfl
theorem pCt_pane {Y : lY} {i x y o : Nat} (h1 : yO Y i < 2 ^ 30) (h2 : o < 2 ^ 30) : pCt [paneN Y i x y] o = if yO Y i = o then 1 else 0 := by
  have e : (nI (yO Y i) = nI o) ↔ yO Y i = o := nI_eq (by omega) (by omega)
  unfold pCt paneN
  by_cases z : yO Y i = o
  · simp [z]
  · simp [z, e]
theorem pCt_cell {Y : lY} {i x y h o : Nat} (h1 : yO Y i < 2 ^ 30) (h2 : o < 2 ^ 30) : pCt (cellL Y i x y h) o = if yO Y i = o then 1 else 0 := by
  unfold cellL
  rw [pCt_app, pCt_app, pCt_opt (by decide), pCt_rest, pCt_pane h1 h2]
  omega
def cRow (Y : lY) (o c r : Nat) : Nat → Nat
  | 0 => 0
  | i + 1 => cRow Y o c r i + (if yIn Y c r i = true then (if yO Y i = o then 1 else 0) else 0)
theorem pCt_row {Y : lY} {c r y e h o m : Nat} (h2 : o < 2 ^ 30) (hO : ∀ i, i < m → yO Y i < 2 ^ 30) : ∀ k i f, i + k = m → pCt (rowG Y c r y e h k i f) o + cRow Y o c r i = cRow Y o c r m
  | 0, i, f, hi => by
    simp only [rowG]
    rw [pCt_rest, show i = m by omega, Nat.zero_add]
  | k + 1, i, f, hi => by
    simp only [rowG]
    by_cases z : yIn Y c r i = true
    · have ih := pCt_row (y := y) (e := e) (h := h) (c := c) (r := r) h2 hO k (i + 1) (f + yW Y i) (by omega)
      simp only [cRow] at ih
      rw [if_pos z] at ih
      rw [if_pos z, pCt_app]
      unfold rowS
      rw [pCt_app, pCt_opt (by decide), pCt_cell (hO i (by omega)) h2]
      omega
    · have ih := pCt_row (y := y) (e := e) (h := h) (c := c) (r := r) h2 hO k (i + 1) f (by omega)
      simp only [cRow] at ih
      rw [if_neg z] at ih
      rw [if_neg z]
      omega
theorem pCt_col {Y : lY} {m c l w h o : Nat} (h2 : o < 2 ^ 30) (hO : ∀ i, i < m → yO Y i < 2 ^ 30) : ∀ k r y, pCt (colG Y m c l w h k r y) o + sumN (fun r => cRow Y o c r m) r = sumN (fun r => cRow Y o c r m) (r + k)
  | 0, r, y => by
    simp only [colG]
    rw [pCt_rest, Nat.zero_add, Nat.add_zero]
  | k + 1, r, y => by
    have ih := pCt_col (l := l) (w := w) (h := h) (c := c) h2 hO k (r + 1) (y + nRH Y c r m)
    have ir := pCt_row (c := c) (r := r) (y := y) (e := l + w) (h := nRH Y c r m) h2 hO m 0 l (by omega)
    have e0 : cRow Y o c r 0 = 0 := rfl
    have e1 : sumN (fun r => cRow Y o c r m) (r + 1) = sumN (fun r => cRow Y o c r m) r + cRow Y o c r m := rfl
    simp only [colG]
    unfold colS
    rw [pCt_app, pCt_app, pCt_opt (by decide), show r + (k + 1) = r + 1 + k by omega]
    have e2 : pCt (rowA Y m c r l y w) o = cRow Y o c r m := by
      show pCt (rowG Y c r y (l + w) (nRH Y c r m) m 0 l) o = _
      omega
    omega
theorem pCt_gro {Y : lY} {m w h o : Nat} (h2 : o < 2 ^ 30) (hO : ∀ i, i < m → yO Y i < 2 ^ 30) : ∀ k c f, pCt (groG Y m w h k c f) o + sumN (fun c => sumN (fun r => cRow Y o c r m) (nRo Y c m)) c = sumN (fun c => sumN (fun r => cRow Y o c r m) (nRo Y c m)) (c + k)
  | 0, c, f => by
    simp only [groG]
    rw [pCt_rest, Nat.zero_add, Nat.add_zero]
  | k + 1, c, f => by
    have ih := pCt_gro (w := w) (h := h) h2 hO k (c + 1) (f + nCWt Y m c)
    have ic := pCt_col (c := c) (l := f) (w := nCWt Y m c) (h := h) h2 hO (nRo Y c m) 0 0
    have e0 : sumN (fun r => cRow Y o c r m) 0 = 0 := rfl
    rw [Nat.zero_add] at ic
    have e1 : sumN (fun c => sumN (fun r => cRow Y o c r m) (nRo Y c m)) (c + 1) = sumN (fun c => sumN (fun r => cRow Y o c r m) (nRo Y c m)) c + sumN (fun r => cRow Y o c r m) (nRo Y c m) := rfl
    simp only [groG]
    unfold groS
    rw [pCt_app, pCt_app, pCt_opt (by decide), show c + (k + 1) = c + 1 + k by omega]
    have e2 : pCt (colA Y m c f h) o = sumN (fun r => cRow Y o c r m) (nRo Y c m) := by
      show pCt (colG Y m c f (nCWt Y m c) h (nRo Y c m) 0 0) o = _
      omega
    omega
theorem cRow_all {Y : lY} {o K : Nat} {R : Nat → Nat} : ∀ m, (∀ i, i < m → yC Y i < K ∧ yR Y i < R (yC Y i)) → sumN (fun c => sumN (fun r => cRow Y o c r m) (R c)) K = nCt Y o m
  | 0, _ => by
    refine sumN_0 (fun c _ => sumN_0 (fun r _ => rfl))
  | m + 1, h => by
    have ih := cRow_all (Y := Y) (o := o) (K := K) (R := R) m (fun i hi => h i (by omega))
    obtain ⟨h1, h2⟩ := h m (by omega)
    have hin : ∀ c, sumN (fun r => cRow Y o c r (m + 1)) (R c) = sumN (fun r => cRow Y o c r m) (R c) + (if c = yC Y m then (if yO Y m = o then 1 else 0) else 0) := fun c => by
      rw [sumN_c (f := fun r => cRow Y o c r (m + 1)) (g := fun r => cRow Y o c r m + (if r = yR Y m then (if c = yC Y m then (if yO Y m = o then 1 else 0) else 0) else 0)), sumN_add, sumN_1]
      · by_cases e : c = yC Y m
        · subst e
          rw [if_pos h2]
        · rw [if_neg e]
          split <;> rfl
      · intro r _
        simp only [cRow]
        by_cases e : yIn Y c r m = true
        · obtain ⟨e1, e2⟩ := yIn_iff.mp e
          rw [if_pos e, if_pos e2.symm, if_pos e1.symm]
        · rw [if_neg e]
          by_cases e2 : r = yR Y m
          · rw [if_pos e2, if_neg (fun z => e (yIn_iff.mpr ⟨z.symm, e2.symm⟩))]
          · rw [if_neg e2]
    rw [sumN_c (fun c _ => hin c), sumN_add, ih, sumN_1, if_pos h1]
    simp only [nCt]
    by_cases e : yO Y m = o
    · rw [if_pos e, if_pos e]
    · rw [if_neg e, if_neg e, Nat.add_zero]
/-- the tree of a layout has its panes, each once -/
theorem pCt_groA {Y : lY} {m w h o : Nat} (h2 : o < 2 ^ 30) (hO : ∀ i, i < m → yO Y i < 2 ^ 30) : pCt (groA Y m w h) o = nCt Y o m := by
  have h1 := pCt_gro (w := w) (h := h) h2 hO (nCo Y m) 0 0
  have e0 : sumN (fun c => sumN (fun r => cRow Y o c r m) (nRo Y c m)) 0 = 0 := rfl
  rw [Nat.zero_add, cRow_all (Y := Y) (o := o) (K := nCo Y m) (R := fun c => nRo Y c m) m (fun i hi => ⟨nCo_gt hi, nRo_gt hi rfl⟩)] at h1
  show pCt (groG Y m w h (nCo Y m) 0 0) o = _
  omega
