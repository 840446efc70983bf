/-! the search of an exact plan, in counts: the first that succeeds -/
def fS {α : Type} (p : Nat → Option α) : Nat → Nat → Option α
  | 0, _ => none
  | m + 1, i => match p i with
    | some z => some z
    | none => fS p m (i + 1)
section FS
variable {α : Type} {p p' : Nat → Option α}
theorem fS_c : ∀ {m i : Nat}, (∀ j, i ≤ j → j < i + m → p j = p' j) → fS p m i = fS p' m i
  | 0, _, _ => rfl
  | m + 1, i, h => by
    simp only [fS]
    rw [h i (by omega) (by omega), fS_c (m := m) (i := i + 1) (fun j h1 h2 => h j (by omega) (by omega))]
theorem fS_no : ∀ {m i : Nat}, (∀ j, i ≤ j → j < i + m → p j = none) → fS p m i = none
  | 0, _, _ => rfl
  | m + 1, i, h => by
    simp only [fS]
    rw [h i (by omega) (by omega)]
    exact fS_no (fun j h1 h2 => h j (by omega) (by omega))
theorem fS_add : ∀ (m n i : Nat), fS p (m + n) i = (match fS p m i with
    | some z => some z
    | none => fS p n (i + m))
  | 0, n, i => by
    rw [Nat.zero_add]; rfl
  | m + 1, n, i => by
    rw [show m + 1 + n = (m + n) + 1 by omega]
    simp only [fS]
    cases p i with
    | some z => rfl
    | none =>
      simp only []
      rw [fS_add m n (i + 1), show i + 1 + m = i + (m + 1) by omega]
theorem fS_cut {m n i : Nat} (h : m ≤ n) (hn : ∀ j, i + m ≤ j → j < i + n → p j = none) : fS p n i = fS p m i := by
  rw [show n = m + (n - m) by omega, fS_add]
  cases fS p m i with
  | some z => rfl
  | none => exact fS_no (fun j h1 h2 => hn j h1 (by omega))
theorem fS_blk (a : Nat) : ∀ (b i : Nat), fS p (a * b) (a * i) = fS (fun c => fS (fun x => p x) a (a * c)) b i
  | 0, _ => rfl
  | b + 1, i => by
    rw [show a * (b + 1) = a + a * b by rw [Nat.mul_add]; omega, fS_add]
    simp only [fS]
    rw [show a * i + a = a * (i + 1) by rw [Nat.mul_add]; omega, fS_blk a b (i + 1)]
theorem fS_some : ∀ {m i : Nat} {z : α}, fS p m i = some z → ∃ j, i ≤ j ∧ j < i + m ∧ p j = some z
  | m + 1, i, z, h => by
    simp only [fS] at h
    cases e : p i with
    | some y =>
      rw [e] at h
      exact ⟨i, by omega, by omega, by rw [e]; exact h⟩
    | none =>
      rw [e] at h
      obtain ⟨j, h1, h2, h3⟩ := fS_some h
      exact ⟨j, by omega, by omega, h3⟩
end FS
def lyFt (Y : lY) (m W H : Nat) : Prop := (∀ c, c < nCo Y m → nCH Y c m (nRo Y c m) ≤ H) ∧ nSum Y m (nCo Y m) ≤ W
theorem nCH_up {Y Y' : lY} {c m m' : Nat} : ∀ {k k' : Nat}, k ≤ k' → (∀ r, r < k → nRH Y c r m ≤ nRH Y' c r m') → nCH Y c m k ≤ nCH Y' c m' k'
  | 0, _, _, _ => Nat.zero_le _
  | k + 1, k', hk, h => by
    have h1 := nCH_up (Y := Y) (Y' := Y') (c := c) (m := m) (m' := m') (k := k) (k' := k) (Nat.le_refl _) (fun r hr => h r (by omega))
    have h2 := h k (by omega)
    have h3 := nCH_mono (Y := Y') (c := c) (m := m') (i := k + 1) (j := k') hk
    simp only [nCH] at h3 ⊢
    omega
theorem nSum_up {Y Y' : lY} {m m' : Nat} : ∀ {k k' : Nat}, k ≤ k' → (∀ c, c < k → nCWt Y m c ≤ nCWt Y' m' c) → nSum Y m k ≤ nSum Y' m' k'
  | 0, _, _, _ => Nat.zero_le _
  | k + 1, k', hk, h => by
    have h1 := nSum_up (Y := Y) (Y' := Y') (m := m) (m' := m') (k := k) (k' := k) (Nat.le_refl _) (fun r hr => h r (by omega))
    have h2 := h k (by omega)
    have h3 := nSum_mono (Y := Y') (m := m') (i := k + 1) (j := k') hk
    simp only [nSum] at h3 ⊢
    omega
theorem nCo_put {Y : lY} {n c r w h o : Nat} : ∀ i, i ≤ n → nCo (yPut Y n c r w h o) i = nCo Y i
  | 0, _ => rfl
  | i + 1, hi => by
    simp only [nCo]
    rw [nCo_put i (by omega), (yPut_ne (by omega)).1]
theorem nCo_p1 {Y : lY} {n c r w h o : Nat} : nCo (yPut Y n c r w h o) (n + 1) = max (nCo Y n) (c + 1) := by
  simp only [nCo]
  rw [nCo_put n (Nat.le_refl _), yPut_at.1]
/-- what fits fits without its last pane -/
theorem lyFt.less {Y : lY} {n c r w h o W H : Nat} (q : lyFt (yPut Y n c r w h o) (n + 1) W H) : lyFt Y n W H := by
  obtain ⟨q1, q2⟩ := q
  have hco : nCo Y n ≤ nCo (yPut Y n c r w h o) (n + 1) := by rw [nCo_p1]; omega
  have hro : ∀ c', nRo Y c' n ≤ nRo (yPut Y n c r w h o) c' (n + 1) := fun c' => by rw [nRo_p1]; split <;> omega
  have hrh : ∀ c' r', nRH Y c' r' n ≤ nRH (yPut Y n c r w h o) c' r' (n + 1) := fun c' r' => by rw [nRH_p1]; split <;> omega
  have hrw : ∀ c' r', nRW Y c' r' n ≤ nRW (yPut Y n c r w h o) c' r' (n + 1) := fun c' r' => by rw [nRW_p1]; omega
  refine ⟨fun c' hc' => Nat.le_trans (nCH_up (hro c') (fun r' _ => hrh c' r')) (q1 c' (by omega)), Nat.le_trans (nSum_up hco (fun c' _ => ?_)) q2⟩
  unfold nCWt
  refine nCW_up _ (fun r' hr' => Nat.le_trans (hrw c' r') ?_)
  exact nCW_ge (by have := hro c'; omega)
/-- an order by its number: width, height, whether it turns -/
def pW (ow oh : Nat → Nat) (o t : Nat) : Nat := if t = 1 then oh o else ow o
def pH (ow oh : Nat → Nat) (o t : Nat) : Nat := if t = 1 then ow o else oh o
def pPut (ow oh : Nat → Nat) (Y : lY) (n o c r t : Nat) : lY := yPut Y n c r (pW ow oh o t) (pH ow oh o t) o
def lyFb (Y : lY) (m W H : Nat) : Bool := (List.range (nCo Y m)).all (fun c => decide (nCH Y c m (nRo Y c m) ≤ H)) && decide (nSum Y m (nCo Y m) ≤ W)
theorem lyFb_iff {Y : lY} {m W H : Nat} : lyFb Y m W H = true ↔ lyFt Y m W H := by
  unfold lyFb lyFt
  rw [Bool.and_eq_true, List.all_eq_true, decide_eq_true_eq]
  refine and_congr ⟨fun h c hc => ?_, fun h c hc => ?_⟩ Iff.rfl
  · exact of_decide_eq_true (h c (List.mem_range.mpr hc))
  · exact decide_eq_true (h c (List.mem_range.mp hc))
/-- the reference's search: every way, the whole is tried at the end -/
def rS (ow oh : Nat → Nat) (tu : Nat → Bool) (W H : Nat) : List Nat → Nat → lY → Option lY
  | [], n, Y => if lyFb Y n W H = true then some Y else none
  | o :: t, n, Y => fS (fun nb => if nb / 8 ≤ nCo Y n ∧ nb / 2 % 4 ≤ nRo Y (nb / 8) n ∧ (nb % 2 = 1 → tu o = true ∧ ow o ≠ oh o) then rS ow oh tu W H t (n + 1) (pPut ow oh Y n o (nb / 8) (nb / 2 % 4) (nb % 2)) else none) 32 0
/-- the class's: a way is left as soon as it does not fit -/
def cS (ow oh : Nat → Nat) (tu : Nat → Bool) (W H : Nat) : List Nat → Nat → lY → Option lY
  | [], _, Y => some Y
  | o :: t, n, Y => fS (fun c => fS (fun r => fS (fun b => if b = 1 ∧ tu o = false then none else if lyFb (pPut ow oh Y n o c r b) (n + 1) W H = true then cS ow oh tu W H t (n + 1) (pPut ow oh Y n o c r b) else none) 2 0) (nRo Y c n + 1) 0) (nCo Y n + 1) 0
section SR
variable {ow oh : Nat → Nat} {tu : Nat → Bool} {W H : Nat}
theorem rS_fits : ∀ (l : List Nat) (n : Nat) (Y Z : lY), rS ow oh tu W H l n Y = some Z → lyFt Y n W H
  | [], n, Y, Z, h => by
    simp only [rS] at h
    by_cases e : lyFb Y n W H = true
    · exact lyFb_iff.mp e
    · rw [if_neg e] at h; cases h
  | o :: t, n, Y, Z, h => by
    simp only [rS] at h
    obtain ⟨j, -, -, hj⟩ := fS_some h
    split at hj
    · have := rS_fits t _ _ _ hj
      exact this.less
    · cases hj
theorem fS_2 {α : Type} {p : Nat → Option α} {i : Nat} : fS p 2 i = (match p i with
    | some z => some z
    | none => p (i + 1)) := by
  simp only [fS]
  cases p i with
  | some z => rfl
  | none =>
    simp only []
    cases p (i + 1) <;> rfl
theorem cS_rS : ∀ (l : List Nat) (n : Nat) (Y : lY), lyFt Y n W H → n + l.length ≤ 3 → nCo Y n ≤ n → (∀ c, nRo Y c n ≤ n) → cS ow oh tu W H l n Y = rS ow oh tu W H l n Y
  | [], n, Y, hf, _, _, _ => by
    simp only [cS, rS]
    rw [if_pos (lyFb_iff.mpr hf)]
  | o :: t, n, Y, hf, hn, hc, hr => by
    have hn3 : n + t.length + 1 ≤ 3 := by simp at hn; omega
    have ih : ∀ c r b, c ≤ nCo Y n → r ≤ nRo Y c n → lyFt (pPut ow oh Y n o c r b) (n + 1) W H → cS ow oh tu W H t (n + 1) (pPut ow oh Y n o c r b) = rS ow oh tu W H t (n + 1) (pPut ow oh Y n o c r b) := fun c r b h1 h2 h3 => by
      refine cS_rS t (n + 1) _ h3 (by omega) ?_ (fun c' => ?_)
      · unfold pPut
        rw [nCo_p1]; omega
      · unfold pPut
        rw [nRo_p1]
        have := hr c'
        have := hr c
        split
        next e => subst e; omega
        next => omega
    simp only [cS, rS]
    refine Eq.trans ?_ (Eq.symm (fS_blk (p := fun nb => if nb / 8 ≤ nCo Y n ∧ nb / 2 % 4 ≤ nRo Y (nb / 8) n ∧ (nb % 2 = 1 → tu o = true ∧ ow o ≠ oh o) then rS ow oh tu W H t (n + 1) (pPut ow oh Y n o (nb / 8) (nb / 2 % 4) (nb % 2)) else none) 8 4 0))
    refine Eq.trans ?_ (fS_cut (m := nCo Y n + 1) (n := 4) (i := 0) (by omega) ?_).symm
    · refine fS_c (fun c _ h2 => ?_)
      have h2 : c ≤ nCo Y n := by omega
      have hb : fS (fun x => if x / 8 ≤ nCo Y n ∧ x / 2 % 4 ≤ nRo Y (x / 8) n ∧ (x % 2 = 1 → tu o = true ∧ ow o ≠ oh o) then rS ow oh tu W H t (n + 1) (pPut ow oh Y n o (x / 8) (x / 2 % 4) (x % 2)) else none) (2 * 4) (2 * (4 * c)) = _ := fS_blk 2 4 (4 * c)
      rw [show 8 * c = 2 * (4 * c) by omega]
      refine Eq.trans ?_ hb.symm
      have hsh : ∀ (q : Nat → Option lY) (m i d : Nat), fS q m (i + d) = fS (fun x => q (x + d)) m i := by
        intro q m
        induction m with
        | zero => intros; rfl
        | succ m ihm =>
          intro i d
          simp only [fS]
          rw [show i + d + 1 = i + 1 + d by omega, ihm (i + 1) d]
      have h4 := hsh (fun c => fS (fun x => if x / 8 ≤ nCo Y n ∧ x / 2 % 4 ≤ nRo Y (x / 8) n ∧ (x % 2 = 1 → tu o = true ∧ ow o ≠ oh o) then rS ow oh tu W H t (n + 1) (pPut ow oh Y n o (x / 8) (x / 2 % 4) (x % 2)) else none) 2 (2 * c)) 4 0 (4 * c)
      rw [Nat.zero_add] at h4
      refine Eq.trans ?_ h4.symm
      have hrc := hr c
      refine Eq.trans ?_ (fS_cut (m := nRo Y c n + 1) (n := 4) (i := 0) (by omega) ?_).symm
      · refine fS_c (fun r _ h3 => ?_)
        have h3 : r ≤ nRo Y c n := by omega
        rw [fS_2, fS_2]
        have a1 : 2 * (r + 4 * c) / 8 = c := by omega
        have a2 : 2 * (r + 4 * c) / 2 % 4 = r := by omega
        have a3 : 2 * (r + 4 * c) % 2 = 0 := by omega
        have b1 : (2 * (r + 4 * c) + 1) / 8 = c := by omega
        have b2 : (2 * (r + 4 * c) + 1) / 2 % 4 = r := by omega
        have b3 : (2 * (r + 4 * c) + 1) % 2 = 1 := by omega
        rw [a1, a2, a3, b1, b2, b3]
        have gen : ∀ b, (if lyFb (pPut ow oh Y n o c r b) (n + 1) W H = true then cS ow oh tu W H t (n + 1) (pPut ow oh Y n o c r b) else none) = rS ow oh tu W H t (n + 1) (pPut ow oh Y n o c r b) := fun b => by
          by_cases e : lyFb (pPut ow oh Y n o c r b) (n + 1) W H = true
          · rw [if_pos e]; exact ih c r b h2 h3 (lyFb_iff.mp e)
          · rw [if_neg e]
            cases z : rS ow oh tu W H t (n + 1) (pPut ow oh Y n o c r b) with
            | none => rfl
            | some Z => exact absurd (lyFb_iff.mpr (rS_fits t _ _ _ z)) e
        have hX : ow o = oh o → rS ow oh tu W H t (n + 1) (pPut ow oh Y n o c r (0 + 1)) = rS ow oh tu W H t (n + 1) (pPut ow oh Y n o c r 0) := fun e2 => by
          congr 1
          unfold pPut pW pH
          rw [if_pos rfl, if_pos rfl, if_neg (by decide), if_neg (by decide), e2]
        rw [gen, gen]
        simp only [Nat.zero_add] at hX ⊢
        generalize rS ow oh tu W H t (n + 1) (pPut ow oh Y n o c r 0) = X0 at hX ⊢
        generalize rS ow oh tu W H t (n + 1) (pPut ow oh Y n o c r 1) = X1 at hX ⊢
        have a0 : ¬ (0 = 1 ∧ tu o = false) := fun z => absurd z.1 (by decide)
        have a9 : c ≤ nCo Y n ∧ r ≤ nRo Y c n ∧ (0 = 1 → tu o = true ∧ ow o ≠ oh o) := ⟨h2, h3, fun z => absurd z (by decide)⟩
        rw [if_neg a0, if_pos a9]
        cases X0 with
        | some z => rfl
        | none =>
          cases e1 : tu o with
          | false => simp [e1]
          | true =>
            by_cases e2 : ow o = oh o
            · simp [e1, e2]
              exact hX e2
            · simp [e1, e2, h2, h3]
      · intro j h5 h6
        refine fS_no (fun x h7 h8 => ?_)
        rw [if_neg]
        intro u
        have : x / 8 = c := by omega
        have e2 : x / 2 % 4 = j := by omega
        have := u.2.1
        rw [e2] at this
        have e3 : x / 8 = c := by omega
        rw [e3] at this
        omega
    · intro j h5 h6
      refine fS_no (fun x h7 h8 => ?_)
      rw [if_neg]
      intro u
      have := u.1
      omega
end SR
