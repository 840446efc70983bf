/-! class and reference: the same layout, the same numbers -/
def layEq (S : xS) (n : Nat) : Prop := ∀ i, i < n → sA S 58 i = sA S 215 i ∧ sA S 59 i = sA S 216 i ∧ sA S 60 i = sA S 217 i ∧ sA S 61 i = sA S 218 i ∧ sA S 62 i = sA S 219 i
theorem laIn_eq {S : xS} {n i : Nat} {c r : Int32} (h : layEq S n) (hi : i < n) : laIn S i c r = moInR S i c r := by
  unfold laIn moInR
  rw [(h i hi).2.2.2.1, (h i hi).2.2.2.2]
theorem laRW_eq {S : xS} {n : Nat} {c r : Int32} (h : layEq S n) : ∀ m, m ≤ n → laRW S c r m = moRW S c r m
  | 0, _ => rfl
  | m + 1, hm => by
    simp only [laRW, moRW]
    rw [laIn_eq h (by omega), laRW_eq h m (by omega), (h m (by omega)).2.1]
theorem laRH_eq {S : xS} {n : Nat} {c r : Int32} (h : layEq S n) : ∀ m, m ≤ n → laRH S c r m = moRH S c r m
  | 0, _ => rfl
  | m + 1, hm => by
    simp only [laRH, moRH]
    rw [laIn_eq h (by omega), laRH_eq h m (by omega), (h m (by omega)).2.2.1]
theorem laCH_eq {S : xS} {n : Nat} {c : Int32} (h : layEq S n) : ∀ r, laCH S c n r = moCH S c n r
  | 0 => rfl
  | r + 1 => by
    simp only [laCH, moCH]
    rw [laCH_eq h r, laRH_eq h n (Nat.le_refl _)]
theorem mx_succ {a b : Nat} (ha : a < 2 ^ 30) (hb : b < 2 ^ 30) : mx (nI a) (nI b + nI 1) = if nI a ≤ nI b then nI b + nI 1 else nI a := by
  unfold mx
  rw [nI_add]
  by_cases e : a ≤ b
  · rw [if_pos ((nI_ltI (by omega) (by omega)).mpr (by omega)), if_pos ((nI_leI (by omega) (by omega)).mpr e)]
  · rw [if_neg (fun q => e (by have := (nI_ltI (by omega) (by omega)).mp q; omega)), if_neg (fun q => e ((nI_leI (by omega) (by omega)).mp q))]
theorem laCols_eq {S : xS} {n N : Nat} (h : layEq S n) (hL : moLI S n N) : ∀ m, m ≤ n → laCols S m = moCo S m
  | 0, _ => rfl
  | m + 1, hm => by
    simp only [laCols, moCo]
    rw [laCols_eq h hL m (by omega), (h m (by omega)).2.2.2.1]
    obtain ⟨C, hC, e⟩ := moCo_M (S := S) (n := m) (fun i hi => (hL i (by omega)).2.1)
    obtain ⟨c, hc, e2⟩ := (hL m (by omega)).2.1
    rw [e, e2]
    exact mx_succ (by omega) (by omega)
theorem laRows_eq {S : xS} {n N : Nat} {c : Int32} (h : layEq S n) (hL : moLI S n N) : ∀ m, m ≤ n → laRows S c m = moRo S c m
  | 0, _ => rfl
  | m + 1, hm => by
    simp only [laRows, moRo]
    rw [laRows_eq h hL m (by omega), (h m (by omega)).2.2.2.1, (h m (by omega)).2.2.2.2]
    obtain ⟨C, hC, e⟩ := moRo_M (S := S) (c := c) (n := m) (fun i hi => (hL i (by omega)).2.2)
    obtain ⟨r, hr, e2⟩ := (hL m (by omega)).2.2
    rw [e, e2]
    by_cases hc : sA S 218 m = c
    · rw [if_pos hc, mx_succ (by omega) (by omega)]
      by_cases q : nI C ≤ nI r
      · rw [if_pos q, if_pos ⟨hc, q⟩]
      · rw [if_neg q, if_neg (fun z => q z.2)]
    · rw [if_neg hc, if_neg (fun z => hc z.1)]
/-- the greatest of what is given, and of 0 -/
def isMx (P : Int32 → Prop) (M : Int32) : Prop := (∀ v, P v → v ≤ M) ∧ 0 ≤ M ∧ (M = 0 ∨ P M)
theorem isMx.uniq {P Q : Int32 → Prop} {M M' : Int32} (h : isMx P M) (k : isMx Q M') (e1 : ∀ v, P v → v = 0 ∨ Q v) (e2 : ∀ v, Q v → v = 0 ∨ P v) : M = M' := by
  apply Int32.le_antisymm
  · rcases h.2.2 with rfl | q
    · exact k.2.1
    · rcases e1 _ q with q | q
      · rw [q]; exact k.2.1
      · exact k.1 _ q
  · rcases k.2.2 with rfl | q
    · exact h.2.1
    · rcases e2 _ q with q | q
      · rw [q]; exact h.2.1
      · exact h.1 _ q
theorem le_mx_l {a b : Int32} : a ≤ mx a b := by
  unfold mx
  split
  · rename_i h; exact Int32.le_of_lt h
  · exact Int32.le_refl _
theorem le_mx_r {a b : Int32} : b ≤ mx a b := by
  unfold mx
  split
  · exact Int32.le_refl _
  · rename_i h; exact Int32.not_lt.mp h
theorem mx_or (a b : Int32) : mx a b = a ∨ mx a b = b := by
  unfold mx
  split
  · exact Or.inr rfl
  · exact Or.inl rfl
theorem laCW_mx {S : xS} {c : Int32} {n : Nat} : ∀ R, isMx (fun v => ∃ r, r < R ∧ v = laRW S c (nI r) n) (laCW S c n R)
  | 0 => ⟨fun v ⟨r, hr, _⟩ => absurd hr (Nat.not_lt_zero r), Int32.le_refl _, Or.inl rfl⟩
  | R + 1 => by
    obtain ⟨h1, h2, h3⟩ := laCW_mx (S := S) (c := c) (n := n) R
    refine ⟨?_, Int32.le_trans h2 le_mx_l, ?_⟩
    · rintro v ⟨r, hr, rfl⟩
      by_cases e : r = R
      · subst e; exact le_mx_r
      · exact Int32.le_trans (h1 _ ⟨r, by omega, rfl⟩) le_mx_l
    · show mx (laCW S c n R) (laRW S c (nI R) n) = 0 ∨ _
      rcases mx_or (laCW S c n R) (laRW S c (nI R) n) with e | e
      · rcases h3 with q | ⟨r, hr, q⟩
        · left; rw [e, q]
        · right; exact ⟨r, by omega, e.trans q⟩
      · right; exact ⟨R, by omega, e⟩
theorem moCW_mx {S : xS} {c : Int32} {n : Nat} : ∀ m, isMx (fun v => ∃ i, i < m ∧ sA S 218 i = c ∧ v = moRW S c (sA S 219 i) n) (moCW S c n m)
  | 0 => ⟨fun v ⟨r, hr, _⟩ => absurd hr (Nat.not_lt_zero r), Int32.le_refl _, Or.inl rfl⟩
  | m + 1 => by
    obtain ⟨h1, h2, h3⟩ := moCW_mx (S := S) (c := c) (n := n) m
    refine ⟨?_, Int32.le_trans h2 le_mx_l, ?_⟩
    · rintro v ⟨i, hi, hc, rfl⟩
      by_cases e : i = m
      · subst e
        show _ ≤ mx _ (if sA S 218 i = c then _ else _)
        rw [if_pos hc]; exact le_mx_r
      · exact Int32.le_trans (h1 _ ⟨i, by omega, hc, rfl⟩) le_mx_l
    · show mx (moCW S c n m) (if sA S 218 m = c then moRW S c (sA S 219 m) n else nI 0) = 0 ∨ _
      rcases mx_or (moCW S c n m) (if sA S 218 m = c then moRW S c (sA S 219 m) n else nI 0) with e | e
      · rcases h3 with q | ⟨i, hi, hc, q⟩
        · left; rw [e, q]
        · right; exact ⟨i, by omega, hc, e.trans q⟩
      · by_cases hc : sA S 218 m = c
        · right; rw [if_pos hc] at e; exact ⟨m, by omega, hc, by show mx _ _ = _; rw [if_pos hc]; exact e⟩
        · left; rw [if_neg hc] at e; rw [if_neg hc]; exact e
theorem moRW_0 {S : xS} {c r : Int32} : ∀ m, (∀ i, i < m → ¬ moInR S i c r = true) → moRW S c r m = 0
  | 0, _ => rfl
  | m + 1, h => by
    simp only [moRW]
    rw [if_neg (h m (by omega))]
    exact moRW_0 m (fun i hi => h i (by omega))
theorem laCW_eq {S : xS} {n N R : Nat} {c : Int32} (h : layEq S n) (hR : R < 2 ^ 30) (hr : ∀ i, i < n → sA S 218 i = c → ∃ r, r < R ∧ sA S 219 i = nI r) : laCW S c n R = moCW S c n n := by
  refine (laCW_mx R).uniq (moCW_mx n) ?_ ?_
  · rintro v ⟨r, hr1, rfl⟩
    rw [laRW_eq h n (Nat.le_refl _)]
    by_cases e : ∃ i, i < n ∧ moInR S i c (nI r) = true
    · obtain ⟨i, hi, q⟩ := e
      have q2 := Bool.and_eq_true_iff.mp q
      right
      exact ⟨i, hi, of_decide_eq_true q2.1, by rw [of_decide_eq_true q2.2]⟩
    · left
      exact moRW_0 n (fun i hi q => e ⟨i, hi, q⟩)
  · rintro v ⟨i, hi, hc, rfl⟩
    right
    obtain ⟨r, hr1, e⟩ := hr i hi hc
    exact ⟨r, hr1, by rw [e, laRW_eq h n (Nat.le_refl _)]⟩
