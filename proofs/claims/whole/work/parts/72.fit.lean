/-! class and reference: the least offcut that takes a pane -/
def upB (f : Nat → Bool) (A : Nat → Nat) : Nat → Option Nat
  | 0 => none
  | k + 1 => match upB f A k with
    | none => if f k = true then some k else none
    | some j => if f k = true ∧ A k < A j then some k else some j
def dnB (f : Nat → Bool) (A : Nat → Nat) (R : Nat) : Nat → Option Nat
  | 0 => none
  | i + 1 => match dnB f A R i with
    | none => if f (R - i - 1) = true then some (R - i - 1) else none
    | some b => if f (R - i - 1) = true ∧ A (R - i - 1) ≤ A b then some (R - i - 1) else some b
def isB (f : Nat → Bool) (A : Nat → Nat) (lo hi : Nat) (o : Option Nat) : Prop := match o with
  | none => ∀ j, lo ≤ j → j < hi → f j = false
  | some k => (lo ≤ k ∧ k < hi) ∧ f k = true ∧ (∀ j, lo ≤ j → j < hi → f j = true → A k ≤ A j) ∧ ∀ j, lo ≤ j → j < k → f j = true → A k < A j
theorem isB.uniq {f : Nat → Bool} {A : Nat → Nat} {lo hi : Nat} {o p : Option Nat} (h : isB f A lo hi o) (k : isB f A lo hi p) : o = p := by
  cases o with
  | none =>
    cases p with
    | none => rfl
    | some q => exact absurd k.2.1 (by rw [h q k.1.1 k.1.2]; decide)
  | some r =>
    cases p with
    | none => exact absurd h.2.1 (by rw [k r h.1.1 h.1.2]; decide)
    | some q =>
      have e1 := h.2.2.1 q k.1.1 k.1.2 k.2.1
      have e2 := k.2.2.1 r h.1.1 h.1.2 h.2.1
      rcases Nat.lt_trichotomy r q with z | z | z
      · have := k.2.2.2 r h.1.1 z h.2.1; omega
      · rw [z]
      · have := h.2.2.2 q k.1.1 z k.2.1; omega
theorem upB_is {f : Nat → Bool} {A : Nat → Nat} : ∀ n, isB f A 0 n (upB f A n)
  | 0 => fun j _ h => absurd h (Nat.not_lt_zero j)
  | n + 1 => by
    have ih := upB_is (f := f) (A := A) n
    simp only [upB]
    cases e : upB f A n with
    | none =>
      rw [e] at ih
      simp only []
      by_cases q : f n = true
      · rw [if_pos q]
        refine ⟨⟨by omega, by omega⟩, q, fun j _ hj fj => ?_, fun j _ hj fj => ?_⟩
        · by_cases z : j = n
          · rw [z]; exact Nat.le_refl _
          · rw [ih j (by omega) (by omega)] at fj; cases fj
        · rw [ih j (by omega) hj] at fj; cases fj
      · rw [if_neg q]
        intro j _ hj
        by_cases z : j = n
        · subst z; exact Bool.eq_false_iff.mpr q
        · exact ih j (by omega) (by omega)
    | some k =>
      rw [e] at ih
      simp only []
      obtain ⟨⟨a1, a2⟩, a3, a4, a5⟩ := ih
      by_cases q : f n = true ∧ A n < A k
      · rw [if_pos q]
        refine ⟨⟨by omega, by omega⟩, q.1, fun j _ hj fj => ?_, fun j _ hj fj => ?_⟩
        · by_cases z : j = n
          · rw [z]; exact Nat.le_refl _
          · have := a4 j (by omega) (by omega) fj; omega
        · have := a4 j (by omega) hj fj; omega
      · rw [if_neg q]
        refine ⟨⟨a1, by omega⟩, a3, fun j _ hj fj => ?_, a5⟩
        by_cases z : j = n
        · subst z
          rcases Nat.lt_or_ge (A j) (A k) with w | w
          · exact absurd ⟨fj, w⟩ q
          · exact w
        · exact a4 j (by omega) (by omega) fj
theorem dnB_is {f : Nat → Bool} {A : Nat → Nat} {R : Nat} : ∀ i, i ≤ R → isB f A (R - i) R (dnB f A R i)
  | 0, _ => fun j h1 h2 => by omega
  | i + 1, hi => by
    have ih := dnB_is (f := f) (A := A) (R := R) i (by omega)
    simp only [dnB]
    have hm : R - i - 1 = R - (i + 1) := by omega
    cases e : dnB f A R i with
    | none =>
      rw [e] at ih
      simp only []
      by_cases q : f (R - i - 1) = true
      · rw [if_pos q]
        refine ⟨⟨by omega, by omega⟩, q, fun j h1 hj fj => ?_, fun j h1 hj fj => by omega⟩
        by_cases z : j = R - i - 1
        · rw [z]; exact Nat.le_refl _
        · rw [ih j (by omega) (by omega)] at fj; cases fj
      · rw [if_neg q]
        intro j h1 hj
        by_cases z : j = R - i - 1
        · rw [z]; exact Bool.eq_false_iff.mpr q
        · exact ih j (by omega) (by omega)
    | some k =>
      rw [e] at ih
      simp only []
      obtain ⟨⟨a1, a2⟩, a3, a4, a5⟩ := ih
      by_cases q : f (R - i - 1) = true ∧ A (R - i - 1) ≤ A k
      · rw [if_pos q]
        refine ⟨⟨by omega, by omega⟩, q.1, fun j h1 hj fj => ?_, fun j h1 hj fj => by omega⟩
        by_cases z : j = R - i - 1
        · rw [z]; exact Nat.le_refl _
        · have := a4 j (by omega) (by omega) fj; omega
      · rw [if_neg q]
        have hlt : f (R - i - 1) = true → A k < A (R - i - 1) := fun w => by
          rcases Nat.lt_or_ge (A k) (A (R - i - 1)) with v | v
          · exact v
          · exact absurd ⟨w, v⟩ q
        refine ⟨⟨by omega, a2⟩, a3, fun j h1 hj fj => ?_, fun j h1 hj fj => ?_⟩
        · by_cases z : j = R - i - 1
          · subst z; have := hlt fj; omega
          · exact a4 j (by omega) (by omega) fj
        · by_cases z : j = R - i - 1
          · subst z; exact hlt fj
          · exact a5 j (by omega) hj fj
theorem up_dn {f : Nat → Bool} {A : Nat → Nat} (R : Nat) : upB f A R = dnB f A R R := by
  have h1 := upB_is (f := f) (A := A) R
  have h2 := dnB_is (f := f) (A := A) (R := R) R (Nat.le_refl _)
  rw [Nat.sub_self] at h2
  exact h1.uniq h2
theorem fitB_eq {S : xS} {g : Nat → Nat} {R k : Nat} {w h : Int32} (e : offEq S g R) (hk : k < R) : (rkFits S (g k) w h || rkFits S (g k) h w) = moFitB S w h k := by
  unfold rkFits moFitB
  rw [(e k hk).1, (e k hk).2.1]
  have d1 : decide (h ≤ sA S 212 k) = !decide (sA S 212 k < h) := by
    by_cases q : sA S 212 k < h
    · rw [decide_eq_true q, decide_eq_false (Int32.not_le.mpr q)]; rfl
    · rw [decide_eq_false q, decide_eq_true (Int32.not_lt.mp q)]; rfl
  rw [d1]
  cases decide (sA S 211 k < w) <;> cases decide (sA S 212 k < h) <;> cases decide (sA S 211 k < h) <;> cases decide (sA S 212 k < w) <;> rfl
def offA (S : xS) (k : Nat) : Nat := (sA S 211 k).toNatClampNeg * (sA S 212 k).toNatClampNeg
theorem offA_b {S : xS} {g : Nat → Nat} {R k : Nat} (e : offEq S g R) (hk : k < R) : offA S k ≤ 36000000 ∧ sA S 211 k * sA S 212 k = nI (offA S k) ∧ glSurf S (g k) = lN (offA S k) := by
  obtain ⟨e1, e2, w, h, hw, hh, e3, e4⟩ := e k hk
  unfold offA glSurf
  rw [e1, e2, e3, e4, nI_clamp (by omega), nI_clamp (by omega), nI_mul, nI_l (by omega), nI_l (by omega), lN_mul]
  exact ⟨Nat.mul_le_mul hw hh, rfl, rfl⟩
theorem rkBest_up {S : xS} {g : Nat → Nat} {R : Nat} {w h : Int32} (e : offEq S g R) : ∀ m, m ≤ R → rkBest S g w h m = upB (moFitB S w h) (offA S) m
  | 0, _ => rfl
  | m + 1, hm => by
    have ih := rkBest_up (w := w) (h := h) e m (by omega)
    simp only [rkBest, upB]
    rw [ih, fitB_eq e (by omega)]
    cases q : upB (moFitB S w h) (offA S) m with
    | none => rfl
    | some j =>
      simp only []
      have hj : j < R := by have := rkBest_lt (ih.trans q); omega
      obtain ⟨b1, -, c1⟩ := offA_b e (show m < R by omega)
      obtain ⟨b2, -, c2⟩ := offA_b e hj
      have key : (¬ 0 ≤ lg_cmp (glSurf S (g m)) (glSurf S (g j))) ↔ offA S m < offA S j := by
        rw [lg_cmp_ge, c1, c2, pk_lLE (by omega) (by omega)]
        omega
      by_cases z : moFitB S w h m = true ∧ offA S m < offA S j
      · rw [if_pos z, if_pos ⟨z.1, key.mpr z.2⟩]
      · rw [if_neg z, if_neg (fun v => z ⟨v.1, key.mp v.2⟩)]
theorem moFt_dn {S : xS} {g : Nat → Nat} {R : Nat} {w h : Int32} (e : offEq S g R) : ∀ i, i ≤ R → moFt S w h R i = dnB (moFitB S w h) (offA S) R i
  | 0, _ => rfl
  | i + 1, hi => by
    have ih := moFt_dn (w := w) (h := h) e i (by omega)
    simp only [moFt, dnB, moFtS]
    rw [ih]
    cases q : dnB (moFitB S w h) (offA S) R i with
    | none => rfl
    | some b =>
      simp only []
      have hb : b < R := moFt_lt (by omega) (ih.trans q)
      obtain ⟨b1, c1, -⟩ := offA_b e (show R - i - 1 < R by omega)
      obtain ⟨b2, c2, -⟩ := offA_b e hb
      have key : (decide (sA S 211 (R - i - 1) * sA S 212 (R - i - 1) ≤ sA S 211 b * sA S 212 b) = true) ↔ offA S (R - i - 1) ≤ offA S b := by
        rw [decide_eq_true_iff, c1, c2]
        exact nI_leI (by omega) (by omega)
      by_cases z : moFitB S w h (R - i - 1) = true ∧ offA S (R - i - 1) ≤ offA S b
      · rw [if_pos z, if_pos ⟨z.1, key.mpr z.2⟩]
      · rw [if_neg z, if_neg (fun v => z ⟨v.1, key.mp v.2⟩)]
theorem fit_eq {S : xS} {g : Nat → Nat} {R : Nat} {w h : Int32} (e : offEq S g R) : rkBest S g w h R = moFt S w h R R := by
  rw [rkBest_up e R (Nat.le_refl _), moFt_dn e R (Nat.le_refl _), up_dn]
