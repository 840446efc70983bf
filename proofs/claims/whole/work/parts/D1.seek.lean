/-! the searches of exact, side by side -/
theorem nCH_le {Y : lY} {c m : Nat} (h : lyB Y m) : ∀ k, nCH Y c m k ≤ 6000 * k
  | 0 => Nat.le_refl _
  | k + 1 => by
    have := nCH_le (c := c) h k
    have := nRH_le (c := c) (r := k) h m (Nat.le_refl _)
    simp only [nCH]
    omega
theorem nSum_le {Y : lY} {m : Nat} (h : lyB Y m) (hm : m ≤ 36) : ∀ k, nSum Y m k ≤ 216000 * k
  | 0 => Nat.le_refl _
  | k + 1 => by
    have := nSum_le h hm k
    have : nCWt Y m k ≤ 216000 := nCW_le (fun r => by have := nRW_le (c := k) (r := r) h m (Nat.le_refl _); omega) _
    simp only [nSum]
    omega
theorem beq_iff {a b : Bool} (h : a = true ↔ b = true) : a = b := by
  cases a <;> cases b <;> simp_all
theorem laFit_y {S : xS} {Y : lY} {b n W H : Nat} (h : lyOf S Y n) (hB : lyB Y n) (hn : n ≤ 36) (hw : sF S b 4 = nI W) (hh : sF S b 5 = nI H) (hW : W ≤ 6000 ∧ H ≤ 6000) : laFit S b n = lyFb Y n W H := by
  have hco := nCo_le hB n (Nat.le_refl _)
  refine beq_iff ?_
  rw [lyFb_iff]
  unfold laFit lyFt
  rw [Bool.and_eq_true, List.all_eq_true, decide_eq_true_eq, laCols_y h hB n (Nat.le_refl _), nI_clamp (by omega), laSum_y h hB hn _ (by omega), hw, nI_leI (by have := nSum_le hB hn (nCo Y n); omega) (by omega)]
  refine and_congr ⟨fun q c hc => ?_, fun q c hc => ?_⟩ Iff.rfl
  · have hro := nRo_le (c := c) hB n (Nat.le_refl _)
    have z := of_decide_eq_true (q c (List.mem_range.mpr hc))
    rw [laRows_y h hB (by omega) n (Nat.le_refl _), nI_clamp (by omega), laCH_y h hB (by omega) _ (by omega), hh] at z
    exact (nI_leI (by have := nCH_le (c := c) hB (nRo Y c n); omega) (by omega)).mp z
  · have hc := List.mem_range.mp hc
    have hro := nRo_le (c := c) hB n (Nat.le_refl _)
    refine decide_eq_true ?_
    rw [laRows_y h hB (by omega) n (Nat.le_refl _), nI_clamp (by omega), laCH_y h hB (by omega) _ (by omega), hh]
    exact (nI_leI (by have := nCH_le (c := c) hB (nRo Y c n); omega) (by omega)).mpr (q c hc)
theorem moRo_y {S : xS} {Y : lY} {m c : Nat} (h : lyM S Y m) (hB : lyB Y m) (hc : c < 2 ^ 30) : ∀ i, i ≤ m → moRo S (nI c) i = nI (nRo Y c i)
  | 0, _ => rfl
  | i + 1, hi => by
    obtain ⟨a1, a2, a3, a4, a5⟩ := h i (by omega)
    obtain ⟨-, -, b3, b4⟩ := hB i (by omega)
    have hro := nRo_le (c := c) hB i (by omega)
    simp only [moRo, nRo]
    rw [moRo_y h hB hc i (by omega), a4, a5, nI_add]
    by_cases e : yC Y i = c
    · rw [if_pos e]
      by_cases e2 : nRo Y c i ≤ yR Y i
      · rw [if_pos ⟨by rw [e], (nI_leI (by omega) (by omega)).mpr e2⟩, Nat.max_eq_right (by omega)]
      · rw [if_neg (fun z => e2 ((nI_leI (by omega) (by omega)).mp z.2)), Nat.max_eq_left (by omega)]
    · rw [if_neg e, if_neg (fun z => e ((nI_eq (by omega) (by omega)).mp z.1))]
theorem moCo_y {S : xS} {Y : lY} {m : Nat} (h : lyM S Y m) (hB : lyB Y m) : ∀ i, i ≤ m → moCo S i = nI (nCo Y i)
  | 0, _ => rfl
  | i + 1, hi => by
    obtain ⟨a1, a2, a3, a4, a5⟩ := h i (by omega)
    obtain ⟨-, -, b3, b4⟩ := hB i (by omega)
    have hco := nCo_le hB i (by omega)
    simp only [moCo, nCo]
    rw [moCo_y h hB i (by omega), a4, nI_add]
    by_cases e2 : nCo Y i ≤ yC Y i
    · rw [if_pos ((nI_leI (by omega) (by omega)).mpr e2), Nat.max_eq_right (by omega)]
    · rw [if_neg (fun z => e2 ((nI_leI (by omega) (by omega)).mp z)), Nat.max_eq_left (by omega)]
theorem moCH_y {S : xS} {Y : lY} {m c : Nat} (h : lyM S Y m) (hB : lyB Y m) (hc : c < 2 ^ 30) : ∀ R, R < 2 ^ 30 → moCH S (nI c) m R = nI (nCH Y c m R)
  | 0, _ => rfl
  | R + 1, hR => by
    simp only [moCH, nCH]
    rw [moCH_y h hB hc R (by omega), moRH_y h hB hc (by omega) m (Nat.le_refl _), nI_add]
theorem moSW_y {S : xS} {Y : lY} {m : Nat} (h : lyM S Y m) (hB : lyB Y m) (hm : m ≤ 36) : ∀ K, K < 2 ^ 30 → moSW S m K = nI (nSum Y m K)
  | 0, _ => rfl
  | K + 1, hK => by
    simp only [moSW, nSum]
    rw [moSW_y h hB hm K (by omega), moCW_y h hB hm (by omega) m (Nat.le_refl _), nCM_eq, nI_add]
theorem moFits_y {S : xS} {Y : lY} {s n W H : Nat} (h : lyM S Y n) (hB : lyB Y n) (hn : n ≤ 36) (hw : sA S 189 s = nI W) (hh : sA S 190 s = nI H) (hW : W ≤ 6000 ∧ H ≤ 6000) : moFits S s n = lyFb Y n W H := by
  have hco := nCo_le hB n (Nat.le_refl _)
  refine beq_iff ?_
  rw [lyFb_iff]
  unfold moFits lyFt
  rw [Bool.and_eq_true, List.all_eq_true, decide_eq_true_eq, moCo_y h hB n (Nat.le_refl _), nI_clamp (by omega), moSW_y h hB hn _ (by omega), hw, nI_leI (by have := nSum_le hB hn (nCo Y n); omega) (by omega)]
  refine and_congr ⟨fun q c hc => ?_, fun q c hc => ?_⟩ Iff.rfl
  · have hro := nRo_le (c := c) hB n (Nat.le_refl _)
    have z := of_decide_eq_true (q c (List.mem_range.mpr hc))
    rw [moRo_y h hB (by omega) n (Nat.le_refl _), nI_clamp (by omega), moCH_y h hB (by omega) _ (by omega), hh] at z
    exact (nI_leI (by have := nCH_le (c := c) hB (nRo Y c n); omega) (by omega)).mp z
  · have hc := List.mem_range.mp hc
    have hro := nRo_le (c := c) hB n (Nat.le_refl _)
    refine decide_eq_true ?_
    rw [moRo_y h hB (by omega) n (Nat.le_refl _), nI_clamp (by omega), moCH_y h hB (by omega) _ (by omega), hh]
    exact (nI_leI (by have := nCH_le (c := c) hB (nRo Y c n); omega) (by omega)).mpr (q c hc)
/-- a search and what it finds -/
def simO {α : Type} (I : xS → Prop) (Gd : xS → α → Prop) (q : Bool × xS) (r : Option α) : Prop := (∀ z, r = some z → q.1 = true ∧ Gd q.2 z) ∧ (r = none → q.1 = false ∧ I q.2)
section SO
variable {α : Type} {I : xS → Prop} {Gd : xS → α → Prop}
theorem simO.then {q : Bool × xS} {r r' : Option α} {f : xS → Bool × xS} (h : simO I Gd q r) (k : ∀ P, I P → simO I Gd (f P) r') : simO I Gd (tiThen q f) (r.or r') := by
  cases r with
  | some z =>
    have := h.1 z rfl
    rw [tiThen_t this.1]
    exact ⟨fun z' hz => by cases hz; exact this, fun hz => by cases hz⟩
  | none =>
    have := h.2 rfl
    rw [tiThen_f this.1]
    exact k _ this.2
theorem fS_or {p : Nat → Option α} {m i : Nat} : fS p (m + 1) i = (p i).or (fS p m (i + 1)) := by
  simp only [fS]
  cases p i <;> rfl
theorem simO.no {P : xS} (h : I P) : simO I Gd (false, P) none := ⟨(fun z hz => by cases hz), fun _ => ⟨rfl, h⟩⟩
theorem simO.loop {T : Nat → xS → Bool × xS} {Lp : Nat → Nat → xS → Bool × xS} {p : Nat → Option α} {hi : Nat} (h0 : ∀ k P, Lp 0 k P = (false, P)) (hs : ∀ m k P, Lp (m + 1) k P = tiThen (T k P) (Lp m (k + 1))) (hT : ∀ k P, k < hi → I P → simO I Gd (T k P) (p k)) : ∀ m k P, k + m ≤ hi → I P → simO I Gd (Lp m k P) (fS p m k)
  | 0, k, P, _, hP => by rw [h0]; exact simO.no hP
  | m + 1, k, P, hk, hP => by
    rw [hs]
    have := (hT k P (by omega) hP).then (fun P' hP' => simO.loop h0 hs hT m (k + 1) P' (by omega) hP')
    rw [fS_or]
    exact this
end SO
theorem fS_1 {α : Type} {p : Nat → Option α} {i : Nat} : fS p 1 i = p i := by
  simp only [fS]
  cases p i <;> rfl
