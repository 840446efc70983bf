/-! panes that move between open, planned and done -/
def seqC (f : Nat → Option Nat) (x : Nat) : Nat → Nat
  | 0 => 0
  | k + 1 => if f k = some x then seqC f x k + 1 else seqC f x k
theorem seqC_c {f f' : Nat → Option Nat} {x : Nat} : ∀ {k : Nat}, (∀ q, q < k → f q = f' q) → seqC f x k = seqC f' x k
  | 0, _ => rfl
  | k + 1, h => by
    simp only [seqC]
    rw [h k (by omega), seqC_c (fun q hq => h q (by omega))]
theorem cntN_c {f f' : Nat → Option Nat} : ∀ {k : Nat}, (∀ q, q < k → f q = f' q) → cntN f k = cntN f' k
  | 0, _ => rfl
  | k + 1, h => by
    simp only [cntN]
    rw [h k (by omega), cntN_c (fun q hq => h q (by omega))]
theorem seqC_0 {f : Nat → Option Nat} {x : Nat} : ∀ {k : Nat}, (∀ q, q < k → f q ≠ some x) → seqC f x k = 0
  | 0, _ => rfl
  | k + 1, h => by
    simp only [seqC]
    rw [if_neg (h k (by omega))]
    exact seqC_0 (fun q hq => h q (by omega))
theorem seqC_sum {f : Nat → Option Nat} {x : Nat} : ∀ k, seqC f x k = sumN (fun q => if f q = some x then 1 else 0) k
  | 0 => rfl
  | k + 1 => by
    simp only [seqC, sumN]
    rw [seqC_sum k]
    split <;> rfl
theorem sumN_up {f f' : Nat → Nat} {j : Nat} : ∀ {n : Nat}, j < n → (∀ i, i < n → i ≠ j → f' i = f i) → sumN f' n + f j = sumN f n + f' j
  | 0, h, _ => by omega
  | n + 1, h, he => by
    simp only [sumN]
    by_cases e : j = n
    · subst e
      rw [sumN_c (f := f') (g := f) (fun i hi => he i (by omega) (by omega))]
      omega
    · have := sumN_up (n := n) (by omega) (fun i hi hij => he i (by omega) hij)
      have := he n (by omega) (by omega)
      omega
theorem bkSeq_N {S : xS} {oa : Nat → Nat} {D : Nat → Nat → Int32} {f : Nat → Option Nat} {i j x p o : Nat} (hij : i ≠ j) (hi : D x i = nI p) (hj : D x j = nI o) : ∀ k, seqC f x k ≤ p → (bkSeq S oa D f i j k).2 x i = nI (p - seqC f x k) ∧ (bkSeq S oa D f i j k).2 x j = nI (o + seqC f x k) ∧ ∀ q, q ≠ i → q ≠ j → (bkSeq S oa D f i j k).2 x q = D x q
  | 0, _ => ⟨hi, hj, fun _ _ _ => rfl⟩
  | k + 1, h => by
    simp only [seqC] at h ⊢
    cases e : f k with
    | none =>
      rw [bkSeq_n e]
      rw [e, if_neg (by simp)] at h
      rw [if_neg (by simp)]
      exact bkSeq_N hij hi hj k h
    | some y =>
      rw [bkSeq_s e]
      simp only []
      by_cases z : y = x
      · subst z
        rw [e, if_pos rfl] at h
        rw [if_pos rfl]
        obtain ⟨a1, a2, a3⟩ := bkSeq_N (S := S) (oa := oa) (f := f) hij hi hj k (by omega)
        unfold bkD
        rw [va_up_self]
        refine ⟨?_, ?_, fun q q1 q2 => ?_⟩
        · rw [va_up_ne _ _ hij, va_up_self, a1, nI_subN (by omega)]
          congr 1
        · rw [va_up_self, a2, nI_add]
          congr 1
        · rw [va_up_ne _ _ q2, va_up_ne _ _ q1]; exact a3 q q1 q2
      · have hz : ¬ (some y = some x) := fun u => z (Option.some.inj u)
        rw [e, if_neg hz] at h
        rw [if_neg hz]
        unfold bkD
        rw [va_up_ne _ _ (fun u => z u.symm)]
        exact bkSeq_N hij hi hj k h
theorem moSeq_N {S : xS} {f : Nat → Option Nat} {a b x p o : Nat} (hab : a ≠ b) (ha : sA S a x = nI p) (hb : sA S b x = nI o) : ∀ k, seqC f x k ≤ p → sA (moSeq S f a b k) a x = nI (p - seqC f x k) ∧ sA (moSeq S f a b k) b x = nI (o + seqC f x k)
  | 0, _ => ⟨ha, hb⟩
  | k + 1, h => by
    simp only [seqC] at h ⊢
    cases e : f k with
    | none =>
      rw [moSeq_n e]
      rw [e, if_neg (by simp)] at h
      rw [if_neg (by simp)]
      exact moSeq_N hab ha hb k h
    | some y =>
      rw [moSeq_s e]
      unfold moMv
      by_cases z : y = x
      · subst z
        rw [e, if_pos rfl] at h
        rw [if_pos rfl]
        obtain ⟨a1, a2⟩ := moSeq_N (S := S) (f := f) hab ha hb k (by omega)
        refine ⟨?_, ?_⟩
        · rw [sA_uAn _ _ _ hab, sA_uA, va_up_self, a1, nI_subN (by omega)]
          congr 1
        · rw [sA_uA, va_up_self, a2, nI_add]
          congr 1
      · have hz : ¬ (some y = some x) := fun u => z (Option.some.inj u)
        rw [e, if_neg hz] at h
        rw [if_neg hz]
        rw [sA_uAn _ _ _ hab, sA_uA, va_up_ne _ _ (fun u => z u.symm), sA_uA, va_up_ne _ _ (fun u => z u.symm), sA_uAn _ _ _ (fun u => hab u.symm)]
        exact moSeq_N hab ha hb k h
theorem moSeq_A {S : xS} {f : Nat → Option Nat} {a b q : Nat} (h1 : q ≠ a) (h2 : q ≠ b) : ∀ k, sA (moSeq S f a b k) q = sA S q
  | 0 => rfl
  | k + 1 => by
    cases e : f k with
    | none => rw [moSeq_n e]; exact moSeq_A h1 h2 k
    | some y =>
      rw [moSeq_s e]
      unfold moMv
      rw [sA_uAn _ _ _ h2, sA_uAn _ _ _ h1]
      exact moSeq_A h1 h2 k
theorem moSeq_out {S : xS} {f : Nat → Option Nat} {a b q x : Nat} : ∀ k, (∀ i, i < k → f i ≠ some x) → sA (moSeq S f a b k) q x = sA S q x
  | 0, _ => rfl
  | k + 1, h => by
    cases e : f k with
    | none => rw [moSeq_n e]; exact moSeq_out k (fun i hi => h i (by omega))
    | some y =>
      have hy : x ≠ y := fun u => h k (by omega) (by rw [e, u])
      rw [moSeq_s e]
      unfold moMv
      have e1 : ∀ (Z : xS) (u : Nat) (z : Int32), sA (uA Z u y z) q x = sA Z q x := fun Z u z => by
        by_cases e : q = u
        · subst e
          rw [sA_uA, va_up_ne _ _ hy]
        · rw [sA_uAn _ _ _ e]
      rw [e1, e1]
      exact moSeq_out k (fun i hi => h i (by omega))
theorem moSeq_lo {S : xS} {f : Nat → Option Nat} {a b : Nat} (ha : 186 ≤ a) (hb : 186 ≤ b) : ∀ k, loE S (moSeq S f a b k)
  | 0 => loE.rf
  | k + 1 => by
    cases e : f k with
    | none => rw [moSeq_n e]; exact moSeq_lo ha hb k
    | some y =>
      rw [moSeq_s e]
      unfold moMv
      exact ((moSeq_lo ha hb k).A ha).A hb
theorem moSeq_FJ {S : xS} {f : Nat → Option Nat} {a b : Nat} : ∀ k, sF (moSeq S f a b k) = sF S ∧ sJ (moSeq S f a b k) = sJ S
  | 0 => ⟨rfl, rfl⟩
  | k + 1 => by
    cases e : f k with
    | none => rw [moSeq_n e]; exact moSeq_FJ k
    | some y =>
      rw [moSeq_s e]
      exact moSeq_FJ k
/-- an order of which c panes have moved from planned to open -/
theorem orQ.back {S S' : xS} {D D' : Nat → Int32} {k p c : Nat} (q : orQ S D k p) (hc : c ≤ p) (d3 : ∃ o, D 3 = nI o ∧ o ≤ 6 ∧ D' 3 = nI (o + c) ∧ sA S' 208 k = nI (o + c)) (d4 : D' 4 = nI (p - c)) (dq : ∀ i, i ≠ 3 → i ≠ 4 → D' i = D i) (s9 : sA S' 209 k = nI (p - c)) (sq : ∀ i, 205 ≤ i → i ≤ 210 → i ≠ 208 → i ≠ 209 → sA S' i k = sA S i k) : orQ S' D' k (p - c) := by
  obtain ⟨w, h, o, d, ⟨b1, b2, b3⟩, ⟨⟨e1, e2⟩, ⟨e3, e4, e5⟩⟩, ⟨⟨g1, g2⟩, ⟨g3, g4, g5⟩⟩, e6⟩ := q
  obtain ⟨o', f1, f2, f3, f4⟩ := d3
  have eo : o = o' := (nI_eq (by omega) (by omega)).mp (e3.symm.trans f1)
  subst eo
  refine ⟨w, h, o + c, d, ⟨b1, b2, by omega⟩, ⟨⟨by rw [dq _ (by decide) (by decide)]; exact e1, by rw [dq _ (by decide) (by decide)]; exact e2⟩, ⟨f3, d4, by rw [dq _ (by decide) (by decide)]; exact e5⟩⟩, ⟨⟨by rw [sq _ (by decide) (by decide) (by decide) (by decide)]; exact g1, by rw [sq _ (by decide) (by decide) (by decide) (by decide)]; exact g2⟩, ⟨f4, s9, by rw [sq _ (by decide) (by decide) (by decide) (by decide)]; exact g5⟩⟩, by rw [dq _ (by decide) (by decide), sq _ (by decide) (by decide) (by decide) (by decide)]; exact e6⟩
theorem pa_eq {S : xS} {j n : Nat} (hnd : ∀ i, i < n → ndEq S (72 + 15 * j) (160 * j + i) i) : ∀ q, q < n → paF S (72 + 15 * j) 0 q = moPaF S j q := fun q hq => by
  obtain ⟨⟨e1, e2, e3, e4, e5, e6⟩, -⟩ := hnd q hq
  unfold paF moPaF
  rw [Nat.zero_add, e1, e6]
/-- the panes of a tree of which the root waits, all of them unfinished -/
theorem un_seq {S : xS} {j n x N f0 : Nat} {L : List nd} {σ : Nat → Nat} (hN : N ≤ 6) (hmk : ∀ i, i < n → sA S (72 + 15 * j + 1) i = nI 2 → ∃ y, y < N ∧ sA S (72 + 15 * j + 6) i = nI y) (hl : L.length = n) (hnd : ∀ i v, L[i]? = some v → ndX S j i v (σ i)) (hs : ∀ q, f0 + q < n → σ (f0 + q) = 0 ∨ σ (f0 + q) = 1) (hx : x < 2 ^ 30) : ∀ k, f0 + k ≤ n → seqC (paF S (72 + 15 * j) f0) x k = sumN (fun q => unI S x j (f0 + q)) k := fun k hk => by
  rw [seqC_sum]
  refine sumN_c (fun q hq => ?_)
  have hv : L[f0 + q]? = some (L[f0 + q]'(by omega)) := List.getElem?_eq_getElem (by omega)
  have z := hnd _ _ hv
  have zs := z.1.2.2.2
  unfold unI paF
  by_cases e : sA S (72 + 15 * j + 1) (f0 + q) = nI 2
  · obtain ⟨y, hy, ey⟩ := hmk (f0 + q) (by omega) e
    rw [if_pos e, ey, nI_clamp (by omega)]
    have hst : sA S (72 + 15 * j + 8) (f0 + q) = nI 0 ∨ sA S (72 + 15 * j + 8) (f0 + q) = nI 1 := by
      rw [zs]
      rcases hs q (by omega) with u | u <;> rw [u] <;> simp
    by_cases u : y = x
    · subst u
      rw [if_pos rfl, if_pos ⟨e, rfl, hst⟩]
    · rw [if_neg (fun v => u (Option.some.inj v)), if_neg (fun v => u ((nI_eq (by omega) (by omega)).mp v.2.1))]
  · rw [if_neg e, if_neg (by simp), if_neg (fun v => e v.1)]
