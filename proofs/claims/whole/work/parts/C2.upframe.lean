/-! a node comes up, on both sides -/
theorem un_not2 {S Q : xS} {tn : Nat → Nat} {j i k : Nat} {w : Int32} (hj : j < 8) (h1 : ∀ q t, q < 8 → t = 1 ∨ t = 6 → sA Q (72 + 15 * q + t) = sA S (72 + 15 * q + t)) (h2 : ∀ q, q < 8 → q ≠ j → sA Q (72 + 15 * q + 8) = sA S (72 + 15 * q + 8)) (h3 : sA Q (72 + 15 * j + 8) = va_up (sA S (72 + 15 * j + 8)) i w) (hn : sA S (72 + 15 * j + 1) i ≠ nI 2) : unA Q tn k = unA S tn k := by
  unfold unA
  refine sumN_c (fun q hq => ?_)
  by_cases e : q = j
  · subst e
    unfold unJ
    refine sumN_c (fun p _ => ?_)
    unfold unI
    rw [h1 q 1 hj (Or.inl rfl), h1 q 6 hj (Or.inr rfl), h3]
    by_cases z : p = i
    · subst z
      rw [if_neg (fun u => hn u.1), if_neg (fun u => hn u.1)]
    · rw [va_up_ne _ _ z]
  · refine unJ_c rfl (fun t ht => ?_)
    rcases ht with rfl | rfl | rfl
    · exact h1 q 1 hq (Or.inl rfl)
    · exact h1 q 6 hq (Or.inr rfl)
    · exact h2 q hq e
theorem un_is2 {S Q : xS} {tn : Nat → Nat} {j i k x : Nat} {w : Int32} (hj : j < 8) (h1 : ∀ q t, q < 8 → t = 1 ∨ t = 6 → sA Q (72 + 15 * q + t) = sA S (72 + 15 * q + t)) (h2 : ∀ q, q < 8 → q ≠ j → sA Q (72 + 15 * q + 8) = sA S (72 + 15 * q + 8)) (h3 : sA Q (72 + 15 * j + 8) = va_up (sA S (72 + 15 * j + 8)) i w) (hi : i < tn j) (hn : sA S (72 + 15 * j + 1) i = nI 2) (hx : sA S (72 + 15 * j + 6) i = nI x) (hxl : x < 2 ^ 30) (hkl : k < 2 ^ 30) (hw : ¬ (w = nI 0 ∨ w = nI 1)) (ho : sA S (72 + 15 * j + 8) i = nI 0 ∨ sA S (72 + 15 * j + 8) i = nI 1) : unA Q tn k + (if k = x then 1 else 0) = unA S tn k := by
  have e1 := sumN_up (f := unI S k j) (f' := unI Q k j) (j := i) (n := tn j) hi (fun p _ hp => by
    unfold unI
    rw [h1 j 1 hj (Or.inl rfl), h1 j 6 hj (Or.inr rfl), h3, va_up_ne _ _ hp])
  have e2 : unI Q k j i = 0 := by
    unfold unI
    rw [h3, va_up_self, if_neg (fun u => hw u.2.2)]
  have e3 : unI S k j i = if k = x then 1 else 0 := by
    unfold unI
    by_cases z : k = x
    · subst z
      rw [if_pos ⟨hn, hx, ho⟩, if_pos rfl]
    · rw [if_neg (fun u => z ((nI_eq (by omega) (by omega)).mp (u.2.1.symm.trans hx))), if_neg z]
  have e4 := sumN_up (f := unJ S tn k) (f' := unJ Q tn k) (j := j) (n := 8) hj (fun q hq hqj => unJ_c rfl (fun t ht => by
    rcases ht with rfl | rfl | rfl
    · exact h1 q 1 hq (Or.inl rfl)
    · exact h1 q 6 hq (Or.inr rfl)
    · exact h2 q hq hqj))
  rw [e2, e3] at e1
  have e5 : unJ S tn k j = sumN (unI S k j) (tn j) := rfl
  have e6 : unJ Q tn k j = sumN (unI Q k j) (tn j) := rfl
  have e7 : unA S tn k = sumN (unJ S tn k) 8 := rfl
  have e8 : unA Q tn k = sumN (unJ Q tn k) 8 := rfl
  omega
theorem orQ.done {S S' : xS} {D D' : Nat → Int32} {k p : Nat} (q : orQ S D k (p + 1)) (hD : D' = va_up (va_up D 4 (D 4 - nI 1)) 5 (D 5 + nI 1)) (s9 : sA S' 209 k = sA S 209 k - nI 1) (s10 : sA S' 210 k = sA S 210 k + nI 1) (sq : ∀ i, 205 ≤ i → i ≤ 208 → sA S' i k = sA S i k) : orQ S' D' k p := by
  obtain ⟨w, h, o, d, ⟨b1, b2, b3⟩, ⟨⟨e1, e2⟩, ⟨e3, e4, e5⟩⟩, ⟨⟨g1, g2⟩, ⟨g3, g4, g5⟩⟩, e6⟩ := q
  subst hD
  refine ⟨w, h, o, d + 1, ⟨b1, b2, by omega⟩, ⟨⟨?_, ?_⟩, ⟨?_, ?_, ?_⟩⟩, ⟨⟨by rw [sq _ (by decide) (by decide)]; exact g1, by rw [sq _ (by decide) (by decide)]; exact g2⟩, ⟨by rw [sq _ (by decide) (by decide)]; exact g3, ?_, ?_⟩⟩, ?_⟩
  · rw [va_up_ne _ _ (by decide), va_up_ne _ _ (by decide)]; exact e1
  · rw [va_up_ne _ _ (by decide), va_up_ne _ _ (by decide)]; exact e2
  · rw [va_up_ne _ _ (by decide), va_up_ne _ _ (by decide)]; exact e3
  · rw [va_up_ne _ _ (by decide), va_up_self, e4, nI_subN (by omega), Nat.add_sub_cancel]
  · rw [va_up_self, e5, nI_add]
  · rw [s9, g4, nI_subN (by omega), Nat.add_sub_cancel]
  · rw [s10, g5, nI_add]
  · rw [va_up_ne _ _ (by decide), va_up_ne _ _ (by decide), sq _ (by decide) (by decide)]; exact e6
/-- alike, while the tree of the j-th place is on its way -/
def mM (S : xS) (N R E : Nat) (D : Nat → Nat → Int32) (rk g tn fl nc : Nat → Nat) (j : Nat) (L : List nd) (σ : Nat → Nat) : Prop :=
  (cnQ S N R E ∧ arQ S) ∧ (∀ q, q < 8 → shQ S fl q) ∧ (∀ q, q < 8 → q ≠ j → trQ S N tn nc q) ∧ ((L.length = tn j ∧ nc j = tn j ∧ tn j ≤ 145) ∧ (thB S j = true ∧ ¬ sA S 191 j = 0 ∧ sA S 195 j = nI (nc j)) ∧ ∀ i v, L[i]? = some v → ndX S j i v (σ i)) ∧ (∀ k, k < N → orQ S (D k) k (unA S tn k)) ∧ rkSorted S N rk ∧ ((∀ k, k < R → rkQ S (g k) k) ∧ ∀ a b, a < 10 → b < 10 → g a = g b → a = b) ∧ zQ S N
theorem haLet_fr {S : xS} {oa : Nat → Nat} {D : Nat → Nat → Int32} {g : Nat → Nat} {R j m i : Nat} (hj : j < 8) (hg : R < 10 → 7 ≤ g R ∧ g R + 5 ≤ 57) : (∀ o, o ≠ 5 → (R < 10 → o < g R ∨ g R + 5 ≤ o) → sF (haLet S oa D g R j m i) o = sF S o) ∧ (∀ o, o ≠ 72 + 15 * j + 8 → (R < 10 → o < g R ∨ g R + 5 ≤ o) → sA (haLet S oa D g R j m i) o = sA S o) ∧
    (sA (haLet S oa D g R j m i) (72 + 15 * j + 8) = va_up (sA S (72 + 15 * j + 8)) i (if trCut S (72 + 15 * j) i = true then nI 1 else nI 2)) ∧ (∀ o, o ≠ 0 → (R < 10 → o < g R ∨ g R + 5 ≤ o) → sJ (haLet S oa D g R j m i) o = sJ S o) ∧ sN (haLet S oa D g R j m i) = sN S ∧ sL (haLet S oa D g R j m i) = sL S := by
  have hs1 : ∀ o, o ≠ 72 + 15 * j + 8 → sA (haSt S j i) o = sA S o := fun o ho => sA_uAn _ _ _ ho
  have hs2 : sA (haSt S j i) (72 + 15 * j + 8) = va_up (sA S (72 + 15 * j + 8)) i (if trCut S (72 + 15 * j) i = true then nI 1 else nI 2) := sA_uA _ _ _ _
  unfold haLet
  split
  · refine ⟨fun _ _ _ => rfl, fun o ho _ => hs1 o ho, hs2, fun o ho _ => ?_, rfl, rfl⟩
    unfold haDone
    rw [sJ_uJn _ _ _ ho]; rfl
  · split
    · unfold haAway
      split
      · rename_i z
        obtain ⟨g1, g2⟩ := hg z.2
        obtain ⟨K, -, -⟩ := glPart_ok (S := haSt S j i) (b := g R) (a := 67 + 15 * j) (x := sA (haSt S j i) (72 + 15 * j + 2) i) (y := sA (haSt S j i) (72 + 15 * j + 3) i) (w := sA (haSt S j i) (72 + 15 * j + 4) i) (h := sA (haSt S j i) (72 + 15 * j + 5) i) m
        unfold rkAdd
        refine ⟨fun o o5 ho => ?_, fun o o8 ho => ?_, ?_, fun o o0 ho => ?_, ?_, ?_⟩
        · rw [sF_uFn _ _ _ o5, (K.1 o (ho z.2)).1]; rfl
        · exact ((K.1 o (ho z.2)).2.1).trans (hs1 o o8)
        · exact ((K.1 (72 + 15 * j + 8) (by omega)).2.1).trans hs2
        · exact (K.1 o (ho z.2)).2.2.1
        · exact K.2.2.1
        · exact K.2.2.2
      · refine ⟨fun _ _ _ => rfl, fun o ho _ => hs1 o ho, hs2, fun o ho _ => ?_, rfl, rfl⟩
        rw [sJ_uJn _ _ _ ho]; rfl
    · exact ⟨fun _ _ _ => rfl, fun o ho _ => hs1 o ho, hs2, fun o ho _ => rfl, rfl, rfl⟩
theorem moArr_fr {S : xS} {s n R fl : Nat} : (∀ o, o ≠ 186 → sF (moArr S s n R fl) o = sF S o) ∧ (∀ k, k ≠ 27 → sF (moArr S s n R fl) 186 k = sF S 186 k) ∧ sA (moArr S s n R fl) 204 = va_up (sA S 204) n (if sA S 196 n < nI 2 then nI 1 else nI 2) ∧ (∀ o, o ≠ 186 → sJ (moArr S s n R fl) o = sJ S o) := by
  have hs2 : sA (moA1 S n) 204 = va_up (sA S 204) n (if sA S 196 n < nI 2 then nI 1 else nI 2) := sA_uA _ _ _ _
  unfold moArr
  split
  · refine ⟨fun _ _ => rfl, fun _ _ => rfl, ?_, fun o ho => ?_⟩
    · have q : ∀ (Z : xS) (a c : Nat) (b d : Int32) (e : Int64), sA (uJ (uA (uA Z 209 a b) 210 c d) 186 32 e) 204 = sA Z 204 := fun Z a c b d e => by
        show sA (uA (uA Z 209 a b) 210 c d) 204 = _
        rw [sA_uAn _ _ _ (by decide), sA_uAn _ _ _ (by decide)]
      rw [q]; exact hs2
    · rw [sJ_uJn _ _ _ ho]; rfl
  · split
    · split
      · unfold moStore
        obtain ⟨K, -, -, KF⟩ := moStL_K (S := moA1 S n) (o := R) (n := n) (s := s) fl
        refine ⟨fun o ho => ?_, fun k hk => ?_, ?_, fun o ho => ?_⟩
        · rw [sF_uFn _ _ _ ho, KF]; rfl
        · rw [sF_uF, va_up_ne _ _ hk, KF]; rfl
        · exact ((K.1 204 (by omega)).2.1).trans hs2
        · show sJ (moStL (moA1 S n) R n s fl).1 o = _
          rw [(moStL_R fl).2]; rfl
      · refine ⟨fun _ _ => rfl, fun _ _ => rfl, hs2, fun o ho => ?_⟩
        rw [sJ_uJn _ _ _ ho]; rfl
    · exact ⟨fun _ _ => rfl, fun _ _ => rfl, hs2, fun _ _ => rfl⟩
theorem moStL_at {S : xS} {o n s a p : Nat} (h : (211 ≤ a ∧ a ≤ 213 ∧ p ≠ o) ∨ (a = 214 ∧ (p < 24 * o ∨ 24 * o + 24 ≤ p))) : ∀ k, k ≤ 6 → sA (moStL S o n s k).1 a p = sA S a p
  | 0, _ => by
    have e1 : ∀ (Z : xS) (u : Nat) (z : Int32), 211 ≤ u → u ≤ 213 → sA (uA Z u o z) a p = sA Z a p := fun Z u z u1 u2 => by
      by_cases e : a = u
      · subst e
        rw [sA_uA, va_up_ne _ _ (by omega)]
      · rw [sA_uAn _ _ _ e]
    show sA (moSt0 S o n) a p = _
    unfold moSt0
    rw [e1 _ _ _ (by decide) (by decide), e1 _ _ _ (by decide) (by decide), e1 _ _ _ (by decide) (by decide)]
  | k + 1, hk => by
    have ih := moStL_at (S := S) (n := n) (s := s) h k (by omega)
    have hl := (moStL_K (S := S) (o := o) (n := n) (s := s) k).2.2.1
    simp only [moStL]
    split
    · rw [← ih]
      obtain ⟨M, hM⟩ : ∃ M, M = moStL S o n s k := ⟨_, rfl⟩
      rw [← hM] at hl ⊢
      simp only []
      unfold moStA
      have e1 : ∀ (Z : xS) (u : Nat) (z : Int32), 24 * o ≤ u → u < 24 * o + 24 → sA (uA Z 214 u z) a p = sA Z a p := fun Z u z u1 u2 => by
        by_cases e : a = 214
        · subst e
          rw [sA_uA, va_up_ne _ _ (by omega)]
        · rw [sA_uAn _ _ _ e]
      have e2 : ∀ (Z : xS) (z : Int32), sA (uA Z 213 o z) a p = sA Z a p := fun Z z => by
        by_cases e : a = 213
        · subst e
          rw [sA_uA, va_up_ne _ _ (by omega)]
        · rw [sA_uAn _ _ _ e]
      rw [e2, e1 _ _ _ (by omega) (by omega), e1 _ _ _ (by omega) (by omega), e1 _ _ _ (by omega) (by omega), e1 _ _ _ (by omega) (by omega)]
    · exact ih
