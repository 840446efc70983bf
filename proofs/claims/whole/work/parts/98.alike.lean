/-! class and reference: what is alike -/
/-- a flaw, the same on both sides, inside a glass of w by h -/
def flQ (S : xS) (b a p w h k : Nat) : Prop := ∃ x y u v, (x + u ≤ w ∧ y + v ≤ h ∧ 1 ≤ u ∧ 1 ≤ v) ∧ (sA S (b + 1) k = nI x ∧ sA S (b + 2) k = nI y ∧ sA S (b + 3) k = nI u ∧ sA S (b + 4) k = nI v) ∧ sA S a (p + 4 * k) = nI x ∧ sA S a (p + 4 * k + 1) = nI y ∧ sA S a (p + 4 * k + 2) = nI u ∧ sA S a (p + 4 * k + 3) = nI v
theorem flQ.c {S S' : xS} {b a p w h k b' : Nat} (q : flQ S b a p w h k) (h1 : ∀ t, 1 ≤ t → t ≤ 4 → sA S' (b' + t) k = sA S (b + t) k) (h2 : ∀ i, i < 4 → sA S' a (p + 4 * k + i) = sA S a (p + 4 * k + i)) : flQ S' b' a p w h k := by
  obtain ⟨x, y, u, v, q1, ⟨a1, a2, a3, a4⟩, a5, a6, a7, a8⟩ := q
  exact ⟨x, y, u, v, q1, ⟨(h1 1 (by omega) (by omega)).trans a1, (h1 2 (by omega) (by omega)).trans a2, (h1 3 (by omega) (by omega)).trans a3, (h1 4 (by omega) (by omega)).trans a4⟩, (h2 0 (by omega)).trans a5, (h2 1 (by omega)).trans a6, (h2 2 (by omega)).trans a7, (h2 3 (by omega)).trans a8⟩
/-- the glass and the flaws of the j-th place -/
def shQ (S : xS) (fl : Nat → Nat) (j : Nat) : Prop := ∃ w h, (w ≤ 6000 ∧ h ≤ 6000) ∧ ((sF S (67 + 15 * j) 4 = nI w ∧ sF S (67 + 15 * j) 5 = nI h) ∧ sA S 189 j = nI w ∧ sA S 190 j = nI h) ∧ (thB S j = true → 1 ≤ w ∧ 1 ≤ h) ∧ (sA S 193 j = nI (fl j) ∧ ∀ k, k < fl j → flQ S (67 + 15 * j) 194 (24 * j) w h k) ∧ (thB S j = true ↔ ¬ sA S 187 j = 0) ∧ sF S (66 + 15 * j) 3 = sA S 188 j
theorem shQ.c {S S' : xS} {fl fl' : Nat → Nat} {j : Nat} (q : shQ S fl j) (hf : fl' j = fl j) (h6 : fl j ≤ 6) (h66 : sF S' (66 + 15 * j) = sF S (66 + 15 * j)) (h67 : ∀ t, t ≠ 6 → sF S' (67 + 15 * j) t = sF S (67 + 15 * j) t) (hA : ∀ t, 1 ≤ t → t ≤ 4 → sA S' (67 + 15 * j + t) = sA S (67 + 15 * j + t))
    (hM : ∀ o, (187 ≤ o ∧ o ≤ 190) ∨ o = 193 → sA S' o j = sA S o j) (h194 : ∀ i, i < 24 → sA S' 194 (24 * j + i) = sA S 194 (24 * j + i)) : shQ S' fl' j := by
  obtain ⟨w, h, q1, ⟨⟨q2, q3⟩, q4, q5⟩, q6, ⟨q7, q8⟩, q9, q10⟩ := q
  have ht : thB S' j = thB S j := by unfold thB; rw [h66]
  refine ⟨w, h, q1, ⟨⟨(h67 4 (by decide)).trans q2, (h67 5 (by decide)).trans q3⟩, (hM _ (by omega)).trans q4, (hM _ (by omega)).trans q5⟩, by rw [ht]; exact q6, ⟨by rw [hf, hM _ (by omega)]; exact q7, fun k hk => ?_⟩, by rw [ht, hM _ (by omega)]; exact q9, by rw [h66, hM _ (by omega)]; exact q10⟩
  rw [hf] at hk
  refine (q8 k hk).c (fun t t1 t4 => by rw [hA t t1 t4]) (fun i hi => ?_)
  rw [show 24 * j + 4 * k + i = 24 * j + (4 * k + i) by omega]
  exact h194 _ (by omega)
/-- a node, the same on both sides, in state s -/
def ndX (S : xS) (j i : Nat) (v : nd) (s : Nat) : Prop := ((sA S (72 + 15 * j + 1) i = nI v.1 ∧ sA S (72 + 15 * j + 2) i = nI v.2.1 ∧ sA S (72 + 15 * j + 3) i = nI v.2.2.1) ∧ (sA S (72 + 15 * j + 4) i = nI v.2.2.2.1 ∧ sA S (72 + 15 * j + 5) i = nI v.2.2.2.2.1 ∧ sA S (72 + 15 * j + 6) i = v.2.2.2.2.2.1) ∧ sA S (72 + 15 * j + 7) i = (if v.2.2.2.2.2.2 = 0 then -1 else nI (i + v.2.2.2.2.2.2)) ∧ sA S (72 + 15 * j + 8) i = nI s) ∧
  (sA S 196 (160 * j + i) = nI v.1 ∧ sA S 197 (160 * j + i) = nI v.2.1 ∧ sA S 198 (160 * j + i) = nI v.2.2.1) ∧ (sA S 199 (160 * j + i) = nI v.2.2.2.1 ∧ sA S 200 (160 * j + i) = nI v.2.2.2.2.1 ∧ sA S 201 (160 * j + i) = v.2.2.2.2.2.1) ∧ (sA S 202 (160 * j + i) = (if v.2.2.2.2.2.2 = 0 then -1 else nI (i + 1)) ∧ sA S 203 (160 * j + i) = (if v.2.2.2.2.2.2 = 0 then -1 else nI (i + v.2.2.2.2.2.2))) ∧ sA S 204 (160 * j + i) = nI s
theorem ndX.c {S S' : xS} {j i : Nat} {v : nd} {s s' : Nat} (q : ndX S j i v s) (h1 : ∀ t, 1 ≤ t → t ≤ 7 → sA S' (72 + 15 * j + t) i = sA S (72 + 15 * j + t) i) (h2 : ∀ o, 196 ≤ o → o ≤ 203 → sA S' o (160 * j + i) = sA S o (160 * j + i)) (e1 : sA S' (72 + 15 * j + 8) i = nI s') (e2 : sA S' 204 (160 * j + i) = nI s') : ndX S' j i v s' := by
  obtain ⟨⟨⟨a1, a2, a3⟩, ⟨a4, a5, a6⟩, a7, a8⟩, ⟨b1, b2, b3⟩, ⟨b4, b5, b6⟩, ⟨b7, b8⟩, b9⟩ := q
  exact ⟨⟨⟨(h1 1 (by omega) (by omega)).trans a1, (h1 2 (by omega) (by omega)).trans a2, (h1 3 (by omega) (by omega)).trans a3⟩, ⟨(h1 4 (by omega) (by omega)).trans a4, (h1 5 (by omega) (by omega)).trans a5, (h1 6 (by omega) (by omega)).trans a6⟩, (h1 7 (by omega) (by omega)).trans a7, e1⟩,
    ⟨(h2 196 (by omega) (by omega)).trans b1, (h2 197 (by omega) (by omega)).trans b2, (h2 198 (by omega) (by omega)).trans b3⟩, ⟨(h2 199 (by omega) (by omega)).trans b4, (h2 200 (by omega) (by omega)).trans b5, (h2 201 (by omega) (by omega)).trans b6⟩, ⟨(h2 202 (by omega) (by omega)).trans b7, (h2 203 (by omega) (by omega)).trans b8⟩, e2⟩
def trG (S : xS) (j n : Nat) : Prop := ∃ (L : List nd) (σ : Nat → Nat) (w h : Nat), L.length = n ∧ ((w ≤ 6000 ∧ h ≤ 6000) ∧ ∀ i v, L[i]? = some v → σ i = 1 → v.1 ≠ 3) ∧ (∃ f, isT f L 0 0 w h) ∧ (∃ f, tS f L σ 0) ∧ (∃ i, i < n ∧ σ i = 1) ∧ (∀ i, σ i ≤ 3) ∧ (∀ i v, L[i]? = some v → ndX S j i v (σ i)) ∧ (sA S 192 j = 0 ↔ σ 0 = 1)
/-- the tree of the j-th place -/
def trQ (S : xS) (N : Nat) (tn nc : Nat → Nat) (j : Nat) : Prop := (thB S j = true → (0 < tn j ↔ ¬ sA S 191 j = 0)) ∧ (thB S j = false → tn j = 0) ∧ (sA S 195 j = nI (nc j) ∧ nc j ≤ 145) ∧ (∀ i, i < nc j → sA S 196 (160 * j + i) = nI 2 → ∃ x, x < N ∧ sA S 201 (160 * j + i) = nI x) ∧ (0 < tn j → nc j = tn j ∧ trG S j (tn j))
theorem trG.c {S S' : xS} {j n : Nat} (q : trG S j n) (h1 : ∀ t, 1 ≤ t → t ≤ 8 → sA S' (72 + 15 * j + t) = sA S (72 + 15 * j + t)) (h2 : ∀ o i, 196 ≤ o → o ≤ 204 → i < n → sA S' o (160 * j + i) = sA S o (160 * j + i)) (h3 : sA S' 192 j = sA S 192 j) : trG S' j n := by
  obtain ⟨L, σ, w, h, q1, q2, q3, q4, q5, q6, q7, q8⟩ := q
  refine ⟨L, σ, w, h, q1, q2, q3, q4, q5, q6, fun i v hv => ?_, by rw [h3]; exact q8⟩
  have hi := (List.getElem?_eq_some_iff.mp hv).1
  have z := q7 i v hv
  refine z.c (fun t t1 t7 => by rw [h1 t t1 (by omega)]) (fun o o1 o2 => h2 o i o1 (by omega) (by omega)) ?_ ?_
  · rw [h1 8 (by omega) (by omega)]; exact z.1.2.2.2
  · rw [h2 204 i (by omega) (by omega) (by omega)]; exact z.2.2.2.2
theorem trQ.c {S S' : xS} {N N' : Nat} {tn nc tn' nc' : Nat → Nat} {j : Nat} (q : trQ S N tn nc j) (hN : N ≤ N') (e1 : tn' j = tn j) (e2 : nc' j = nc j) (ht : thB S' j = thB S j) (h191 : sA S' 191 j = sA S 191 j) (h195 : sA S' 195 j = sA S 195 j) (h1 : ∀ t, 1 ≤ t → t ≤ 8 → sA S' (72 + 15 * j + t) = sA S (72 + 15 * j + t)) (h2 : ∀ o i, 196 ≤ o → o ≤ 204 → i < 145 → sA S' o (160 * j + i) = sA S o (160 * j + i)) (h3 : sA S' 192 j = sA S 192 j) : trQ S' N' tn' nc' j := by
  obtain ⟨q1, q2, ⟨q3, q4⟩, q5, q6⟩ := q
  refine ⟨by rw [ht, e1, h191]; exact q1, by rw [ht, e1]; exact q2, ⟨by rw [h195, e2]; exact q3, by rw [e2]; exact q4⟩, fun i hi => ?_, fun h => ?_⟩
  · rw [e2] at hi
    rw [h2 196 i (by omega) (by omega) (by omega), h2 201 i (by omega) (by omega) (by omega)]
    intro z
    obtain ⟨x, hx, e⟩ := q5 i hi z
    exact ⟨x, by omega, e⟩
  · rw [e1] at h ⊢
    rw [e2]
    obtain ⟨z1, z2⟩ := q6 h
    exact ⟨z1, z2.c h1 (fun o i o1 o2 hi => h2 o i o1 o2 (by omega)) h3⟩
/-- how many panes of an order lie planned and not yet cut -/
def unI (S : xS) (k j i : Nat) : Nat := if sA S (72 + 15 * j + 1) i = nI 2 ∧ sA S (72 + 15 * j + 6) i = nI k ∧ (sA S (72 + 15 * j + 8) i = nI 0 ∨ sA S (72 + 15 * j + 8) i = nI 1) then 1 else 0
def unJ (S : xS) (tn : Nat → Nat) (k j : Nat) : Nat := sumN (unI S k j) (tn j)
def unA (S : xS) (tn : Nat → Nat) (k : Nat) : Nat := sumN (unJ S tn k) 8
theorem unJ_c {S S' : xS} {tn tn' : Nat → Nat} {k j : Nat} (e : tn' j = tn j) (h1 : ∀ t, t = 1 ∨ t = 6 ∨ t = 8 → sA S' (72 + 15 * j + t) = sA S (72 + 15 * j + t)) : unJ S' tn' k j = unJ S tn k j := by
  unfold unJ
  rw [e]
  refine sumN_c (fun i _ => ?_)
  unfold unI
  rw [h1 1 (Or.inl rfl), h1 6 (Or.inr (Or.inl rfl)), h1 8 (Or.inr (Or.inr rfl))]
/-- an order, the same on both sides; p: how many of its panes lie planned -/
def orQ (S : xS) (D : Nat → Int32) (k p : Nat) : Prop := ∃ w h o d, ((1 ≤ w ∧ w ≤ 6000) ∧ (1 ≤ h ∧ h ≤ 6000) ∧ o + p + d ≤ 6) ∧ ((D 0 = nI w ∧ D 1 = nI h) ∧ (D 3 = nI o ∧ D 4 = nI p ∧ D 5 = nI d)) ∧ ((sA S 205 k = nI w ∧ sA S 206 k = nI h) ∧ (sA S 208 k = nI o ∧ sA S 209 k = nI p ∧ sA S 210 k = nI d)) ∧ (D 2 = 0 ↔ sA S 207 k = 0)
theorem orQ.c {S S' : xS} {D : Nat → Int32} {k p : Nat} (q : orQ S D k p) (h : ∀ o, 205 ≤ o → o ≤ 210 → sA S' o k = sA S o k) : orQ S' D k p := by
  obtain ⟨w, z, o, d, q1, q2, ⟨⟨q3, q4⟩, q5, q6, q7⟩, q8⟩ := q
  exact ⟨w, z, o, d, q1, q2, ⟨⟨(h _ (by omega) (by omega)).trans q3, (h _ (by omega) (by omega)).trans q4⟩, (h _ (by omega) (by omega)).trans q5, (h _ (by omega) (by omega)).trans q6, (h _ (by omega) (by omega)).trans q7⟩, by rw [h _ (by omega) (by omega)]; exact q8⟩
/-- an offcut, the same on both sides -/
def rkQ (S : xS) (b k : Nat) : Prop := ∃ w h n, ((1 ≤ w ∧ w ≤ 6000) ∧ (1 ≤ h ∧ h ≤ 6000) ∧ n ≤ 6) ∧ (sF S b 4 = nI w ∧ sF S b 5 = nI h ∧ sF S b 6 = nI n) ∧ (sA S 211 k = nI w ∧ sA S 212 k = nI h ∧ sA S 213 k = nI n) ∧ ∀ i, i < n → flQ S b 214 (24 * k) w h i
theorem rkQ.c {S S' : xS} {b k : Nat} (q : rkQ S b k) (h1 : sF S' b = sF S b) (h2 : ∀ t, 1 ≤ t → t ≤ 4 → sA S' (b + t) = sA S (b + t)) (h3 : ∀ o, 211 ≤ o → o ≤ 213 → sA S' o k = sA S o k) (h4 : ∀ i, i < 24 → sA S' 214 (24 * k + i) = sA S 214 (24 * k + i)) : rkQ S' b k := by
  obtain ⟨w, h, n, ⟨q1, q2, q3⟩, ⟨a1, a2, a3⟩, ⟨b1, b2, b3⟩, q4⟩ := q
  refine ⟨w, h, n, ⟨q1, q2, q3⟩, by rw [h1]; exact ⟨a1, a2, a3⟩, ⟨(h3 _ (by omega) (by omega)).trans b1, (h3 _ (by omega) (by omega)).trans b2, (h3 _ (by omega) (by omega)).trans b3⟩, fun i hi => ?_⟩
  refine (q4 i hi).c (fun t t1 t4 => by rw [h2 t t1 t4]) (fun z hz => ?_)
  rw [show 24 * k + 4 * i + z = 24 * k + (4 * i + z) by omega]
  exact h4 _ (by omega)
def cnQ (S : xS) (N R E : Nat) : Prop := (sF S 186 20 = nI N ∧ sF S 186 27 = nI R) ∧ (sF S 0 6 = nI E ∧ sF S 186 1 = nI E) ∧ ((∀ j, j < 8 → thB S j = true → ∃ e, e < E ∧ sF S (66 + 15 * j) 3 = nI e) ∧ ∀ i j, i < 8 → j < 8 → thB S i = true → thB S j = true → sF S (66 + 15 * i) 3 = sF S (66 + 15 * j) 3 → i = j)
def arQ (S : xS) : Prop := sJ S 0 7 = sJ S 186 35 ∧ sJ S 0 8 = sJ S 186 32 ∧ sJ S 0 9 = sJ S 186 33 ∧ sJ S 0 10 = sJ S 186 34
/-- all that is alike -/
def mEq (S : xS) (N R E : Nat) (D : Nat → Nat → Int32) (rk g tn fl nc : Nat → Nat) : Prop := cnQ S N R E ∧ arQ S ∧ (∀ j, j < 8 → shQ S fl j) ∧ (∀ j, j < 8 → trQ S N tn nc j) ∧ (∀ k, k < N → orQ S (D k) k (unA S tn k)) ∧ rkSorted S N rk ∧ (∀ k, k < R → rkQ S (g k) k) ∧ ∀ a b, a < 10 → b < 10 → g a = g b → a = b
theorem rkSorted.c {S S' : xS} {N : Nat} {rk : Nat → Nat} (q : rkSorted S N rk) (h : ∀ k, k < N → sA S' 205 k = sA S 205 k ∧ sA S' 206 k = sA S 206 k) : rkSorted S' N rk := ⟨q.1, q.2.1, fun a b h1 h2 => by
  have z := q.2.2 a b h1 h2
  obtain ⟨e1, e2⟩ := h (rk a) (q.1 a (by omega))
  obtain ⟨e3, e4⟩ := h (rk b) (q.1 b h2)
  unfold moBef at z ⊢
  rw [e1, e2, e3, e4]
  exact z⟩
section ME
variable {S : xS} {N R E : Nat} {D : Nat → Nat → Int32} {rk g tn fl nc : Nat → Nat}
theorem mEq.id (h : mEq S N R E D rk g tn fl nc) : idEq S := by
  obtain ⟨⟨-, -, -, c2⟩, -, hs, -⟩ := h
  refine ⟨fun j hj => ?_, fun j hj _ => ?_, fun i j hi hj t1 t2 e => ?_⟩
  · obtain ⟨w, h, -, -, -, -, q9, -⟩ := hs j hj
    exact q9
  · obtain ⟨w, h, -, -, -, -, -, q10⟩ := hs j hj
    exact q10
  · obtain ⟨w, h, -, -, -, -, -, q10⟩ := hs j hj
    obtain ⟨w', h', -, -, -, -, -, q10'⟩ := hs i hi
    exact c2 i j hi hj t1 t2 (by rw [q10, q10']; exact e)
theorem mEq.find (h : mEq S N R E D rk g tn fl nc) (x : Int32) : moFind S x 8 = fstN (idB S x) 8 := find_eq h.id x
theorem mEq.there (h : mEq S N R E D rk g tn fl nc) {x : Int32} {j : Nat} (hj : fstN (idB S x) 8 = some j) : j < 8 ∧ thB S j = true := by
  obtain ⟨h1, h2, -⟩ := fstN_spec hj
  unfold idB at h2
  exact ⟨h1, ((Bool.and_eq_true _ _).mp h2).1⟩
theorem mEq.off (h : mEq S N R E D rk g tn fl nc) : offEq S g R := fun k hk => by
  obtain ⟨w, z, n, ⟨⟨q1, q2⟩, ⟨q3, q4⟩, q5⟩, ⟨a1, a2, a3⟩, ⟨b1, b2, b3⟩, -⟩ := h.2.2.2.2.2.2.1 k hk
  exact ⟨a1.trans b1.symm, a2.trans b2.symm, w, z, q2, q4, b1, b2⟩
theorem mEq.sh (h : mEq S N R E D rk g tn fl nc) : ∀ j, j < 8 → shEq S tn nc j := fun j hj => by
  obtain ⟨w, z, -, ⟨⟨q2, q3⟩, q4, q5⟩, -, -, q9, -⟩ := h.2.2.1 j hj
  obtain ⟨t1, t2, -, -, t5⟩ := h.2.2.2.1 j hj
  refine ⟨q9, fun ht => ⟨q2.trans q4.symm, q3.trans q5.symm, t1 ht⟩, t2, fun h0 => ?_⟩
  obtain ⟨z1, L, σ, w', h', l1, l2, l3, l4, l5, l6, l7, l8⟩ := t5 h0
  refine ⟨z1, fun i hi => ?_⟩
  have hv : L[i]? = some (L[i]'(by omega)) := List.getElem?_eq_getElem (by omega)
  obtain ⟨⟨⟨a1, a2, a3⟩, ⟨a4, a5, a6⟩, a7, a8⟩, ⟨b1, b2, b3⟩, ⟨b4, b5, b6⟩, ⟨b7, b8⟩, b9⟩ := l7 i _ hv
  exact ⟨a8.trans b9.symm, a4.trans b4.symm, a5.trans b5.symm⟩
end ME
