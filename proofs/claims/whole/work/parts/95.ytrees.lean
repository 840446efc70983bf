/-! a tree of cuts: where a subtree ends, what lies inside it -/
def isCut (v : nd) : Bool := decide (v.1 = 0) || decide (v.1 = 1)
def tE (cut : Nat → Bool) : Nat → Nat → Nat → Nat
  | 0, i, _ => i
  | k + 1, i, p => if p = 0 then i else tE cut k (i + 1) (if cut i = true then p + 1 else p - 1)
theorem tE_0 {cut : Nat → Bool} : ∀ k i, tE cut k i 0 = i
  | 0, _ => rfl
  | k + 1, i => if_pos rfl
theorem trE_tE {S : xS} {b : Nat} {cut : Nat → Bool} {n : Nat} (h : ∀ i, i < n → trCut S b i = cut i) : ∀ k i p, i + k ≤ n → trE S b k i p = tE cut k i p
  | 0, _, _, _ => rfl
  | k + 1, i, p, hi => by
    simp only [trE, tE]
    rw [h i (by omega), trE_tE h k (i + 1) _ (by omega)]
def hasAt (L : List nd) (o : Nat) (T : List nd) : Prop := ∀ j v, T[j]? = some v → L[o + j]? = some v
theorem hasAt.cons {L A : List nd} {o : Nat} {v : nd} (h : hasAt L o (v :: A)) : L[o]? = some v ∧ hasAt L (o + 1) A :=
  ⟨h 0 v rfl, fun j u hj => by have := h (j + 1) u hj; rw [show o + 1 + j = o + (j + 1) by omega]; exact this⟩
theorem hasAt.left {L A C : List nd} {o : Nat} (h : hasAt L o (A ++ C)) : hasAt L o A := fun j v hj => h j v (by
  have : j < A.length := (List.getElem?_eq_some_iff.mp hj).1
  rw [List.getElem?_append_left this]; exact hj)
theorem hasAt.right {L A C : List nd} {o : Nat} (h : hasAt L o (A ++ C)) : hasAt L (o + A.length) C := fun j v hj => by
  have := h (A.length + j) v (by rw [List.getElem?_append_right (by omega), show A.length + j - A.length = j by omega]; exact hj)
  rw [Nat.add_assoc]; exact this
theorem hasAt.rf {L : List nd} : hasAt L 0 L := fun j v hj => by rw [Nat.zero_add]; exact hj
def cutL (L : List nd) (i : Nat) : Bool := ((L[i]?).map isCut).getD false
theorem cutL_at {L : List nd} {i : Nat} {v : nd} (h : L[i]? = some v) : cutL L i = isCut v := by
  unfold cutL; rw [h]; rfl
theorem tE_T {L : List nd} : ∀ {f : Nat} {T : List nd} {x y w h : Nat}, isT f T x y w h → ∀ o, hasAt L o T → ∀ k p, tE (cutL L) (T.length + k) o (p + 1) = tE (cutL L) k (o + T.length) p
  | 0, _, _, _, _, _, q, _, _, _, _ => q.elim
  | f + 1, T, x, y, w, h, q, o, hT, k, p => by
    obtain ⟨q0, q⟩ := q
    have two : ∀ (A C : List nd) (v : nd), isCut v = true → T = v :: (A ++ C) → (∀ o, hasAt L o A → ∀ k p, tE (cutL L) (A.length + k) o (p + 1) = tE (cutL L) k (o + A.length) p) → (∀ o, hasAt L o C → ∀ k p, tE (cutL L) (C.length + k) o (p + 1) = tE (cutL L) k (o + C.length) p) →
        tE (cutL L) (T.length + k) o (p + 1) = tE (cutL L) k (o + T.length) p := by
      intro A C v hv hTe iA iC
      subst hTe
      obtain ⟨h1, h2⟩ := hT.cons
      have e : (v :: (A ++ C)).length = 1 + A.length + C.length := by simp; omega
      rw [e, show 1 + A.length + C.length + k = (A.length + (C.length + k)) + 1 by omega]
      simp only [tE]
      rw [if_neg (by omega), cutL_at h1, if_pos hv, iA _ h2.left, iC _ h2.right]
      congr 1
      omega
    rcases q with ⟨kk, mk, hk, rfl⟩ | ⟨g, A, C, -, hTe, q3, q4⟩ | ⟨g, A, C, -, hTe, q3, q4⟩
    · obtain ⟨h1, -⟩ := hT.cons
      have hc : isCut (kk, x, y, w, h, mk, 0) = false := by
        rcases hk with e | e <;> subst e <;> rfl
      show tE (cutL L) (1 + k) o (p + 1) = _
      rw [Nat.add_comm 1 k]
      simp only [tE]
      rw [if_neg (by omega), cutL_at h1, hc, if_neg (by decide)]
      rfl
    · exact two A C _ rfl hTe (fun o ho k p => tE_T q3 o ho k p) (fun o ho k p => tE_T q4 o ho k p)
    · exact two A C _ rfl hTe (fun o ho k p => tE_T q3 o ho k p) (fun o ho k p => tE_T q4 o ho k p)
/-- a node lies in a rectangle -/
def inR (v : nd) (x y w h : Nat) : Prop := x ≤ v.2.1 ∧ y ≤ v.2.2.1 ∧ v.2.1 + v.2.2.2.1 ≤ x + w ∧ v.2.2.1 + v.2.2.2.2.1 ≤ y + h
theorem isT.pos {f : Nat} {T : List nd} {x y w h : Nat} (q : isT f T x y w h) : 0 < w ∧ 0 < h := by
  cases f with
  | zero => exact q.elim
  | succ f => exact q.1
theorem isT.len {f : Nat} {T : List nd} {x y w h : Nat} (q : isT f T x y w h) : 0 < T.length := by
  cases f with
  | zero => exact q.elim
  | succ f =>
    obtain ⟨-, q⟩ := q
    rcases q with ⟨kk, mk, hk, rfl⟩ | ⟨g, A, C, -, rfl, -⟩ | ⟨g, A, C, -, rfl, -⟩ <;> simp
theorem isT.inside : ∀ {f : Nat} {T : List nd} {x y w h : Nat}, isT f T x y w h → ∀ v ∈ T, inR v x y w h ∧ 0 < v.2.2.2.1 ∧ 0 < v.2.2.2.2.1
  | 0, _, _, _, _, _, q, _, _ => q.elim
  | f + 1, T, x, y, w, h, q, v, hv => by
    obtain ⟨q0, q⟩ := q
    rcases q with ⟨kk, mk, hk, rfl⟩ | ⟨g, A, C, hg, rfl, q3, q4⟩ | ⟨g, A, C, hg, rfl, q3, q4⟩
    · simp at hv
      subst hv
      exact ⟨⟨Nat.le_refl _, Nat.le_refl _, Nat.le_refl _, Nat.le_refl _⟩, q0.1, q0.2⟩
    · rcases List.mem_cons.mp hv with rfl | hv
      · exact ⟨⟨Nat.le_refl _, Nat.le_refl _, Nat.le_refl _, Nat.le_refl _⟩, q0.1, q0.2⟩
      · rcases List.mem_append.mp hv with hv | hv
        · obtain ⟨⟨a1, a2, a3, a4⟩, a5, a6⟩ := q3.inside v hv
          exact ⟨⟨by omega, by omega, by omega, by omega⟩, a5, a6⟩
        · obtain ⟨⟨a1, a2, a3, a4⟩, a5, a6⟩ := q4.inside v hv
          exact ⟨⟨by omega, by omega, by omega, by omega⟩, a5, a6⟩
    · rcases List.mem_cons.mp hv with rfl | hv
      · exact ⟨⟨Nat.le_refl _, Nat.le_refl _, Nat.le_refl _, Nat.le_refl _⟩, q0.1, q0.2⟩
      · rcases List.mem_append.mp hv with hv | hv
        · obtain ⟨⟨a1, a2, a3, a4⟩, a5, a6⟩ := q3.inside v hv
          exact ⟨⟨by omega, by omega, by omega, by omega⟩, a5, a6⟩
        · obtain ⟨⟨a1, a2, a3, a4⟩, a5, a6⟩ := q4.inside v hv
          exact ⟨⟨by omega, by omega, by omega, by omega⟩, a5, a6⟩
theorem hasAt.trans {L T U : List nd} {o p : Nat} (h : hasAt L o T) (k : hasAt T p U) : hasAt L (o + p) U := fun j v hj => by
  have := h (p + j) v (k j v hj)
  rw [show o + p + j = o + (p + j) by omega]; exact this
theorem hasAt.len {L T : List nd} {o : Nat} (h : hasAt L o T) (h0 : 0 < T.length) : o + T.length ≤ L.length := by
  have h1 : T[T.length - 1]? = some (T[T.length - 1]'(by omega)) := List.getElem?_eq_getElem (by omega)
  have := (List.getElem?_eq_some_iff.mp (h _ _ h1)).1
  omega
theorem getElem_mem' {L : List nd} {j : Nat} {v : nd} (h : L[j]? = some v) : v ∈ L := List.mem_of_getElem? h
/-- the subtree of a node: what comes behind it does not lie in the node's rectangle -/
theorem isT.sub : ∀ {f : Nat} {T : List nd} {x y w h : Nat}, isT f T x y w h → ∀ i v, T[i]? = some v → ∃ f' U, isT f' U v.2.1 v.2.2.1 v.2.2.2.1 v.2.2.2.2.1 ∧ U[0]? = some v ∧ hasAt T i U ∧ ∀ j u, i + U.length ≤ j → T[j]? = some u → ¬ inR u v.2.1 v.2.2.1 v.2.2.2.1 v.2.2.2.2.1
  | 0, _, _, _, _, _, q, _, _, _ => q.elim
  | f + 1, T, x, y, w, h, q, 0, v, hi => by
    have hw : T[0]? = some v → v.2.1 = x ∧ v.2.2.1 = y ∧ v.2.2.2.1 = w ∧ v.2.2.2.2.1 = h := by
      intro hv
      obtain ⟨-, q⟩ := q
      rcases q with ⟨kk, mk, hk, rfl⟩ | ⟨g, A, C, hg, rfl, q3, q4⟩ | ⟨g, A, C, hg, rfl, q3, q4⟩ <;> simp at hv <;> subst hv <;> exact ⟨rfl, rfl, rfl, rfl⟩
    obtain ⟨e1, e2, e3, e4⟩ := hw hi
    refine ⟨f + 1, T, by rw [e1, e2, e3, e4]; exact q, hi, hasAt.rf, fun j u hj hu => ?_⟩
    have := (List.getElem?_eq_some_iff.mp hu).1
    omega
  | f + 1, T, x, y, w, h, q, i + 1, v, hi => by
    obtain ⟨q0, q⟩ := q
    have two : ∀ (A C : List nd) (n : nd) (xa ya wa ha xc yc wc hc : Nat), isT f A xa ya wa ha → isT f C xc yc wc hc → T = n :: (A ++ C) → (∀ a u, a ∈ A → u ∈ C → ¬ inR u a.2.1 a.2.2.1 a.2.2.2.1 a.2.2.2.2.1) →
        ∃ f' U, isT f' U v.2.1 v.2.2.1 v.2.2.2.1 v.2.2.2.2.1 ∧ U[0]? = some v ∧ hasAt T (i + 1) U ∧ ∀ j u, i + 1 + U.length ≤ j → T[j]? = some u → ¬ inR u v.2.1 v.2.2.1 v.2.2.2.1 v.2.2.2.2.1 := by
      intro A C n xa ya wa ha xc yc wc hc qA qC hT hdis
      subst hT
      have hTT : hasAt (n :: (A ++ C)) 0 (n :: (A ++ C)) := hasAt.rf
      obtain ⟨-, hAC⟩ := hTT.cons
      rw [List.getElem?_cons_succ] at hi
      by_cases e : i < A.length
      · rw [List.getElem?_append_left e] at hi
        obtain ⟨f', U, u1, u2, u3, u4⟩ := qA.sub i v hi
        refine ⟨f', U, u1, u2, ?_, fun j u hj hu => ?_⟩
        · have := hAC.left.trans u3
          rw [show 0 + 1 + i = i + 1 by omega] at this
          exact this
        · cases j with
          | zero => omega
          | succ j =>
            rw [List.getElem?_cons_succ] at hu
            by_cases ej : j < A.length
            · rw [List.getElem?_append_left ej] at hu
              exact u4 j u (by omega) hu
            · rw [List.getElem?_append_right (by omega)] at hu
              exact hdis v u (getElem_mem' hi) (getElem_mem' hu)
      · rw [List.getElem?_append_right (by omega)] at hi
        obtain ⟨f', U, u1, u2, u3, u4⟩ := qC.sub (i - A.length) v hi
        refine ⟨f', U, u1, u2, ?_, fun j u hj hu => ?_⟩
        · have := hAC.right.trans u3
          rw [show 0 + 1 + A.length + (i - A.length) = i + 1 by omega] at this
          exact this
        · cases j with
          | zero => omega
          | succ j =>
            rw [List.getElem?_cons_succ, List.getElem?_append_right (by omega)] at hu
            exact u4 _ u (by omega) hu
    rcases q with ⟨kk, mk, hk, rfl⟩ | ⟨g, A, C, hg, hT, q3, q4⟩ | ⟨g, A, C, hg, hT, q3, q4⟩
    · simp at hi
    · refine two A C _ _ _ _ _ _ _ _ _ q3 q4 hT (fun a u ha hu z => ?_)
      obtain ⟨⟨a1, a2, a3, a4⟩, a5, a6⟩ := q3.inside a ha
      obtain ⟨⟨c1, c2, c3, c4⟩, c5, c6⟩ := q4.inside u hu
      obtain ⟨z1, z2, z3, z4⟩ := z
      omega
    · refine two A C _ _ _ _ _ _ _ _ _ q3 q4 hT (fun a u ha hu z => ?_)
      obtain ⟨⟨a1, a2, a3, a4⟩, a5, a6⟩ := q3.inside a ha
      obtain ⟨⟨c1, c2, c3, c4⟩, c5, c6⟩ := q4.inside u hu
      obtain ⟨z1, z2, z3, z4⟩ := z
      omega
