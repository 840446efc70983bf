/-! the states of a tree's nodes: 0 not yet, 1 waits, 2 over, 3 broken -/
def tS : Nat → List nd → (Nat → Nat) → Nat → Prop
  | 0, _, _, _ => False
  | f + 1, L, σ, o => (σ o = 1 ∧ ∀ j, 0 < j → j < L.length → σ (o + j) = 0) ∨ (∀ j, j < L.length → σ (o + j) = 3) ∨ (σ o = 2 ∧ ((∃ v : nd, L = [v] ∧ v.2.2.2.2.2.2 = 0) ∨ ∃ (v : nd) (A C : List nd), L = v :: (A ++ C) ∧ v.2.2.2.2.2.2 = 1 + A.length ∧ tS f A σ (o + 1) ∧ tS f C σ (o + 1 + A.length)))
theorem tS.more : ∀ {f f' : Nat} {L : List nd} {σ : Nat → Nat} {o : Nat}, tS f L σ o → f ≤ f' → tS f' L σ o
  | 0, _, _, _, _, q, _ => q.elim
  | f + 1, 0, _, _, _, _, q => by omega
  | f + 1, f' + 1, L, σ, o, q, hf => by
    rcases q with q | q | ⟨q1, q | ⟨v, A, C, q2, q3, q4, q5⟩⟩
    · exact Or.inl q
    · exact Or.inr (Or.inl q)
    · exact Or.inr (Or.inr ⟨q1, Or.inl q⟩)
    · exact Or.inr (Or.inr ⟨q1, Or.inr ⟨v, A, C, q2, q3, q4.more (by omega), q5.more (by omega)⟩⟩)
theorem tS.c : ∀ {f : Nat} {L : List nd} {σ σ' : Nat → Nat} {o : Nat}, tS f L σ o → (∀ j, j < L.length → σ' (o + j) = σ (o + j)) → tS f L σ' o
  | 0, _, _, _, _, q, _ => q.elim
  | f + 1, L, σ, σ', o, q, h => by
    by_cases h0 : L.length = 0
    · exact Or.inr (Or.inl fun j hj => by omega)
    · have e0 : σ' o = σ o := h 0 (by omega)
      rcases q with ⟨q1, q2⟩ | q | ⟨q1, q | ⟨v, A, C, q2, q3, q4, q5⟩⟩
      · exact Or.inl ⟨e0.trans q1, fun j j0 jl => (h j jl).trans (q2 j j0 jl)⟩
      · exact Or.inr (Or.inl fun j jl => (h j jl).trans (q j jl))
      · exact Or.inr (Or.inr ⟨e0.trans q1, Or.inl q⟩)
      · subst q2
        have hl : (v :: (A ++ C)).length = 1 + A.length + C.length := by simp; omega
        rw [hl] at h
        refine Or.inr (Or.inr ⟨e0.trans q1, Or.inr ⟨v, A, C, rfl, q3, q4.c (fun j hj => ?_), q5.c (fun j hj => ?_)⟩⟩)
        · rw [show o + 1 + j = o + (1 + j) by omega]; exact h _ (by omega)
        · rw [show o + 1 + A.length + j = o + (1 + A.length + j) by omega]; exact h _ (by omega)
theorem isT.two {f : Nat} {T A C : List nd} {x y w h : Nat} {v : nd} (q : isT (f + 1) T x y w h) (e : T = v :: (A ++ C)) (hv : v.2.2.2.2.2.2 = 1 + A.length) : ∃ xa ya wa ha xc yc wc hc, isT f A xa ya wa ha ∧ isT f C xc yc wc hc ∧ (isCut v = true ∧ (v.1 = 0 ∨ v.1 = 1)) ∧ (∀ a u, a ∈ A → u ∈ C → ¬ inR u a.2.1 a.2.2.1 a.2.2.2.1 a.2.2.2.2.1) := by
  obtain ⟨q0, q⟩ := q
  have inj : ∀ (A' C' : List nd) (v' : nd), v'.2.2.2.2.2.2 = 1 + A'.length → T = v' :: (A' ++ C') → v' = v ∧ A' = A ∧ C' = C := by
    intro A' C' v' hv' e'
    rw [e] at e'
    obtain ⟨e1, e2⟩ := List.cons.inj e'
    subst e1
    obtain ⟨e3, e4⟩ := List.append_inj e2 (by omega)
    exact ⟨rfl, e3.symm, e4.symm⟩
  rcases q with ⟨kk, mk, hk, e'⟩ | ⟨g, A', C', hg, e', q3, q4⟩ | ⟨g, A', C', hg, e', q3, q4⟩
  · rw [e] at e'
    obtain ⟨e1, e2⟩ := List.cons.inj e'
    subst e1
    have : (0 : Nat) = 1 + A.length := hv
    omega
  · obtain ⟨e1, e2, e3⟩ := inj A' C' _ rfl e'
    subst e1 e2 e3
    refine ⟨_, _, _, _, _, _, _, _, q3, q4, ⟨rfl, Or.inl rfl⟩, fun a u ha hu z => ?_⟩
    obtain ⟨⟨a1, a2, a3, a4⟩, a5, a6⟩ := q3.inside a ha
    obtain ⟨⟨c1, c2, c3, c4⟩, c5, c6⟩ := q4.inside u hu
    obtain ⟨z1, z2, z3, z4⟩ := z
    omega
  · obtain ⟨e1, e2, e3⟩ := inj A' C' _ rfl e'
    subst e1 e2 e3
    refine ⟨_, _, _, _, _, _, _, _, q3, q4, ⟨rfl, Or.inr rfl⟩, fun a u ha hu z => ?_⟩
    obtain ⟨⟨a1, a2, a3, a4⟩, a5, a6⟩ := q3.inside a ha
    obtain ⟨⟨c1, c2, c3, c4⟩, c5, c6⟩ := q4.inside u hu
    obtain ⟨z1, z2, z3, z4⟩ := z
    omega
theorem isT.root {f : Nat} {T : List nd} {x y w h : Nat} {v : nd} (q : isT f T x y w h) (hv : T[0]? = some v) : v.2.1 = x ∧ v.2.2.1 = y ∧ v.2.2.2.1 = w ∧ v.2.2.2.2.1 = h := by
  cases f with
  | zero => exact q.elim
  | succ f =>
    obtain ⟨-, q⟩ := q
    rcases q with ⟨kk, mk, hk, rfl⟩ | ⟨g, A, C, hg, rfl, q3, q4⟩ | ⟨g, A, C, hg, rfl, q3, q4⟩ <;> simp at hv <;> subst hv <;> exact ⟨rfl, rfl, rfl, rfl⟩
/-- a node that waits: under it nothing has been touched; whatever befalls its subtree, the rest stays as it was -/
theorem tS.wait : ∀ {f' f : Nat} {T : List nd} {x y w h : Nat} {σ : Nat → Nat} {o : Nat}, isT f T x y w h → tS f' T σ o → ∀ i v, T[i]? = some v → σ (o + i) = 1 → ∃ fu U, isT fu U v.2.1 v.2.2.1 v.2.2.2.1 v.2.2.2.2.1 ∧ U[0]? = some v ∧ hasAt T i U ∧
    (∀ j u, i + U.length ≤ j → T[j]? = some u → ¬ inR u v.2.1 v.2.2.1 v.2.2.2.1 v.2.2.2.2.1) ∧ (∀ j, 0 < j → j < U.length → σ (o + i + j) = 0) ∧ ∀ σ' : Nat → Nat, (∀ j, (j < o + i ∨ o + i + U.length ≤ j) → σ' j = σ j) → (∃ fq, tS fq U σ' (o + i)) → ∃ fq, tS fq T σ' o
  | 0, _, _, _, _, _, _, _, _, _, q, _, _, _, _ => q.elim
  | f' + 1, 0, _, _, _, _, _, _, _, q, _, _, _, _, _ => q.elim
  | f' + 1, f + 1, T, x, y, w, h, σ, o, q, s, i, v, hi, hw => by
    have hlt : i < T.length := (List.getElem?_eq_some_iff.mp hi).1
    rcases s with ⟨s1, s2⟩ | s | ⟨s1, ⟨v', e, hv'⟩ | ⟨v', A, C, e, hv', sA', sC'⟩⟩
    · have e0 : i = 0 := by
        cases i with
        | zero => rfl
        | succ i =>
          have := s2 (i + 1) (by omega) hlt
          omega
      subst e0
      obtain ⟨e1, e2, e3, e4⟩ := q.root hi
      refine ⟨f + 1, T, by rw [e1, e2, e3, e4]; exact q, hi, hasAt.rf, fun j u hj hu => ?_, fun j j0 jl => s2 j j0 jl, fun σ' _ hs => hs⟩
      have := (List.getElem?_eq_some_iff.mp hu).1
      omega
    · have := s i hlt
      omega
    · subst e
      have : i = 0 := by simp at hlt; omega
      subst this
      rw [Nat.add_zero] at hw
      omega
    · obtain ⟨xa, ya, wa, ha, xc, yc, wc, hc, qA, qC, -, hdis⟩ := q.two e hv'
      subst e
      cases i with
      | zero =>
        rw [Nat.add_zero] at hw
        omega
      | succ i =>
        have hAC := (hasAt.rf (L := v' :: (A ++ C))).cons.2
        rw [List.getElem?_cons_succ] at hi
        by_cases eA : i < A.length
        · rw [List.getElem?_append_left eA] at hi
          obtain ⟨fu, U, u1, u2, u3, u4, u5, u6⟩ := tS.wait qA sA' i v hi (by rw [show o + 1 + i = o + (i + 1) by omega]; exact hw)
          have hUl := u3.len u1.len
          refine ⟨fu, U, u1, u2, ?_, fun j u hj hu => ?_, fun j j0 jl => ?_, fun σ' h' hs => ?_⟩
          · have := hAC.left.trans u3
            rw [show 0 + 1 + i = i + 1 by omega] at this
            exact this
          · cases j with
            | zero => omega
            | succ j =>
              rw [List.getElem?_cons_succ] at hu
              by_cases ej : j < A.length
              · rw [List.getElem?_append_left ej] at hu
                exact u4 j u (by omega) hu
              · rw [List.getElem?_append_right (by omega)] at hu
                exact hdis v u (getElem_mem' hi) (getElem_mem' hu)
          · rw [show o + (i + 1) + j = o + 1 + i + j by omega]; exact u5 j j0 jl
          · rw [show o + (i + 1) = o + 1 + i by omega] at h' hs
            obtain ⟨fq, tA⟩ := u6 σ' h' hs
            refine ⟨max fq f' + 1, Or.inr (Or.inr ⟨(h' o (by omega)).trans s1, Or.inr ⟨v', A, C, rfl, hv', tA.more (by omega), ?_⟩⟩)⟩
            exact (sC'.c (fun j hj => h' _ (by omega))).more (by omega)
        · rw [List.getElem?_append_right (by omega)] at hi
          obtain ⟨fu, U, u1, u2, u3, u4, u5, u6⟩ := tS.wait qC sC' (i - A.length) v hi (by rw [show o + 1 + A.length + (i - A.length) = o + (i + 1) by omega]; exact hw)
          refine ⟨fu, U, u1, u2, ?_, fun j u hj hu => ?_, fun j j0 jl => ?_, fun σ' h' hs => ?_⟩
          · have := hAC.right.trans u3
            rw [show 0 + 1 + A.length + (i - A.length) = i + 1 by omega] at this
            exact this
          · cases j with
            | zero => omega
            | succ j =>
              rw [List.getElem?_cons_succ, List.getElem?_append_right (by omega)] at hu
              exact u4 _ u (by omega) hu
          · rw [show o + (i + 1) + j = o + 1 + A.length + (i - A.length) + j by omega]; exact u5 j j0 jl
          · rw [show o + (i + 1) = o + 1 + A.length + (i - A.length) by omega] at h' hs
            obtain ⟨fq, tC⟩ := u6 σ' h' hs
            refine ⟨max fq f' + 1, Or.inr (Or.inr ⟨(h' o (by omega)).trans s1, Or.inr ⟨v', A, C, rfl, hv', ?_, tC.more (by omega)⟩⟩)⟩
            exact (sA'.c (fun j hj => h' _ (by omega))).more (by omega)
/-- the subtree is broken -/
theorem tS.broken {U : List nd} {σ : Nat → Nat} {o : Nat} (h : ∀ j, j < U.length → σ (o + j) = 3) : tS 1 U σ o := Or.inr (Or.inl h)
theorem isT.leaf {f : Nat} {T : List nd} {x y w h : Nat} {v : nd} (q : isT f T x y w h) (hv : T[0]? = some v) : (isCut v = false ∧ T = [v] ∧ v.2.2.2.2.2.2 = 0 ∧ (v.1 = 2 ∨ v.1 = 3)) ∨ (isCut v = true ∧ ∃ f' A C xa ya wa ha xc yc wc hc, T = v :: (A ++ C) ∧ v.2.2.2.2.2.2 = 1 + A.length ∧ isT f' A xa ya wa ha ∧ isT f' C xc yc wc hc) := by
  cases f with
  | zero => exact q.elim
  | succ f =>
    obtain ⟨-, q⟩ := q
    rcases q with ⟨kk, mk, hk, rfl⟩ | ⟨g, A, C, hg, rfl, q3, q4⟩ | ⟨g, A, C, hg, rfl, q3, q4⟩
    · simp at hv
      subst hv
      exact Or.inl ⟨by rcases hk with e | e <;> subst e <;> rfl, rfl, rfl, hk⟩
    · simp at hv
      subst hv
      exact Or.inr ⟨rfl, f, A, C, _, _, _, _, _, _, _, _, rfl, rfl, q3, q4⟩
    · simp at hv
      subst hv
      exact Or.inr ⟨rfl, f, A, C, _, _, _, _, _, _, _, _, rfl, rfl, q3, q4⟩
/-- a subtree of which only the root has come to its turn -/
theorem tS.turn {f : Nat} {T : List nd} {x y w h : Nat} {v : nd} {σ : Nat → Nat} {o : Nat} (q : isT f T x y w h) (hv : T[0]? = some v) (h0 : σ o = if isCut v = true then 1 else 2) (hz : ∀ j, 0 < j → j < T.length → σ (o + j) = 0) : tS 1 T σ o := by
  rcases q.leaf hv with ⟨e, hT, hs, -⟩ | ⟨e, -⟩
  · rw [if_neg (by rw [e]; decide)] at h0
    exact Or.inr (Or.inr ⟨h0, Or.inl ⟨v, hT, hs⟩⟩)
  · rw [if_pos e] at h0
    exact Or.inl ⟨h0, hz⟩
/-- the subtree's root is scored -/
theorem tS.scored {f : Nat} {U : List nd} {x y w h : Nat} {v : nd} {σ : Nat → Nat} {o : Nat} (q : isT f U x y w h) (hv : U[0]? = some v) (h0 : σ o = 2)
    (hc : isCut v = true → ∀ a c, U[1]? = some a → U[v.2.2.2.2.2.2]? = some c → σ (o + 1) = (if isCut a = true then 1 else 2) ∧ σ (o + v.2.2.2.2.2.2) = (if isCut c = true then 1 else 2)) (hz : ∀ j, 0 < j → j < U.length → j ≠ 1 → j ≠ v.2.2.2.2.2.2 → σ (o + j) = 0) : tS 2 U σ o := by
  rcases q.leaf hv with ⟨e, hT, hs, -⟩ | ⟨e, f', A, C, xa, ya, wa, ha, xc, yc, wc, hc', hT, hs, qA, qC⟩
  · exact Or.inr (Or.inr ⟨h0, Or.inl ⟨v, hT, hs⟩⟩)
  · have lA := qA.len
    have lC := qC.len
    subst hT
    have hl : (v :: (A ++ C)).length = 1 + A.length + C.length := by simp; omega
    rw [hl] at hz
    have a1 : A[0]? = some (A[0]'lA) := List.getElem?_eq_getElem lA
    have c1 : C[0]? = some (C[0]'lC) := List.getElem?_eq_getElem lC
    have hAC := (hasAt.rf (L := v :: (A ++ C))).cons.2
    have u1 := hAC.left 0 _ a1
    have u2 := hAC.right 0 _ c1
    obtain ⟨k1, k2⟩ := hc e _ _ u1 (by rw [hs, show 1 + A.length = 0 + 1 + A.length + 0 by omega]; exact u2)
    rw [hs] at k2 hz
    refine Or.inr (Or.inr ⟨h0, Or.inr ⟨v, A, C, rfl, hs, tS.turn qA a1 k1 (fun j j0 jl => ?_), tS.turn qC c1 ?_ (fun j j0 jl => ?_)⟩⟩)
    · rw [show o + 1 + j = o + (1 + j) by omega]; exact hz _ (by omega) (by omega) (by omega) (by omega)
    · rw [show o + 1 + A.length = o + (1 + A.length) by omega]; exact k2
    · rw [show o + 1 + A.length + j = o + (1 + A.length + j) by omega]; exact hz _ (by omega) (by omega) (by omega) (by omega)
