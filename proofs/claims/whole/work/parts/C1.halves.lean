/-! two halves of one state -/
def hiE (S S' : xS) : Prop := ∀ o, 186 ≤ o → sF S' o = sF S o ∧ sA S' o = sA S o ∧ sJ S' o = sJ S o
theorem hiE.rf {S : xS} : hiE S S := fun _ _ => ⟨rfl, rfl, rfl⟩
theorem hiE.trans {S S1 S2 : xS} (h : hiE S S1) (k : hiE S1 S2) : hiE S S2 := fun o ho => ⟨(k o ho).1.trans (h o ho).1, (k o ho).2.1.trans (h o ho).2.1, (k o ho).2.2.trans (h o ho).2.2⟩
theorem hiE.symm {S S1 : xS} (h : hiE S S1) : hiE S1 S := fun o ho => ⟨(h o ho).1.symm, (h o ho).2.1.symm, (h o ho).2.2.symm⟩
theorem loE.symm {S S1 : xS} (h : loE S S1) : loE S1 S := ⟨fun o ho => ⟨(h.1 o ho).1.symm, (h.1 o ho).2.1.symm, (h.1 o ho).2.2.symm⟩, h.2.1.symm, h.2.2.1.symm, h.2.2.2.1.symm, h.2.2.2.2.symm⟩
theorem hiE.F {S S1 : xS} {o k : Nat} {v : Int32} (h : hiE S S1) (ho : o < 186) : hiE S (uF S1 o k v) := fun q hq => ⟨by rw [sF_uFn _ _ _ (by omega)]; exact (h q hq).1, (h q hq).2.1, (h q hq).2.2⟩
theorem hiE.A {S S1 : xS} {o k : Nat} {v : Int32} (h : hiE S S1) (ho : o < 186) : hiE S (uA S1 o k v) := fun q hq => ⟨(h q hq).1, by rw [sA_uAn _ _ _ (by omega)]; exact (h q hq).2.1, (h q hq).2.2⟩
theorem hiE.J {S S1 : xS} {o k : Nat} {v : Int64} (h : hiE S S1) (ho : o < 186) : hiE S (uJ S1 o k v) := fun q hq => ⟨(h q hq).1, (h q hq).2.1, by rw [sJ_uJn _ _ _ (by omega)]; exact (h q hq).2.2⟩
theorem hiE.K {S S1 S2 : xS} {lo hi : Nat} (h : hiE S S1) (k : sK lo hi S1 S2) (hh : hi ≤ 186) : hiE S S2 := fun q hq => ⟨(k.1 q (by omega)).1.trans (h q hq).1, (k.1 q (by omega)).2.1.trans (h q hq).2.1, (k.1 q (by omega)).2.2.1.trans (h q hq).2.2⟩
theorem two_eq {A C : xS} (lo : loE A C) (hi : hiE A C) : C = A :=
  Prod.ext (funext fun o => by
    by_cases z : o < 186
    · exact (lo.1 o z).1
    · exact (hi o (by omega)).1) (Prod.ext (funext fun o => by
    by_cases z : o < 186
    · exact (lo.1 o z).2.1
    · exact (hi o (by omega)).2.1) (Prod.ext (funext fun o => by
    by_cases z : o < 186
    · exact (lo.1 o z).2.2
    · exact (hi o (by omega)).2.2) (Prod.ext lo.2.1 (Prod.ext lo.2.2.1 (Prod.ext lo.2.2.2.1 lo.2.2.2.2)))))
theorem loE.cF {A C : xS} {o k : Nat} {v : Int32} (h : loE A C) : loE (uF A o k v) (uF C o k v) := ⟨fun q hq => ⟨by
  by_cases e : q = o
  · subst e; rw [sF_uF, sF_uF, (h.1 q hq).1]
  · rw [sF_uFn _ _ _ e, sF_uFn _ _ _ e]; exact (h.1 q hq).1, (h.1 q hq).2.1, (h.1 q hq).2.2⟩, h.2⟩
theorem loE.cA {A C : xS} {o k : Nat} {v : Int32} (h : loE A C) : loE (uA A o k v) (uA C o k v) := ⟨fun q hq => ⟨(h.1 q hq).1, by
  by_cases e : q = o
  · subst e; rw [sA_uA, sA_uA, (h.1 q hq).2.1]
  · rw [sA_uAn _ _ _ e, sA_uAn _ _ _ e]; exact (h.1 q hq).2.1, (h.1 q hq).2.2⟩, h.2⟩
theorem loE.cJ {A C : xS} {o k : Nat} {v : Int64} (h : loE A C) : loE (uJ A o k v) (uJ C o k v) := ⟨fun q hq => ⟨(h.1 q hq).1, (h.1 q hq).2.1, by
  by_cases e : q = o
  · subst e; rw [sJ_uJ, sJ_uJ, (h.1 q hq).2.2]
  · rw [sJ_uJn _ _ _ e, sJ_uJn _ _ _ e]; exact (h.1 q hq).2.2⟩, h.2⟩
theorem loE.cE {A C : xS} {a : Nat} {v : va_E} (h : loE A C) : loE (uE A a v) (uE C a v) := ⟨h.1, h.2.1, by show va_up (sE C) a _ = va_up (sE A) a _; rw [h.2.2.1], h.2.2.2.1, h.2.2.2.2⟩
theorem hiE.cF {A C : xS} {o k : Nat} {v : Int32} (h : hiE A C) : hiE (uF A o k v) (uF C o k v) := fun q hq => ⟨by
  by_cases e : q = o
  · subst e; rw [sF_uF, sF_uF, (h q hq).1]
  · rw [sF_uFn _ _ _ e, sF_uFn _ _ _ e]; exact (h q hq).1, (h q hq).2.1, (h q hq).2.2⟩
theorem hiE.cA {A C : xS} {o k : Nat} {v : Int32} (h : hiE A C) : hiE (uA A o k v) (uA C o k v) := fun q hq => ⟨(h q hq).1, by
  by_cases e : q = o
  · subst e; rw [sA_uA, sA_uA, (h q hq).2.1]
  · rw [sA_uAn _ _ _ e, sA_uAn _ _ _ e]; exact (h q hq).2.1, (h q hq).2.2⟩
theorem hiE.cJ {A C : xS} {o k : Nat} {v : Int64} (h : hiE A C) : hiE (uJ A o k v) (uJ C o k v) := fun q hq => ⟨(h q hq).1, (h q hq).2.1, by
  by_cases e : q = o
  · subst e; rw [sJ_uJ, sJ_uJ, (h q hq).2.2]
  · rw [sJ_uJn _ _ _ e, sJ_uJn _ _ _ e]; exact (h q hq).2.2⟩
theorem glPart_lo {A C : xS} {b a : Nat} {x y w z : Int32} (h : loE A C) (ha : a + 5 ≤ 186) : ∀ k, loE (glPart A b a x y w z k).1 (glPart C b a x y w z k).1 ∧ (glPart C b a x y w z k).2 = (glPart A b a x y w z k).2
  | 0 => ⟨h.cF.cF.cF, rfl⟩
  | k + 1 => by
    obtain ⟨i1, i2⟩ := glPart_lo (b := b) (x := x) (y := y) (w := w) (z := z) h ha k
    have e : ∀ t, t ≤ 4 → sA (glPart C b a x y w z k).1 (a + t) = sA (glPart A b a x y w z k).1 (a + t) := fun t ht => (i1.1 _ (by omega)).2.1
    simp only [glPart]
    rw [e 1 (by omega), e 2 (by omega), e 3 (by omega), e 4 (by omega)]
    split
    · exact ⟨i1, i2⟩
    · split
      · exact ⟨i1, i2⟩
      · refine ⟨?_, by simp only []; rw [i2]⟩
        simp only []
        rw [i2]
        unfold glAdd
        split
        · unfold glFl
          exact i1.cA.cA.cA.cA.cF
        · exact i1
theorem haSt_lo {A C : xS} {j i : Nat} (h : loE A C) (hj : j < 8) : loE (haSt A j i) (haSt C j i) := by
  unfold haSt trCut
  rw [(h.1 (72 + 15 * j + 1) (by omega)).2.1]
  exact h.cA
theorem haLet_lo {A C : xS} {oa : Nat → Nat} {D : Nat → Nat → Int32} {g : Nat → Nat} {R j m i : Nat} (h : loE A C) (hj : j < 8) : loE (haLet A oa D g R j m i) (haLet C oa D g R j m i) := by
  have hs := haSt_lo (i := i) h hj
  unfold haLet
  rw [(h.1 (72 + 15 * j + 1) (by omega)).2.1]
  split
  · unfold haDone trSurf
    rw [(hs.1 (72 + 15 * j + 6) (by omega)).2.1, (hs.1 (72 + 15 * j + 4) (by omega)).2.1, (hs.1 (72 + 15 * j + 5) (by omega)).2.1, (hs.1 0 (by omega)).2.2]
    exact (loE.cE hs).cJ
  · split
    · unfold haAway haBig trSurf
      rw [(hs.1 (72 + 15 * j + 2) (by omega)).2.1, (hs.1 (72 + 15 * j + 3) (by omega)).2.1, (hs.1 (72 + 15 * j + 4) (by omega)).2.1, (hs.1 (72 + 15 * j + 5) (by omega)).2.1, (hs.1 0 (by omega)).2.2]
      split
      · unfold rkAdd
        exact (glPart_lo hs (by omega) m).1.cF
      · exact hs.cJ
    · exact hs
theorem haLet_hi {S : xS} {oa : Nat → Nat} {D : Nat → Nat → Int32} {g : Nat → Nat} {R j m i : Nat} (hj : j < 8) (hg : R < 10 → g R + 5 ≤ 57) : hiE S (haLet S oa D g R j m i) := by
  have hs : hiE S (haSt S j i) := hiE.rf.A (by omega)
  unfold haLet
  split
  · unfold haDone
    exact hiE.J (S1 := bkMove _ _ _ _ _) hs (by decide)
  · split
    · unfold haAway
      split
      · rename_i z
        have := hg z.2
        unfold rkAdd
        exact (hs.K (glPart_ok m).1 (by omega)).F (by decide)
      · exact hs.J (by decide)
    · exact hs
theorem haClr_lo {A C : xS} {j n : Nat} (h : loE A C) (hj : j < 8) : loE (haClr A j n) (haClr C j n) := by
  unfold haClr
  rw [show trWaits C (72 + 15 * j) = trWaits A (72 + 15 * j) by funext q; unfold trWaits; rw [(h.1 _ (by omega)).2.1]]
  split
  · exact h.cF.cF
  · exact h
theorem haClr_hi {S : xS} {j n : Nat} (hj : j < 8) : hiE S (haClr S j n) := by
  unfold haClr
  split
  · exact (hiE.rf.F (by omega)).F (by omega)
  · exact hiE.rf
theorem moMeets_hi {A C : xS} {s k : Nat} {x y w z : Int32} (h : hiE A C) : moMeets C s k x y w z = moMeets A s k x y w z := moMeets_c (h 194 (by decide)).2.1
theorem moStL_hi {A C : xS} {o n s : Nat} (h : hiE A C) : ∀ k, hiE (moStL A o n s k).1 (moStL C o n s k).1 ∧ (moStL C o n s k).2 = (moStL A o n s k).2
  | 0 => by
    refine ⟨?_, rfl⟩
    show hiE (moSt0 A o n) (moSt0 C o n)
    unfold moSt0
    rw [(h 199 (by decide)).2.1, (h 200 (by decide)).2.1]
    exact h.cA.cA.cA
  | k + 1 => by
    obtain ⟨i1, i2⟩ := moStL_hi (o := o) (n := n) (s := s) h k
    simp only [moStL]
    rw [moMeets_hi h, (h 197 (by decide)).2.1, (h 198 (by decide)).2.1, (h 199 (by decide)).2.1, (h 200 (by decide)).2.1]
    split
    · refine ⟨?_, by simp only []; rw [i2]⟩
      simp only []
      unfold moStA moL moLo moRi moHi
      rw [i2, (h 197 (by decide)).2.1, (h 198 (by decide)).2.1, (h 199 (by decide)).2.1, (h 200 (by decide)).2.1, (h 194 (by decide)).2.1]
      exact i1.cA.cA.cA.cA.cA
    · exact ⟨i1, i2⟩
theorem moA1_hi {A C : xS} {n : Nat} (h : hiE A C) : hiE (moA1 A n) (moA1 C n) := by
  unfold moA1
  rw [(h 196 (by decide)).2.1]
  exact h.cA
theorem moArr_hi {A C : xS} {s n R fl : Nat} (h : hiE A C) : hiE (moArr A s n R fl) (moArr C s n R fl) := by
  have hs := moA1_hi (n := n) h
  unfold moArr moAr
  rw [(h 196 (by decide)).2.1, (h 201 (by decide)).2.1, (h 209 (by decide)).2.1, (h 210 (by decide)).2.1, (h 199 (by decide)).2.1, (h 200 (by decide)).2.1, (h 186 (by decide)).2.2]
  split
  · exact hs.cA.cA.cJ
  · split
    · split
      · unfold moStore
        exact (moStL_hi hs fl).1.cF
      · exact hs.cJ
    · exact hs
theorem sK_lo {S S' : xS} {lo hi : Nat} (k : sK lo hi S S') (h : 186 ≤ lo) (hR : sR S' = sR S) : loE S S' := ⟨fun o ho => ⟨(k.1 o (by omega)).1, (k.1 o (by omega)).2.1, (k.1 o (by omega)).2.2.1⟩, hR, k.2.1, k.2.2.1, k.2.2.2⟩
theorem moStL_R {S : xS} {o n s : Nat} : ∀ k, sR (moStL S o n s k).1 = sR S ∧ sJ (moStL S o n s k).1 = sJ S
  | 0 => ⟨rfl, rfl⟩
  | k + 1 => by
    simp only [moStL]
    split
    · exact moStL_R k
    · exact moStL_R k
theorem moArr_lo {S : xS} {s n R fl : Nat} : loE S (moArr S s n R fl) := by
  have hs : loE S (moA1 S n) := loE.rf.A (by decide)
  unfold moArr
  split
  · exact ((hs.A (by decide)).A (by decide)).J (by decide)
  · split
    · split
      · unfold moStore
        exact (hs.trans (sK_lo (moStL_K fl).1 (by decide) (moStL_R fl).1)).F (by decide)
      · exact hs.J (by decide)
    · exact hs
theorem let_comm {X : xS} {oa : Nat → Nat} {D : Nat → Nat → Int32} {g : Nat → Nat} {R R' j m i s n fl : Nat} (hj : j < 8) (hg : R < 10 → g R + 5 ≤ 57) : moArr (haLet X oa D g R j m i) s n R' fl = haLet (moArr X s n R' fl) oa D g R j m i :=
  two_eq ((haLet_lo moArr_lo.symm hj).trans moArr_lo) ((haLet_hi hj hg).symm.trans (moArr_hi (haLet_hi hj hg)))
