/-! strip by strip: class and reference side by side -/
/-- what stays: glass, flaws, orders -/
def stX (C P : xS) (b s fl N : Nat) (D : Nat → Nat → Int32) (rk ow oh oo : Nat → Nat) (W H : Nat) : Prop := ((67 ≤ b ∧ b + 5 ≤ 186) ∧ N ≤ 6) ∧
  (∀ k, k < fl → sA C (b + 1) k = sA P 194 (24 * s + 4 * k) ∧ sA C (b + 2) k = sA P 194 (24 * s + 4 * k + 1) ∧ sA C (b + 3) k = sA P 194 (24 * s + 4 * k + 2) ∧ sA C (b + 4) k = sA P 194 (24 * s + 4 * k + 3)) ∧
  ((sF C b 4 = nI W ∧ sF C b 5 = nI H) ∧ (sA P 189 s = nI W ∧ sA P 190 s = nI H) ∧ W ≤ 6000 ∧ H ≤ 6000) ∧
  (∀ o, o < N → (D o 0 = nI (ow o) ∧ D o 1 = nI (oh o) ∧ D o 3 = nI (oo o)) ∧ (sA P 205 o = nI (ow o) ∧ sA P 206 o = nI (oh o) ∧ sA P 208 o = nI (oo o)) ∧ (D o 2 = 0 ↔ sA P 207 o = 0) ∧ (1 ≤ ow o ∧ ow o ≤ 6000) ∧ (1 ≤ oh o ∧ oh o ≤ 6000) ∧ oo o ≤ 6) ∧ rkSorted P N rk
/-- what is laid -/
def stZ (C P : xS) (N n : Nat) (oo : Nat → Nat) (Y : lY) : Prop := lyOf C Y n ∧ lyM P Y n ∧ (∀ i, i < n → yO Y i < N) ∧ (∀ o, o < N → sA P 220 o = nI (nCt Y o n) ∧ nCt Y o n ≤ oo o) ∧ sF P 186 36 = nI n
def st63 (C : xS) (c x y room : Nat) : Prop := sF C 63 2 = nI c ∧ sF C 63 4 = nI x ∧ sF C 63 5 = nI y ∧ sF C 63 6 = nI room
section SS
variable {C P : xS} {b s fl N n c row x y room W H : Nat} {D : Nat → Nat → Int32} {rk ow oh oo : Nat → Nat} {Y : lY}
theorem stX.eq (hX : stX C P b s fl N D rk ow oh oo W H) (hZ : stZ C P N n oo Y) (h6 : st63 C c x y room) : ∀ o, o < N → stEq (jn C P) b s fl n x y (nI room) (D o) o := by
  obtain ⟨⟨⟨b1, b2⟩, hN⟩, hf, ⟨⟨w1, w2⟩, ⟨w3, w4⟩, -⟩, ho, hr⟩ := hX
  obtain ⟨z1, z2, z3, z4, z5⟩ := hZ
  obtain ⟨s1, s2, s3, s4⟩ := h6
  intro o ho'
  obtain ⟨⟨d0, d1, d3⟩, ⟨p5, p6, p8⟩, d2, -⟩ := ho o ho'
  refine ⟨fun k hk => ?_, ⟨?_, ?_⟩, ⟨?_, ?_⟩, ⟨?_, ?_⟩, ⟨?_, ?_⟩, ?_⟩
  · rw [jn_lA (o := b + 1) (by omega), jn_lA (o := b + 2) (by omega), jn_lA (o := b + 3) (by omega), jn_lA (o := b + 4) (by omega), jn_hA (o := 194) (by decide)]
    exact hf k hk
  · rw [jn_hA (by decide)]; exact d3.trans p8.symm
  · rw [jn_hA (by decide), laCount_c (S := C) (jn_lA (by decide)), laCount_y z1 (by omega) (fun i hi => by have := z3 i hi; omega) n (Nat.le_refl _)]
    exact (z4 o ho').1.symm
  · rw [jn_lF (by decide)]; exact s4
  · rw [jn_lF (by omega), jn_hA (by decide)]; exact w2.trans w4.symm
  · rw [jn_lF (by decide)]; exact s3
  · rw [jn_lF (by decide)]; exact s2
  · rw [jn_hA (by decide)]; exact d0.trans p5.symm
  · rw [jn_hA (by decide)]; exact d1.trans p6.symm
  · rw [jn_hA (by decide)]; exact d2
theorem stX.full (hX : stX C P b s fl N D rk ow oh oo W H) (hZ : stZ C P N n oo Y) {rm : Int32} {v : Nat} (hv : moCh P s fl x y rm N = some v) : v / 2 < N ∧ nCt Y (v / 2) n < oo (v / 2) ∧ n < 36 := by
  obtain ⟨⟨-, hN⟩, -, -, ho, -⟩ := hX
  obtain ⟨z1, z2, z3, z4, z5⟩ := hZ
  obtain ⟨h1, h2⟩ := moCh_pos hv
  obtain ⟨-, ⟨-, -, p8⟩, -, -, -, q6⟩ := ho _ h1
  obtain ⟨c1, c2⟩ := z4 _ h1
  unfold moPos at h2
  rw [moPo_and] at h2
  have h2 := (Bool.and_eq_true _ _).mp h2
  have h3 := h2.1
  unfold moMay at h3
  rw [p8, c1] at h3
  simp only [Bool.and_eq_true, Bool.not_eq_true', decide_eq_false_iff_not] at h3
  have h4 : nCt Y (v / 2) n < oo (v / 2) := Nat.not_le.mp fun z => h3.1 ((nI_leI (by omega) (by omega)).mpr z)
  have h5 := nCs_lt (Y := Y) (n := n) (o := v / 2) N (fun o ho' => by have := (z4 o ho').2; have := (ho o ho').2.2.2.2.2; omega) h1 (by omega)
  rw [nCs_n n z3] at h5
  exact ⟨h1, h4, by omega⟩
theorem stX.fits (hX : stX C P b s fl N D rk ow oh oo W H) (hy : y ≤ H) (hrm : room < 2 ^ 30) {v : Nat} (hv : moCh P s fl x y (nI room) N = some v) : (if v % 2 = 1 then oh (v / 2) else ow (v / 2)) ≤ room ∧ y + (if v % 2 = 1 then ow (v / 2) else oh (v / 2)) ≤ H := by
  obtain ⟨⟨-, hN⟩, -, ⟨-, ⟨-, w4⟩, -, hH⟩, ho, -⟩ := hX
  obtain ⟨h1, h2⟩ := moCh_pos hv
  obtain ⟨-, ⟨p5, p6, -⟩, -, ⟨-, q4⟩, ⟨-, q5⟩, -⟩ := ho _ h1
  unfold moPos at h2
  rw [moPo_and] at h2
  have h2 := (Bool.and_eq_true _ _).mp h2
  have h3 := h2.1
  unfold moMay moPw moPh at h3
  rw [p5, p6, w4, nI_subN hy] at h3
  simp only [Bool.and_eq_true, Bool.not_eq_true', decide_eq_false_iff_not, decide_eq_true_eq] at h3
  obtain ⟨-, r1, r2, -⟩ := h3
  by_cases e : v % 2 = 1
  · rw [if_pos e, if_pos e]
    rw [if_pos e] at r1 r2
    have a1 := Nat.not_lt.mp fun z => r1 (nI_lt z (by omega))
    have a2 := Nat.not_lt.mp fun z => r2 (nI_lt z (by omega))
    omega
  · rw [if_neg e, if_neg e]
    rw [if_neg e] at r1 r2
    have a1 := Nat.not_lt.mp fun z => r1 (nI_lt z (by omega))
    have a2 := Nat.not_lt.mp fun z => r2 (nI_lt z (by omega))
    omega
/-- both halves may move where strips move them -/
def sKC (C C' : xS) : Prop := (∀ o, (o < 57 ∨ 64 ≤ o) → sF C' o = sF C o ∧ sA C' o = sA C o) ∧ sJ C' = sJ C ∧ sR C' = sR C ∧ sE C' = sE C ∧ sN C' = sN C ∧ sL C' = sL C
def sKP (P P' : xS) : Prop := (∀ o, (o < 215 ∨ 221 ≤ o) → sA P' o = sA P o) ∧ (∀ o k, (o ≠ 186 ∨ k ≠ 36) → sF P' o k = sF P o k) ∧ sJ P' = sJ P ∧ sR P' = sR P ∧ sE P' = sE P ∧ sN P' = sN P ∧ sL P' = sL P
theorem sKC.rf : sKC C C := ⟨fun _ _ => ⟨rfl, rfl⟩, rfl, rfl, rfl, rfl, rfl⟩
theorem sKP.rf : sKP P P := ⟨fun _ _ => rfl, fun _ _ _ => rfl, rfl, rfl, rfl, rfl, rfl⟩
theorem sKC.trans {C1 C2 : xS} (h : sKC C C1) (k : sKC C1 C2) : sKC C C2 := ⟨fun o ho => ⟨(k.1 o ho).1.trans (h.1 o ho).1, (k.1 o ho).2.trans (h.1 o ho).2⟩, k.2.1.trans h.2.1, k.2.2.1.trans h.2.2.1, k.2.2.2.1.trans h.2.2.2.1, k.2.2.2.2.1.trans h.2.2.2.2.1, k.2.2.2.2.2.trans h.2.2.2.2.2⟩
theorem sKP.trans {C1 C2 : xS} (h : sKP P C1) (k : sKP C1 C2) : sKP P C2 := ⟨fun o ho => (k.1 o ho).trans (h.1 o ho), fun o q ho => (k.2.1 o q ho).trans (h.2.1 o q ho), k.2.2.1.trans h.2.2.1, k.2.2.2.1.trans h.2.2.2.1, k.2.2.2.2.1.trans h.2.2.2.2.1, k.2.2.2.2.2.1.trans h.2.2.2.2.2.1, k.2.2.2.2.2.2.trans h.2.2.2.2.2.2⟩
theorem sKC.F {C1 : xS} {o k : Nat} {v : Int32} (h : sKC C C1) (ho : 57 ≤ o ∧ o < 64) : sKC C (uF C1 o k v) := ⟨fun q hq => ⟨by rw [sF_uFn _ _ _ (by omega)]; exact (h.1 q hq).1, (h.1 q hq).2⟩, h.2⟩
theorem sKC.A {C1 : xS} {o k : Nat} {v : Int32} (h : sKC C C1) (ho : 57 ≤ o ∧ o < 64) : sKC C (uA C1 o k v) := ⟨fun q hq => ⟨(h.1 q hq).1, by rw [sA_uAn _ _ _ (by omega)]; exact (h.1 q hq).2⟩, h.2⟩
theorem sKP.A {C1 : xS} {o k : Nat} {v : Int32} (h : sKP P C1) (ho : 215 ≤ o ∧ o < 221) : sKP P (uA C1 o k v) := ⟨fun q hq => by rw [sA_uAn _ _ _ (by omega)]; exact h.1 q hq, h.2⟩
theorem sKP.F {C1 : xS} {v : Int32} (h : sKP P C1) : sKP P (uF C1 186 36 v) := by
  refine ⟨h.1, fun o k q => Eq.trans ?_ (h.2.1 o k q), h.2.2⟩
  by_cases e : o = 186
  · subst e
    rw [sF_uF, va_up_ne _ _ (by omega)]
  · rw [sF_uFn _ _ _ e]
theorem laPut_KC {x w h c r : Int32} : sKC C (laPut C n x w h c r) := by
  unfold laPut
  exact (((((sKC.rf.A (by decide)).A (by decide)).A (by decide)).A (by decide)).A (by decide)).F (by decide)
theorem moPl2_KP {v : Nat} : sKP P (moPl2 P n v c row) := by
  unfold moPl2 moLay
  exact ((((((sKP.rf.A (by decide)).A (by decide)).A (by decide)).A (by decide)).A (by decide)).F).A (by decide)
theorem stX.kept {C' P' : xS} (hX : stX C P b s fl N D rk ow oh oo W H) (h : sKC C C') (k : sKP P P') : stX C' P' b s fl N D rk ow oh oo W H := by
  obtain ⟨⟨⟨b1, b2⟩, hN⟩, hf, ⟨⟨w1, w2⟩, ⟨w3, w4⟩, w5⟩, ho, hr⟩ := hX
  refine ⟨⟨⟨b1, b2⟩, hN⟩, fun q hq => ?_, ⟨⟨?_, ?_⟩, ⟨?_, ?_⟩, w5⟩, fun o ho' => ?_, hr.1, hr.2.1, fun a d h1 h2 => ?_⟩
  · rw [(h.1 (b + 1) (by omega)).2, (h.1 (b + 2) (by omega)).2, (h.1 (b + 3) (by omega)).2, (h.1 (b + 4) (by omega)).2, k.1 194 (by omega)]
    exact hf q hq
  · rw [(h.1 b (by omega)).1]; exact w1
  · rw [(h.1 b (by omega)).1]; exact w2
  · rw [k.1 189 (by omega)]; exact w3
  · rw [k.1 190 (by omega)]; exact w4
  · rw [k.1 205 (by omega), k.1 206 (by omega), k.1 207 (by omega), k.1 208 (by omega)]
    exact ho o ho'
  · have := hr.2.2 a d h1 h2
    unfold moBef at this ⊢
    rw [k.1 205 (by omega), k.1 206 (by omega)]
    exact this
theorem nCt_put {o o' w h : Nat} : ∀ i, i ≤ n → nCt (yPut Y n c row w h o) o' i = nCt Y o' i
  | 0, _ => rfl
  | i + 1, hi => by
    simp only [nCt]
    rw [nCt_put i (by omega), (yPut_ne (by omega)).2.2.2.2]
/-- a pane is laid on both sides -/
theorem stZ.put {C1 P1 : xS} {o w h : Nat} (hZ : stZ C P N n oo Y) (ho : o < N) (hlt : nCt Y o n < oo o)
    (c1 : sA C1 58 = va_up (sA C 58) n (nI o) ∧ sA C1 59 = va_up (sA C 59) n (nI w) ∧ sA C1 60 = va_up (sA C 60) n (nI h) ∧ sA C1 61 = va_up (sA C 61) n (nI c) ∧ sA C1 62 = va_up (sA C 62) n (nI row))
    (p1 : sA P1 215 = va_up (sA P 215) n (nI o) ∧ sA P1 216 = va_up (sA P 216) n (nI w) ∧ sA P1 217 = va_up (sA P 217) n (nI h) ∧ sA P1 218 = va_up (sA P 218) n (nI c) ∧ sA P1 219 = va_up (sA P 219) n (nI row))
    (p2 : sA P1 220 = va_up (sA P 220) o (sA P 220 o + nI 1)) (p3 : sF P1 186 36 = nI (n + 1)) : stZ C1 P1 N (n + 1) oo (yPut Y n c row w h o) := by
  obtain ⟨z1, z2, z3, z4, z5⟩ := hZ
  have hat := yPut_at (Y := Y) (n := n) (c := c) (r := row) (w := w) (h := h) (o := o)
  obtain ⟨a1, a2, a3, a4, a5⟩ := c1
  obtain ⟨b1, b2, b3, b4, b5⟩ := p1
  refine ⟨fun i hi => ?_, fun i hi => ?_, fun i hi => ?_, fun q hq => ?_, p3⟩
  · rw [a1, a2, a3, a4, a5]
    by_cases e : i = n
    · subst e
      rw [hat.1, hat.2.1, hat.2.2.1, hat.2.2.2.1, hat.2.2.2.2]
      exact ⟨va_up_self _ _ _, va_up_self _ _ _, va_up_self _ _ _, va_up_self _ _ _, va_up_self _ _ _⟩
    · obtain ⟨u1, u2, u3, u4, u5⟩ := yPut_ne (Y := Y) (n := n) (c := c) (r := row) (w := w) (h := h) (o := o) e
      rw [u1, u2, u3, u4, u5]
      simp only [va_up_ne _ _ e]
      exact z1 i (by omega)
  · rw [b1, b2, b3, b4, b5]
    by_cases e : i = n
    · subst e
      rw [hat.1, hat.2.1, hat.2.2.1, hat.2.2.2.1, hat.2.2.2.2]
      exact ⟨va_up_self _ _ _, va_up_self _ _ _, va_up_self _ _ _, va_up_self _ _ _, va_up_self _ _ _⟩
    · obtain ⟨u1, u2, u3, u4, u5⟩ := yPut_ne (Y := Y) (n := n) (c := c) (r := row) (w := w) (h := h) (o := o) e
      rw [u1, u2, u3, u4, u5]
      simp only [va_up_ne _ _ e]
      exact z2 i (by omega)
  · by_cases e : i = n
    · subst e
      rw [hat.2.2.2.2]; exact ho
    · rw [(yPut_ne (Y := Y) (n := n) (c := c) (r := row) (w := w) (h := h) (o := o) e).2.2.2.2]
      exact z3 i (by omega)
  · obtain ⟨q1, q2⟩ := z4 q hq
    simp only [nCt]
    rw [nCt_put n (Nat.le_refl _), hat.2.2.2.2, p2]
    by_cases e : q = o
    · subst e
      rw [va_up_self, if_pos rfl, q1, nI_add]
      exact ⟨rfl, by omega⟩
    · rw [va_up_ne _ _ e, if_neg (fun z => e z.symm)]
      exact ⟨q1, q2⟩
theorem stZ.ofC {C1 : xS} (hZ : stZ C P N n oo Y) (h58 : sA C1 58 = sA C 58) (h59 : sA C1 59 = sA C 59) (h60 : sA C1 60 = sA C 60) (h61 : sA C1 61 = sA C 61) (h62 : sA C1 62 = sA C 62) : stZ C1 P N n oo Y :=
  ⟨fun i hi => by rw [h58, h59, h60, h61, h62]; exact hZ.1 i hi, hZ.2⟩
end SS
