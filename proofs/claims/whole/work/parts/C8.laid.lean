/-! what is laid out, and nothing else -/
def kC (S C : xS) : Prop := (∀ o, (o < 57 ∨ 66 ≤ o) → sF C o = sF S o ∧ sA C o = sA S o) ∧ sJ C = sJ S ∧ sR C = sR S ∧ sE C = sE S ∧ sN C = sN S ∧ sL C = sL S
def kP (S P : xS) : Prop := (∀ o, (o < 215 ∨ 221 ≤ o) → sA P o = sA S o) ∧ (∀ o k, (o ≠ 186 ∨ (k ≠ 36 ∧ k ≠ 0)) → sF P o k = sF S o k) ∧ sJ P = sJ S ∧ sR P = sR S ∧ sE P = sE S ∧ sN P = sN S ∧ sL P = sL S
theorem kP.lo {S P : xS} (h : kP S P) : loE S P := ⟨fun o ho => ⟨funext fun k => h.2.1 o k (by omega), h.1 o (by omega), by rw [h.2.2.1]⟩, h.2.2.2.1, h.2.2.2.2.1, h.2.2.2.2.2.1, h.2.2.2.2.2.2⟩
section LT
variable {S : xS} {B t N R E : Nat} {oa : Nat → Nat} {D : Nat → Nat → Int32} {rk g tn fl nc : Nat → Nat}
theorem haI_kC {C : xS} (h : haI S B N R oa D rk g tn fl) (k : kC S C) (hn : ∃ n, n ≤ 36 ∧ sF C 57 5 = nI n) : haI C B N R oa D rk g tn fl := by
  have hg : ∀ k, k < 10 → ∃ t, t < 10 ∧ g k = 7 + 5 * t := fun k hk => rkGl h hk
  obtain ⟨a1, a2, a3, a4, a5, a6, a7, a8, a9, a10, a11, a12, a13⟩ := h
  obtain ⟨k1, k2, k3, k4, k5, k6⟩ := k
  have eF : ∀ o, (o < 57 ∨ 66 ≤ o) → sF C o = sF S o := fun o ho => (k1 o ho).1
  have eA : ∀ o, (o < 57 ∨ 66 ≤ o) → sA C o = sA S o := fun o ho => (k1 o ho).2
  refine ⟨fun j hj => by rw [k3]; exact a1 j hj, by rw [eF 2 (by omega)]; exact a2, fun q hq => ⟨by rw [k3]; exact (a3 q hq).1, (a3 q hq).2.1, by rw [k4]; exact (a3 q hq).2.2⟩, a4, fun q hq => by rw [eA 4 (by omega)]; exact a5 q hq, by rw [eF 5 (by omega)]; exact a6, fun q hq => ⟨by rw [k3]; exact (a7 q hq).1, (a7 q hq).2⟩, a8, fun q hq => by rw [eF _ (by omega)]; exact a9 q hq, fun q hq => by rw [eF _ (by omega)]; exact a10 q hq, fun q hq => ?_, fun q i hq hi => by rw [eA _ (by omega), eA _ (by omega)]; exact a12 q i hq hi, hn⟩
  obtain ⟨t', ht', et'⟩ := hg q hq
  rw [eF _ (by omega)]; exact a11 q hq
theorem haI_tree {T : xS} {j n : Nat} (h : haI S B N R oa D rk g tn fl) (hj : j < 8) (k : sK (72 + 15 * j) (72 + 15 * j + 9) S T) (h8 : sF T (72 + 15 * j) 8 = nI n) (hn : n ≤ 145) (hm : ∀ i, i < n → sA T (72 + 15 * j + 1) i = nI 2 → ∃ x, x < N ∧ sA T (72 + 15 * j + 6) i = nI x) : haI T B N R oa D rk g (va_up tn j n) fl := by
  have hg : ∀ k, k < 10 → ∃ t, t < 10 ∧ g k = 7 + 5 * t := fun k hk => rkGl h hk
  obtain ⟨a1, a2, a3, a4, a5, a6, a7, a8, a9, a10, a11, a12, a13⟩ := h
  have eF : ∀ o, (o < 72 + 15 * j ∨ 72 + 15 * j + 9 ≤ o) → sF T o = sF S o := fun o ho => (k.1 o ho).1
  have eA : ∀ o, (o < 72 + 15 * j ∨ 72 + 15 * j + 9 ≤ o) → sA T o = sA S o := fun o ho => (k.1 o ho).2.1
  have eR : ∀ o, (o < 72 + 15 * j ∨ 72 + 15 * j + 9 ≤ o) → sR T o = sR S o := fun o ho => (k.1 o ho).2.2.2
  refine ⟨fun q hq => by rw [eR 1 (by omega)]; exact a1 q hq, by rw [eF 2 (by omega)]; exact a2, fun q hq => ⟨by rw [eR 3 (by omega)]; exact (a3 q hq).1, (a3 q hq).2.1, by rw [k.2.1]; exact (a3 q hq).2.2⟩, a4, fun q hq => by rw [eA 4 (by omega)]; exact a5 q hq, by rw [eF 5 (by omega)]; exact a6, fun q hq => ⟨by rw [eR 6 (by omega)]; exact (a7 q hq).1, (a7 q hq).2⟩, a8, fun q hq => ?_, fun q hq => by rw [eF _ (by omega)]; exact a10 q hq, fun q hq => ?_, fun q i hq hi => ?_, by rw [eF 57 (by omega)]; exact a13⟩
  · by_cases e : q = j
    · subst e
      rw [va_up_self]; exact ⟨h8, hn⟩
    · rw [va_up_ne _ _ e, eF _ (by omega)]; exact a9 q hq
  · obtain ⟨t', ht', et'⟩ := hg q hq
    rw [eF _ (by omega)]; exact a11 q hq
  · by_cases e : q = j
    · subst e
      rw [va_up_self] at hi
      exact hm i hi
    · rw [va_up_ne _ _ e] at hi
      rw [eA _ (by omega), eA _ (by omega)]
      exact a12 q i hq hi
/-- what neither side looks at has changed -/
theorem liP.scr {Q : xS} (h : liP S B t N R E oa D rk g tn fl nc) (eF : ∀ o, (o < 57 ∨ (66 ≤ o ∧ o < 186)) → sF Q o = sF S o) (e6 : ∀ k, k ≠ 0 → k ≠ 36 → k ≠ 43 → sF Q 186 k = sF S 186 k) (eA : ∀ o, (o < 57 ∨ (66 ≤ o ∧ o < 215)) → sA Q o = sA S o) (eJ : sJ Q 0 = sJ S 0 ∧ sJ Q 186 = sJ S 186) (eR : sR Q = sR S) (eE : sE Q = sE S) (eN : sN Q = sN S) (eL : sL Q = sL S) (hn : ∃ n, n ≤ 36 ∧ sF Q 57 5 = nI n) : liP Q B t N R E oa D rk g tn fl nc := by
  obtain ⟨r1, ⟨⟨⟨c1, c2⟩, ⟨c3, c4⟩, c5, c6⟩, m2, m3, m4, m5, m6, m7, m8⟩, ⟨r3, rz⟩, ⟨r4, r5⟩, r6, r7⟩ := h
  have hg : ∀ k, k < 10 → ∃ t, t < 10 ∧ g k = 7 + 5 * t := fun k hk => rkGl r1 hk
  have hR10 : R ≤ 10 := r1.2.2.2.2.2.1.2
  have hfl6 : ∀ q, q < 8 → fl q ≤ 6 := fun q hq => (r1.2.2.2.2.2.2.2.2.2.1 q hq).2
  have hth : ∀ q, q < 8 → thB Q q = thB S q := fun q hq => by unfold thB; rw [eF _ (by omega)]
  have hI : haI Q B N R oa D rk g tn fl := by
    obtain ⟨a1, a2, a3, a4, a5, a6, a7, a8, a9, a10, a11, a12, a13⟩ := r1
    refine ⟨fun j hj => by rw [eR]; exact a1 j hj, by rw [eF 2 (by omega)]; exact a2, fun q hq => ⟨by rw [eR]; exact (a3 q hq).1, (a3 q hq).2.1, by rw [eE]; exact (a3 q hq).2.2⟩, a4, fun q hq => by rw [eA 4 (by omega)]; exact a5 q hq, by rw [eF 5 (by omega)]; exact a6, fun q hq => ⟨by rw [eR]; exact (a7 q hq).1, (a7 q hq).2⟩, a8, fun q hq => by rw [eF _ (by omega)]; exact a9 q hq, fun q hq => by rw [eF _ (by omega)]; exact a10 q hq, fun q hq => ?_, fun q i hq hi => by rw [eA _ (by omega), eA _ (by omega)]; exact a12 q i hq hi, hn⟩
    obtain ⟨t', ht', et'⟩ := hg q hq
    rw [eF _ (by omega)]; exact a11 q hq
  refine ⟨hI, ⟨⟨⟨by rw [e6 _ (by decide) (by decide) (by decide)]; exact c1, by rw [e6 _ (by decide) (by decide) (by decide)]; exact c2⟩, ⟨by rw [eF 0 (by omega)]; exact c3, by rw [e6 _ (by decide) (by decide) (by decide)]; exact c4⟩, fun q hq hti => ?_, fun q q' hq hq' t1 t2 z => ?_⟩, by rw [arQ, eJ.1, eJ.2]; exact m2, fun q hq => ?_, fun q hq => ?_, fun k hk => ?_, ?_, fun k hk => ?_, m8⟩, ⟨fun k hk => by rw [eN]; exact r3 k hk, fun k hk => by rw [eA 209 (by omega), eA 210 (by omega)]; exact rz k hk⟩, ⟨by rw [eN]; exact r4, by rw [eN]; exact r5⟩, by rw [eL]; exact r6, r7⟩
  · rw [hth q hq] at hti
    rw [eF _ (by omega)]; exact c5 q hq hti
  · rw [hth q hq] at t1
    rw [hth q' hq'] at t2
    rw [eF _ (by omega), eF _ (by omega)] at z
    exact c6 q q' hq hq' t1 t2 z
  · exact (m3 q hq).c rfl (hfl6 q hq) (eF _ (by omega)) (fun w _ => by rw [eF _ (by omega)]) (fun w w1 w4 => eA _ (by omega)) (fun w hw => by rw [eA w (by omega)]) (fun w _ => by rw [eA 194 (by omega)])
  · exact (m4 q hq).c (Nat.le_refl _) rfl rfl (hth q hq) (by rw [eA 191 (by omega)]) (by rw [eA 195 (by omega)]) (fun w w1 w8 => eA _ (by omega)) (fun o w o1 o2 _ => by rw [eA o (by omega)]) (by rw [eA 192 (by omega)])
  · rw [show unA Q tn k = unA S tn k from sumN_c (fun q hq => unJ_c rfl (fun w hw => eA _ (by omega)))]
    exact (m5 k hk).c (fun o o1 o2 => by rw [eA o (by omega)])
  · exact m6.c (fun k _ => ⟨by rw [eA 205 (by omega)], by rw [eA 206 (by omega)]⟩)
  · obtain ⟨t', ht', et'⟩ := hg k (by omega)
    exact (m7 k hk).c (eF _ (by omega)) (fun w w1 w4 => eA _ (by omega)) (fun o o1 o2 => by rw [eA o (by omega)]) (fun w _ => by rw [eA 214 (by omega)])
end LT
theorem liP.one {S : xS} {B t N R E : Nat} {oa : Nat → Nat} {D : Nat → Nat → Int32} {rk g tn fl nc : Nat → Nat} (h : liP S B t N R E oa D rk g tn fl nc) : liA B (t + 1) S := liA.skip ⟨N, R, E, oa, D, rk, g, tn, fl, nc, h⟩
/-! how many panes of an order are in a list -/
def pI (L : List nd) (o i : Nat) : Nat := match L[i]? with
  | none => 0
  | some v => if v.1 = 2 ∧ v.2.2.2.2.2.1 = nI o then 1 else 0
theorem pCt_take {L : List nd} {o : Nat} : ∀ n, n ≤ L.length → pCt (L.take n) o = sumN (pI L o) n
  | 0, _ => by simp [pCt, sumN]
  | n + 1, h => by
    have hv : L[n]? = some (L[n]'(by omega)) := List.getElem?_eq_getElem (by omega)
    rw [List.take_add_one, hv, pCt_app, pCt_take n (by omega)]
    simp only [sumN, pI]
    rw [hv]
    simp only [Option.toList]
    congr 1
    unfold pCt
    by_cases z : (L[n]'(by omega)).1 = 2 ∧ (L[n]'(by omega)).2.2.2.2.2.1 = nI o
    · rw [if_pos z]
      simp [List.filter, z.1, z.2]
    · rw [if_neg z]
      simp only [List.filter]
      rw [show (decide ((L[n]'(by omega)).1 = 2) && decide ((L[n]'(by omega)).2.2.2.2.2.1 = nI o)) = false by
        cases q : (decide ((L[n]'(by omega)).1 = 2) && decide ((L[n]'(by omega)).2.2.2.2.2.1 = nI o)) with
        | false => rfl
        | true =>
          rw [Bool.and_eq_true, decide_eq_true_eq, decide_eq_true_eq] at q
          exact absurd q z]
      rfl
theorem pCt_sum {L : List nd} {o : Nat} : pCt L o = sumN (pI L o) L.length := by
  have := pCt_take (L := L) (o := o) L.length (Nat.le_refl _)
  rw [List.take_length] at this
  exact this
theorem seqC_nCt {Y : lY} {f : Nat → Option Nat} {x : Nat} : ∀ m, (∀ i, i < m → f i = some (yO Y i)) → seqC f x m = nCt Y x m
  | 0, _ => rfl
  | m + 1, h => by
    simp only [seqC, nCt]
    rw [seqC_nCt m (fun i hi => h i (by omega)), h m (by omega)]
    by_cases e : yO Y m = x
    · rw [if_pos (by rw [e]), if_pos e]
    · rw [if_neg (fun z => e (Option.some.inj z)), if_neg e]
/-- an order of which c panes have moved from open to planned -/
theorem orQ.goes {S S' : xS} {D D' : Nat → Int32} {k p c : Nat} (q : orQ S D k p) (d3 : ∃ o, D 3 = nI o ∧ o ≤ 6 ∧ c ≤ o ∧ D' 3 = nI (o - c) ∧ sA S' 208 k = nI (o - c)) (d4 : D' 4 = nI (p + c)) (dq : ∀ i, i ≠ 3 → i ≠ 4 → D' i = D i) (s9 : sA S' 209 k = nI (p + c)) (sq : ∀ i, 205 ≤ i → i ≤ 210 → i ≠ 208 → i ≠ 209 → sA S' i k = sA S i k) : orQ S' D' k (p + c) := by
  obtain ⟨w, h, o, d, ⟨b1, b2, b3⟩, ⟨⟨e1, e2⟩, ⟨e3, e4, e5⟩⟩, ⟨⟨g1, g2⟩, ⟨g3, g4, g5⟩⟩, e6⟩ := q
  obtain ⟨o', f1, f2, f2', f3, f4⟩ := d3
  have eo : o = o' := (nI_eq (by omega) (by omega)).mp (e3.symm.trans f1)
  subst eo
  exact ⟨w, h, o - c, d, ⟨b1, b2, by omega⟩, ⟨⟨by rw [dq _ (by decide) (by decide)]; exact e1, by rw [dq _ (by decide) (by decide)]; exact e2⟩, ⟨f3, d4, by rw [dq _ (by decide) (by decide)]; exact e5⟩⟩, ⟨⟨by rw [sq _ (by decide) (by decide) (by decide) (by decide)]; exact g1, by rw [sq _ (by decide) (by decide) (by decide) (by decide)]; exact g2⟩, ⟨f4, s9, by rw [sq _ (by decide) (by decide) (by decide) (by decide)]; exact g5⟩⟩, by rw [dq _ (by decide) (by decide), sq _ (by decide) (by decide) (by decide) (by decide)]; exact e6⟩
