/-! the questions -/
theorem isT.at {f : Nat} {T : List nd} {x y w h : Nat} (q : isT f T x y w h) {i : Nat} {v : nd} (hv : T[i]? = some v) : (v.1 ≤ 3 ∧ (isCut v = true ↔ v.2.2.2.2.2.2 ≠ 0)) ∧ (isCut v = true → i + 1 < T.length ∧ i + v.2.2.2.2.2.2 < T.length ∧ 1 < v.2.2.2.2.2.2) := by
  obtain ⟨f', U, u1, u2, u3, -⟩ := q.sub i v hv
  have hl := u3.len u1.len
  rcases u1.leaf u2 with ⟨e, hU, hsx, hk⟩ | ⟨e, f'', A, C, _, _, _, _, _, _, _, _, hU, hsx, qA, qC⟩
  · refine ⟨⟨by omega, ?_⟩, fun z => by rw [e] at z; cases z⟩
    rw [e, hsx]
    exact ⟨(fun z => by cases z), fun z => absurd rfl z⟩
  · have lA := qA.len
    have lC := qC.len
    have hlen : U.length = 1 + A.length + C.length := by rw [hU]; simp; omega
    have hk : v.1 = 0 ∨ v.1 = 1 := by
      unfold isCut at e
      rcases (Bool.or_eq_true _ _).mp e with z | z
      · exact Or.inl (of_decide_eq_true z)
      · exact Or.inr (of_decide_eq_true z)
    refine ⟨⟨by omega, ⟨fun _ => by omega, fun _ => e⟩⟩, fun _ => ⟨by omega, by omega, by omega⟩⟩
theorem ndX.cut {S : xS} {j i : Nat} {v : nd} {s : Nat} (q : ndX S j i v s) (h3 : v.1 ≤ 3) : trCut S (72 + 15 * j) i = isCut v := by
  unfold trCut isCut
  rw [q.1.1.1]
  congr 1
  · rw [← nI_0]
    exact decide_eq_decide.mpr (nI_eq (by omega) (by decide))
  · exact decide_eq_decide.mpr (nI_eq (by omega) (by decide))
theorem ndX.eq {S : xS} {j i : Nat} {v : nd} {s : Nat} (q : ndX S j i v s) (h3 : v.1 ≤ 3) (hc : isCut v = true ↔ v.2.2.2.2.2.2 ≠ 0) : ndEq S (72 + 15 * j) (160 * j + i) i := by
  have hcut := q.cut h3
  obtain ⟨⟨⟨a1, a2, a3⟩, ⟨a4, a5, a6⟩, a7, a8⟩, ⟨b1, b2, b3⟩, ⟨b4, b5, b6⟩, ⟨b7, b8⟩, b9⟩ := q
  refine ⟨⟨a1.trans b1.symm, a2.trans b2.symm, a3.trans b3.symm, a4.trans b4.symm, a5.trans b5.symm, a6.trans b6.symm⟩, ?_, a7.trans b8.symm, a8.trans b9.symm⟩
  rw [b7, hcut]
  by_cases z : v.2.2.2.2.2.2 = 0
  · rw [if_pos z, if_neg (fun u => hc.mp u z)]
  · rw [if_neg z, if_pos (hc.mpr z)]
section QU
variable {S : xS} {N R E : Nat} {D : Nat → Nat → Int32} {rk g tn fl nc : Nat → Nat}
theorem mEq.plan (h : mEq S N R E D rk g tn fl nc) {j : Nat} (hj : j < 8) (ht : thB S j = true) : 0 < tn j ↔ ¬ sA S 191 j = 0 := (h.2.2.2.1 j hj).1 ht
theorem mEq.cnt (h : mEq S N R E D rk g tn fl nc) : ∀ s, s < 8 → sA S 195 s = nI (nc s) ∧ nc s ≤ 160 := fun s hs => by
  obtain ⟨-, -, ⟨q1, q2⟩, -⟩ := h.2.2.2.1 s hs
  exact ⟨q1, by omega⟩
theorem mEq.nd (h : mEq S N R E D rk g tn fl nc) {j i : Nat} (hj : j < 8) (hi : i < tn j) : ndEq S (72 + 15 * j) (160 * j + i) i := by
  obtain ⟨-, L, σ, w, z, l1, l2, ⟨f, l3⟩, l4, l5, l6, l7, l8⟩ := (h.2.2.2.1 j hj).2.2.2.2 (by omega)
  have hv : L[i]? = some (L[i]'(by omega)) := List.getElem?_eq_getElem (by omega)
  obtain ⟨⟨z1, z2⟩, -⟩ := l3.at hv
  exact (l7 i _ hv).eq z1 z2
theorem mEq.nck (h : mEq S N R E D rk g tn fl nc) {j : Nat} (hj : j < 8) (h0 : 0 < tn j) : nc j = tn j := ((h.2.2.2.1 j hj).2.2.2.2 h0).1
theorem mEq.flc (h : mEq S N R E D rk g tn fl nc) {j : Nat} (hj : j < 8) : sA S 193 j = nI (fl j) := by
  obtain ⟨w, z, -, -, -, ⟨q1, -⟩, -⟩ := h.2.2.1 j hj
  exact q1
end QU
theorem op_nodes {G : xG} {S : xS} {B t N R E : Nat} {oa : Nat → Nat} {D : Nat → Nat → Int32} {rk g tn fl nc : Nat → Nat} (hG : xOkG G) (hc : B + 1000 ≤ gC G) (hs : 30000 ≤ gS G) (ht : t < 512) (h : liP S B t N R E oa D rk g tn fl nc) {x : Int32} : opW G B t (liA B) S m_Ha_nodes m_Mo_nodes [.int x] [11, 13] := by
  have hH := c_Ha_nodes (d := 16) hG h.1 (h.rm hc hs ht) (x := x)
  have hsn := h.2.2.2.1.1
  cases e : fstN (idB S x) 8 with
  | none =>
    have hp : haNodes S tn x = (.inr 11, S) := by unfold haNodes; rw [e]
    rw [hp] at hH
    refine op_thr (ce := 11) (k := 1) hH rfl (by decide) rfl (by decide) ?_ hsn h.thrown
    have hq : moNodes (uN S 6 (.inr (11, []))) x = (0, moThr (uN S 6 (.inr (11, []))) 1) := by
      unfold moNodes; rw [(h.2.1.new.find x).trans e]
    rw [← hq]; exact c_Mo_nodes hG
  | some j =>
    obtain ⟨hj, hth⟩ := h.2.1.there e
    by_cases h0 : tn j = 0
    · have hp : haNodes S tn x = (.inr 13, S) := by unfold haNodes; rw [e]; exact if_pos h0
      rw [hp] at hH
      refine op_thr (ce := 13) (k := 2) hH rfl (by decide) rfl (by decide) ?_ hsn h.thrown
      have h191 : sA S 191 j = 0 := Classical.byContradiction fun z => by have := (h.2.1.plan hj hth).mpr z; omega
      have hq : moNodes (uN S 6 (.inr (13, []))) x = (0, moThr (uN S 6 (.inr (13, []))) 2) := by
        unfold moNodes; rw [(h.2.1.new.find x).trans e]
        show moP (if sA S 191 j = 0 then 2 else 0) _ _ _ = _
        rw [if_pos h191]; rfl
      rw [← hq]; exact c_Mo_nodes hG
    · have hp : haNodes S tn x = (rI (nI (tn j)), S) := by unfold haNodes; rw [e]; exact if_neg h0
      rw [hp] at hH
      have h191 : ¬ sA S 191 j = 0 := (h.2.1.plan hj hth).mp (by omega)
      have hq : moNodes (uJ S 230 0 (nI (tn j)).toInt64) x = (nI (tn j), moThr (uJ S 230 0 (nI (tn j)).toInt64) 0) := by
        unfold moNodes; rw [(h.2.1.J.find x).trans e]
        show moP (if sA S 191 j = 0 then 2 else 0) (sA S 195 j) _ _ = _
        rw [if_neg h191, (h.2.1.cnt j hj).1, h.2.1.nck hj (by omega)]; rfl
      refine op_ret (v := nI (tn j)) (q := moNodes (uJ S 230 0 (nI (tn j)).toInt64) x) hH rfl (c_Mo_nodes hG) ?_ ?_ ?_ hsn ?_
      · rw [hq]
      · rw [hq]; exact moThr_0
      · rw [hq]; exact told_J
      · rw [hq]; exact h.told
theorem op_node {G : xG} {S : xS} {B t N R E : Nat} {oa : Nat → Nat} {D : Nat → Nat → Int32} {rk g tn fl nc : Nat → Nat} (hG : xOkG G) (hc : B + 1000 ≤ gC G) (hs : 30000 ≤ gS G) (ht : t < 512) (h : liP S B t N R E oa D rk g tn fl nc) {x i w : Int32} : opW G B t (liA B) S m_Ha_node m_Mo_node [.int x, .int i, .int w] [11, 13, 14, 12] := by
  have hH := c_Ha_node (d := 16) hG h.1 (h.rm hc hs ht) (x := x) (i := i) (w := w)
  have hsn := h.2.2.2.1.1
  have hcN : ∀ s, s < 8 → ∃ n, n ≤ 160 ∧ sA S 195 s = nI n := fun s hs => ⟨nc s, (h.2.1.cnt s hs).2, (h.2.1.cnt s hs).1⟩
  cases e : fstN (idB S x) 8 with
  | none =>
    have hp : haNode S tn x i w = (.inr 11, S) := by unfold haNode; rw [e]
    rw [hp] at hH
    refine op_thr (ce := 11) (k := 1) hH rfl (by decide) rfl (by decide) ?_ hsn h.thrown
    have hq : moNode (uN S 6 (.inr (11, []))) x i w = (0, moThr (uN S 6 (.inr (11, []))) 1) := by
      unfold moNode; rw [(h.2.1.new.find x).trans e]
    rw [← hq]; exact c_Mo_node hG hcN
  | some j =>
    obtain ⟨hj, hth⟩ := h.2.1.there e
    have thr : ∀ (ce k : Nat), haNode S tn x i w = (.inr ce, S) → moNodeC S j i w = k → ce ∈ [11, 13, 14, 12] → cdOf [11, 13, 14, 12] ce = k → k ≠ 0 ∧ k < 100 → opW G B t (liA B) S m_Ha_node m_Mo_node [.int x, .int i, .int w] [11, 13, 14, 12] := by
      intro ce k hp hC h1 h2 h3
      rw [hp] at hH
      refine op_thr (ce := ce) (k := k) hH rfl h1 h2 h3 ?_ hsn h.thrown
      have hq : moNode (uN S 6 (.inr (ce, []))) x i w = (0, moThr (uN S 6 (.inr (ce, []))) k) := by
        unfold moNode; rw [(h.2.1.new.find x).trans e]
        show moP (moNodeC S j i w) _ _ _ = _
        rw [hC]; exact if_neg h3.1
      rw [← hq]; exact c_Mo_node hG hcN
    by_cases h0 : tn j = 0
    · have h191 : sA S 191 j = 0 := Classical.byContradiction fun z => by have := (h.2.1.plan hj hth).mpr z; omega
      exact thr 13 2 (by unfold haNode; rw [e]; exact if_pos h0) (if_pos h191) (by decide) rfl (by decide)
    · have h191 : ¬ sA S 191 j = 0 := (h.2.1.plan hj hth).mp (by omega)
      have h195 : sA S 195 j = nI (tn j) := by rw [(h.2.1.cnt j hj).1, h.2.1.nck hj (by omega)]
      have htn : tn j ≤ 145 := by have := (h.2.1.2.2.2.1 j hj).2.2.1.2; rw [h.2.1.nck hj (by omega)] at this; exact this
      rcases inB_cases (N := tn j) (by omega) i with ⟨q, hq, rfl, hb⟩ | hb
      · have i1 : ¬ nI q < 0 := nI_pos (by omega)
        have i2 : ¬ ¬ nI q < sA S 195 j := fun z => z (by rw [h195]; exact nI_lt hq (by omega))
        by_cases w0 : w < 0
        · exact thr 12 4 (by unfold haNode; rw [e]; simp only []; rw [if_neg h0, if_neg (by rw [hb]; decide), if_pos w0]) (by unfold moNodeC; rw [if_neg h191, if_neg i1, if_neg i2, if_pos w0]) (by decide) rfl (by decide)
        · by_cases w8 : w ≤ nI 8
          · have hp : haNode S tn x (nI q) w = (rI (trTell S (72 + 15 * j) q w.toNatClampNeg), S) := by
              unfold haNode; rw [e]; simp only []
              rw [if_neg h0, if_neg (by rw [hb]; decide), if_neg w0, if_neg (fun z => z w8), nI_clamp (by omega)]
            rw [hp] at hH
            have hw8 : w.toNatClampNeg ≤ 8 := by
              obtain ⟨k, hk, rfl⟩ := nI_of w0
              rw [nI_clamp hk]
              exact (nI_leI hk (by decide)).mp w8
            have htell := tell_eq (h.2.1.nd hj hq) hw8
            have hqq : moNode (uJ S 230 0 (trTell S (72 + 15 * j) q w.toNatClampNeg).toInt64) x (nI q) w = (trTell S (72 + 15 * j) q w.toNatClampNeg, moThr (uJ S 230 0 (trTell S (72 + 15 * j) q w.toNatClampNeg).toInt64) 0) := by
              unfold moNode; rw [(h.2.1.J.find x).trans e]
              show moP (moNodeC S j (nI q) w) (moNodeV S (160 * j + (nI q).toNatClampNeg) w.toNatClampNeg) _ _ = _
              rw [show moNodeC S j (nI q) w = 0 by unfold moNodeC; rw [if_neg h191, if_neg i1, if_neg i2, if_neg w0, if_neg (fun z => z w8)], nI_clamp (by omega), htell]; rfl
            refine op_ret (v := trTell S (72 + 15 * j) q w.toNatClampNeg) (q := moNode (uJ S 230 0 (trTell S (72 + 15 * j) q w.toNatClampNeg).toInt64) x (nI q) w) hH rfl (c_Mo_node hG hcN) ?_ ?_ ?_ hsn ?_
            · rw [hqq]
            · rw [hqq]; exact moThr_0
            · rw [hqq]; exact told_J
            · rw [hqq]; exact h.told
          · exact thr 12 4 (by unfold haNode; rw [e]; simp only []; rw [if_neg h0, if_neg (by rw [hb]; decide), if_neg w0, if_pos w8]) (by unfold moNodeC; rw [if_neg h191, if_neg i1, if_neg i2, if_neg w0, if_pos w8]) (by decide) rfl (by decide)
      · refine thr 14 3 (by unfold haNode; rw [e]; simp only []; rw [if_neg h0, if_pos hb]) ?_ (by decide) rfl (by decide)
        unfold moNodeC
        rw [if_neg h191]
        by_cases z : i < 0
        · rw [if_pos z]
        · rw [if_neg z, h195, if_pos]
          intro u
          unfold inB at hb
          rw [decide_eq_true (Int32.not_lt.mp z), decide_eq_true u] at hb
          cases hb
