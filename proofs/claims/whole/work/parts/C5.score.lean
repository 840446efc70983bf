/-! score -/
theorem isT.kind {f : Nat} {T : List nd} {x y w h : Nat} (q : isT f T x y w h) {i : Nat} {v : nd} (hv : T[i]? = some v) : (isCut v = true ∧ (v.1 = 0 ∨ v.1 = 1)) ∨ (isCut v = false ∧ (v.1 = 2 ∨ v.1 = 3)) := by
  obtain ⟨⟨k3, -⟩, -⟩ := q.at hv
  unfold isCut
  have : v.1 = 0 ∨ v.1 = 1 ∨ v.1 = 2 ∨ v.1 = 3 := by omega
  rcases this with z | z | z | z <;> rw [z] <;> simp
theorem isT.rect {f : Nat} {T : List nd} {w h : Nat} (q : isT f T 0 0 w h) (hw : w ≤ 6000 ∧ h ≤ 6000) {i : Nat} {v : nd} (hv : T[i]? = some v) : (v.2.1 + v.2.2.2.1 ≤ 6000 ∧ v.2.2.1 + v.2.2.2.2.1 ≤ 6000) ∧ 1 ≤ v.2.2.2.1 ∧ 1 ≤ v.2.2.2.2.1 := by
  obtain ⟨⟨a1, a2, a3, a4⟩, a5, a6⟩ := q.inside v (getElem_mem' hv)
  omega
theorem mM.start {S Z : xS} {B N R E : Nat} {oa : Nat → Nat} {D : Nat → Nat → Int32} {rk g tn fl nc : Nat → Nat} {j : Nat} {L : List nd} {σ : Nat → Nat} (hI : haI S B N R oa D rk g tn fl) (h : mEq S N R E D rk g tn fl nc) (hz : zQ S N) (hj : j < 8) (hth : thB S j = true) (h191 : ¬ sA S 191 j = 0) (hl : L.length = tn j) (h0 : 0 < tn j)
    (eF : ∀ o, o ≠ 186 → sF Z o = sF S o) (e6 : ∀ k, k ≠ 0 → sF Z 186 k = sF S 186 k) (eA : ∀ o, o ≠ 72 + 15 * j + 8 → o ≠ 192 → o ≠ 204 → sA Z o = sA S o) (e192 : ∀ q, q ≠ j → sA Z 192 q = sA S 192 q) (e204 : ∀ q, q < 160 * j ∨ 160 * j + 145 ≤ q → sA Z 204 q = sA S 204 q) (eJ : ∀ o, o ≠ 230 → sJ Z o = sJ S o) (hn : ∀ i v, L[i]? = some v → ndX Z j i v (σ i)) (hun : ∀ k, unA Z tn k = unA S tn k) : mM Z N R E D rk g tn fl nc j L σ := by
  have hgk : ∀ k, k < 10 → ∃ t, t < 10 ∧ g k = 7 + 5 * t := fun k h => rkGl hI h
  have hR10 : R ≤ 10 := hI.2.2.2.2.2.1.2
  have hfl6 : ∀ q, q < 8 → fl q ≤ 6 := fun q hq => (hI.2.2.2.2.2.2.2.2.2.1 q hq).2
  have h145 := (hI.2.2.2.2.2.2.2.2.1 j hj).2
  obtain ⟨⟨⟨c1, c2⟩, ⟨c3, c4⟩, c5, c6⟩, ⟨ar1, ar2, ar3, ar4⟩, m3, m4, m5, m6, m7, m8⟩ := h
  have hth2 : ∀ q, q < 8 → thB Z q = thB S q := fun q hq => by unfold thB; rw [eF _ (by omega)]
  refine ⟨⟨⟨⟨by rw [e6 _ (by decide)]; exact c1, by rw [e6 _ (by decide)]; exact c2⟩, ⟨by rw [eF _ (by decide)]; exact c3, by rw [e6 _ (by decide)]; exact c4⟩, fun q hq w => ?_, fun q q' hq hq' t1 t2 z => ?_⟩, ?_⟩, fun q hq => ?_, fun q hq hqj => ?_, ⟨⟨hl, ((m4 j hj).2.2.2.2 h0).1, h145⟩, ⟨by rw [hth2 j hj]; exact hth, by rw [eA 191 (by omega) (by decide) (by decide)]; exact h191, by rw [eA 195 (by omega) (by decide) (by decide)]; exact (m4 j hj).2.2.1.1⟩, hn⟩, fun k hk => ?_, ?_, ⟨fun k hk => ?_, m8⟩, fun k hk => ?_⟩
  · rw [hth2 q hq] at w
    rw [eF _ (by omega)]; exact c5 q hq w
  · rw [hth2 q hq] at t1
    rw [hth2 q' hq'] at t2
    rw [eF _ (by omega), eF _ (by omega)] at z
    exact c6 q q' hq hq' t1 t2 z
  · rw [arQ, eJ 0 (by decide), eJ 186 (by decide)]; exact ⟨ar1, ar2, ar3, ar4⟩
  · exact (m3 q hq).c rfl (hfl6 q hq) (eF _ (by omega)) (fun w _ => by rw [eF _ (by omega)]) (fun w w1 w4 => eA _ (by omega) (by omega) (by omega)) (fun w hw => by rw [eA w (by omega) (by omega) (by omega)]) (fun w _ => by rw [eA 194 (by omega) (by omega) (by omega)])
  · exact (m4 q hq).c (Nat.le_refl _) rfl rfl (hth2 q hq) (by rw [eA 191 (by omega) (by omega) (by omega)]) (by rw [eA 195 (by omega) (by omega) (by omega)]) (fun w w1 w8 => eA _ (by omega) (by omega) (by omega)) (fun o w o1 o2 hw => by
      by_cases z : o = 204
      · subst z; exact e204 _ (by omega)
      · rw [eA o (by omega) (by omega) z]) (e192 q hqj)
  · rw [hun]
    exact (m5 k hk).c (fun w w1 w2 => by rw [eA w (by omega) (by omega) (by omega)])
  · exact m6.c (fun k _ => ⟨by rw [eA 205 (by omega) (by omega) (by omega)], by rw [eA 206 (by omega) (by omega) (by omega)]⟩)
  · obtain ⟨t, ht, et⟩ := hgk k (by omega)
    exact (m7 k hk).c (eF _ (by omega)) (fun w w1 w4 => eA _ (by omega) (by omega) (by omega)) (fun o o1 o2 => by rw [eA o (by omega) (by omega) (by omega)]) (fun w _ => by rw [eA 214 (by omega) (by omega) (by omega)])
  · rw [eA 209 (by omega) (by omega) (by omega), eA 210 (by omega) (by omega) (by omega)]; exact hz k hk
theorem moS1_hi {A C : xS} {s : Nat} (h : hiE A C) : hiE (moS1 A s) (moS1 C s) := h.cF.cA
theorem moS2_hi {A C : xS} {s n : Nat} (h : hiE A C) : hiE (moS2 A s n) (moS2 C s n) := h.cF.cA.cA
theorem moS1_lo {S : xS} {s : Nat} : loE S (moS1 S s) := (loE.rf.F (by decide)).A (by decide)
theorem moS2_lo {S : xS} {s n : Nat} : loE S (moS2 S s n) := moS1_lo.A (by decide)
theorem moLv_c {S Z : xS} {s : Nat} (h : sA Z 204 = sA S 204) : ∀ n, moLv Z s n = moLv S s n
  | 0 => rfl
  | n + 1 => by
    simp only [moLv]
    rw [moLv_c h n, h]
set_option maxHeartbeats 2000000 in
theorem op_score {G : xG} {S : xS} {B t N R E : Nat} {oa : Nat → Nat} {D : Nat → Nat → Int32} {rk g tn fl nc : Nat → Nat} (hG : xOkG G) (hc : B + 1000 ≤ gC G) (hs : 30000 ≤ gS G) (ht : t < 512) (h : liP S B t N R E oa D rk g tn fl nc) {x : Int32} : opW G B t (liA B) S m_Ha_score m_Mo_score [.int x] [11, 13] := by
  have hH := c_Ha_score (d := 13) hG h.1 (h.rm hc hs ht) (x := x)
  have hsn := h.2.2.2.1.1
  obtain ⟨r1, hE, ⟨r3, rz⟩, ⟨r4, r5⟩, r6, r7⟩ := id h
  have hN6 : N ≤ 6 := r1.2.1.2
  have hR10 : R ≤ 10 := r1.2.2.2.2.2.1.2
  have hgin : rkIn g := r1.2.2.2.2.2.2.2.1
  have hfl6 : ∀ q, q < 8 → fl q ≤ 6 := fun q hq => (r1.2.2.2.2.2.2.2.2.2.1 q hq).2
  have m4 := hE.2.2.2.1
  have hmkM : ∀ s i, s < 8 → i < nc s → sA S 196 (160 * s + i) = nI 2 → ∃ y, y < N ∧ sA S 201 (160 * s + i) = nI y := fun s i hs hi => (m4 s hs).2.2.2.1 i hi
  cases e : fstN (idB S x) 8 with
  | none =>
    have hp : haScore S oa D g tn fl R x = (.inr 11, S) := by unfold haScore; rw [e]
    rw [hp] at hH
    refine op_thr (ce := 11) (k := 1) hH rfl (by decide) rfl (by decide) ?_ hsn h.thrown
    have hf := (h.2.1.new (c := 6) (e := .inr (11, [])).find x).trans e
    have hq : moScore (uN S 6 (.inr (11, []))) nc fl R x = (0, moThr (uN S 6 (.inr (11, []))) 1) := by
      unfold moScore; rw [hf]
    rw [← hq]; exact c_Mo_scoreT (S := uN S 6 (.inr (11, []))) hG hf
  | some j =>
    obtain ⟨hj, hth⟩ := h.2.1.there e
    have htn145 : tn j ≤ 145 := (r1.2.2.2.2.2.2.2.2.1 j hj).2
    by_cases h0 : tn j = 0
    · have h191 : sA S 191 j = 0 := Classical.byContradiction fun z => by have := (h.2.1.plan hj hth).mpr z; omega
      have hp : haScore S oa D g tn fl R x = (.inr 13, S) := by unfold haScore; rw [e]; exact if_pos h0
      rw [hp] at hH
      have hf : moFind (uN S 6 (.inr (13, []))) x 8 = some j := (h.2.1.new (c := 6) (e := .inr (13, [])).find x).trans e
      refine op_thr (ce := 13) (k := 2) hH rfl (by decide) rfl (by decide) ?_ hsn h.thrown
      have hq : moScore (uN S 6 (.inr (13, []))) nc fl R x = (0, moThr (uN S 6 (.inr (13, []))) 2) := by
        unfold moScore; rw [hf]
        exact if_pos h191
      rw [← hq]
      exact c_Mo_scoreU (S := uN S 6 (.inr (13, []))) hG hf h191
    · have h191 : ¬ sA S 191 j = 0 := (h.2.1.plan hj hth).mp (by omega)
      obtain ⟨enc, L, σ, W, H, l1, ⟨l2, l2k⟩, ⟨f, l3⟩, ⟨f2, l4⟩, l5, l6, l7, l8⟩ := (m4 j hj).2.2.2.2 (by omega)
      have hst : ∀ q, q < tn j → sA S (72 + 15 * j + 8) q = nI (σ q) ∧ sA S 204 (160 * j + q) = nI (σ q) := fun q hq => by
        have hvq : L[q]? = some (L[q]'(by omega)) := List.getElem?_eq_getElem (by omega)
        exact ⟨(l7 q _ hvq).1.2.2.2, (l7 q _ hvq).2.2.2.2⟩
      cases ew : fstN (trWaits S (72 + 15 * j)) (tn j) with
      | none =>
        obtain ⟨i, hi, hh⟩ := l5
        exact absurd hh ((fst_waits (fun q hq => (hst q hq).1) l6).mp ew i hi)
      | some i =>
        obtain ⟨hi, hwi, hbi⟩ := fstN_spec ew
        have hσ : σ i = 1 := by
          unfold trWaits at hwi
          rw [(hst i hi).1, decide_eq_true_eq] at hwi
          exact (nI_eq (by have := l6 i; omega) (by decide)).mp hwi
        have hroot : 0 < i → σ 0 ≠ 1 := fun q q1 => by
          have := hbi 0 q
          unfold trWaits at this
          rw [(hst 0 (by omega)).1, q1] at this
          simp at this
        obtain ⟨v0, hv0⟩ : ∃ v, L[i]? = some v := ⟨L[i]'(by omega), List.getElem?_eq_getElem (by omega)⟩
        have hx0 := l7 i _ hv0
        obtain ⟨⟨⟨a1, a2, a3⟩, ⟨a4, a5, a6⟩, a7, a8⟩, ⟨b1, b2, b3⟩, ⟨b4, b5, b6⟩, ⟨b7, b8⟩, b9⟩ := id hx0
        have hk0 := l3.kind hv0
        have hat := l3.at hv0
        obtain ⟨fu, U, u1, u2, u3, u4, u5, u6⟩ := tS.wait l3 l4 i _ hv0 (by rw [Nat.zero_add]; exact hσ)
        rw [Nat.zero_add] at u5 u6
        have hUl := u3.len u1.len
        obtain ⟨Y, hY⟩ : ∃ Y, Y = haSc S oa D g R j (fl j) (tn j) i := ⟨_, rfl⟩
        obtain ⟨P, hP⟩ : ∃ P, P = haClr Y j (tn j) := ⟨_, rfl⟩
        have hp : haScore S oa D g tn fl R x = (rI (nI i), P) := by
          unfold haScore; rw [e]; simp only []
          rw [if_neg h0, ew, hP, hY]
        rw [hp] at hH
        obtain ⟨w, hw⟩ : ∃ w, w = (nI i).toInt64 := ⟨_, rfl⟩
        obtain ⟨X, hX⟩ : ∃ X, X = uJ P 230 0 w := ⟨_, rfl⟩
        suffices hZ : hiE (uJ S 230 0 w) X ∧ ∃ Z R' D' σ', (moSc X j i R (fl j) = haClr Z j (tn j) ∧ sA (moSc X j i R (fl j)) 204 = sA Z 204) ∧ haI Z B N R' oa D' rk g tn fl ∧ mM Z N R' E D' rk g tn fl nc j L σ' ∧ (∃ fq, tS fq L σ' 0) ∧ (∀ q, σ' q ≤ 3) ∧ (∀ q v, L[q]? = some v → σ' q = 1 → v.1 ≠ 3) ∧ σ' 0 ≠ 1 ∧ (sA Z 192 j = nI 1 ∧ sJ Z 230 0 = w ∧ sF Z 186 0 = nI 0) ∧ sN Z = sN S ∧ sL Z = sL S by
          obtain ⟨hiX, Z, R', D', σ', ⟨z1, z1b⟩, z2, z3, z4, z5, z6, z7, ⟨z8, z9, z10⟩, z11, z12⟩ := hZ
          have XA : ∀ o, 186 ≤ o → sA X o = sA S o := fun o ho => (hiX o ho).2.1
          have XF : ∀ o, 186 ≤ o → sF X o = sF S o := fun o ho => (hiX o ho).1
          have hf1 : moFind X x 8 = some j := by
            rw [moFind_c (S := S) (Z := X) (XA 187 (by decide)) (XA 188 (by decide))]; exact (h.2.1.find x).trans e
          have hw1 : fstN (fun i => decide (sA X 204 (160 * j + i) = nI 1)) (nc j) = some i := by
            rw [← ew, enc]
            refine fstN_c (fun q hq => ?_)
            unfold trWaits
            rw [XA 204 (by decide), (hst q hq).1, (hst q hq).2]
          obtain ⟨Q2, hQ2⟩ : ∃ Q, Q = uA (haClr Z j (tn j)) 187 j (bI (moLv Z j (nc j))) := ⟨_, rfl⟩
          have hq : moScore X nc fl R x = (nI i, Q2) := by
            unfold moScore
            rw [hf1]
            simp only []
            rw [XA 191 (by decide), if_neg h191, hw1]
            simp only []
            rw [moLv_c z1b, z1, hQ2]
          obtain ⟨tn', f1, f2, f3⟩ := z3.fin z2 hj l2 z6 ⟨f, l3⟩ z4 z5 (by rw [z8]; exact ⟨fun z => absurd z (by decide +kernel), fun z => absurd z z7⟩) (by omega)
          rw [← hQ2] at f1 f2 f3
          have QN : sN Q2 = sN Z ∧ sL Q2 = sL Z ∧ sJ Q2 = sJ Z ∧ sF Q2 186 = sF Z 186 := by
            rw [hQ2]; unfold haClr
            split
            · exact ⟨rfl, rfl, rfl, by show sF (uF (uF Z (72 + 15 * j) 8 (nI 0)) (66 + 15 * j) 2 (nI 0)) 186 = _; rw [sF_uFn _ _ _ (by omega), sF_uFn _ _ _ (by omega)]⟩
            · exact ⟨rfl, rfl, rfl, rfl⟩
          refine op_ret (v := nI i) (q := moScore X nc fl R x) hH rfl ?_ (by rw [hq]) (by rw [hq]; show sF Q2 186 0 = _; rw [QN.2.2.2]; exact z10) (by rw [hq]; show sJ Q2 230 0 = _; rw [QN.2.2.1, z9, hw]) ?_ ?_
          · show EX G m_Mo_score 19 0 _ [] (mk G B (uJ P 230 0 (nI i).toInt64)) _
            rw [← hw, ← hX]
            refine c_Mo_score1 (S := X) (N := N) (i := i) hG hf1 (by rw [XA 191 (by decide)]; exact h191) hw1 (by rw [XF _ (by decide)]; exact hE.1.1.2) hR10 (fun s hs => by rw [XA 193 (by decide)]; exact ⟨hE.flc hs, hfl6 s hs⟩) (fun s hs => by rw [XA 195 (by decide)]; exact h.2.1.cnt s hs) hN6 (fun s a hs ha => by rw [XA 196 (by decide), XA 201 (by decide)]; exact hmkM s a hs ha) (fun hn2 => ?_)
            rw [XA 196 (by decide), b1] at hn2
            rw [XA 202 (by decide), XA 203 (by decide), b7, b8]
            rcases hk0 with ⟨hc0, -⟩ | ⟨-, hc0⟩
            · have hs0 := hat.1.2.mp hc0
              obtain ⟨q1, q2, -⟩ := hat.2 hc0
              rw [if_neg hs0, if_neg hs0]
              exact ⟨i + 1, i + v0.2.2.2.2.2.2, by omega, by omega, rfl, rfl⟩
            · rcases hc0 with hc0 | hc0
              · exact absurd (by rw [hc0]) hn2
              · exact absurd hc0 (l2k i v0 hv0 hσ)
          · show B + 231 ≤ sN P
            have : sN X = sN S := by
              have l1' : sN (moSc X j i R (fl j)) = sN X := by
                unfold moSc
                split
                · exact (moS1_lo.trans moArr_lo).2.2.2.1
                · exact ((moS2_lo.trans moArr_lo).trans moArr_lo).2.2.2.1
              rw [← l1', z1, ← z11]; unfold haClr; split <;> rfl
            rw [hX] at this
            show _ ≤ sN (uJ P 230 0 w)
            rw [this]; exact r4
          · rw [hq]
            exact ⟨N, R', E, oa, D', rk, g, tn', fl, nc, f1, f2, ⟨fun k hk => by rw [QN.1, z11]; exact r3 k hk, f3⟩, ⟨by rw [QN.1, z11]; exact r4, by rw [QN.1, z11]; omega⟩, by rw [QN.2.1, z12]; omega, by omega⟩
        have hXP : hiE S Y → hiE (uJ S 230 0 w) X := fun hh => by rw [hX, hP]; exact (hh.trans (haClr_hi hj)).cJ
        rcases hk0 with ⟨hc0, hk0⟩ | ⟨hc0, hk0⟩
        · -- a cut
          have hs0 := hat.1.2.mp hc0
          obtain ⟨q1, q2, q3⟩ := hat.2 hc0
          rw [l1] at q1 q2
          rw [if_neg hs0] at a7 b7 b8
          obtain ⟨k2, hk2⟩ : ∃ k, k = v0.2.2.2.2.2.2 := ⟨_, rfl⟩
          rw [← hk2] at a7 b8 q2 q3 hs0
          obtain ⟨va, hva⟩ : ∃ v, L[i + 1]? = some v := ⟨L[i + 1]'(by omega), List.getElem?_eq_getElem (by omega)⟩
          obtain ⟨vc, hvc⟩ : ∃ v, L[i + k2]? = some v := ⟨L[i + k2]'(by omega), List.getElem?_eq_getElem (by omega)⟩
          have hcut : trCut S (72 + 15 * j) i = true := by rw [cut_is a1 (by omega)]; exact hc0
          obtain ⟨S0, hS0⟩ : ∃ Z, Z = uA S (72 + 15 * j + 8) i (nI 2) := ⟨_, rfl⟩
          obtain ⟨R1, hR1⟩ : ∃ Z, Z = haLetR S0 R j (i + 1) := ⟨_, rfl⟩
          obtain ⟨D1, hD1⟩ : ∃ Z, Z = haLetD S0 D j (i + 1) := ⟨_, rfl⟩
          have hYe : Y = haLet (haLet S0 oa D g R j (fl j) (i + 1)) oa D1 g R1 j (fl j) (i + k2) := by
            rw [hY]; unfold haSc
            rw [if_pos hcut]
            simp only []
            rw [if_pos q1, if_pos q1, if_pos q1, a7, inB_nI (by omega) (by omega), decide_eq_true q2, if_pos rfl, nI_clamp (by omega), hD1, hR1, hS0]
          have hUa : ∀ p, p < U.length → ∀ u, L[i + p]? = some u → U[p]? = some u := fun p hp u hu => by
            have hq : U[p]? = some (U[p]'hp) := List.getElem?_eq_getElem hp
            rw [u3 p _ hq] at hu
            rw [← hu]; exact hq
          have hU2 : k2 < U.length := by
            rcases u1.leaf u2 with ⟨z, -⟩ | ⟨-, f'', A, C, _, _, _, _, _, _, _, _, hU, hsx, qA, qC⟩
            · rw [hc0] at z; cases z
            · have lA := qA.len
              have lC := qC.len
              have hlen : U.length = 1 + A.length + C.length := by rw [hU]; simp; omega
              omega
          obtain ⟨Z1, hZ1⟩ : ∃ Z, Z = moS2 (uJ S0 230 0 w) j (160 * j + i) := ⟨_, rfl⟩
          have z1A : ∀ o, o ≠ 72 + 15 * j + 8 → o ≠ 192 → o ≠ 204 → sA Z1 o = sA S o := fun o o1 o2 o3 => by
            rw [hZ1, moS2_A o2 o3, hS0]; exact sA_uAn _ _ _ o1
          have z18 : sA Z1 (72 + 15 * j + 8) = va_up (sA S (72 + 15 * j + 8)) i (nI 2) := by
            rw [hZ1, moS2_A (by omega) (by omega), hS0]; exact sA_uA _ _ _ _
          have z1204 : sA Z1 204 = va_up (sA S 204) (160 * j + i) (nI 2) := by
            rw [hZ1]; unfold moS2
            rw [sA_uA, moS1_A (by decide), hS0]
            show va_up (sA (uA S (72 + 15 * j + 8) i (nI 2)) 204) _ _ = _
            rw [sA_uAn _ _ _ (by omega)]
          have z1192 : sA Z1 192 = va_up (sA S 192) j (nI 1) := by
            rw [hZ1]; unfold moS2 moS1
            rw [sA_uAn _ _ _ (by decide), sA_uA, hS0]
            show va_up (sA (uA S (72 + 15 * j + 8) i (nI 2)) 192) _ _ = _
            rw [sA_uAn _ _ _ (by omega)]
          have z1F : ∀ o, o ≠ 186 → sF Z1 o = sF S o := fun o ho => by
            rw [hZ1, hS0]; exact sF_uFn _ _ _ ho
          have z16 : sF Z1 186 = va_up (sF S 186) 0 (nI 0) := by
            rw [hZ1, hS0]; exact sF_uF (uJ (uA S (72 + 15 * j + 8) i (nI 2)) 230 0 w) 186 0 (nI 0)
          have z1J : sJ Z1 = sJ (uJ S 230 0 w) := by rw [hZ1, hS0]; rfl
          have n20 : sA S (72 + 15 * j + 1) i ≠ nI 2 := fun z => by
            rw [a1] at z
            have := (nI_eq (by omega) (by decide)).mp z
            omega
          have hM1 : mM Z1 N R E D rk g tn fl nc j L (va_up σ i 2) := by
            refine mM.start r1 hE rz hj hth h191 l1 (by omega) z1F (fun k hk => by rw [z16, va_up_ne _ _ hk]) z1A (fun q hq => by rw [z1192, va_up_ne _ _ hq]) (fun q hq => by rw [z1204, va_up_ne _ _ (by omega)]) (fun o ho => by rw [z1J, sJ_uJn _ _ _ ho]) (fun p u hu => ?_) (fun k => un_not2 hj (fun q t hq ht => z1A _ (by omega) (by omega) (by omega)) (fun q hq hqj => z1A _ (by omega) (by omega) (by omega)) z18 n20)
            have hpl := (List.getElem?_eq_some_iff.mp hu).1
            refine (l7 p u hu).c (fun t t1 t7 => by rw [z1A _ (by omega) (by omega) (by omega)]) (fun o o1 o2 => by rw [z1A o (by omega) (by omega) (by omega)]) ?_ ?_
            · rw [z18]
              by_cases z : p = i
              · subst z; rw [va_up_self, va_up_self]
              · rw [va_up_ne _ _ z, va_up_ne _ _ z]; exact (l7 p u hu).1.2.2.2
            · rw [z1204]
              by_cases z : p = i
              · subst z; rw [va_up_self, va_up_self]
              · rw [va_up_ne _ _ (by omega), va_up_ne _ _ z]; exact (l7 p u hu).2.2.2.2
          have hlo1 : loE S0 Z1 := by rw [hZ1]; exact (loE.rf.J (by decide)).trans moS2_lo
          have hI0 : haI S0 B N R oa D rk g tn fl := by rw [hS0]; exact haI_A r1 (by omega) (fun q hq => by omega)
          have hI1 := haI_lo hlo1 hI0
          have eD : haLetD Z1 D j (i + 1) = D1 := by
            rw [hD1]; unfold haLetD
            rw [(hlo1.1 (72 + 15 * j + 1) (by omega)).2.1, (hlo1.1 (72 + 15 * j + 6) (by omega)).2.1]
          have eR : haLetR Z1 R j (i + 1) = R1 := by
            rw [hR1]; unfold haLetR haBig
            rw [(hlo1.1 (72 + 15 * j + 1) (by omega)).2.1, (hlo1.1 (72 + 15 * j + 4) (by omega)).2.1, (hlo1.1 (72 + 15 * j + 5) (by omega)).2.1]
          obtain ⟨g1, g2, g3, g4, g5, g6, g7⟩ := hM1.lets hI1 hj hva (l3.rect l2 hva) (l3.kind hva) (by rw [va_up_ne _ _ (by omega)]; exact Or.inl (u5 1 (by omega) (by omega)))
          rw [eD, eR] at g1 g2
          rw [eR] at g3
          obtain ⟨Z2, hZ2⟩ : ∃ Z, Z = moArr (haLet Z1 oa D g R j (fl j) (i + 1)) j (160 * j + (i + 1)) R (fl j) := ⟨_, rfl⟩
          rw [← hZ2] at g1 g2 g4 g5 g6 g7
          obtain ⟨σ2, hσ2⟩ : ∃ s, s = va_up (va_up σ i 2) (i + 1) (if isCut va = true then 1 else 2) := ⟨_, rfl⟩
          rw [← hσ2] at g2
          obtain ⟨k1, k2', k3, k4, k5, k6, k7⟩ := g2.lets g1 hj hvc (l3.rect l2 hvc) (l3.kind hvc) (by rw [hσ2, va_up_ne _ _ (by omega), va_up_ne _ _ (by omega)]; exact Or.inl (u5 k2 (by omega) hU2))
          obtain ⟨Z3, hZ3⟩ : ∃ Z, Z = moArr (haLet Z2 oa D1 g R1 j (fl j) (i + k2)) j (160 * j + (i + k2)) R1 (fl j) := ⟨_, rfl⟩
          rw [← hZ3] at k1 k2' k4 k5 k6 k7
          obtain ⟨σ3, hσ3⟩ : ∃ s, s = va_up σ2 (i + k2) (if isCut vc = true then 1 else 2) := ⟨_, rfl⟩
          rw [← hσ3] at k2'
          have hg0 : R < 10 → g R + 5 ≤ 57 := fun z => hgin R z
          have hg1 : R1 < 10 → g R1 + 5 ≤ 57 := fun z => hgin R1 z
          have hiY : hiE S Y := by
            rw [hYe]
            refine ((hiE.A (S := S) (o := 72 + 15 * j + 8) (k := i) (v := nI 2) hiE.rf (by omega)).trans ?_).trans (haLet_hi hj hg1)
            rw [← hS0]
            exact haLet_hi hj hg0
          have hiX := hXP hiY
          have hMs : moSc X j i R (fl j) = moArr (moArr (moS2 X j (160 * j + i)) j (160 * j + (i + 1)) R (fl j)) j (160 * j + (i + k2)) R1 (fl j) := by
            unfold moSc
            rw [if_neg (by rw [(hiX 196 (by decide)).2.1]; show ¬ sA S 196 _ = _; rw [b1, ← a1]; exact n20), (hiX 202 (by decide)).2.1, (hiX 203 (by decide)).2.1]
            show moArr (moArr _ j (160 * j + (sA S 202 (160 * j + i)).toNatClampNeg) R (fl j)) j (160 * j + (sA S 203 (160 * j + i)).toNatClampNeg) (moArrR _ (160 * j + (sA S 202 (160 * j + i)).toNatClampNeg) R) (fl j) = _
            rw [b7, b8, nI_clamp (by omega), nI_clamp (by omega)]
            congr 1
            have hna := l7 _ _ hva
            rw [← eR]
            have xa : ∀ o, 186 ≤ o → o ≠ 192 → o ≠ 204 → sA (moS2 X j (160 * j + i)) o = sA S o := fun o o1 o2 o3 => by rw [moS2_A o2 o3]; exact (hiX o o1).2.1
            exact upR (v := va) (by rw [z1A _ (by omega) (by omega) (by omega)]; exact hna.1.1.1) (by rw [z1A _ (by omega) (by omega) (by omega)]; exact hna.1.2.1.1) (by rw [z1A _ (by omega) (by omega) (by omega)]; exact hna.1.2.1.2.1) (by rw [xa 196 (by decide) (by decide) (by decide)]; exact hna.2.1.1) (by rw [xa 199 (by decide) (by decide) (by decide)]; exact hna.2.2.1.1) (by rw [xa 200 (by decide) (by decide) (by decide)]; exact hna.2.2.1.2.1)
          have hiZ : hiE (moArr (moArr Z1 j (160 * j + (i + 1)) R (fl j)) j (160 * j + (i + k2)) R1 (fl j)) Z3 := by
            have s1 : hiE (moArr Z1 j (160 * j + (i + 1)) R (fl j)) Z2 := by rw [hZ2]; exact moArr_hi (haLet_hi hj hg0)
            rw [hZ3]
            exact moArr_hi (s1.trans (haLet_hi hj hg1))
          have hiM : hiE Z3 (moSc X j i R (fl j)) := by
            rw [hMs]
            refine hiZ.symm.trans (moArr_hi (moArr_hi ?_))
            rw [hZ1]
            refine moS2_hi (hiE.trans ?_ hiX)
            rw [hS0]
            exact (hiE.A hiE.rf (by omega)).symm.cJ
          have loY : loE Y Z3 := by
            rw [hYe, hZ3]
            refine (haLet_lo ?_ hj).trans moArr_lo
            rw [hZ2]
            exact (haLet_lo hlo1 hj).trans moArr_lo
          have loM : loE (haClr Z3 j (tn j)) (moSc X j i R (fl j)) := by
            refine (haClr_lo loY.symm hj).trans ?_
            rw [hMs, ← hP]
            refine (loE.trans ?_ moArr_lo).trans moArr_lo
            rw [hX]
            exact (loE.rf.J (by decide)).trans moS2_lo
          have hfin : moSc X j i R (fl j) = haClr Z3 j (tn j) := two_eq loM ((haClr_hi hj).symm.trans hiM)
          have s3σ : ∀ q, σ3 q = if q = i + k2 then (if isCut vc = true then 1 else 2) else if q = i + 1 then (if isCut va = true then 1 else 2) else if q = i then 2 else σ q := fun q => by
            rw [hσ3, hσ2]
            by_cases y1 : q = i + k2
            · rw [if_pos y1, y1, va_up_self]
            · rw [if_neg y1, va_up_ne _ _ y1]
              by_cases y2 : q = i + 1
              · rw [if_pos y2, y2, va_up_self]
              · rw [if_neg y2, va_up_ne _ _ y2]
                by_cases y3 : q = i
                · rw [if_pos y3, y3, va_up_self]
                · rw [if_neg y3, va_up_ne _ _ y3]
          refine ⟨hiX, Z3, _, _, σ3, ⟨hfin, (hiM 204 (by decide)).2.1⟩, k1, k2', ?_, fun q => ?_, fun q u hu hu1 => ?_, ?_, ⟨by rw [k7, g7, z1192, va_up_self], by rw [k6, g6, z1J, sJ_uJ, va_up_self], by rw [k5 _ (by decide), g5 _ (by decide), z16, va_up_self]⟩, ?_, ?_⟩
          · refine u6 σ3 (fun q hq => ?_) ⟨2, tS.scored u1 u2 ?_ (fun _ a c ha hc' => ?_) (fun q q0 ql qn1 qn2 => ?_)⟩
            · rw [s3σ, if_neg (by omega), if_neg (by omega), if_neg (by omega)]
            · rw [s3σ, if_neg (by omega), if_neg (by omega), if_pos rfl]
            · rw [← hk2] at hc' ⊢
              rw [hUa 1 (by omega) _ hva] at ha
              rw [hUa k2 hU2 _ hvc] at hc'
              rw [← Option.some.inj ha, ← Option.some.inj hc']
              refine ⟨?_, ?_⟩
              · rw [s3σ, if_neg (by omega), if_pos rfl]
              · rw [s3σ, if_pos rfl]
            · rw [← hk2] at qn2
              rw [s3σ, if_neg (by omega), if_neg (by omega), if_neg (by omega)]
              exact u5 q q0 ql
          · rw [s3σ]
            have := l6 q
            split
            · split <;> omega
            · split
              · split <;> omega
              · split <;> omega
          · rw [s3σ] at hu1
            split at hu1
            · rename_i y
              subst y
              rw [hvc] at hu
              rw [← Option.some.inj hu]
              split at hu1
              · rename_i y2
                unfold isCut at y2
                rcases (Bool.or_eq_true _ _).mp y2 with y3 | y3
                · rw [of_decide_eq_true y3]; decide
                · rw [of_decide_eq_true y3]; decide
              · cases hu1
            · split at hu1
              · rename_i y
                subst y
                rw [hva] at hu
                rw [← Option.some.inj hu]
                split at hu1
                · rename_i y2
                  unfold isCut at y2
                  rcases (Bool.or_eq_true _ _).mp y2 with y3 | y3
                  · rw [of_decide_eq_true y3]; decide
                  · rw [of_decide_eq_true y3]; decide
                · cases hu1
              · split at hu1
                · cases hu1
                · exact l2k q u hu hu1
          · rw [s3σ, if_neg (by omega), if_neg (by omega)]
            by_cases y : 0 = i
            · rw [if_pos y]; decide
            · rw [if_neg y]
              exact hroot (by omega)
          · rw [k4.1, g4.1, hlo1.2.2.2.1, hS0]; rfl
          · rw [k4.2, g4.2, hlo1.2.2.2.2, hS0]; rfl
        · -- a pane that is the whole sheet
          have hk2 : v0.1 = 2 := by
            rcases hk0 with z | z
            · exact z
            · exact absurd z (l2k i v0 hv0 hσ)
          have hcut : ¬ trCut S (72 + 15 * j) i = true := by rw [cut_is a1 (by omega), hc0]; decide
          have hYe : Y = haLet S oa D g R j (fl j) i := by
            rw [hY]; unfold haSc
            rw [if_neg hcut]
          have hU1 : U.length = 1 := by
            rcases u1.leaf u2 with ⟨-, z, -⟩ | ⟨z, -⟩
            · rw [z]; rfl
            · rw [hc0] at z; cases z
          obtain ⟨Z1, hZ1⟩ : ∃ Z, Z = moS1 (uJ S 230 0 w) j := ⟨_, rfl⟩
          have z1A : ∀ o, o ≠ 192 → sA Z1 o = sA S o := fun o o2 => by
            rw [hZ1, moS1_A o2]; rfl
          have z1192 : sA Z1 192 = va_up (sA S 192) j (nI 1) := by
            rw [hZ1]; exact sA_uA (moThr (uJ S 230 0 w) 0) 192 j (nI 1)
          have z1F : ∀ o, o ≠ 186 → sF Z1 o = sF S o := fun o ho => by
            rw [hZ1]; exact sF_uFn _ _ _ ho
          have z16 : sF Z1 186 = va_up (sF S 186) 0 (nI 0) := by
            rw [hZ1]; exact sF_uF (uJ S 230 0 w) 186 0 (nI 0)
          have z1J : sJ Z1 = sJ (uJ S 230 0 w) := by rw [hZ1]; rfl
          have hM1 : mM Z1 N R E D rk g tn fl nc j L σ := by
            refine mM.start r1 hE rz hj hth h191 l1 (by omega) z1F (fun k hk => by rw [z16, va_up_ne _ _ hk]) (fun o _ o2 _ => z1A o o2) (fun q hq => by rw [z1192, va_up_ne _ _ hq]) (fun q hq => by rw [z1A 204 (by decide)]) (fun o ho => by rw [z1J, sJ_uJn _ _ _ ho]) (fun p u hu => ?_) (fun k => ?_)
            · refine (l7 p u hu).c (fun t t1 t7 => by rw [z1A _ (by omega)]) (fun o o1 o2 => by rw [z1A o (by omega)]) ?_ ?_
              · rw [z1A _ (by omega)]; exact (l7 p u hu).1.2.2.2
              · rw [z1A _ (by omega)]; exact (l7 p u hu).2.2.2.2
            · unfold unA
              exact sumN_c (fun q hq => unJ_c rfl (fun t ht => z1A _ (by omega)))
          have hlo1 : loE S Z1 := by rw [hZ1]; exact (loE.rf.J (by decide)).trans moS1_lo
          have hI1 := haI_lo hlo1 r1
          obtain ⟨g1, g2, g3, g4, g5, g6, g7⟩ := hM1.lets hI1 hj hv0 (l3.rect l2 hv0) (l3.kind hv0) (Or.inr hσ)
          obtain ⟨Z3, hZ3⟩ : ∃ Z, Z = moArr (haLet Z1 oa D g R j (fl j) i) j (160 * j + i) R (fl j) := ⟨_, rfl⟩
          rw [← hZ3] at g1 g2 g4 g5 g6 g7
          rw [hc0, if_neg (by decide)] at g2
          have hg0 : R < 10 → g R + 5 ≤ 57 := fun z => hgin R z
          have hiX := hXP (by rw [hYe]; exact haLet_hi hj hg0)
          have hMs : moSc X j i R (fl j) = moArr (moS1 X j) j (160 * j + i) R (fl j) := by
            unfold moSc
            rw [if_pos (by rw [(hiX 196 (by decide)).2.1]; show sA S 196 _ = _; rw [b1, hk2])]
          have hiM : hiE Z3 (moSc X j i R (fl j)) := by
            rw [hMs, hZ3]
            refine (moArr_hi (haLet_hi hj hg0)).symm.trans (moArr_hi ?_)
            rw [hZ1]
            exact moS1_hi hiX
          have loY : loE Y Z3 := by
            rw [hYe, hZ3]
            exact (haLet_lo hlo1 hj).trans moArr_lo
          have loM : loE (haClr Z3 j (tn j)) (moSc X j i R (fl j)) := by
            refine (haClr_lo loY.symm hj).trans ?_
            rw [hMs, ← hP]
            refine loE.trans ?_ moArr_lo
            rw [hX]
            exact (loE.rf.J (by decide)).trans moS1_lo
          have hfin : moSc X j i R (fl j) = haClr Z3 j (tn j) := two_eq loM ((haClr_hi hj).symm.trans hiM)
          refine ⟨hiX, Z3, _, _, va_up σ i 2, ⟨hfin, (hiM 204 (by decide)).2.1⟩, g1, g2, ?_, fun q => ?_, fun q u hu hu1 => ?_, ?_, ⟨by rw [g7, z1192, va_up_self], by rw [g6, z1J, sJ_uJ, va_up_self], by rw [g5 _ (by decide), z16, va_up_self]⟩, by rw [g4.1, hlo1.2.2.2.1], by rw [g4.2, hlo1.2.2.2.2]⟩
          · refine u6 _ (fun q hq => va_up_ne _ _ (by omega)) ⟨2, tS.scored u1 u2 (va_up_self _ _ _) (fun z => by rw [hc0] at z; cases z) (fun q q0 ql _ _ => by omega)⟩
          · by_cases z : q = i
            · subst z; rw [va_up_self]; decide
            · rw [va_up_ne _ _ z]; exact l6 q
          · by_cases z : q = i
            · subst z; rw [va_up_self] at hu1; cases hu1
            · rw [va_up_ne _ _ z] at hu1; exact l2k q u hu hu1
          · by_cases z : 0 = i
            · rw [z, va_up_self]; decide
            · rw [va_up_ne _ _ z]; exact hroot (by omega)
