/-! the other questions -/
theorem w3 (w : Int32) : ((w = nI 0 ∨ w = nI 1 ∨ w = nI 2) ∧ ¬ w < 0 ∧ w ≤ nI 2) ∨ (swV 3 w = none ∧ (w < 0 ∨ ¬ w ≤ nI 2)) := by
  rcases sw3 w with e | e | e | e
  · subst e; exact Or.inl ⟨Or.inl rfl, by decide +kernel, by decide +kernel⟩
  · subst e; exact Or.inl ⟨Or.inr (Or.inl rfl), by decide +kernel, by decide +kernel⟩
  · subst e; exact Or.inl ⟨Or.inr (Or.inr rfl), by decide +kernel, by decide +kernel⟩
  · refine Or.inr ⟨swN3 e, ?_⟩
    rcases e with e | e
    · exact Or.inl (Int32.lt_iff_toInt_lt.mpr e)
    · refine Or.inr (fun z => ?_)
      have := Int32.le_iff_toInt_le.mp z
      rw [nI_toInt (by decide)] at this
      omega
theorem w4 (w : Int32) : ((w = nI 0 ∨ w = nI 1 ∨ w = nI 2 ∨ w = nI 3) ∧ ¬ w < 0 ∧ w ≤ nI 3) ∨ (swV 4 w = none ∧ (w < 0 ∨ ¬ w ≤ nI 3)) := by
  rcases sw4 w with e | e | e | e | e
  · subst e; exact Or.inl ⟨Or.inl rfl, by decide +kernel, by decide +kernel⟩
  · subst e; exact Or.inl ⟨Or.inr (Or.inl rfl), by decide +kernel, by decide +kernel⟩
  · subst e; exact Or.inl ⟨Or.inr (Or.inr (Or.inl rfl)), by decide +kernel, by decide +kernel⟩
  · subst e; exact Or.inl ⟨Or.inr (Or.inr (Or.inr rfl)), by decide +kernel, by decide +kernel⟩
  · refine Or.inr ⟨swN4 e, ?_⟩
    rcases e with e | e
    · exact Or.inl (Int32.lt_iff_toInt_lt.mpr e)
    · refine Or.inr (fun z => ?_)
      have := Int32.le_iff_toInt_le.mp z
      rw [nI_toInt (by decide)] at this
      omega
theorem tellC_bad {N : Nat} {k w : Int32} (hb : inB N k = true) (h : w < 0 ∨ ¬ w ≤ nI 2) : moTellC N k w = 2 := by
  unfold moTellC
  rw [if_neg (by rw [hb]; decide)]
  rcases h with h | h
  · rw [if_pos h]
  · by_cases z : w < 0
    · rw [if_pos z]
    · rw [if_neg z, if_pos h]
theorem tellC_ok {N : Nat} {k w : Int32} (hb : inB N k = true) (h1 : ¬ w < 0) (h2 : w ≤ nI 2) : moTellC N k w = 0 := by
  unfold moTellC
  rw [if_neg (by rw [hb]; decide), if_neg h1, if_neg (fun z => z h2)]
theorem op_rack {G : xG} {S : xS} {B t N R E : Nat} {oa : Nat → Nat} {D : Nat → Nat → Int32} {rk g tn fl nc : Nat → Nat} (hG : xOkG G) (hc : B + 1000 ≤ gC G) (hs : 30000 ≤ gS G) (ht : t < 512) (h : liP S B t N R E oa D rk g tn fl nc) {k w : Int32} : opW G B t (liA B) S m_Ha_rack m_Mo_rack [.int k, .int w] [11, 12] := by
  have hH := c_Ha_rack (d := 16) hG h.1 (h.rm hc hs ht) (k := k) (w := w)
  have hsn := h.2.2.2.1.1
  have hR : sF S 186 27 = nI R := h.2.1.1.1.2
  have hR10 : R ≤ 10 := h.1.2.2.2.2.2.1.2
  have thr : ∀ (ce q : Nat), haRack S R g k w = (.inr ce, S) → moTellC R k w = q → ce ∈ [11, 12] → cdOf [11, 12] ce = q → q ≠ 0 ∧ q < 100 → opW G B t (liA B) S m_Ha_rack m_Mo_rack [.int k, .int w] [11, 12] := by
    intro ce q hp hC h1 h2 h3
    rw [hp] at hH
    refine op_thr (ce := ce) (k := q) hH rfl h1 h2 h3 ?_ hsn h.thrown
    have hq : moRack (uN S 6 (.inr (ce, []))) R k w = (0, moThr (uN S 6 (.inr (ce, []))) q) := by
      unfold moRack; rw [hC]; exact if_neg h3.1
    rw [← hq]; exact c_Mo_rack (S := uN S 6 (.inr (ce, []))) hG hR hR10
  rcases inB_cases (N := R) (by omega) k with ⟨i, hi, rfl, hb⟩ | hb
  · obtain ⟨a, b, m, -, ⟨q1, q2, q3⟩, ⟨q4, q5, q6⟩, -⟩ := h.2.1.2.2.2.2.2.2.1 i hi
    rcases w3 w with ⟨hw, hw0, hw2⟩ | ⟨hn, hw⟩
    · obtain ⟨v, hv1, hv2⟩ : ∃ v : Int32, haRack S R g (nI i) w = (rI v, S) ∧ (if w = 0 then sA S 211 i else if w = nI 1 then sA S 212 i else sA S 213 i) = v := by
        unfold haRack
        rw [if_neg (by rw [hb]; decide)]
        rcases hw with rfl | rfl | rfl
        · exact ⟨nI a, by rw [sw3_0]; show (rI (sF S (g (nI i).toNatClampNeg) 4), S) = _; rw [nI_clamp (by omega), q1], by rw [if_pos (by decide +kernel)]; exact q4⟩
        · exact ⟨nI b, by rw [sw3_1]; show (rI (sF S (g (nI i).toNatClampNeg) 5), S) = _; rw [nI_clamp (by omega), q2], by rw [if_neg (by decide +kernel), if_pos rfl]; exact q5⟩
        · exact ⟨nI m, by rw [sw3_2]; show (rI (sF S (g (nI i).toNatClampNeg) 6), S) = _; rw [nI_clamp (by omega), q3], by rw [if_neg (by decide +kernel), if_neg (by decide +kernel)]; exact q6⟩
      rw [hv1] at hH
      have hqq : moRack (uJ S 230 0 v.toInt64) R (nI i) w = (v, moThr (uJ S 230 0 v.toInt64) 0) := by
        unfold moRack
        rw [tellC_ok hb hw0 hw2, nI_clamp (by omega)]
        show (if w = 0 then sA S 211 i else if w = nI 1 then sA S 212 i else sA S 213 i, _) = _
        rw [hv2]
      refine op_ret (v := v) (q := moRack (uJ S 230 0 v.toInt64) R (nI i) w) hH rfl (c_Mo_rack (S := uJ S 230 0 v.toInt64) hG hR hR10) ?_ ?_ ?_ hsn ?_
      · rw [hqq]
      · rw [hqq]; exact moThr_0
      · rw [hqq]; exact told_J
      · rw [hqq]; exact h.told
    · exact thr 12 2 (by unfold haRack; rw [if_neg (by rw [hb]; decide), hn]) (tellC_bad hb hw) (by decide) rfl (by decide)
  · exact thr 11 1 (by unfold haRack; rw [if_pos hb]) (by unfold moTellC; rw [if_pos hb]) (by decide) rfl (by decide)
theorem op_panes {G : xG} {S : xS} {B t N R E : Nat} {oa : Nat → Nat} {D : Nat → Nat → Int32} {rk g tn fl nc : Nat → Nat} (hG : xOkG G) (hc : B + 1000 ≤ gC G) (hs : 30000 ≤ gS G) (ht : t < 512) (h : liP S B t N R E oa D rk g tn fl nc) {k w : Int32} : opW G B t (liA B) S m_Ha_panes m_Mo_panes [.int k, .int w] [11, 12] := by
  have hH := c_Ha_panes (d := 16) hG h.1 (h.rm hc hs ht) (k := k) (w := w)
  have hsn := h.2.2.2.1.1
  have hN : sF S 186 20 = nI N := h.2.1.1.1.1
  have hN6 : N ≤ 6 := h.1.2.1.2
  have thr : ∀ (ce q : Nat), haPanes S N D k w = (.inr ce, S) → moTellC N k w = q → ce ∈ [11, 12] → cdOf [11, 12] ce = q → q ≠ 0 ∧ q < 100 → opW G B t (liA B) S m_Ha_panes m_Mo_panes [.int k, .int w] [11, 12] := by
    intro ce q hp hC h1 h2 h3
    rw [hp] at hH
    refine op_thr (ce := ce) (k := q) hH rfl h1 h2 h3 ?_ hsn h.thrown
    have hq : moPanes (uN S 6 (.inr (ce, []))) N k w = (0, moThr (uN S 6 (.inr (ce, []))) q) := by
      unfold moPanes; rw [hC]; exact if_neg h3.1
    rw [← hq]; exact c_Mo_panes (S := uN S 6 (.inr (ce, []))) hG hN hN6
  rcases inB_cases (N := N) (by omega) k with ⟨i, hi, rfl, hb⟩ | hb
  · obtain ⟨a, b, u, d, -, ⟨-, q1, q2, q3⟩, ⟨-, q4, q5, q6⟩, -⟩ := h.2.1.2.2.2.2.1 i hi
    rcases w3 w with ⟨hw, hw0, hw2⟩ | ⟨hn, hw⟩
    · obtain ⟨v, hv1, hv2⟩ : ∃ v : Int32, haPanes S N D (nI i) w = (rI v, S) ∧ (if w = 0 then sA S 208 i else if w = nI 1 then sA S 209 i else sA S 210 i) = v := by
        unfold haPanes
        rw [if_neg (by rw [hb]; decide)]
        rcases hw with rfl | rfl | rfl
        · exact ⟨nI u, by rw [sw3_0]; show (rI (D (nI i).toNatClampNeg 3), S) = _; rw [nI_clamp (by omega), q1], by rw [if_pos (by decide +kernel)]; exact q4⟩
        · exact ⟨nI (unA S tn i), by rw [sw3_1]; show (rI (D (nI i).toNatClampNeg 4), S) = _; rw [nI_clamp (by omega), q2], by rw [if_neg (by decide +kernel), if_pos rfl]; exact q5⟩
        · exact ⟨nI d, by rw [sw3_2]; show (rI (D (nI i).toNatClampNeg 5), S) = _; rw [nI_clamp (by omega), q3], by rw [if_neg (by decide +kernel), if_neg (by decide +kernel)]; exact q6⟩
      rw [hv1] at hH
      have hqq : moPanes (uJ S 230 0 v.toInt64) N (nI i) w = (v, moThr (uJ S 230 0 v.toInt64) 0) := by
        unfold moPanes
        rw [tellC_ok hb hw0 hw2, nI_clamp (by omega)]
        show (if w = 0 then sA S 208 i else if w = nI 1 then sA S 209 i else sA S 210 i, _) = _
        rw [hv2]
      refine op_ret (v := v) (q := moPanes (uJ S 230 0 v.toInt64) N (nI i) w) hH rfl (c_Mo_panes (S := uJ S 230 0 v.toInt64) hG hN hN6) ?_ ?_ ?_ hsn ?_
      · rw [hqq]
      · rw [hqq]; exact moThr_0
      · rw [hqq]; exact told_J
      · rw [hqq]; exact h.told
    · exact thr 12 2 (by unfold haPanes; rw [if_neg (by rw [hb]; decide), hn]) (tellC_bad hb hw) (by decide) rfl (by decide)
  · exact thr 11 1 (by unfold haPanes; rw [if_pos hb]) (by unfold moTellC; rw [if_pos hb]) (by decide) rfl (by decide)
theorem op_flawed {G : xG} {S : xS} {B t N R E : Nat} {oa : Nat → Nat} {D : Nat → Nat → Int32} {rk g tn fl nc : Nat → Nat} (hG : xOkG G) (hc : B + 1000 ≤ gC G) (hs : 30000 ≤ gS G) (ht : t < 512) (h : liP S B t N R E oa D rk g tn fl nc) {x k w : Int32} : opW G B t (liA B) S m_Ha_flawed m_Mo_flawed [.int x, .int k, .int w] [11, 14, 12] := by
  have hH := c_Ha_flawed (d := 16) hG h.1 (h.rm hc hs ht) (x := x) (k := k) (w := w)
  have hsn := h.2.2.2.1.1
  have hfN : ∀ s, s < 8 → ∃ n, n ≤ 6 ∧ sA S 193 s = nI n := fun s hs => ⟨fl s, (h.1.2.2.2.2.2.2.2.2.2.1 s hs).2, h.2.1.flc hs⟩
  cases e : fstN (idB S x) 8 with
  | none =>
    have hp : haFlawed S fl x k w = (.inr 11, S) := by unfold haFlawed; rw [e]
    rw [hp] at hH
    refine op_thr (ce := 11) (k := 1) hH rfl (by decide) rfl (by decide) ?_ hsn h.thrown
    have hq : moFlawed (uN S 6 (.inr (11, []))) x k w = (0, moThr (uN S 6 (.inr (11, []))) 1) := by
      unfold moFlawed; rw [(h.2.1.new.find x).trans e]
    rw [← hq]; exact c_Mo_flawed hG hfN
  | some j =>
    obtain ⟨hj, hth⟩ := h.2.1.there e
    have h6 : fl j ≤ 6 := (h.1.2.2.2.2.2.2.2.2.2.1 j hj).2
    have h193 := h.2.1.flc hj
    have thr : ∀ (ce q : Nat), haFlawed S fl x k w = (.inr ce, S) → moFlawedC S j k w = q → ce ∈ [11, 14, 12] → cdOf [11, 14, 12] ce = q → q ≠ 0 ∧ q < 100 → opW G B t (liA B) S m_Ha_flawed m_Mo_flawed [.int x, .int k, .int w] [11, 14, 12] := by
      intro ce q hp hC h1 h2 h3
      rw [hp] at hH
      refine op_thr (ce := ce) (k := q) hH rfl h1 h2 h3 ?_ hsn h.thrown
      have hq : moFlawed (uN S 6 (.inr (ce, []))) x k w = (0, moThr (uN S 6 (.inr (ce, []))) q) := by
        unfold moFlawed; rw [(h.2.1.new.find x).trans e]
        show moP (moFlawedC S j k w) _ _ _ = _
        rw [hC]; exact if_neg h3.1
      rw [← hq]; exact c_Mo_flawed hG hfN
    rcases inB_cases (N := fl j) (by omega) k with ⟨i, hi, rfl, hb⟩ | hb
    · have i1 : ¬ nI i < 0 := nI_pos (by omega)
      have i2 : ¬ ¬ nI i < sA S 193 j := fun z => z (by rw [h193]; exact nI_lt hi (by omega))
      obtain ⟨W0, H0, -, -, -, ⟨-, hfl⟩, -⟩ := h.2.1.2.2.1 j hj
      obtain ⟨a, b, c, d, -, ⟨q1, q2, q3, q4⟩, q5, q6, q7, q8⟩ := hfl i hi
      rcases w4 w with ⟨hw, hw0, hw3⟩ | ⟨hn, hw⟩
      · obtain ⟨v, hv1, hv2⟩ : ∃ v : Int32, haFlawed S fl x (nI i) w = (rI v, S) ∧ sA S 194 (24 * j + 4 * i + w.toNatClampNeg) = v := by
          unfold haFlawed
          rw [e]
          simp only []
          rw [if_neg (by rw [hb]; decide)]
          rcases hw with rfl | rfl | rfl | rfl
          · exact ⟨nI a, by rw [sw4_0]; show (rI (sA S (67 + 15 * j + 1) (nI i).toNatClampNeg), S) = _; rw [nI_clamp (by omega), q1], q5⟩
          · exact ⟨nI b, by rw [sw4_1]; show (rI (sA S (67 + 15 * j + 2) (nI i).toNatClampNeg), S) = _; rw [nI_clamp (by omega), q2], q6⟩
          · exact ⟨nI c, by rw [sw4_2]; show (rI (sA S (67 + 15 * j + 3) (nI i).toNatClampNeg), S) = _; rw [nI_clamp (by omega), q3], q7⟩
          · exact ⟨nI d, by rw [sw4_3]; show (rI (sA S (67 + 15 * j + 4) (nI i).toNatClampNeg), S) = _; rw [nI_clamp (by omega), q4], q8⟩
        rw [hv1] at hH
        have hqq : moFlawed (uJ S 230 0 v.toInt64) x (nI i) w = (v, moThr (uJ S 230 0 v.toInt64) 0) := by
          unfold moFlawed; rw [(h.2.1.J.find x).trans e]
          show moP (moFlawedC S j (nI i) w) (sA S 194 (24 * j + 4 * (nI i).toNatClampNeg + w.toNatClampNeg)) _ _ = _
          rw [show moFlawedC S j (nI i) w = 0 by unfold moFlawedC; rw [if_neg i1, if_neg i2, if_neg hw0, if_neg (fun z => z hw3)], nI_clamp (by omega), hv2]; rfl
        refine op_ret (v := v) (q := moFlawed (uJ S 230 0 v.toInt64) x (nI i) w) hH rfl (c_Mo_flawed hG hfN) ?_ ?_ ?_ hsn ?_
        · rw [hqq]
        · rw [hqq]; exact moThr_0
        · rw [hqq]; exact told_J
        · rw [hqq]; exact h.told
      · refine thr 12 3 (by unfold haFlawed; rw [e]; simp only []; rw [if_neg (by rw [hb]; decide), hn]) ?_ (by decide) rfl (by decide)
        unfold moFlawedC
        rw [if_neg i1, if_neg i2]
        by_cases z : w < 0
        · rw [if_pos z]
        · rw [if_neg z, if_pos (hw.resolve_left z)]
    · refine thr 14 2 (by unfold haFlawed; rw [e]; simp only []; rw [if_pos hb]) ?_ (by decide) rfl (by decide)
      unfold moFlawedC
      by_cases z : k < 0
      · rw [if_pos z]
      · rw [if_neg z, h193, if_pos]
        intro u
        unfold inB at hb
        rw [decide_eq_true (Int32.not_lt.mp z), decide_eq_true u] at hb
        cases hb
theorem op_fit {G : xG} {S : xS} {B t N R E : Nat} {oa : Nat → Nat} {D : Nat → Nat → Int32} {rk g tn fl nc : Nat → Nat} (hG : xOkG G) (hc : B + 1000 ≤ gC G) (hs : 30000 ≤ gS G) (ht : t < 512) (h : liP S B t N R E oa D rk g tn fl nc) {w z : Int32} : opI G B t (liA B) S m_Ha_fit m_Mo_fit [.int w, .int z] := by
  have hR : sF S 186 27 = nI R := h.2.1.1.1.2
  have hR10 : R ≤ 10 := h.1.2.2.2.2.2.1.2
  have e := fit_eq (w := w) (h := z) h.2.1.off
  have e2 : moFt (moThr S 0) w z R R = moFt S w z R R := (fit_eq (w := w) (h := z) (S := moThr S 0) (g := g) (h.2.1.thr.off)).symm.trans ((show rkBest (moThr S 0) g w z R = rkBest S g w z R from by
    have hg : ∀ k, k < 10 → ∃ t, t < 10 ∧ g k = 7 + 5 * t := fun k hk => rkGl h.1 hk
    have key : ∀ m, m ≤ R → rkBest (moThr S 0) g w z m = rkBest S g w z m := by
      intro m
      induction m with
      | zero => intro _; rfl
      | succ m ih =>
        intro hm
        have hf : ∀ k, k < R → sF (moThr S 0) (g k) = sF S (g k) := fun k hk => by
          obtain ⟨q, hq, eq⟩ := hg k (by omega)
          exact sF_uFn _ _ _ (by omega)
        simp only [rkBest]
        rw [ih (by omega)]
        have e1 : ∀ a b, rkFits (moThr S 0) (g m) a b = rkFits S (g m) a b := fun a b => by unfold rkFits; rw [hf m (by omega)]
        have e3 : ∀ k, k < R → glSurf (moThr S 0) (g k) = glSurf S (g k) := fun k hk => by unfold glSurf; rw [hf k hk]
        rw [e1, e1, e3 m (by omega)]
        cases q : rkBest S g w z m with
        | none => rfl
        | some j =>
          have := rkBest_lt q
          simp only []
          rw [e3 j (by omega)]
    exact key R (Nat.le_refl _)).trans e)
  refine ⟨cI (rkBest S g w z R), moThr S 0, c_Ha_fit (d := 17) hG h.1 (h.rm hc hs ht), ?_, h.told0⟩
  have hM := c_Mo_fit (B := B) (d := 19) hG hR hR10 (w := w) (h := z)
  rw [e2, ← e] at hM
  exact hM
theorem op_area {G : xG} {S : xS} {B t N R E : Nat} {oa : Nat → Nat} {D : Nat → Nat → Int32} {rk g tn fl nc : Nat → Nat} (hG : xOkG G) (hc : B + 1000 ≤ gC G) (hs : 30000 ≤ gS G) (ht : t < 512) (h : liP S B t N R E oa D rk g tn fl nc) {w : Int32} : opJ G B t (liA B) S m_Ha_area m_Mo_area [.int w] := by
  have hR : sF S 186 27 = nI R := h.2.1.1.1.2
  have hR10 : R ≤ 10 := h.1.2.2.2.2.2.1.2
  obtain ⟨a1, a2, a3, a4⟩ := h.2.1.2.1
  have hM := c_Mo_area (B := B) (d := 19) hG hR hR10 h.2.1.cnt (w := w)
  have he : haArea S R g tn w = moArea (moThr S 0) R nc w := by
    have u1 := haUn_eq h.2.1.sh 8 (Nat.le_refl _)
    have u2 := haWa_eq h.2.1.sh 8 (Nat.le_refl _)
    have u3 := rkSurf_eq h.2.1.off R (Nat.le_refl _)
    have v1 : moFr (moThr S 0) 8 = moFr S 8 := rfl
    have v2 : moWt (moThr S 0) nc 8 = moWt S nc 8 := by
      have key : ∀ m, moWt (moThr S 0) nc m = moWt S nc m := by
        intro m
        induction m with
        | zero => rfl
        | succ m ih =>
          simp only [moWt]
          rw [ih]
          have kk : ∀ a q, moWi (moThr S 0) m a q = moWi S m a q := by
            intro a q
            induction q with
            | zero => rfl
            | succ q iq => simp only [moWi]; rw [iq]; rfl
          rw [kk]; rfl
      exact key 8
    have v3 : moRk (moThr S 0) R = moRk S R := by
      have key : ∀ m, moRk (moThr S 0) m = moRk S m := by
        intro m
        induction m with
        | zero => rfl
        | succ m ih => simp only [moRk]; rw [ih]; rfl
      exact key R
    unfold haArea moArea
    rcases sw7 w with rfl | rfl | rfl | rfl | rfl | rfl | rfl | e
    · rw [sw7_0, if_pos (by decide +kernel)]; exact u1
    · rw [sw7_1, if_neg (by decide +kernel), if_pos rfl]; exact a2
    · rw [sw7_2, if_neg (by decide +kernel), if_neg (by decide +kernel), if_pos rfl, v3]; exact u3
    · rw [sw7_3, if_neg (by decide +kernel), if_neg (by decide +kernel), if_neg (by decide +kernel), if_pos rfl]; exact a3
    · rw [sw7_4, if_neg (by decide +kernel), if_neg (by decide +kernel), if_neg (by decide +kernel), if_neg (by decide +kernel), if_pos rfl]; exact a4
    · rw [sw7_5, if_neg (by decide +kernel), if_neg (by decide +kernel), if_neg (by decide +kernel), if_neg (by decide +kernel), if_neg (by decide +kernel), if_pos rfl, v2]; exact u2
    · rw [sw7_6, if_neg (by decide +kernel), if_neg (by decide +kernel), if_neg (by decide +kernel), if_neg (by decide +kernel), if_neg (by decide +kernel), if_neg (by decide +kernel), if_pos rfl]; exact a1
    · have hn : ∀ k, k < 7 → ¬ w = nI k := fun k hk z => by
        subst z
        rw [nI_toInt (by omega)] at e
        omega
      rw [swN7 e, if_neg (by rw [← nI_0]; exact hn 0 (by decide)), if_neg (hn 1 (by decide)), if_neg (hn 2 (by decide)), if_neg (hn 3 (by decide)), if_neg (hn 4 (by decide)), if_neg (hn 5 (by decide)), if_neg (hn 6 (by decide))]
  refine ⟨haArea S R g tn w, moThr S 0, c_Ha_area (d := 16) hG h.1 (h.rm hc hs ht), ?_, h.told0⟩
  rw [he]; exact hM
theorem op_total {G : xG} {S : xS} {B t N R E : Nat} {oa : Nat → Nat} {D : Nat → Nat → Int32} {rk g tn fl nc : Nat → Nat} (hG : xOkG G) (hc : B + 1000 ≤ gC G) (hs : 30000 ≤ gS G) (ht : t < 512) (h : liP S B t N R E oa D rk g tn fl nc) {w : Int32} : opI G B t (liA B) S m_Ha_total m_Mo_total [.int w] := by
  obtain ⟨⟨c1, c2⟩, ⟨c3, c4⟩, -⟩ := h.2.1.1
  have hM := c_Mo_total (B := B) (S := S) (d := 18) hG (w := w)
  have he : haTotal S N R tn w = moTot S w := by
    have u1 := haCo_eq0 h.2.1.sh 8 (Nat.le_refl _)
    have u2 := haCo_eq1 h.2.1.sh 8 (Nat.le_refl _)
    unfold haTotal moTot
    rcases sw5 w with rfl | rfl | rfl | rfl | rfl | e
    · rw [sw5_0, if_pos (by decide +kernel)]; exact congrArg nI u1
    · rw [sw5_1, if_neg (by decide +kernel), if_pos rfl]; exact congrArg nI u2
    · rw [sw5_2, if_neg (by decide +kernel), if_neg (by decide +kernel), if_pos rfl]; exact c1.symm
    · rw [sw5_3, if_neg (by decide +kernel), if_neg (by decide +kernel), if_neg (by decide +kernel), if_pos rfl]; exact c2.symm
    · rw [sw5_4, if_neg (by decide +kernel), if_neg (by decide +kernel), if_neg (by decide +kernel), if_neg (by decide +kernel), if_pos rfl]; exact c3.trans c4.symm
    · have hn : ∀ k, k < 5 → ¬ w = nI k := fun k hk z => by
        subst z
        rw [nI_toInt (by omega)] at e
        omega
      rw [swN5 e, if_neg (by rw [← nI_0]; exact hn 0 (by decide)), if_neg (hn 1 (by decide)), if_neg (hn 2 (by decide)), if_neg (hn 3 (by decide)), if_neg (hn 4 (by decide))]
  refine ⟨haTotal S N R tn w, moThr S 0, c_Ha_total (d := 16) hG h.1 (h.rm hc hs ht), ?_, h.told0⟩
  rw [he]; exact hM
