/-! what always holds, step by step -/
section HI
variable {S : xS} {B N R : Nat} {oa : Nat → Nat} {D : Nat → Nat → Int32} {rk g tn fl : Nat → Nat}
theorem haI_A (h : haI S B N R oa D rk g tn fl) {o k : Nat} {v : Int32} (h4 : o ≠ 4) (ho : ∀ j, j < 8 → o ≠ 72 + 15 * j + 1 ∧ o ≠ 72 + 15 * j + 6) : haI (uA S o k v) B N R oa D rk g tn fl := by
  obtain ⟨a1, a2, a3, a4, a5, a6, a7, a8, a9, a10, a11, a12, a13⟩ := h
  refine ⟨a1, a2, a3, a4, fun q hq => ?_, a6, a7, a8, a9, a10, a11, fun j i hj hi h2 => ?_, a13⟩
  · rw [sA_uAn _ _ _ (Ne.symm h4)]; exact a5 q hq
  · rw [sA_uAn _ _ _ (Ne.symm (ho j hj).1)] at h2
    rw [sA_uAn _ _ _ (Ne.symm (ho j hj).2)]
    exact a12 j i hj hi h2
theorem haI_J (h : haI S B N R oa D rk g tn fl) {o k : Nat} {v : Int64} : haI (uJ S o k v) B N R oa D rk g tn fl := h
theorem haI_bk (h : haI S B N R oa D rk g tn fl) {x : Nat} (hx : x < N) (i j : Nat) : haI (bkMove S (oa x) (D x) i j) B N R oa (bkD D x i j) rk g tn fl := by
  obtain ⟨a1, a2, a3, a4, a5, a6, a7, a8, a9, a10, a11, a12, a13⟩ := h
  exact ⟨a1, a2, bkMove_ok a3 a4 hx i j, a4, a5, a6, a7, a8, a9, a10, a11, a12, a13⟩
theorem haI_seq (h : haI S B N R oa D rk g tn fl) {f : Nat → Option Nat} (i j k : Nat) (hf : ∀ q x, q < k → f q = some x → x < N) : haI (bkSeq S oa D f i j k).1 B N R oa (bkSeq S oa D f i j k).2 rk g tn fl := by
  obtain ⟨a1, a2, a3, a4, a5, a6, a7, a8, a9, a10, a11, a12, a13⟩ := h
  obtain ⟨b1, b2, b3, b4, b5, b6, b7⟩ := bkSeq_ok (f := f) (i := i) (j := j) a3 a4 k hf
  unfold haI
  simp only [slOk, rkOk] at *
  rw [b2, b3, b5]
  exact ⟨a1, a2, b1, a4, a5, a6, a7, a8, a9, a10, a11, a12, a13⟩
theorem rkGl (h : haI S B N R oa D rk g tn fl) {k : Nat} (hk : k < 10) : ∃ t, t < 10 ∧ g k = 7 + 5 * t := by
  rcases (h.2.2.2.2.2.2.1 k hk).2 with ⟨j, hj, e⟩ | q
  · have := h.2.2.2.2.2.2.2.1 k hk
    omega
  · exact q
theorem haI_add (h : haI S B N R oa D rk g tn fl) (hR : R < 10) {a m : Nat} {x y w z : Int32} : haI (rkAdd S g R a m x y w z) B N (R + 1) oa D rk g tn fl := by
  obtain ⟨t, ht, et⟩ := rkGl h hR
  have hg : ∀ k, k < 10 → ∃ t, t < 10 ∧ g k = 7 + 5 * t := fun k hk => rkGl h hk
  obtain ⟨a1, a2, a3, a4, a5, a6, a7, a8, a9, a10, a11, a12, a13⟩ := h
  obtain ⟨hK, hm, hm6⟩ := glPart_ok (S := S) (b := g R) (a := a) (x := x) (y := y) (w := w) (h := z) m
  have eF : ∀ q, q ≠ 5 → (q < g R ∨ g R + 5 ≤ q) → sF (rkAdd S g R a m x y w z) q = sF S q := fun q h5 hq => by
    unfold rkAdd
    rw [sF_uFn _ _ _ h5]; exact (hK.1 q hq).1
  have eA : ∀ q, (q < g R ∨ g R + 5 ≤ q) → sA (rkAdd S g R a m x y w z) q = sA S q := fun q hq => (hK.1 q hq).2.1
  have eR : ∀ q, (q < g R ∨ g R + 5 ≤ q) → sR (rkAdd S g R a m x y w z) q = sR S q := fun q hq => (hK.1 q hq).2.2.2
  have eE : sE (rkAdd S g R a m x y w z) = sE S := hK.2.1
  refine ⟨fun j hj => ?_, ⟨?_, a2.2⟩, fun k hk => ⟨?_, (a3 k hk).2.1, ?_⟩, a4, fun q hq => ?_, ⟨?_, by omega⟩, fun k hk => ⟨?_, (a7 k hk).2⟩, a8, fun j hj => ⟨?_, (a9 j hj).2⟩, fun j hj => ⟨?_, (a10 j hj).2⟩, fun k hk => ?_, fun j i hj hi h2 => ?_, ?_⟩
  · rw [eR 1 (by omega)]; exact a1 j hj
  · rw [eF 2 (by omega) (by omega)]; exact a2.1
  · rw [eR 3 (by omega)]; exact (a3 k hk).1
  · rw [eE]; exact (a3 k hk).2.2
  · rw [eA 4 (by omega)]; exact a5 q hq
  · unfold rkAdd; rw [sF_uF]; exact va_up_self _ _ _
  · rw [eR 6 (by omega)]; exact (a7 k hk).1
  · rw [eF _ (by omega) (by omega)]; exact (a9 j hj).1
  · rw [eF _ (by omega) (by omega)]; exact (a10 j hj).1
  · obtain ⟨t', ht', et'⟩ := hg k hk
    by_cases e : g k = g R
    · refine ⟨_, hm6, ?_⟩
      unfold rkAdd
      rw [sF_uFn _ _ _ (by omega), e]; exact hm
    · rw [eF _ (by omega) (by omega)]; exact a11 k hk
  · rw [eA _ (by omega)] at h2
    rw [eA _ (by omega)]
    exact a12 j i hj hi h2
  · rw [eF 57 (by omega) (by omega)]; exact a13
/-- a node comes up -/
def haLetD (S : xS) (D : Nat → Nat → Int32) (j i : Nat) : Nat → Nat → Int32 := if sA S (72 + 15 * j + 1) i = nI 2 then bkD D (sA S (72 + 15 * j + 6) i).toNatClampNeg 4 5 else D
def haLetR (S : xS) (R j i : Nat) : Nat := if sA S (72 + 15 * j + 1) i = nI 2 then R else if sA S (72 + 15 * j + 1) i = nI 3 ∧ haBig S j i = true ∧ R < 10 then R + 1 else R
theorem haBig_St {S : xS} {j i : Nat} : haBig (haSt S j i) j i = haBig S j i := by
  unfold haBig
  rw [haSt_A (by omega), haSt_A (by omega)]
theorem haI_let (h : haI S B N R oa D rk g tn fl) {j i m : Nat} (hj : j < 8) (hi : i < tn j) : haI (haLet S oa D g R j m i) B N (haLetR S R j i) oa (haLetD S D j i) rk g tn fl := by
  have hs : haI (haSt S j i) B N R oa D rk g tn fl := haI_A h (by omega) (fun j' hj' => by omega)
  unfold haLet haLetR haLetD
  by_cases h2 : sA S (72 + 15 * j + 1) i = nI 2
  · rw [if_pos h2, if_pos h2, if_pos h2]
    obtain ⟨x, hx, ex⟩ := h.2.2.2.2.2.2.2.2.2.2.2.1 j i hj hi h2
    unfold haDone
    have hN := h.2.1.2
    rw [haSt_A (by omega), ex, nI_clamp (by omega)]
    exact haI_J (haI_bk hs hx 4 5)
  · rw [if_neg h2, if_neg h2, if_neg h2]
    by_cases h3 : sA S (72 + 15 * j + 1) i = nI 3
    · rw [if_pos h3]
      unfold haAway
      rw [haBig_St]
      by_cases hb : haBig S j i = true ∧ R < 10
      · rw [if_pos hb, if_pos ⟨h3, hb⟩]
        exact haI_add hs hb.2
      · rw [if_neg hb, if_neg (fun q => hb q.2)]
        exact haI_J hs
    · rw [if_neg h3, if_neg (fun q => h3 q.1)]
      exact hs
theorem haI_clr (h : haI S B N R oa D rk g tn fl) {j : Nat} (hj : j < 8) : haI (haClr S j (tn j)) B N R oa D rk g (if fstN (trWaits S (72 + 15 * j)) (tn j) = none then va_up tn j 0 else tn) fl := by
  unfold haClr
  by_cases hz : fstN (trWaits S (72 + 15 * j)) (tn j) = none
  · rw [if_pos hz, if_pos hz]
    have hg : ∀ k, k < 10 → ∃ t, t < 10 ∧ g k = 7 + 5 * t := fun k hk => rkGl h hk
    obtain ⟨a1, a2, a3, a4, a5, a6, a7, a8, a9, a10, a11, a12, a13⟩ := h
    have eF : ∀ q, q ≠ 72 + 15 * j → q ≠ 66 + 15 * j → sF (uF (uF S (72 + 15 * j) 8 (nI 0)) (66 + 15 * j) 2 (nI 0)) q = sF S q := fun q h1 h2 => by rw [sF_uFn _ _ _ h2, sF_uFn _ _ _ h1]
    refine ⟨a1, ?_, a3, a4, a5, ?_, a7, a8, fun k hk => ?_, fun k hk => ?_, fun k hk => ?_, fun q i hq hi h2 => ?_, ?_⟩
    · rw [eF 2 (by omega) (by omega)]; exact a2
    · rw [eF 5 (by omega) (by omega)]; exact a6
    · by_cases e : k = j
      · subst e
        rw [va_up_self, sF_uFn _ _ _ (by omega), sF_uF, va_up_self]
        exact ⟨rfl, by omega⟩
      · rw [va_up_ne _ _ e, eF _ (by omega) (by omega)]; exact a9 k hk
    · rw [eF _ (by omega) (by omega)]; exact a10 k hk
    · obtain ⟨t', ht', et'⟩ := hg k hk
      rw [eF _ (by omega) (by omega)]; exact a11 k hk
    · by_cases e : q = j
      · subst e
        rw [va_up_self] at hi; omega
      · rw [va_up_ne _ _ e] at hi
        exact a12 q i hq hi h2
    · rw [eF 57 (by omega) (by omega)]; exact a13
  · rw [if_neg hz, if_neg hz]; exact h
end HI
/-! score -/
def haSc (S : xS) (oa : Nat → Nat) (D : Nat → Nat → Int32) (g : Nat → Nat) (R j m n i : Nat) : xS :=
  if trCut S (72 + 15 * j) i = true then
    let S0 := uA S (72 + 15 * j + 8) i (nI 2)
    let S1 := if i + 1 < n then haLet S0 oa D g R j m (i + 1) else S0
    let D1 := if i + 1 < n then haLetD S0 D j (i + 1) else D
    let R1 := if i + 1 < n then haLetR S0 R j (i + 1) else R
    if inB n (sA S (72 + 15 * j + 7) i) = true then haLet S1 oa D1 g R1 j m (sA S (72 + 15 * j + 7) i).toNatClampNeg else S1
  else haLet S oa D g R j m i
def haScore (S : xS) (oa : Nat → Nat) (D : Nat → Nat → Int32) (g tn fl : Nat → Nat) (R : Nat) (x : Int32) : xO × xS := match fstN (idB S x) 8 with
  | none => (.inr 11, S)
  | some j => if tn j = 0 then (.inr 13, S) else match fstN (trWaits S (72 + 15 * j)) (tn j) with
    | none => (rI (-1), S)
    | some i => (rI (nI i), haClr (haSc S oa D g R j (fl j) (tn j) i) j (tn j))
theorem inB_nI {N k : Nat} (hk : k < 2 ^ 31) (hN : N < 2 ^ 31) : inB N (nI k) = decide (k < N) := hasN hk hN
theorem haLet_A7 {S : xS} {oa : Nat → Nat} {D : Nat → Nat → Int32} {g : Nat → Nat} {R j m i : Nat} (hj : j < 8) (hg : R < 10 → g R + 5 ≤ 57) : sA (haLet S oa D g R j m i) (72 + 15 * j + 7) = sA S (72 + 15 * j + 7) := by
  unfold haLet
  split
  · exact haSt_A (by omega)
  · split
    · unfold haAway
      split
      · rename_i h2
        have := hg h2.2
        unfold rkAdd
        show sA (glPart _ _ _ _ _ _ _ _).1 _ = _
        rw [((glPart_ok m).1.1 _ (by omega)).2.1]
        exact haSt_A (by omega)
      · exact haSt_A (by omega)
    · exact haSt_A (by omega)
set_option maxRecDepth 100000 in
set_option maxHeartbeats 1000000 in
theorem c_Ha_score0 {G : xG} {B d : Nat} {S : xS} (hG : xOkG G) {N R : Nat} {oa : Nat → Nat} {D : Nat → Nat → Int32} {rk g tn fl : Nat → Nat} (hI : haI S B N R oa D rk g tn fl) (hrm : xRm G B S) {x : Int32} {j : Nat} (hf : fstN (idB S x) 8 = some j) (h0 : 0 < tn j) (hw : fstN (trWaits S (72 + 15 * j)) (tn j) = none) : EX G m_Ha_score (d + 5) 0 [(0, .ref (B + 0)), (1, .int x)] [] (mk G B S) (xDo G B (haScore S oa D g tn fl R x)) := by
  obtain ⟨hsl, ⟨hN, hN6⟩, ho, hinj, hrkd, ⟨hR, hR10⟩, hrk, hgi, htn, hfl, hgm, hmk, ⟨ln, hln, hly⟩⟩ := id hI
  have hb := (htn j (fsL hf)).2
  have hj := fsL hf
  have h1 : ¬ tn j = 0 := by omega
  refine x_aload_n d_Ha_score_0 rfl ?_
  refine x_iload_n d_Ha_score_1 rfl ?_
  refine w_callV (As := [_]) d_Ha_score_2 k_Ha_154 k_hall rfl rfl rfl (c_Ha_findPlanned hG hsl hf (htn _ (fsL hf)).1 (htn _ (fsL hf)).2 h0) ?_
  refine s_astore_n (lv' := [(0, _), (1, _), (2, _)]) d_Ha_score_5 (by decide) rfl ?_
  refine x_aload_n d_Ha_score_6 rfl ?_
  refine y_getf d_Ha_score_7 gf_Ha_104 (k_sheet (fsL hf)) rfl ?_
  refine s_astore_n (lv' := [(0, _), (1, _), (2, _), (3, _)]) d_Ha_score_10 (by decide) rfl ?_
  refine x_aload_n d_Ha_score_11 rfl ?_
  refine w_callV (As := []) d_Ha_score_12 k_Ha_168 (k_tree (trS (fsL hf))) rfl rfl rfl (c_Tr_firstWaiting hG (trS hj) (htn j hj).1 (htn j hj).2) ?_
  rw [hw, show cI none = -1 from rfl]
  refine s_istore (lv' := [(0, _), (1, _), (2, _), (3, _), (4, _)]) d_Ha_score_15 (by decide) rfl ?_
  refine x_aload_n d_Ha_score_17 rfl ?_
  refine x_iload d_Ha_score_18 rfl ?_
  refine w_callV (As := [_]) d_Ha_score_20 k_Ha_157 (k_tree (trS (fsL hf))) rfl rfl rfl (c_Tr_has (i := -1) hG (trS hj) (htn j hj).1 (htn j hj).2) ?_
  refine z_bif_ne 28 d_Ha_score_23 rfl (fun q => absurd q (by rw [show (decide ((0 : Int32) ≤ -1)) = false by decide +kernel, Bool.false_and]; decide)) (fun hc23 => ?_)
  refine x_iconst (v := -1) d_Ha_score_26 (by decide +kernel) ?_
  refine x_ireturn d_Ha_score_27 rfl rfl ?_
  exact xDo.ret (by simp only [haScore, hf, h1, hw, if_false])
set_option maxRecDepth 100000 in
set_option maxHeartbeats 1000000 in
theorem c_Ha_score1 {G : xG} {B d : Nat} {S : xS} (hG : xOkG G) {N R : Nat} {oa : Nat → Nat} {D : Nat → Nat → Int32} {rk g tn fl : Nat → Nat} (hI : haI S B N R oa D rk g tn fl) (hrm : xRm G B S) {x : Int32} {j i : Nat} (hf : fstN (idB S x) 8 = some j) (h0 : 0 < tn j) (hw : fstN (trWaits S (72 + 15 * j)) (tn j) = some i) : EX G m_Ha_score (d + 5) 0 [(0, .ref (B + 0)), (1, .int x)] [] (mk G B S) (xDo G B (haScore S oa D g tn fl R x)) := by
  obtain ⟨hsl, ⟨hN, hN6⟩, ho, hinj, hrkd, ⟨hR, hR10⟩, hrk, hgi, htn, hfl, hgm, hmk, ⟨ln, hln, hly⟩⟩ := id hI
  have hb := (htn j (fsL hf)).2
  have hj := fsL hf
  have h1 : ¬ tn j = 0 := by omega
  have hi := fsL hw
  refine x_aload_n d_Ha_score_0 rfl ?_
  refine x_iload_n d_Ha_score_1 rfl ?_
  refine w_callV (As := [_]) d_Ha_score_2 k_Ha_154 k_hall rfl rfl rfl (c_Ha_findPlanned hG hsl hf (htn _ (fsL hf)).1 (htn _ (fsL hf)).2 h0) ?_
  refine s_astore_n (lv' := [(0, _), (1, _), (2, _)]) d_Ha_score_5 (by decide) rfl ?_
  refine x_aload_n d_Ha_score_6 rfl ?_
  refine y_getf d_Ha_score_7 gf_Ha_104 (k_sheet (fsL hf)) rfl ?_
  refine s_astore_n (lv' := [(0, _), (1, _), (2, _), (3, _)]) d_Ha_score_10 (by decide) rfl ?_
  refine x_aload_n d_Ha_score_11 rfl ?_
  refine w_callV (As := []) d_Ha_score_12 k_Ha_168 (k_tree (trS (fsL hf))) rfl rfl rfl (c_Tr_firstWaiting hG (trS hj) (htn j hj).1 (htn j hj).2) ?_
  rw [hw, show cI (some i) = nI i from rfl]
  refine s_istore (lv' := [(0, _), (1, _), (2, _), (3, _), (4, _)]) d_Ha_score_15 (by decide) rfl ?_
  refine x_aload_n d_Ha_score_17 rfl ?_
  refine x_iload d_Ha_score_18 rfl ?_
  refine w_callV (As := [_]) d_Ha_score_20 k_Ha_157 (k_tree (trS (fsL hf))) rfl rfl rfl (c_Tr_has (i := nI i) hG (trS hj) (htn j hj).1 (htn j hj).2) ?_
  rw [hasN (by omega) (by omega)]
  refine z_bif_ne 28 d_Ha_score_23 rfl (fun hc23 => ?_) (fun q => absurd q (by simp [hi]))
  refine x_aload_n d_Ha_score_28 rfl ?_
  refine x_iload d_Ha_score_29 rfl ?_
  refine w_callV (As := [_]) d_Ha_score_31 k_Ha_172 (k_tree (trS (fsL hf))) rfl rfl rfl (c_Tr_isCut hG (trS hj) (by omega)) ?_
  refine z_bif_eq 69 d_Ha_score_34 rfl (fun hc34 => ?_) (fun hc34 => ?_)
  · skip
    skip
    refine x_aload_n d_Ha_score_69 rfl ?_
    refine x_aload_n d_Ha_score_70 rfl ?_
    refine x_iload d_Ha_score_71 rfl ?_
    refine w_callV (As := [_, _]) d_Ha_score_73 k_Ha_179 k_hall rfl rfl rfl (c_Ha_letWait (S := S) (D := D) (R := R) hG hj (hI.2.2.2.2.2.2.2.2.1 j hj).1 (htn j hj).2 hi hI.2.2.2.2.2.1.1 hI.2.2.2.2.2.1.2 hI.2.2.2.2.2.2.1 hgi (hI.2.2.2.2.2.2.2.2.2.1 j hj).1 (hfl j hj).2 hI.2.1.1 hN6 hI.2.2.1 (hI.2.2.2.2.2.2.2.2.2.2.2.1 j i hj hi)) ?_
    have hI2 := haI_let hI (m := fl j) hj hi
    have eQ : haSc S oa D g R j (fl j) (tn j) i = haLet S oa D g R j (fl j) i := by
      unfold haSc
      rw [if_neg (by rw [hc34]; decide)]
    refine x_aload_n d_Ha_score_76 rfl ?_
    refine x_aload_n d_Ha_score_77 rfl ?_
    refine w_callV (As := [_]) d_Ha_score_78 k_Ha_186 k_hall rfl rfl rfl (c_Ha_clearAwayIfEmpty hG hj (hI2.2.2.2.2.2.2.2.2.1 j hj).1 (htn j hj).2) ?_
    refine x_iload d_Ha_score_81 rfl ?_
    refine x_ireturn d_Ha_score_83 rfl rfl ?_
    exact xDo.ret (by simp only [haScore, hf, h1, hw, if_false, eQ])
  · skip
    have hI0 : haI (uA S (72 + 15 * j + 8) i (nI 2)) B N R oa D rk g tn fl := haI_A hI (by omega) (fun j' hj' => by omega)
    refine x_aload_n d_Ha_score_37 rfl ?_
    refine y_getf d_Ha_score_38 gf_Ha_175 (k_tree (trS (fsL hf))) rfl ?_
    refine x_iload d_Ha_score_41 rfl ?_
    refine x_iconst (v := nI 2) d_Ha_score_43 (by decide +kernel) ?_
    refine y_iast hG d_Ha_score_44 (k_trA8 (trS (fsL hf))) _ rfl (by omega) ?_
    refine x_aload_n d_Ha_score_45 rfl ?_
    refine x_aload_n d_Ha_score_46 rfl ?_
    refine x_iload d_Ha_score_47 rfl ?_
    refine x_iconst (v := nI 1) d_Ha_score_49 (by decide +kernel) ?_
    refine x_iadd d_Ha_score_50 ?_
    rw [nI_add]
    by_cases hi1 : i + 1 < tn j
    · skip
      refine w_callV (As := [_, _]) d_Ha_score_51 k_Ha_179 k_hall rfl rfl rfl (c_Ha_letWait (S := (uA S (72 + 15 * j + 8) i (nI 2))) (D := D) (R := R) hG hj (hI0.2.2.2.2.2.2.2.2.1 j hj).1 (htn j hj).2 hi1 hI0.2.2.2.2.2.1.1 hI0.2.2.2.2.2.1.2 hI0.2.2.2.2.2.2.1 hgi (hI0.2.2.2.2.2.2.2.2.2.1 j hj).1 (hfl j hj).2 hI0.2.1.1 hN6 hI0.2.2.1 (hI0.2.2.2.2.2.2.2.2.2.2.2.1 j (i + 1) hj hi1)) ?_
      have hI1 := haI_let hI0 (m := fl j) hj hi1
      have eS : (if i + 1 < tn j then haLet (uA S (72 + 15 * j + 8) i (nI 2)) oa D g R j (fl j) (i + 1) else (uA S (72 + 15 * j + 8) i (nI 2))) = haLet (uA S (72 + 15 * j + 8) i (nI 2)) oa D g R j (fl j) (i + 1) := if_pos hi1
      have eD : (if i + 1 < tn j then haLetD (uA S (72 + 15 * j + 8) i (nI 2)) D j (i + 1) else D) = haLetD (uA S (72 + 15 * j + 8) i (nI 2)) D j (i + 1) := if_pos hi1
      have eR : (if i + 1 < tn j then haLetR (uA S (72 + 15 * j + 8) i (nI 2)) R j (i + 1) else R) = haLetR (uA S (72 + 15 * j + 8) i (nI 2)) R j (i + 1) := if_pos hi1
      rw [← eD, ← eR, ← eS] at hI1
      rw [← eS]
      generalize hS1 : (if i + 1 < tn j then haLet (uA S (72 + 15 * j + 8) i (nI 2)) oa D g R j (fl j) (i + 1) else (uA S (72 + 15 * j + 8) i (nI 2))) = S1 at hI1 ⊢
      generalize hD1 : (if i + 1 < tn j then haLetD (uA S (72 + 15 * j + 8) i (nI 2)) D j (i + 1) else D) = D1 at hI1
      generalize hR1 : (if i + 1 < tn j then haLetR (uA S (72 + 15 * j + 8) i (nI 2)) R j (i + 1) else R) = R1 at hI1
      refine x_aload_n d_Ha_score_54 rfl ?_
      refine x_aload_n d_Ha_score_55 rfl ?_
      refine x_aload_n d_Ha_score_56 rfl ?_
      refine y_getf d_Ha_score_57 gf_Ha_183 (k_tree (trS (fsL hf))) rfl ?_
      refine x_iload d_Ha_score_60 rfl ?_
      refine y_iald hG d_Ha_score_62 (k_trA7 (trS (fsL hf))) _ rfl (by omega) ?_
      have h7 : sA S1 (72 + 15 * j + 7) = sA S (72 + 15 * j + 7) := by
        rw [← hS1]
        by_cases q1 : i + 1 < tn j
        · rw [if_pos q1, haLet_A7 hj (fun q => hgi R q)]; exact sA_uAn _ _ _ (by omega)
        · rw [if_neg q1]; exact sA_uAn _ _ _ (by omega)
      rw [h7]
      rcases inB_cases (N := tn j) (by omega) (sA S (72 + 15 * j + 7) i) with ⟨k2, hk2, e2, hz⟩ | hz
      · skip
        rw [e2]
        refine w_callV (As := [_, _]) d_Ha_score_63 k_Ha_179 k_hall rfl rfl rfl (c_Ha_letWait (S := S1) (D := D1) (R := R1) hG hj (hI1.2.2.2.2.2.2.2.2.1 j hj).1 (htn j hj).2 hk2 hI1.2.2.2.2.2.1.1 hI1.2.2.2.2.2.1.2 hI1.2.2.2.2.2.2.1 hgi (hI1.2.2.2.2.2.2.2.2.2.1 j hj).1 (hfl j hj).2 hI1.2.1.1 hN6 hI1.2.2.1 (hI1.2.2.2.2.2.2.2.2.2.2.2.1 j k2 hj hk2)) ?_
        have hI2 := haI_let hI1 (m := fl j) hj hk2
        have eQ : haSc S oa D g R j (fl j) (tn j) i = haLet S1 oa D1 g R1 j (fl j) k2 := by
          unfold haSc
          rw [if_pos hc34]
          simp only [hS1, hD1, hR1]
          rw [if_pos hz, e2, nI_clamp (by omega)]
        refine x_goto 76 d_Ha_score_66 rfl ?_
        refine x_aload_n d_Ha_score_76 rfl ?_
        refine x_aload_n d_Ha_score_77 rfl ?_
        refine w_callV (As := [_]) d_Ha_score_78 k_Ha_186 k_hall rfl rfl rfl (c_Ha_clearAwayIfEmpty hG hj (hI2.2.2.2.2.2.2.2.2.1 j hj).1 (htn j hj).2) ?_
        refine x_iload d_Ha_score_81 rfl ?_
        refine x_ireturn d_Ha_score_83 rfl rfl ?_
        exact xDo.ret (by simp only [haScore, hf, h1, hw, if_false, eQ])
      · skip
        refine w_callV (As := [_, _]) d_Ha_score_63 k_Ha_179 k_hall rfl rfl rfl (c_Ha_letWaitN hG hj (hI1.2.2.2.2.2.2.2.2.1 j hj).1 (htn j hj).2 hz) ?_
        have hI2 := hI1
        have eQ : haSc S oa D g R j (fl j) (tn j) i = S1 := by
          unfold haSc
          rw [if_pos hc34]
          simp only [hS1, hD1, hR1]
          rw [if_neg (by rw [hz]; decide)]
        refine x_goto 76 d_Ha_score_66 rfl ?_
        refine x_aload_n d_Ha_score_76 rfl ?_
        refine x_aload_n d_Ha_score_77 rfl ?_
        refine w_callV (As := [_]) d_Ha_score_78 k_Ha_186 k_hall rfl rfl rfl (c_Ha_clearAwayIfEmpty hG hj (hI2.2.2.2.2.2.2.2.2.1 j hj).1 (htn j hj).2) ?_
        refine x_iload d_Ha_score_81 rfl ?_
        refine x_ireturn d_Ha_score_83 rfl rfl ?_
        exact xDo.ret (by simp only [haScore, hf, h1, hw, if_false, eQ])
    · skip
      refine w_callV (As := [_, _]) d_Ha_score_51 k_Ha_179 k_hall rfl rfl rfl (c_Ha_letWaitN (S := (uA S (72 + 15 * j + 8) i (nI 2))) (i := nI (i + 1)) hG hj (htn j hj).1 (htn j hj).2 (by rw [inB_nI (by omega) (by omega)]; exact decide_eq_false hi1)) ?_
      have hI1 := hI0
      have eS : (if i + 1 < tn j then haLet (uA S (72 + 15 * j + 8) i (nI 2)) oa D g R j (fl j) (i + 1) else (uA S (72 + 15 * j + 8) i (nI 2))) = (uA S (72 + 15 * j + 8) i (nI 2)) := if_neg hi1
      have eD : (if i + 1 < tn j then haLetD (uA S (72 + 15 * j + 8) i (nI 2)) D j (i + 1) else D) = D := if_neg hi1
      have eR : (if i + 1 < tn j then haLetR (uA S (72 + 15 * j + 8) i (nI 2)) R j (i + 1) else R) = R := if_neg hi1
      rw [← eD, ← eR] at hI1
      replace hI1 := (congrArg (fun q => haI q B N (if i + 1 < tn j then haLetR (uA S (72 + 15 * j + 8) i (nI 2)) R j (i + 1) else R) oa (if i + 1 < tn j then haLetD (uA S (72 + 15 * j + 8) i (nI 2)) D j (i + 1) else D) rk g tn fl) eS).mpr hI1
      refine cast (congrArg (fun q => EX _ _ _ _ _ _ (mk G B q) _) eS) ?_
      generalize hS1 : (if i + 1 < tn j then haLet (uA S (72 + 15 * j + 8) i (nI 2)) oa D g R j (fl j) (i + 1) else (uA S (72 + 15 * j + 8) i (nI 2))) = S1 at hI1 ⊢
      generalize hD1 : (if i + 1 < tn j then haLetD (uA S (72 + 15 * j + 8) i (nI 2)) D j (i + 1) else D) = D1 at hI1
      generalize hR1 : (if i + 1 < tn j then haLetR (uA S (72 + 15 * j + 8) i (nI 2)) R j (i + 1) else R) = R1 at hI1
      refine x_aload_n d_Ha_score_54 rfl ?_
      refine x_aload_n d_Ha_score_55 rfl ?_
      refine x_aload_n d_Ha_score_56 rfl ?_
      refine y_getf d_Ha_score_57 gf_Ha_183 (k_tree (trS (fsL hf))) rfl ?_
      refine x_iload d_Ha_score_60 rfl ?_
      refine y_iald hG d_Ha_score_62 (k_trA7 (trS (fsL hf))) _ rfl (by omega) ?_
      have h7 : sA S1 (72 + 15 * j + 7) = sA S (72 + 15 * j + 7) := by
        rw [← hS1]
        by_cases q1 : i + 1 < tn j
        · rw [if_pos q1, haLet_A7 hj (fun q => hgi R q)]; exact sA_uAn _ _ _ (by omega)
        · rw [if_neg q1]; exact sA_uAn _ _ _ (by omega)
      rw [h7]
      rcases inB_cases (N := tn j) (by omega) (sA S (72 + 15 * j + 7) i) with ⟨k2, hk2, e2, hz⟩ | hz
      · skip
        rw [e2]
        refine w_callV (As := [_, _]) d_Ha_score_63 k_Ha_179 k_hall rfl rfl rfl (c_Ha_letWait (S := S1) (D := D1) (R := R1) hG hj (hI1.2.2.2.2.2.2.2.2.1 j hj).1 (htn j hj).2 hk2 hI1.2.2.2.2.2.1.1 hI1.2.2.2.2.2.1.2 hI1.2.2.2.2.2.2.1 hgi (hI1.2.2.2.2.2.2.2.2.2.1 j hj).1 (hfl j hj).2 hI1.2.1.1 hN6 hI1.2.2.1 (hI1.2.2.2.2.2.2.2.2.2.2.2.1 j k2 hj hk2)) ?_
        have hI2 := haI_let hI1 (m := fl j) hj hk2
        have eQ : haSc S oa D g R j (fl j) (tn j) i = haLet S1 oa D1 g R1 j (fl j) k2 := by
          unfold haSc
          rw [if_pos hc34]
          simp only [hS1, hD1, hR1]
          rw [if_pos hz, e2, nI_clamp (by omega)]
        refine x_goto 76 d_Ha_score_66 rfl ?_
        refine x_aload_n d_Ha_score_76 rfl ?_
        refine x_aload_n d_Ha_score_77 rfl ?_
        refine w_callV (As := [_]) d_Ha_score_78 k_Ha_186 k_hall rfl rfl rfl (c_Ha_clearAwayIfEmpty hG hj (hI2.2.2.2.2.2.2.2.2.1 j hj).1 (htn j hj).2) ?_
        refine x_iload d_Ha_score_81 rfl ?_
        refine x_ireturn d_Ha_score_83 rfl rfl ?_
        exact xDo.ret (by simp only [haScore, hf, h1, hw, if_false, eQ])
      · skip
        refine w_callV (As := [_, _]) d_Ha_score_63 k_Ha_179 k_hall rfl rfl rfl (c_Ha_letWaitN hG hj (hI1.2.2.2.2.2.2.2.2.1 j hj).1 (htn j hj).2 hz) ?_
        have hI2 := hI1
        have eQ : haSc S oa D g R j (fl j) (tn j) i = S1 := by
          unfold haSc
          rw [if_pos hc34]
          simp only [hS1, hD1, hR1]
          rw [if_neg (by rw [hz]; decide)]
        refine x_goto 76 d_Ha_score_66 rfl ?_
        refine x_aload_n d_Ha_score_76 rfl ?_
        refine x_aload_n d_Ha_score_77 rfl ?_
        refine w_callV (As := [_]) d_Ha_score_78 k_Ha_186 k_hall rfl rfl rfl (c_Ha_clearAwayIfEmpty hG hj (hI2.2.2.2.2.2.2.2.2.1 j hj).1 (htn j hj).2) ?_
        refine x_iload d_Ha_score_81 rfl ?_
        refine x_ireturn d_Ha_score_83 rfl rfl ?_
        exact xDo.ret (by simp only [haScore, hf, h1, hw, if_false, eQ])
set_option maxRecDepth 100000 in
set_option maxHeartbeats 1000000 in
theorem c_Ha_scoreT {G : xG} {B d : Nat} {S : xS} (hG : xOkG G) {N R : Nat} {oa : Nat → Nat} {D : Nat → Nat → Int32} {rk g tn fl : Nat → Nat} (hI : haI S B N R oa D rk g tn fl) (hrm : xRm G B S) {x : Int32}  (hf : fstN (idB S x) 8 = none) : EX G m_Ha_score (d + 5) 0 [(0, .ref (B + 0)), (1, .int x)] [] (mk G B S) (xDo G B (haScore S oa D g tn fl R x)) := by
  obtain ⟨hsl, ⟨hN, hN6⟩, ho, hinj, hrkd, ⟨hR, hR10⟩, hrk, hgi, htn, hfl, hgm, hmk, ⟨ln, hln, hly⟩⟩ := id hI
  refine x_aload_n d_Ha_score_0 rfl ?_
  refine x_iload_n d_Ha_score_1 rfl ?_
  refine w_callT (As := [_]) d_Ha_score_2 k_Ha_154 k_hall rfl rfl rfl (c_Ha_findPlannedT hG hsl hrm hf) rfl ?_
  exact xDo.thr (by simp only [haScore, hf])
set_option maxRecDepth 100000 in
set_option maxHeartbeats 1000000 in
theorem c_Ha_scoreU {G : xG} {B d : Nat} {S : xS} (hG : xOkG G) {N R : Nat} {oa : Nat → Nat} {D : Nat → Nat → Int32} {rk g tn fl : Nat → Nat} (hI : haI S B N R oa D rk g tn fl) (hrm : xRm G B S) {x : Int32}  {j : Nat} (hf : fstN (idB S x) 8 = some j) (h0 : tn j = 0) : EX G m_Ha_score (d + 5) 0 [(0, .ref (B + 0)), (1, .int x)] [] (mk G B S) (xDo G B (haScore S oa D g tn fl R x)) := by
  obtain ⟨hsl, ⟨hN, hN6⟩, ho, hinj, hrkd, ⟨hR, hR10⟩, hrk, hgi, htn, hfl, hgm, hmk, ⟨ln, hln, hly⟩⟩ := id hI
  refine x_aload_n d_Ha_score_0 rfl ?_
  refine x_iload_n d_Ha_score_1 rfl ?_
  refine w_callT (As := [_]) d_Ha_score_2 k_Ha_154 k_hall rfl rfl rfl (c_Ha_findPlannedU hG hsl hrm hf (htn _ (fsL hf)).1 (htn _ (fsL hf)).2 h0) rfl ?_
  exact xDo.thr (by simp only [haScore, hf, h0, if_true])
theorem c_Ha_score {G : xG} {B d : Nat} {S : xS} (hG : xOkG G) {N R : Nat} {oa : Nat → Nat} {D : Nat → Nat → Int32} {rk g tn fl : Nat → Nat} (hI : haI S B N R oa D rk g tn fl) (hrm : xRm G B S) {x : Int32} : EX G m_Ha_score (d + 5) 0 [(0, .ref (B + 0)), (1, .int x)] [] (mk G B S) (xDo G B (haScore S oa D g tn fl R x)) := by
  rcases haCases S x tn with hf | ⟨j, hf, h0⟩ | ⟨j, hf, h0⟩
  · exact c_Ha_scoreT hG hI hrm hf
  · exact c_Ha_scoreU hG hI hrm hf h0
  · rcases hw : fstN (trWaits S (72 + 15 * j)) (tn j) with _ | i
    · exact c_Ha_score0 hG hI hrm hf h0 hw
    · exact c_Ha_score1 hG hI hrm hf h0 hw
/-! cancel, broke -/
def haCancel (S : xS) (oa : Nat → Nat) (D : Nat → Nat → Int32) (tn : Nat → Nat) (x : Int32) : xO × xS := match fstN (idB S x) 8 with
  | none => (.inr 11, S)
  | some j => if tn j = 0 then (.inr 13, S) else if ¬ sA S (72 + 15 * j + 8) 0 = nI 1 then (.inr 13, S) else
    (rI (nI (cntN (paF S (72 + 15 * j) 0) (trE S (72 + 15 * j) (tn j - 0) 0 1 - 0))), uF (bkSeq S oa D (paF S (72 + 15 * j) 0) 4 3 (trE S (72 + 15 * j) (tn j - 0) 0 1 - 0)).1 (72 + 15 * j) 8 (nI 0))
def haBr1 (S : xS) (j i : Nat) : xS := uJ S 0 10 (sJ S 0 10 + trSurf S (72 + 15 * j) i)
def haBr2 (S : xS) (oa : Nat → Nat) (D : Nat → Nat → Int32) (j n i : Nat) : xS := (bkSeq S oa D (paF S (72 + 15 * j) i) 4 3 (trE S (72 + 15 * j) (n - i) i 1 - i)).1
def haBr3 (S : xS) (j n i : Nat) : xS := trBrk S (72 + 15 * j) i (trE S (72 + 15 * j) (n - i) i 1 - i)
def haBroke (S : xS) (oa : Nat → Nat) (D : Nat → Nat → Int32) (tn : Nat → Nat) (x y : Int32) : xO × xS := match fstN (idB S x) 8 with
  | none => (.inr 11, S)
  | some j => if tn j = 0 then (.inr 13, S) else if inB (tn j) y = false then (.inr 14, S) else if ¬ sA S (72 + 15 * j + 8) y.toNatClampNeg = nI 1 then (.inr 13, S) else
    (rI (nI (cntN (paF S (72 + 15 * j) y.toNatClampNeg) (trE S (72 + 15 * j) (tn j - y.toNatClampNeg) y.toNatClampNeg 1 - y.toNatClampNeg))), haClr (haBr3 (haBr2 (haBr1 S j y.toNatClampNeg) oa D j (tn j) y.toNatClampNeg) j (tn j) y.toNatClampNeg) j (tn j))
theorem paF_lt {S : xS} {b f n N : Nat} (hN : N ≤ 6) (hmk : ∀ i, i < n → sA S (b + 1) i = nI 2 → ∃ x, x < N ∧ sA S (b + 6) i = nI x) {q x : Nat} (hq : f + q < n) (h : paF S b f q = some x) : x < N := by
  unfold paF at h
  split at h
  · rename_i h2
    obtain ⟨y, hy, e⟩ := hmk (f + q) hq h2
    rw [e, nI_clamp (by omega)] at h
    cases h; exact hy
  · cases h
theorem trE_c {S Z : xS} {b : Nat} (h : sA Z (b + 1) = sA S (b + 1)) : ∀ k i p, trE Z b k i p = trE S b k i p
  | 0, _, _ => rfl
  | k + 1, i, p => by
    have e : trCut Z b i = trCut S b i := by unfold trCut; rw [h]
    show (if p = 0 then i else trE Z b k (i + 1) (if trCut Z b i = true then p + 1 else p - 1)) = _
    rw [e, trE_c h k]
    rfl
set_option maxRecDepth 100000 in
set_option maxHeartbeats 1000000 in
theorem c_Ha_cancelT {G : xG} {B d : Nat} {S : xS} (hG : xOkG G) {N R : Nat} {oa : Nat → Nat} {D : Nat → Nat → Int32} {rk g tn fl : Nat → Nat} (hI : haI S B N R oa D rk g tn fl) (hrm : xRm G B S) {x : Int32}  (hf : fstN (idB S x) 8 = none) : EX G m_Ha_cancel (d + 5) 0 [(0, .ref (B + 0)), (1, .int x)] [] (mk G B S) (xDo G B (haCancel S oa D tn x)) := by
  obtain ⟨hsl, ⟨hN, hN6⟩, ho, hinj, hrkd, ⟨hR, hR10⟩, hrk, hgi, htn, hfl, hgm, hmk, ⟨ln, hln, hly⟩⟩ := id hI
  refine x_aload_n d_Ha_cancel_0 rfl ?_
  refine x_iload_n d_Ha_cancel_1 rfl ?_
  refine w_callT (As := [_]) d_Ha_cancel_2 k_Ha_154 k_hall rfl rfl rfl (c_Ha_findPlannedT hG hsl hrm hf) rfl ?_
  exact xDo.thr (by simp only [haCancel, hf])
set_option maxRecDepth 100000 in
set_option maxHeartbeats 1000000 in
theorem c_Ha_cancelU {G : xG} {B d : Nat} {S : xS} (hG : xOkG G) {N R : Nat} {oa : Nat → Nat} {D : Nat → Nat → Int32} {rk g tn fl : Nat → Nat} (hI : haI S B N R oa D rk g tn fl) (hrm : xRm G B S) {x : Int32}  {j : Nat} (hf : fstN (idB S x) 8 = some j) (h0 : tn j = 0) : EX G m_Ha_cancel (d + 5) 0 [(0, .ref (B + 0)), (1, .int x)] [] (mk G B S) (xDo G B (haCancel S oa D tn x)) := by
  obtain ⟨hsl, ⟨hN, hN6⟩, ho, hinj, hrkd, ⟨hR, hR10⟩, hrk, hgi, htn, hfl, hgm, hmk, ⟨ln, hln, hly⟩⟩ := id hI
  refine x_aload_n d_Ha_cancel_0 rfl ?_
  refine x_iload_n d_Ha_cancel_1 rfl ?_
  refine w_callT (As := [_]) d_Ha_cancel_2 k_Ha_154 k_hall rfl rfl rfl (c_Ha_findPlannedU hG hsl hrm hf (htn _ (fsL hf)).1 (htn _ (fsL hf)).2 h0) rfl ?_
  exact xDo.thr (by simp only [haCancel, hf, h0, if_true])
set_option maxRecDepth 100000 in
set_option maxHeartbeats 1000000 in
theorem c_Ha_cancel1 {G : xG} {B d : Nat} {S : xS} (hG : xOkG G) {N R : Nat} {oa : Nat → Nat} {D : Nat → Nat → Int32} {rk g tn fl : Nat → Nat} (hI : haI S B N R oa D rk g tn fl) (hrm : xRm G B S) {x : Int32} {j : Nat} (hf : fstN (idB S x) 8 = some j) (h0 : 0 < tn j) : EX G m_Ha_cancel (d + 5) 0 [(0, .ref (B + 0)), (1, .int x)] [] (mk G B S) (xDo G B (haCancel S oa D tn x)) := by
  obtain ⟨hsl, ⟨hN, hN6⟩, ho, hinj, hrkd, ⟨hR, hR10⟩, hrk, hgi, htn, hfl, hgm, hmk, ⟨ln, hln, hly⟩⟩ := id hI
  have hj := fsL hf
  have hb := (htn j hj).2
  have h1 : ¬ tn j = 0 := by omega
  have hE := trE_ge (S := S) (b := 72 + 15 * j) (tn j - 0) 0 1
  refine x_aload_n d_Ha_cancel_0 rfl ?_
  refine x_iload_n d_Ha_cancel_1 rfl ?_
  refine w_callV (As := [_]) d_Ha_cancel_2 k_Ha_154 k_hall rfl rfl rfl (c_Ha_findPlanned hG hsl hf (htn _ (fsL hf)).1 (htn _ (fsL hf)).2 h0) ?_
  refine y_getf d_Ha_cancel_5 gf_Ha_104 (k_sheet (fsL hf)) rfl ?_
  refine s_astore_n (lv' := [(0, _), (1, _), (2, _)]) d_Ha_cancel_8 (by decide) rfl ?_
  refine x_aload_n d_Ha_cancel_9 rfl ?_
  refine y_getf d_Ha_cancel_10 gf_Ha_175 (k_tree (trS (fsL hf))) rfl ?_
  refine x_iconst (v := nI 0) d_Ha_cancel_13 (by decide +kernel) ?_
  refine y_iald hG d_Ha_cancel_14 (k_trA8 (trS (fsL hf))) 0 rfl (by omega) ?_
  refine x_iconst (v := nI 1) d_Ha_cancel_15 (by decide +kernel) ?_
  refine x_icmp_eq 27 d_Ha_cancel_16 rfl (fun hc16 => ?_) (fun hc16 => ?_)
  · skip
    skip
    refine x_aload_n d_Ha_cancel_27 rfl ?_
    refine x_aload_n d_Ha_cancel_28 rfl ?_
    refine x_iconst (v := nI 0) d_Ha_cancel_29 (by decide +kernel) ?_
    refine w_callV (As := [_, _]) d_Ha_cancel_30 k_Ha_196 k_hall rfl rfl rfl (c_Ha_reopenPanes (f := 0) hG (trS hj) (htn j hj).1 hb (Nat.zero_le _) hN hN6 ho hinj (fun q hq => hmk j q hj hq)) ?_
    refine s_istore_n (lv' := [(0, _), (1, _), (2, _), (3, _)]) d_Ha_cancel_33 (by decide) rfl ?_
    refine x_aload_n d_Ha_cancel_34 rfl ?_
    refine w_callV (As := []) d_Ha_cancel_35 k_Ha_204 (k_tree (trS (fsL hf))) rfl rfl rfl (c_Tr_clear hG (trS hj)) ?_
    refine x_iload_n d_Ha_cancel_38 rfl ?_
    refine x_ireturn d_Ha_cancel_39 rfl rfl ?_
    exact xDo.ret (by simp only [haCancel, hf, h1, hc16, if_false, not_true_eq_false])
  · skip
    skip
    refine y_throw hG d_Ha_cancel_19 d_Ha_cancel_22 d_Ha_cancel_23 d_Ha_cancel_26 (te_Ise nw_Ha_64 k_Ha_66) rfl hrm rfl ?_
    exact xDo.thr (by simp only [haCancel, hf, h1, hc16, if_false, not_false_eq_true, if_true])
theorem c_Ha_cancel {G : xG} {B d : Nat} {S : xS} (hG : xOkG G) {N R : Nat} {oa : Nat → Nat} {D : Nat → Nat → Int32} {rk g tn fl : Nat → Nat} (hI : haI S B N R oa D rk g tn fl) (hrm : xRm G B S) {x : Int32} : EX G m_Ha_cancel (d + 5) 0 [(0, .ref (B + 0)), (1, .int x)] [] (mk G B S) (xDo G B (haCancel S oa D tn x)) := by
  rcases haCases S x tn with hf | ⟨j, hf, h0⟩ | ⟨j, hf, h0⟩
  · exact c_Ha_cancelT hG hI hrm hf
  · exact c_Ha_cancelU hG hI hrm hf h0
  · exact c_Ha_cancel1 hG hI hrm hf h0
set_option maxRecDepth 100000 in
set_option maxHeartbeats 1000000 in
theorem c_Ha_brokeT {G : xG} {B d : Nat} {S : xS} (hG : xOkG G) {N R : Nat} {oa : Nat → Nat} {D : Nat → Nat → Int32} {rk g tn fl : Nat → Nat} (hI : haI S B N R oa D rk g tn fl) (hrm : xRm G B S) {x : Int32} {y : Int32} (hf : fstN (idB S x) 8 = none) : EX G m_Ha_broke (d + 5) 0 [(0, .ref (B + 0)), (1, .int x), (2, .int y)] [] (mk G B S) (xDo G B (haBroke S oa D tn x y)) := by
  obtain ⟨hsl, ⟨hN, hN6⟩, ho, hinj, hrkd, ⟨hR, hR10⟩, hrk, hgi, htn, hfl, hgm, hmk, ⟨ln, hln, hly⟩⟩ := id hI
  refine x_aload_n d_Ha_broke_0 rfl ?_
  refine x_iload_n d_Ha_broke_1 rfl ?_
  refine w_callT (As := [_]) d_Ha_broke_2 k_Ha_154 k_hall rfl rfl rfl (c_Ha_findPlannedT hG hsl hrm hf) rfl ?_
  exact xDo.thr (by simp only [haBroke, hf])
set_option maxRecDepth 100000 in
set_option maxHeartbeats 1000000 in
theorem c_Ha_brokeU {G : xG} {B d : Nat} {S : xS} (hG : xOkG G) {N R : Nat} {oa : Nat → Nat} {D : Nat → Nat → Int32} {rk g tn fl : Nat → Nat} (hI : haI S B N R oa D rk g tn fl) (hrm : xRm G B S) {x : Int32} {y : Int32} {j : Nat} (hf : fstN (idB S x) 8 = some j) (h0 : tn j = 0) : EX G m_Ha_broke (d + 5) 0 [(0, .ref (B + 0)), (1, .int x), (2, .int y)] [] (mk G B S) (xDo G B (haBroke S oa D tn x y)) := by
  obtain ⟨hsl, ⟨hN, hN6⟩, ho, hinj, hrkd, ⟨hR, hR10⟩, hrk, hgi, htn, hfl, hgm, hmk, ⟨ln, hln, hly⟩⟩ := id hI
  refine x_aload_n d_Ha_broke_0 rfl ?_
  refine x_iload_n d_Ha_broke_1 rfl ?_
  refine w_callT (As := [_]) d_Ha_broke_2 k_Ha_154 k_hall rfl rfl rfl (c_Ha_findPlannedU hG hsl hrm hf (htn _ (fsL hf)).1 (htn _ (fsL hf)).2 h0) rfl ?_
  exact xDo.thr (by simp only [haBroke, hf, h0, if_true])
set_option maxRecDepth 100000 in
set_option maxHeartbeats 1000000 in
theorem c_Ha_brokeO {G : xG} {B d : Nat} {S : xS} (hG : xOkG G) {N R : Nat} {oa : Nat → Nat} {D : Nat → Nat → Int32} {rk g tn fl : Nat → Nat} (hI : haI S B N R oa D rk g tn fl) (hrm : xRm G B S) {x y : Int32} {j : Nat} (hf : fstN (idB S x) 8 = some j) (h0 : 0 < tn j) (hz : inB (tn j) y = false) : EX G m_Ha_broke (d + 5) 0 [(0, .ref (B + 0)), (1, .int x), (2, .int y)] [] (mk G B S) (xDo G B (haBroke S oa D tn x y)) := by
  obtain ⟨hsl, ⟨hN, hN6⟩, ho, hinj, hrkd, ⟨hR, hR10⟩, hrk, hgi, htn, hfl, hgm, hmk, ⟨ln, hln, hly⟩⟩ := id hI
  have hj := fsL hf
  have hb := (htn j hj).2
  have h1 : ¬ tn j = 0 := by omega
  refine x_aload_n d_Ha_broke_0 rfl ?_
  refine x_iload_n d_Ha_broke_1 rfl ?_
  refine w_callV (As := [_]) d_Ha_broke_2 k_Ha_154 k_hall rfl rfl rfl (c_Ha_findPlanned hG hsl hf (htn _ (fsL hf)).1 (htn _ (fsL hf)).2 h0) ?_
  refine s_astore_n (lv' := [(0, _), (1, _), (2, _), (3, _)]) d_Ha_broke_5 (by decide) rfl ?_
  refine x_aload_n d_Ha_broke_6 rfl ?_
  refine y_getf d_Ha_broke_7 gf_Ha_104 (k_sheet (fsL hf)) rfl ?_
  refine s_astore (lv' := [(0, _), (1, _), (2, _), (3, _), (4, _)]) d_Ha_broke_10 (by decide) rfl ?_
  refine x_aload d_Ha_broke_12 rfl ?_
  refine x_iload_n d_Ha_broke_14 rfl ?_
  refine w_callV (As := [_]) d_Ha_broke_15 k_Ha_157 (k_tree (trS (fsL hf))) rfl rfl rfl (c_Tr_has hG (trS hj) (htn j hj).1 hb) ?_
  rw [show (decide (0 ≤ y) && decide (y < nI (tn j))) = false from hz]
  refine z_bif_ne 29 d_Ha_broke_18 rfl (fun q => absurd q (by decide)) (fun hc18 => ?_)
  refine y_throw hG d_Ha_broke_21 d_Ha_broke_24 d_Ha_broke_25 d_Ha_broke_28 (te_Ioo nw_Ha_160 k_Ha_162) rfl hrm rfl ?_
  exact xDo.thr (by simp only [haBroke, hf, h1, hz, if_false, if_true])
set_option maxRecDepth 100000 in
set_option maxHeartbeats 1000000 in
theorem c_Ha_broke1 {G : xG} {B d : Nat} {S : xS} (hG : xOkG G) {N R : Nat} {oa : Nat → Nat} {D : Nat → Nat → Int32} {rk g tn fl : Nat → Nat} (hI : haI S B N R oa D rk g tn fl) (hrm : xRm G B S) {x : Int32} {j i : Nat} (hf : fstN (idB S x) 8 = some j) (h0 : 0 < tn j) (hi : i < tn j) : EX G m_Ha_broke (d + 5) 0 [(0, .ref (B + 0)), (1, .int x), (2, .int (nI i))] [] (mk G B S) (xDo G B (haBroke S oa D tn x (nI i))) := by
  obtain ⟨hsl, ⟨hN, hN6⟩, ho, hinj, hrkd, ⟨hR, hR10⟩, hrk, hgi, htn, hfl, hgm, hmk, ⟨ln, hln, hly⟩⟩ := id hI
  have hj := fsL hf
  have hb := (htn j hj).2
  have h1 : ¬ tn j = 0 := by omega
  have hE := trE_ge (S := S) (b := 72 + 15 * j) (tn j - i) i 1
  have hz : inB (tn j) (nI i) = true := by rw [inB_nI (by omega) (by omega)]; exact decide_eq_true hi
  have hcl := nI_clamp (n := i) (by omega)
  refine x_aload_n d_Ha_broke_0 rfl ?_
  refine x_iload_n d_Ha_broke_1 rfl ?_
  refine w_callV (As := [_]) d_Ha_broke_2 k_Ha_154 k_hall rfl rfl rfl (c_Ha_findPlanned hG hsl hf (htn _ (fsL hf)).1 (htn _ (fsL hf)).2 h0) ?_
  refine s_astore_n (lv' := [(0, _), (1, _), (2, _), (3, _)]) d_Ha_broke_5 (by decide) rfl ?_
  refine x_aload_n d_Ha_broke_6 rfl ?_
  refine y_getf d_Ha_broke_7 gf_Ha_104 (k_sheet (fsL hf)) rfl ?_
  refine s_astore (lv' := [(0, _), (1, _), (2, _), (3, _), (4, _)]) d_Ha_broke_10 (by decide) rfl ?_
  refine x_aload d_Ha_broke_12 rfl ?_
  refine x_iload_n d_Ha_broke_14 rfl ?_
  refine w_callV (As := [_]) d_Ha_broke_15 k_Ha_157 (k_tree (trS (fsL hf))) rfl rfl rfl (c_Tr_has hG (trS hj) (htn j hj).1 hb) ?_
  rw [show (decide (0 ≤ nI i) && decide (nI i < nI (tn j))) = true from hz]
  refine z_bif_ne 29 d_Ha_broke_18 rfl (fun hc18 => ?_) (fun q => absurd q (by decide))
  refine x_aload d_Ha_broke_29 rfl ?_
  refine y_getf d_Ha_broke_31 gf_Ha_175 (k_tree (trS (fsL hf))) rfl ?_
  refine x_iload_n d_Ha_broke_34 rfl ?_
  refine y_iald hG d_Ha_broke_35 (k_trA8 (trS (fsL hf))) _ rfl (by omega) ?_
  refine x_iconst (v := nI 1) d_Ha_broke_36 (by decide +kernel) ?_
  refine x_icmp_eq 48 d_Ha_broke_37 rfl (fun hc37 => ?_) (fun hc37 => ?_)
  · skip
    skip
    refine x_aload_n d_Ha_broke_48 rfl ?_
    refine x_dup d_Ha_broke_49 rfl ?_
    refine y_getf d_Ha_broke_50 gf_Ha_190 k_hall rfl ?_
    refine x_aload d_Ha_broke_53 rfl ?_
    refine x_iload_n d_Ha_broke_55 rfl ?_
    refine w_callV (As := [_]) d_Ha_broke_56 k_Ha_193 (k_tree (trS (fsL hf))) rfl rfl rfl (c_Tr_surface hG (trS hj) (by omega)) ?_
    refine x_ladd d_Ha_broke_59 ?_
    refine y_putl d_Ha_broke_60 pf_Ha_190 k_hall (xBle rfl) rfl ?_
    refine x_aload_n d_Ha_broke_63 rfl ?_
    refine x_aload d_Ha_broke_64 rfl ?_
    refine x_iload_n d_Ha_broke_66 rfl ?_
    refine w_callV (As := [_, _]) d_Ha_broke_67 k_Ha_196 k_hall rfl rfl rfl (c_Ha_reopenPanes (S := (haBr1 S j i)) (f := i) hG (trS hj) (htn j hj).1 hb (by omega) hN hN6 ho hinj (fun q hq => hmk j q hj hq)) ?_
    have e2 := (haI_seq (haI_J (v := sJ S 0 10 + trSurf S (72 + 15 * j) i) (o := 0) (k := 10) hI) (f := paF (haBr1 S j i) (72 + 15 * j) i) 4 3 (trE (haBr1 S j i) (72 + 15 * j) (tn j - i) i 1 - i) (fun q x hq h => paF_lt (n := tn j) hN6 (fun q hq => hmk j q hj hq) (by rw [trE_c (S := S) (Z := haBr1 S j i) rfl] at hq; omega) h))
    have e3 : sF (haBr2 (haBr1 S j i) oa D j (tn j) i) (72 + 15 * j) 8 = nI (tn j) := (e2.2.2.2.2.2.2.2.2.1 j hj).1
    refine s_istore (lv' := [(0, _), (1, _), (2, _), (3, _), (4, _), (5, _)]) d_Ha_broke_70 (by decide) rfl ?_
    refine x_aload d_Ha_broke_72 rfl ?_
    refine x_iload_n d_Ha_broke_74 rfl ?_
    refine w_callV (As := [_]) d_Ha_broke_75 k_Ha_200 (k_tree (trS (fsL hf))) rfl rfl rfl (c_Tr_breakFrom (S := (haBr2 (haBr1 S j i) oa D j (tn j) i)) hG (trS hj) e3 hb (by omega)) ?_
    refine x_aload_n d_Ha_broke_78 rfl ?_
    refine x_aload_n d_Ha_broke_79 rfl ?_
    refine w_callV (As := [_]) d_Ha_broke_80 k_Ha_186 k_hall rfl rfl rfl (c_Ha_clearAwayIfEmpty (S := (haBr3 (haBr2 (haBr1 S j i) oa D j (tn j) i) j (tn j) i)) hG hj (by unfold haBr3; rw [trBrk_F]; exact e3) hb) ?_
    refine x_iload d_Ha_broke_83 rfl ?_
    refine x_ireturn d_Ha_broke_85 rfl rfl ?_
    exact xDo.ret (by simp only [haBroke, hf, h1, hz, hc37, hcl, if_false, not_true_eq_false, Bool.true_eq_false]; rw [trE_c (S := S) (Z := haBr1 S j i) rfl]; rfl)
  · skip
    skip
    refine y_throw hG d_Ha_broke_40 d_Ha_broke_43 d_Ha_broke_44 d_Ha_broke_47 (te_Ise nw_Ha_64 k_Ha_66) rfl hrm rfl ?_
    exact xDo.thr (by simp only [haBroke, hf, h1, hz, hc37, hcl, if_false, if_true, not_false_eq_true, Bool.true_eq_false])
theorem c_Ha_broke {G : xG} {B d : Nat} {S : xS} (hG : xOkG G) {N R : Nat} {oa : Nat → Nat} {D : Nat → Nat → Int32} {rk g tn fl : Nat → Nat} (hI : haI S B N R oa D rk g tn fl) (hrm : xRm G B S) {x y : Int32} : EX G m_Ha_broke (d + 5) 0 [(0, .ref (B + 0)), (1, .int x), (2, .int y)] [] (mk G B S) (xDo G B (haBroke S oa D tn x y)) := by
  rcases haCases S x tn with hf | ⟨j, hf, h0⟩ | ⟨j, hf, h0⟩
  · exact c_Ha_brokeT hG hI hrm hf
  · exact c_Ha_brokeU hG hI hrm hf h0
  · have hb := (hI.2.2.2.2.2.2.2.2.1 j (fsL hf)).2
    rcases inB_cases (N := tn j) (by omega) y with ⟨i, hi, rfl, hz⟩ | hz
    · exact c_Ha_broke1 hG hI hrm hf h0 hi
    · exact c_Ha_brokeO hG hI hrm hf h0 hz
/-! use -/
def haUse (S : xS) (B R : Nat) (g : Nat → Nat) (k : Int32) : xO × xS := if inB R k = false then (.inr 11, S) else match fstN (fun j => !thB S j) 8 with
  | none => (.inr 13, S)
  | some j =>
    let S1 := (glPart S (67 + 15 * j) (g k.toNatClampNeg) (nI 0) (nI 0) (sF S (g k.toNatClampNeg) 4) (sF S (g k.toNatClampNeg) 5) (sF S (g k.toNatClampNeg) 6).toNatClampNeg).1
    (rI (sF S 0 6), haIn (rkRem S1 B g k.toNatClampNeg R) j)
theorem rkRem_F {S : xS} {B k n o : Nat} {g : Nat → Nat} (h5 : o ≠ 5) : sF (rkRem S B g k n) o = sF S o := by
  unfold rkRem
  show sF (uF (rkShift S B g k (n - 1 - k)) 5 1 (nI (n - 1))) o = _
  rw [sF_uFn _ _ _ h5, rkShift_F]
set_option maxRecDepth 100000 in
set_option maxHeartbeats 1000000 in
theorem c_Ha_useT {G : xG} {B d : Nat} {S : xS} (hG : xOkG G) {N R : Nat} {oa : Nat → Nat} {D : Nat → Nat → Int32} {rk g tn fl : Nat → Nat} (hI : haI S B N R oa D rk g tn fl) (hrm : xRm G B S) {k : Int32} (hz : inB R k = false) : EX G m_Ha_use (d + 5) 0 [(0, .ref (B + 0)), (1, .int k)] [] (mk G B S) (xDo G B (haUse S B R g k)) := by
  obtain ⟨hsl, ⟨hN, hN6⟩, ho, hinj, hrkd, ⟨hR, hR10⟩, hrk, hgi, htn, hfl, hgm, hmk, ⟨ln, hln, hly⟩⟩ := id hI
  refine x_aload_n d_Ha_use_0 rfl ?_
  refine x_iload_n d_Ha_use_1 rfl ?_
  refine w_callT (As := [_]) d_Ha_use_2 k_Ha_207 k_hall rfl rfl rfl (c_Ha_findOffcutT hG hR hR10 hrk hrm hz) rfl ?_
  exact xDo.thr (by simp only [haUse, hz, if_true])
set_option maxRecDepth 100000 in
set_option maxHeartbeats 1000000 in
theorem c_Ha_useN {G : xG} {B d : Nat} {S : xS} (hG : xOkG G) {N R : Nat} {oa : Nat → Nat} {D : Nat → Nat → Int32} {rk g tn fl : Nat → Nat} (hI : haI S B N R oa D rk g tn fl) (hrm : xRm G B S) {k : Nat} (hk : k < R) (hf : fstN (fun j => !thB S j) 8 = none) : EX G m_Ha_use (d + 5) 0 [(0, .ref (B + 0)), (1, .int (nI k))] [] (mk G B S) (xDo G B (haUse S B R g (nI k))) := by
  obtain ⟨hsl, ⟨hN, hN6⟩, ho, hinj, hrkd, ⟨hR, hR10⟩, hrk, hgi, htn, hfl, hgm, hmk, ⟨ln, hln, hly⟩⟩ := id hI
  have hz : inB R (nI k) = true := by rw [inB_nI (by omega) (by omega)]; exact decide_eq_true hk
  have hcl := nI_clamp (n := k) (by omega)
  refine x_aload_n d_Ha_use_0 rfl ?_
  refine x_iload_n d_Ha_use_1 rfl ?_
  refine w_callV (As := [_]) d_Ha_use_2 k_Ha_207 k_hall rfl rfl rfl (c_Ha_findOffcut hG hR hR10 hrk hk) ?_
  refine s_astore_n (lv' := [(0, _), (1, _), (2, _)]) d_Ha_use_5 (by decide) rfl ?_
  refine x_aload_n d_Ha_use_6 rfl ?_
  refine w_callV (As := []) d_Ha_use_7 k_Ha_60 k_hall rfl rfl rfl (c_Ha_findFreeSlotN hG hsl hf) ?_
  refine s_astore_nN (lv' := [(0, _), (1, _), (2, _), (3, _)]) d_Ha_use_10 (by decide) rfl ?_
  refine x_aload_nN d_Ha_use_11 rfl ?_
  refine x_ifnonnullN d_Ha_use_12 ?_
  refine y_throw hG d_Ha_use_15 d_Ha_use_18 d_Ha_use_19 d_Ha_use_22 (te_Ise nw_Ha_64 k_Ha_66) rfl hrm rfl ?_
  exact xDo.thr (by simp only [haUse, hz, hf, if_false, Bool.true_eq_false])
set_option maxRecDepth 100000 in
set_option maxHeartbeats 1000000 in
theorem c_Ha_use1 {G : xG} {B d : Nat} {S : xS} (hG : xOkG G) {N R : Nat} {oa : Nat → Nat} {D : Nat → Nat → Int32} {rk g tn fl : Nat → Nat} (hI : haI S B N R oa D rk g tn fl) (hrm : xRm G B S) {k j : Nat} (hk : k < R) (hf : fstN (fun j => !thB S j) 8 = some j) : EX G m_Ha_use (d + 5) 0 [(0, .ref (B + 0)), (1, .int (nI k))] [] (mk G B S) (xDo G B (haUse S B R g (nI k))) := by
  obtain ⟨hsl, ⟨hN, hN6⟩, ho, hinj, hrkd, ⟨hR, hR10⟩, hrk, hgi, htn, hfl, hgm, hmk, ⟨ln, hln, hly⟩⟩ := id hI
  have hz : inB R (nI k) = true := by rw [inB_nI (by omega) (by omega)]; exact decide_eq_true hk
  have hcl := nI_clamp (n := k) (by omega)
  obtain ⟨m, hm6, em⟩ := hgm k (by omega)
  have hj := fsL hf
  have hK := (glPart_ok (S := S) (b := 67 + 15 * j) (a := g k) (x := nI 0) (y := nI 0) (w := sF S (g k) 4) (h := sF S (g k) 5) m).1
  refine x_aload_n d_Ha_use_0 rfl ?_
  refine x_iload_n d_Ha_use_1 rfl ?_
  refine w_callV (As := [_]) d_Ha_use_2 k_Ha_207 k_hall rfl rfl rfl (c_Ha_findOffcut hG hR hR10 hrk hk) ?_
  refine s_astore_n (lv' := [(0, _), (1, _), (2, _)]) d_Ha_use_5 (by decide) rfl ?_
  refine x_aload_n d_Ha_use_6 rfl ?_
  refine w_callV (As := []) d_Ha_use_7 k_Ha_60 k_hall rfl rfl rfl (c_Ha_findFreeSlot hG hsl hf) ?_
  refine s_astore_n (lv' := [(0, _), (1, _), (2, _), (3, _)]) d_Ha_use_10 (by decide) rfl ?_
  refine x_aload_n d_Ha_use_11 rfl ?_
  refine x_ifnonnull 23 d_Ha_use_12 rfl ?_
  refine x_aload_n d_Ha_use_23 rfl ?_
  refine y_getf d_Ha_use_24 gf_Ha_67 (k_sheet (fsL hf)) rfl ?_
  refine x_aload_n d_Ha_use_27 rfl ?_
  refine x_iconst (v := nI 0) d_Ha_use_28 (by decide +kernel) ?_
  refine x_iconst (v := nI 0) d_Ha_use_29 (by decide +kernel) ?_
  refine x_aload_n d_Ha_use_30 rfl ?_
  refine y_getf d_Ha_use_31 gf_Ha_93 (k_glass (hrk k (by omega)).2) rfl ?_
  refine x_aload_n d_Ha_use_34 rfl ?_
  refine y_getf d_Ha_use_35 gf_Ha_101 (k_glass (hrk k (by omega)).2) rfl ?_
  refine w_callV (As := [_, _, _, _, _]) d_Ha_use_38 k_Ha_211 (k_glass (glS (fsL hf))) rfl rfl rfl (c_Gl_becomePart hG (glS hj) (hrk k (by omega)).2 (Or.inl (by have := hgi k (by omega); omega)) em hm6) ?_
  refine x_aload_n d_Ha_use_41 rfl ?_
  refine y_getf d_Ha_use_42 gf_Ha_25 k_hall rfl ?_
  refine x_iload_n d_Ha_use_45 rfl ?_
  refine w_callV (As := [_]) d_Ha_use_46 k_Ha_215 k_rack rfl rfl rfl (c_Rk_remove (S := (glPart S (67 + 15 * j) (g k) (nI 0) (nI 0) (sF S (g k) 4) (sF S (g k) 5) m).1) hG (by rw [(hK.1 5 (by omega)).1]; exact hR) hR10 (g := g) (fun q hq => ⟨by rw [(hK.1 6 (by omega)).2.2.2]; exact (hrk q hq).1, (hrk q hq).2⟩) hk) ?_
  refine x_aload_n d_Ha_use_49 rfl ?_
  refine x_aload_n d_Ha_use_50 rfl ?_
  refine w_callV (As := [_]) d_Ha_use_51 k_Ha_85 k_hall rfl rfl rfl (c_Ha_bringIn hG hj) ?_
  refine x_ireturn d_Ha_use_54 rfl rfl ?_
  exact xDo.ret (by simp only [haUse, hz, hf, hcl, em, nI_clamp (show m < 2 ^ 31 by omega), if_false, Bool.true_eq_false]; rw [rkRem_F (by decide), (hK.1 0 (by omega)).1])
theorem c_Ha_use {G : xG} {B d : Nat} {S : xS} (hG : xOkG G) {N R : Nat} {oa : Nat → Nat} {D : Nat → Nat → Int32} {rk g tn fl : Nat → Nat} (hI : haI S B N R oa D rk g tn fl) (hrm : xRm G B S) {k : Int32} : EX G m_Ha_use (d + 5) 0 [(0, .ref (B + 0)), (1, .int k)] [] (mk G B S) (xDo G B (haUse S B R g k)) := by
  have hb := hI.2.2.2.2.2.1.2
  rcases inB_cases (N := R) (by omega) k with ⟨i, hi, rfl, hz⟩ | hz
  · rcases hf : fstN (fun j => !thB S j) 8 with _ | j
    · exact c_Ha_useN hG hI hrm hi hf
    · exact c_Ha_use1 hG hI hrm hi hf
  · exact c_Ha_useT hG hI hrm hz
