/-! the reference's score -/
def moArrR (S : xS) (n R : Nat) : Nat := if sA S 196 n = nI 2 then R else if sA S 196 n = nI 3 then (if nI 300 ≤ sA S 199 n ∧ nI 300 ≤ sA S 200 n ∧ R < 10 then R + 1 else R) else R
theorem moArr_A {S : xS} {s n R fl q : Nat} (h : q ≠ 204) (h2 : q < 209 ∨ 215 ≤ q) : sA (moArr S s n R fl) q = sA S q := by
  unfold moArr
  split
  · show sA (uA (uA (moA1 S n) 209 _ _) 210 _ _) q = _
    rw [sA_uAn _ _ _ (by omega), sA_uAn _ _ _ (by omega)]
    exact moA1_A h
  · split
    · split
      · show sA (moStL (moA1 S n) R n s fl).1 q = _
        rw [((moStL_K fl).1.1 q (by omega)).2.1]
        exact moA1_A h
      · exact moA1_A h
    · exact moA1_A h
theorem moArr_R {S : xS} {s n R fl : Nat} (hR : sF S 186 27 = nI R) : sF (moArr S s n R fl) 186 27 = nI (moArrR S n R) := by
  unfold moArr moArrR
  split
  · exact hR
  · split
    · split
      · unfold moStore; rw [sF_uF, va_up_self]
      · exact hR
    · exact hR
theorem moArrR_le {S : xS} {n R : Nat} (h : R ≤ 10) : moArrR S n R ≤ 10 := by
  unfold moArrR
  split
  · exact h
  · split
    · split
      · rename_i q; omega
      · exact h
    · exact h
def moS1 (S : xS) (s : Nat) : xS := uA (moThr S 0) 192 s (nI 1)
def moS2 (S : xS) (s n : Nat) : xS := uA (moS1 S s) 204 n (nI 2)
theorem moS1_A {S : xS} {s q : Nat} (h : q ≠ 192) : sA (moS1 S s) q = sA S q := sA_uAn _ _ _ h
theorem moS2_A {S : xS} {s n q : Nat} (h : q ≠ 192) (h2 : q ≠ 204) : sA (moS2 S s n) q = sA S q := (sA_uAn _ _ _ h2).trans (moS1_A h)
def moSc (S : xS) (s i R fl : Nat) : xS := if sA S 196 (160 * s + i) = nI 2 then moArr (moS1 S s) s (160 * s + i) R fl else
  moArr (moArr (moS2 S s (160 * s + i)) s (160 * s + (sA S 202 (160 * s + i)).toNatClampNeg) R fl) s (160 * s + (sA S 203 (160 * s + i)).toNatClampNeg) (moArrR (moS2 S s (160 * s + i)) (160 * s + (sA S 202 (160 * s + i)).toNatClampNeg) R) fl
def moScore (S : xS) (nc fl : Nat → Nat) (R : Nat) (x : Int32) : Int32 × xS := match moFind S x 8 with
  | none => (0, moThr S 1)
  | some s => if sA S 191 s = 0 then (0, moThr S 2) else match fstN (fun i => decide (sA S 204 (160 * s + i) = nI 1)) (nc s) with
    | none => (0, S)
    | some i => (nI i, uA (moSc S s i R (fl s)) 187 s (bI (moLv (moSc S s i R (fl s)) s (nc s))))
set_option maxRecDepth 100000 in
set_option maxHeartbeats 1000000 in
theorem c_Mo_scoreT {G : xG} {B d : Nat} {S : xS} (hG : xOkG G) {x : Int32} {nc fl : Nat → Nat} {R : Nat} (hf : moFind S x 8 = none) : EX G m_Mo_score (d + 4) 0 [(0, .ref (B + 186)), (1, .int x)] [] (mk G B S) ((moRet G B (moScore S nc fl R x))) := by
  refine x_aload_n d_Mo_score_0 rfl ?_
  refine x_iload_n d_Mo_score_1 rfl ?_
  refine w_callV (As := [_]) d_Mo_score_2 k_Mo_166 k_model rfl rfl rfl (c_Mo_find hG) ?_
  rw [hf, show cI none = -1 from rfl]
  refine s_istore_n (lv' := [(0, _), (1, _), (2, _)]) d_Mo_score_5 (by decide) rfl ?_
  refine x_aload_n d_Mo_score_6 rfl ?_
  refine x_iload_n d_Mo_score_7 rfl ?_
  refine x_if_ge 15 d_Mo_score_8 rfl (fun q => absurd q (by decide +kernel)) (fun hc8 => ?_)
  refine x_iconst (v := nI 1) d_Mo_score_11 (by decide +kernel) ?_
  refine x_goto 29 d_Mo_score_12 rfl ?_
  refine y_puti d_Mo_score_29 pf_Mo_140 k_model (xBle rfl) rfl rfl rfl ?_
  refine x_aload_n d_Mo_score_32 rfl ?_
  refine y_getf (v := .int (nI 1)) d_Mo_score_33 gf_Mo_140 k_model (congrArg (fun q => some (Value.int q)) moThr_0) ?_
  refine z_if_le 41 d_Mo_score_36 rfl (by omega) (fun q => absurd q (by omega)) (fun hc36 => ?_)
  refine x_iconst (v := nI 0) d_Mo_score_39 (by decide +kernel) ?_
  refine x_ireturn d_Mo_score_40 rfl rfl ?_
  simp only [moScore, hf]
  exact ⟨rfl, rfl⟩
set_option maxRecDepth 100000 in
set_option maxHeartbeats 1000000 in
theorem c_Mo_scoreU {G : xG} {B d : Nat} {S : xS} (hG : xOkG G) {x : Int32} {nc fl : Nat → Nat} {R s : Nat} (hf : moFind S x 8 = some s) (hpl : sA S 191 s = 0) : EX G m_Mo_score (d + 4) 0 [(0, .ref (B + 186)), (1, .int x)] [] (mk G B S) ((moRet G B (moScore S nc fl R x))) := by
  have hs := moFind_lt hf
  refine x_aload_n d_Mo_score_0 rfl ?_
  refine x_iload_n d_Mo_score_1 rfl ?_
  refine w_callV (As := [_]) d_Mo_score_2 k_Mo_166 k_model rfl rfl rfl (c_Mo_find hG) ?_
  rw [hf, show cI (some s) = nI s from rfl]
  refine s_istore_n (lv' := [(0, _), (1, _), (2, _)]) d_Mo_score_5 (by decide) rfl ?_
  refine x_aload_n d_Mo_score_6 rfl ?_
  refine x_iload_n d_Mo_score_7 rfl ?_
  refine z_if_ge 15 d_Mo_score_8 rfl (by omega) ?_
  refine x_aload_n d_Mo_score_15 rfl ?_
  refine y_getf d_Mo_score_16 gf_Mo_23 k_model rfl ?_
  refine x_iload_n d_Mo_score_19 rfl ?_
  refine y_zald hG d_Mo_score_20 k_m_planned _ rfl (by omega) ?_
  refine x_if_eq 28 d_Mo_score_21 rfl (fun hc21 => ?_) (fun q => absurd q (Classical.not_not.mpr hpl))
  refine x_iconst (v := nI 2) d_Mo_score_28 (by decide +kernel) ?_
  refine y_puti d_Mo_score_29 pf_Mo_140 k_model (xBle rfl) rfl rfl rfl ?_
  refine x_aload_n d_Mo_score_32 rfl ?_
  refine y_getf (v := .int (nI 2)) d_Mo_score_33 gf_Mo_140 k_model (congrArg (fun q => some (Value.int q)) moThr_0) ?_
  refine z_if_le 41 d_Mo_score_36 rfl (by omega) (fun q => absurd q (by omega)) (fun hc36 => ?_)
  refine x_iconst (v := nI 0) d_Mo_score_39 (by decide +kernel) ?_
  refine x_ireturn d_Mo_score_40 rfl rfl ?_
  simp only [moScore, hf, hpl, if_true]
  exact ⟨rfl, rfl⟩
set_option maxRecDepth 100000 in
set_option maxHeartbeats 1000000 in
theorem c_Mo_score1 {G : xG} {B d : Nat} {S : xS} (hG : xOkG G) {x : Int32} {nc fl : Nat → Nat} {R s i : Nat} (hf : moFind S x 8 = some s) (hpl : ¬ sA S 191 s = 0) (hw : fstN (fun i => decide (sA S 204 (160 * s + i) = nI 1)) (nc s) = some i) (hR : sF S 186 27 = nI R) (hR10 : R ≤ 10) (hfc : ∀ s, s < 8 → sA S 193 s = nI (fl s) ∧ fl s ≤ 6) (hcnt : ∀ s, s < 8 → sA S 195 s = nI (nc s) ∧ nc s ≤ 160) {N : Nat} (hN6 : N ≤ 6) (hmk : ∀ s i, s < 8 → i < nc s → sA S 196 (160 * s + i) = nI 2 → ∃ x, x < N ∧ sA S 201 (160 * s + i) = nI x) (hff : ¬ sA S 196 (160 * s + i) = nI 2 → ∃ f1 f2, f1 < nc s ∧ f2 < nc s ∧ sA S 202 (160 * s + i) = nI f1 ∧ sA S 203 (160 * s + i) = nI f2) : EX G m_Mo_score (d + 4) 0 [(0, .ref (B + 186)), (1, .int x)] [] (mk G B S) ((moRet G B (moScore S nc fl R x))) := by
  have hs := moFind_lt hf
  have hcs := (hcnt s hs).2
  have hi := fsL hw
  have hwi : sA S 204 (160 * s + i) = nI 1 := of_decide_eq_true (fstN_spec hw).2.1
  refine x_aload_n d_Mo_score_0 rfl ?_
  refine x_iload_n d_Mo_score_1 rfl ?_
  refine w_callV (As := [_]) d_Mo_score_2 k_Mo_166 k_model rfl rfl rfl (c_Mo_find hG) ?_
  rw [hf, show cI (some s) = nI s from rfl]
  refine s_istore_n (lv' := [(0, _), (1, _), (2, _)]) d_Mo_score_5 (by decide) rfl ?_
  refine x_aload_n d_Mo_score_6 rfl ?_
  refine x_iload_n d_Mo_score_7 rfl ?_
  refine z_if_ge 15 d_Mo_score_8 rfl (by omega) ?_
  refine x_aload_n d_Mo_score_15 rfl ?_
  refine y_getf d_Mo_score_16 gf_Mo_23 k_model rfl ?_
  refine x_iload_n d_Mo_score_19 rfl ?_
  refine y_zald hG d_Mo_score_20 k_m_planned _ rfl (by omega) ?_
  refine x_if_eq 28 d_Mo_score_21 rfl (fun q => absurd q hpl) (fun hc21 => ?_)
  refine x_iconst (v := nI 0) d_Mo_score_24 (by decide +kernel) ?_
  refine x_goto 29 d_Mo_score_25 rfl ?_
  refine y_puti d_Mo_score_29 pf_Mo_140 k_model (xBle rfl) rfl rfl rfl ?_
  refine x_aload_n d_Mo_score_32 rfl ?_
  refine y_getf (v := .int (nI 0)) d_Mo_score_33 gf_Mo_140 k_model (congrArg (fun q => some (Value.int q)) moThr_0) ?_
  refine z_if_le 41 d_Mo_score_36 rfl (by omega) (fun hc36 => ?_) (fun q => absurd q (by omega))
  refine x_iconst (v := nI 0) d_Mo_score_41 (by decide +kernel) ?_
  refine s_istore_n (lv' := [(0, _), (1, _), (2, _), (3, _)]) d_Mo_score_42 (by decide) rfl ?_
  have L43 : ∀ k, k ≤ i →  EX G m_Mo_score (d + 4) 43 [(0, .ref (B + 186)), (1, .int x), (2, .int (nI s)), (3, .int (nI k))] [] (mk G B (moThr S 0)) (moRet G B (moScore S nc fl R x)) := by
    refine x_down (i) ?_ ?_
    · skip
      skip
      refine x_aload_n d_Mo_score_43 rfl ?_
      refine y_getf d_Mo_score_44 gf_Mo_62 k_model rfl ?_
      refine x_sipush (v := nI 160) d_Mo_score_47 (by decide +kernel) ?_
      refine x_iload_n d_Mo_score_50 rfl ?_
      refine x_imul d_Mo_score_51 ?_
      rw [nI_mul]
      refine x_iload_n d_Mo_score_52 rfl ?_
      refine x_iadd d_Mo_score_53 ?_
      rw [nI_add]
      refine y_iald hG d_Mo_score_54 k_m_states _ rfl (by omega) ?_
      refine x_iconst (v := nI 1) d_Mo_score_55 (by decide +kernel) ?_
      refine x_icmp_eq 65 d_Mo_score_56 rfl (fun hc56 => ?_) (fun q => absurd q (Classical.not_not.mpr hwi))
      refine x_sipush (v := nI 160) d_Mo_score_65 (by decide +kernel) ?_
      refine x_iload_n d_Mo_score_68 rfl ?_
      refine x_imul d_Mo_score_69 ?_
      rw [nI_mul]
      refine x_iload_n d_Mo_score_70 rfl ?_
      refine x_iadd d_Mo_score_71 ?_
      rw [nI_add]
      refine s_istore (lv' := [(0, _), (1, _), (2, _), (3, _), (4, _)]) d_Mo_score_72 (by decide) rfl ?_
      refine x_aload_n d_Mo_score_74 rfl ?_
      refine y_getf d_Mo_score_75 gf_Mo_26 k_model rfl ?_
      refine x_iload_n d_Mo_score_78 rfl ?_
      refine x_iconst (v := nI 1) d_Mo_score_79 (by decide +kernel) ?_
      refine y_zast hG d_Mo_score_80 k_m_scored _ rfl (by omega) (by decide +kernel) ?_
      show EX _ _ _ _ _ _ (mk G B (moS1 S s)) _
      refine x_aload_n d_Mo_score_81 rfl ?_
      refine y_getf d_Mo_score_82 gf_Mo_38 k_model rfl ?_
      refine x_iload d_Mo_score_85 rfl ?_
      refine y_iald hG d_Mo_score_87 k_m_kinds _ rfl (by omega) ?_
      rw [show sA (moS1 S s) 196 = sA S 196 from moS1_A (by decide)]
      refine x_iconst (v := nI 2) d_Mo_score_88 (by decide +kernel) ?_
      refine x_icmp_ne 102 d_Mo_score_89 rfl (fun hc89 => ?_) (fun hc89 => ?_)
      · skip
        skip
        refine x_aload_n d_Mo_score_102 rfl ?_
        refine y_getf d_Mo_score_103 gf_Mo_62 k_model rfl ?_
        refine x_iload d_Mo_score_106 rfl ?_
        refine x_iconst (v := nI 2) d_Mo_score_108 (by decide +kernel) ?_
        refine y_iast hG d_Mo_score_109 k_m_states _ rfl (by omega) ?_
        show EX _ _ _ _ _ _ (mk G B (moS2 S s (160 * s + i))) _
        obtain ⟨f1, f2, hf1, hf2, e1, e2⟩ := hff hc89
        refine x_aload_n d_Mo_score_110 rfl ?_
        refine x_iload_n d_Mo_score_111 rfl ?_
        refine x_sipush (v := nI 160) d_Mo_score_112 (by decide +kernel) ?_
        refine x_iload_n d_Mo_score_115 rfl ?_
        refine x_imul d_Mo_score_116 ?_
        rw [nI_mul]
        refine x_aload_n d_Mo_score_117 rfl ?_
        refine y_getf d_Mo_score_118 gf_Mo_56 k_model rfl ?_
        refine x_iload d_Mo_score_121 rfl ?_
        refine y_iald hG d_Mo_score_123 k_m_firsts _ rfl (by omega) ?_
        rw [show sA (moS2 S s (160 * s + i)) 202 = sA S 202 from moS2_A (by decide) (by decide), e1]
        refine x_iadd d_Mo_score_124 ?_
        rw [nI_add]
        refine w_callV (As := [_, _]) d_Mo_score_125 k_Mo_276 k_model rfl rfl rfl (c_Mo_arrive (S := moS2 S s (160 * s + i)) (n := 160 * s + f1) (R := R) hG hs (by omega) ((moThr_F (S := S) (v := nI 0) (k := 27) (by decide)).trans hR) hR10 (by rw [moS2_A (by decide) (by decide)]; exact (hfc s hs).1) (hfc s hs).2 hN6 (fun q => by rw [moS2_A (by decide) (by decide)] at q ⊢; exact hmk s f1 hs hf1 q)) ?_
        refine x_aload_n d_Mo_score_128 rfl ?_
        refine x_iload_n d_Mo_score_129 rfl ?_
        refine x_sipush (v := nI 160) d_Mo_score_130 (by decide +kernel) ?_
        refine x_iload_n d_Mo_score_133 rfl ?_
        refine x_imul d_Mo_score_134 ?_
        rw [nI_mul]
        refine x_aload_n d_Mo_score_135 rfl ?_
        refine y_getf d_Mo_score_136 gf_Mo_59 k_model rfl ?_
        refine x_iload d_Mo_score_139 rfl ?_
        refine y_iald hG d_Mo_score_141 k_m_seconds _ rfl (by omega) ?_
        rw [moArr_A (by decide) (by decide), show sA (moS2 S s (160 * s + i)) 203 = sA S 203 from moS2_A (by decide) (by decide), e2]
        refine x_iadd d_Mo_score_142 ?_
        rw [nI_add]
        refine w_callV (As := [_, _]) d_Mo_score_143 k_Mo_276 k_model rfl rfl rfl (c_Mo_arrive (S := moArr (moS2 S s (160 * s + i)) s (160 * s + f1) R (fl s)) (n := 160 * s + f2) (R := moArrR (moS2 S s (160 * s + i)) (160 * s + f1) R) hG hs (by omega) (moArr_R ((moThr_F (S := S) (v := nI 0) (k := 27) (by decide)).trans hR)) (moArrR_le hR10) (by rw [moArr_A (by decide) (by decide), moS2_A (by decide) (by decide)]; exact (hfc s hs).1) (hfc s hs).2 hN6 (fun q => by rw [moArr_A (by decide) (by decide), moS2_A (by decide) (by decide)] at q ⊢; exact hmk s f2 hs hf2 q)) ?_
        have hX : moArr (moArr (moS2 S s (160 * s + i)) s (160 * s + f1) R (fl s)) s (160 * s + f2) (moArrR (moS2 S s (160 * s + i)) (160 * s + f1) R) (fl s) = moSc S s i R (fl s) := by unfold moSc; rw [if_neg hc89, e1, e2, nI_clamp (by omega), nI_clamp (by omega)]
        rw [hX]
        have hXc : sA (moSc S s i R (fl s)) 195 s = nI (nc s) := by rw [← hX, moArr_A (by decide) (by decide), moArr_A (by decide) (by decide), moS2_A (by decide) (by decide)]; exact (hcnt s hs).1
        refine x_aload_n d_Mo_score_146 rfl ?_
        refine x_iload_n d_Mo_score_147 rfl ?_
        refine w_callV (As := [_]) d_Mo_score_148 k_Mo_279 k_model rfl rfl rfl (c_Mo_leave hG hs hXc (hcnt s hs).2) ?_
        refine x_iload_n d_Mo_score_151 rfl ?_
        refine x_ireturn d_Mo_score_152 rfl rfl ?_
        simp only [moScore, hf, hpl, hw, if_false]
        exact ⟨rfl, rfl⟩
      · skip
        skip
        refine x_aload_n d_Mo_score_92 rfl ?_
        refine x_iload_n d_Mo_score_93 rfl ?_
        refine x_iload d_Mo_score_94 rfl ?_
        refine w_callV (As := [_, _]) d_Mo_score_96 k_Mo_276 k_model rfl rfl rfl (c_Mo_arrive (S := moS1 S s) (n := (160 * s + i)) (R := R) hG hs (by omega) ((moThr_F (S := S) (v := nI 0) (k := 27) (by decide)).trans hR) hR10 (by rw [moS1_A (by decide)]; exact (hfc s hs).1) (hfc s hs).2 hN6 (fun q => by rw [moS1_A (by decide)] at q ⊢; exact hmk s i hs hi q)) ?_
        have hX : moArr (moS1 S s) s (160 * s + i) R (fl s) = moSc S s i R (fl s) := by unfold moSc; rw [if_pos hc89]
        rw [hX]
        have hXc : sA (moSc S s i R (fl s)) 195 s = nI (nc s) := by rw [← hX, moArr_A (by decide) (by decide), moS1_A (by decide)]; exact (hcnt s hs).1
        refine x_goto 146 d_Mo_score_99 rfl ?_
        refine x_aload_n d_Mo_score_146 rfl ?_
        refine x_iload_n d_Mo_score_147 rfl ?_
        refine w_callV (As := [_]) d_Mo_score_148 k_Mo_279 k_model rfl rfl rfl (c_Mo_leave hG hs hXc (hcnt s hs).2) ?_
        refine x_iload_n d_Mo_score_151 rfl ?_
        refine x_ireturn d_Mo_score_152 rfl rfl ?_
        simp only [moScore, hf, hpl, hw, if_false]
        exact ⟨rfl, rfl⟩
    · intro k hk ih
      refine x_aload_n d_Mo_score_43 rfl ?_
      refine y_getf d_Mo_score_44 gf_Mo_62 k_model rfl ?_
      refine x_sipush (v := nI 160) d_Mo_score_47 (by decide +kernel) ?_
      refine x_iload_n d_Mo_score_50 rfl ?_
      refine x_imul d_Mo_score_51 ?_
      rw [nI_mul]
      refine x_iload_n d_Mo_score_52 rfl ?_
      refine x_iadd d_Mo_score_53 ?_
      rw [nI_add]
      refine y_iald hG d_Mo_score_54 k_m_states _ rfl (by omega) ?_
      refine x_iconst (v := nI 1) d_Mo_score_55 (by decide +kernel) ?_
      refine x_icmp_eq 65 d_Mo_score_56 rfl (fun q => absurd q (of_decide_eq_false ((fstN_spec hw).2.2 k hk))) (fun hc56 => ?_)
      refine s_iinc (lv' := [(0, _), (1, _), (2, _), (3, _)]) d_Mo_score_59 rfl (xinc _) (by decide) rfl ?_
      refine x_goto 43 d_Mo_score_62 rfl ?_
      refine x_lv (lv' := [(0, _), (1, _), (2, _), (3, _)]) [0, 1, 2, 3] rfl ?_
      exact ih
  refine x_lv (lv' := [(0, _), (1, _), (2, _), (3, _)]) [0, 1, 2, 3] rfl ?_
  exact L43 0 (Nat.zero_le _)
/-! an offcut is used -/
def moMo0 (S : xS) (a b : Nat) : xS := uA (uA (uA S 211 b (sA S 211 a)) 212 b (sA S 212 a)) 213 b (sA S 213 a)
def moMoL (S : xS) (a b : Nat) : Nat → xS
  | 0 => moMo0 S a b
  | i + 1 => uA (moMoL S a b i) 214 (24 * b + i) (sA (moMoL S a b i) 214 (24 * a + i))
theorem moMoL_F {S : xS} {a b : Nat} : ∀ i, sF (moMoL S a b i) = sF S ∧ sK 211 215 S (moMoL S a b i)
  | 0 => ⟨rfl, ((sK.rf.A (by omega)).A (by omega)).A (by omega)⟩
  | i + 1 => ⟨(moMoL_F i).1, (moMoL_F i).2.A (by omega)⟩
def moUsL (S : xS) (k s : Nat) : Nat → xS
  | 0 => S
  | i + 1 => moPutFlaw (moUsL S k s i) s i (sA S 214 (24 * k + 4 * i)) (sA S 214 (24 * k + 4 * i + 1)) (sA S 214 (24 * k + 4 * i + 2)) (sA S 214 (24 * k + 4 * i + 3))
theorem moUsL_K {S : xS} {k s : Nat} (h0 : sA S 193 s = nI 0) : ∀ i, sK 193 195 S (moUsL S k s i) ∧ sF (moUsL S k s i) = sF S ∧ sA (moUsL S k s i) 193 s = nI i
  | 0 => ⟨sK.rf, rfl, h0⟩
  | i + 1 => ⟨((((((moUsL_K h0 i).1.A (by omega)).A (by omega)).A (by omega)).A (by omega)).A (by omega)), (moUsL_K h0 i).2.1, by show sA (moPutFlaw _ s i _ _ _ _) 193 s = _; unfold moPutFlaw; rw [sA_uA, va_up_self]⟩
def moUsM (S : xS) (k : Nat) : Nat → xS
  | 0 => S
  | i + 1 => moMoL (moUsM S k i) (k + i + 1) (k + i) 24
theorem moUsM_F {S : xS} {k : Nat} : ∀ i, sF (moUsM S k i) = sF S ∧ sK 211 215 S (moUsM S k i)
  | 0 => ⟨rfl, sK.rf⟩
  | i + 1 => ⟨(moMoL_F 24).1.trans (moUsM_F i).1, (moUsM_F i).2.trans (moMoL_F 24).2⟩
def moUseC (S : xS) (R : Nat) (k : Int32) : Nat := if inB R k = false then 1 else if moSh S 8 = 8 then 2 else 0
def moUs1 (S : xS) (k s : Nat) : xS := moMake (moThr S 0) s (sA S 211 k) (sA S 212 k)
def moUs3 (S : xS) (R k s fc : Nat) : xS := uF (moUsL (moUs1 S k s) k s fc) 186 27 (nI (R - 1))
def moUse (S : xS) (R s : Nat) (fc : Nat → Nat) (k : Int32) : Int32 × xS := moP (moUseC S R k) (sF S 186 1) S (moUsM (moUs3 S R k.toNatClampNeg s (fc k.toNatClampNeg)) k.toNatClampNeg (R - 1 - k.toNatClampNeg))
set_option maxRecDepth 100000 in
set_option maxHeartbeats 1000000 in
theorem c_Mo_moveOffcut {G : xG} {B d : Nat} {S : xS} (hG : xOkG G) {a b : Nat} (ha : a < 10) (hb : b < 10) : EX G m_Mo_moveOffcut d 0 [(0, .ref (B + 186)), (1, .int (nI a)), (2, .int (nI b))] [] (mk G B S) ((xRet G B none (moMoL S a b 24))) := by
  refine x_aload_n d_Mo_moveOffcut_0 rfl ?_
  refine y_getf d_Mo_moveOffcut_1 gf_Mo_83 k_model rfl ?_
  refine x_iload_n d_Mo_moveOffcut_4 rfl ?_
  refine x_aload_n d_Mo_moveOffcut_5 rfl ?_
  refine y_getf d_Mo_moveOffcut_6 gf_Mo_83 k_model rfl ?_
  refine x_iload_n d_Mo_moveOffcut_9 rfl ?_
  refine y_iald hG d_Mo_moveOffcut_10 k_m_offW _ rfl (by omega) ?_
  refine y_iast hG d_Mo_moveOffcut_11 k_m_offW _ rfl (by omega) ?_
  refine x_aload_n d_Mo_moveOffcut_12 rfl ?_
  refine y_getf d_Mo_moveOffcut_13 gf_Mo_86 k_model rfl ?_
  refine x_iload_n d_Mo_moveOffcut_16 rfl ?_
  refine x_aload_n d_Mo_moveOffcut_17 rfl ?_
  refine y_getf d_Mo_moveOffcut_18 gf_Mo_86 k_model rfl ?_
  refine x_iload_n d_Mo_moveOffcut_21 rfl ?_
  refine y_iald hG d_Mo_moveOffcut_22 k_m_offH _ rfl (by omega) ?_
  rw [sA_uAn _ _ _ (by decide)]
  refine y_iast hG d_Mo_moveOffcut_23 k_m_offH _ rfl (by omega) ?_
  refine x_aload_n d_Mo_moveOffcut_24 rfl ?_
  refine y_getf d_Mo_moveOffcut_25 gf_Mo_89 k_model rfl ?_
  refine x_iload_n d_Mo_moveOffcut_28 rfl ?_
  refine x_aload_n d_Mo_moveOffcut_29 rfl ?_
  refine y_getf d_Mo_moveOffcut_30 gf_Mo_89 k_model rfl ?_
  refine x_iload_n d_Mo_moveOffcut_33 rfl ?_
  refine y_iald hG d_Mo_moveOffcut_34 k_m_offFlawCounts _ rfl (by omega) ?_
  rw [sA_uAn _ _ _ (by decide), sA_uAn _ _ _ (by decide)]
  refine y_iast hG d_Mo_moveOffcut_35 k_m_offFlawCounts _ rfl (by omega) ?_
  refine x_iconst (v := nI 0) d_Mo_moveOffcut_36 (by decide +kernel) ?_
  refine s_istore_n (lv' := [(0, _), (1, _), (2, _), (3, _)]) d_Mo_moveOffcut_37 (by decide) rfl ?_
  have L38 : ∀ i, i ≤ 24 →  EX G m_Mo_moveOffcut d 38 [(0, .ref (B + 186)), (1, .int (nI a)), (2, .int (nI b)), (3, .int (nI i))] [] (mk G B (moMoL S a b i)) (xRet G B none (moMoL S a b 24)) := by
    refine x_down (24) ?_ ?_
    · skip
      skip
      refine x_iload_n d_Mo_moveOffcut_38 rfl ?_
      refine x_bipush (v := nI 24) d_Mo_moveOffcut_39 (by decide +kernel) ?_
      refine z_icmp_ge 72 d_Mo_moveOffcut_41 rfl (by omega) (by omega) (fun hc41 => ?_) (fun q => absurd q (by omega))
      refine x_return d_Mo_moveOffcut_72 rfl ?_
      exact ⟨rfl, rfl⟩
    · intro i hi ih
      refine x_iload_n d_Mo_moveOffcut_38 rfl ?_
      refine x_bipush (v := nI 24) d_Mo_moveOffcut_39 (by decide +kernel) ?_
      refine z_icmp_ge 72 d_Mo_moveOffcut_41 rfl (by omega) (by omega) (fun q => absurd q (by omega)) (fun hc41 => ?_)
      refine x_aload_n d_Mo_moveOffcut_44 rfl ?_
      refine y_getf d_Mo_moveOffcut_45 gf_Mo_92 k_model rfl ?_
      refine x_bipush (v := nI 24) d_Mo_moveOffcut_48 (by decide +kernel) ?_
      refine x_iload_n d_Mo_moveOffcut_50 rfl ?_
      refine x_imul d_Mo_moveOffcut_51 ?_
      rw [nI_mul]
      refine x_iload_n d_Mo_moveOffcut_52 rfl ?_
      refine x_iadd d_Mo_moveOffcut_53 ?_
      rw [nI_add]
      refine x_aload_n d_Mo_moveOffcut_54 rfl ?_
      refine y_getf d_Mo_moveOffcut_55 gf_Mo_92 k_model rfl ?_
      refine x_bipush (v := nI 24) d_Mo_moveOffcut_58 (by decide +kernel) ?_
      refine x_iload_n d_Mo_moveOffcut_60 rfl ?_
      refine x_imul d_Mo_moveOffcut_61 ?_
      rw [nI_mul]
      refine x_iload_n d_Mo_moveOffcut_62 rfl ?_
      refine x_iadd d_Mo_moveOffcut_63 ?_
      rw [nI_add]
      refine y_iald hG d_Mo_moveOffcut_64 k_m_offFlaws _ rfl (by omega) ?_
      refine y_iast hG d_Mo_moveOffcut_65 k_m_offFlaws _ rfl (by omega) ?_
      refine s_iinc (lv' := [(0, _), (1, _), (2, _), (3, _)]) d_Mo_moveOffcut_66 rfl (xinc _) (by decide) rfl ?_
      refine x_goto 38 d_Mo_moveOffcut_69 rfl ?_
      refine x_lv (lv' := [(0, _), (1, _), (2, _), (3, _)]) [0, 1, 2, 3] rfl ?_
      exact ih
  refine x_lv (lv' := [(0, _), (1, _), (2, _), (3, _)]) [0, 1, 2, 3] rfl ?_
  exact L38 0 (Nat.zero_le _)
set_option maxRecDepth 100000 in
set_option maxHeartbeats 1000000 in
theorem c_Mo_useT {G : xG} {B d : Nat} {S : xS} (hG : xOkG G) {R s : Nat} {fc : Nat → Nat} {k : Int32} (hR : sF S 186 27 = nI R) (hR10 : R ≤ 10) (hC : moUseC S R k ≠ 0) : EX G m_Mo_use (d + 2) 0 [(0, .ref (B + 186)), (1, .int k)] [] (mk G B S) ((moRet G B (moUse S R s fc k))) := by
  refine x_aload_n d_Mo_use_0 rfl ?_
  refine x_join 27 (.int (nI (moUseC S R k))) ?_ (fun J1 => ?_)
  · skip
    refine y_puti d_Mo_use_27 pf_Mo_140 k_model (xBle rfl) rfl rfl rfl ?_
    refine x_aload_n d_Mo_use_30 rfl ?_
    refine y_getf (v := .int (nI (moUseC S R k))) d_Mo_use_31 gf_Mo_140 k_model (congrArg (fun q => some (Value.int q)) moThr_0) ?_
    refine z_if_le 39 d_Mo_use_34 rfl (by unfold moUseC; split <;> (try split) <;> omega) (fun hc34 => ?_) (fun hc34 => ?_)
    · skip
      exact absurd hc34 hC
      skip
    · skip
      skip
      refine x_iconst (v := nI 0) d_Mo_use_37 (by decide +kernel) ?_
      refine x_ireturn d_Mo_use_38 rfl rfl ?_
      unfold moUse moP
      rw [if_neg (Nat.pos_iff_ne_zero.mp hc34)]
      exact ⟨rfl, rfl⟩
  · skip
    refine x_aload_n d_Mo_use_1 rfl ?_
    refine x_iload_n d_Mo_use_2 rfl ?_
    refine w_callV (As := [_]) d_Mo_use_3 k_Mo_285 k_model rfl rfl rfl (c_Mo_isOffcut hG hR) ?_
    refine z_bif_ne 13 d_Mo_use_6 rfl (fun hc6 => ?_) (fun hc6 => ?_)
    · skip
      skip
      refine x_aload_n d_Mo_use_13 rfl ?_
      refine w_callV (As := []) d_Mo_use_14 k_Mo_154 k_model rfl rfl rfl (c_Mo_sheets hG) ?_
      refine x_bipush (v := nI 8) d_Mo_use_17 (by decide +kernel) ?_
      refine z_icmp_ne 26 d_Mo_use_19 rfl (by have := moSh_le (S := S) 8; omega) (by omega) (fun hc19 => ?_) (fun hc19 => ?_)
      · skip
        skip
        refine x_iconst (v := nI 0) d_Mo_use_26 (by decide +kernel) ?_
        refine J1 _ ?_
        unfold moUseC
        first
          | (rw [if_pos hc6]; done)
          | (rw [if_neg (fun e => Bool.noConfusion (hc6.symm.trans e)), if_pos hc19]; done)
          | (rw [if_neg (fun e => Bool.noConfusion (hc6.symm.trans e)), if_neg hc19]; done)
      · skip
        skip
        refine x_iconst (v := nI 2) d_Mo_use_22 (by decide +kernel) ?_
        refine x_goto 27 d_Mo_use_23 rfl ?_
        refine J1 _ ?_
        unfold moUseC
        first
          | (rw [if_pos hc6]; done)
          | (rw [if_neg (fun e => Bool.noConfusion (hc6.symm.trans e)), if_pos hc19]; done)
          | (rw [if_neg (fun e => Bool.noConfusion (hc6.symm.trans e)), if_neg hc19]; done)
    · skip
      skip
      refine x_iconst (v := nI 1) d_Mo_use_9 (by decide +kernel) ?_
      refine x_goto 27 d_Mo_use_10 rfl ?_
      refine J1 _ ?_
      unfold moUseC
      first
        | (rw [if_pos hc6]; done)
        | (rw [if_neg (fun e => Bool.noConfusion (hc6.symm.trans e)), if_pos hc19]; done)
        | (rw [if_neg (fun e => Bool.noConfusion (hc6.symm.trans e)), if_neg hc19]; done)
set_option maxRecDepth 100000 in
set_option maxHeartbeats 1000000 in
theorem c_Mo_use1 {G : xG} {B d : Nat} {S : xS} (hG : xOkG G) {R s k : Nat} {fc : Nat → Nat} (hR : sF S 186 27 = nI R) (hR10 : R ≤ 10) (hk : k < R) (hC : moUseC S R (nI k) = 0) (hs : fstN (fun s => decide (sA S 187 s = 0)) 8 = some s) (hfk : sA S 213 k = nI (fc k) ∧ fc k ≤ 6) : EX G m_Mo_use (d + 2) 0 [(0, .ref (B + 186)), (1, .int (nI k))] [] (mk G B S) ((moRet G B (moUse S R s fc (nI k)))) := by
  have hs8 := fsL hs
  have hf6 := hfk.2
  have hU : ∀ q, q < 187 ∨ 194 ≤ q → sA (moUs1 S k s) q = sA S q := fun q hq => by
    unfold moUs1 moMake
    show sA (uA (uA (uA (uA (uA (uA (uA (moThr S 0) 187 s (nI 1)) 188 s _) 189 s _) 190 s _) 191 s (nI 0)) 192 s (nI 0)) 193 s (nI 0)) q = _
    rw [sA_uAn _ _ _ (by omega), sA_uAn _ _ _ (by omega), sA_uAn _ _ _ (by omega), sA_uAn _ _ _ (by omega), sA_uAn _ _ _ (by omega), sA_uAn _ _ _ (by omega), sA_uAn _ _ _ (by omega)]
    rfl
  have h10 : sA (moUs1 S k s) 193 s = nI 0 := by
    unfold moUs1 moMake
    show sA (uA _ 193 s (nI 0)) 193 s = _
    rw [sA_uA, va_up_self]
  have hRU : sF (moUs1 S k s) 186 27 = nI R := by
    unfold moUs1 moMake
    rw [sF_uF, va_up_ne _ _ (by decide)]
    exact (moThr_F (S := S) (v := nI 0) (k := 27) (by decide)).trans hR
  refine x_aload_n d_Mo_use_0 rfl ?_
  refine x_join 27 (.int (nI (moUseC S R (nI k)))) ?_ (fun J1 => ?_)
  · skip
    refine y_puti d_Mo_use_27 pf_Mo_140 k_model (xBle rfl) rfl rfl rfl ?_
    refine x_aload_n d_Mo_use_30 rfl ?_
    refine y_getf (v := .int (nI (moUseC S R (nI k)))) d_Mo_use_31 gf_Mo_140 k_model (congrArg (fun q => some (Value.int q)) moThr_0) ?_
    refine z_if_le 39 d_Mo_use_34 rfl (by rw [hC]; decide) (fun hc34 => ?_) (fun q => absurd q (by rw [hC]; decide))
    rw [hC]
    refine x_aload_n d_Mo_use_39 rfl ?_
    refine x_aload_n d_Mo_use_40 rfl ?_
    refine y_getf d_Mo_use_41 gf_Mo_83 k_model rfl ?_
    refine x_iload_n d_Mo_use_44 rfl ?_
    refine y_iald hG d_Mo_use_45 k_m_offW _ rfl (by omega) ?_
    skip
    refine x_aload_n d_Mo_use_46 rfl ?_
    refine y_getf d_Mo_use_47 gf_Mo_86 k_model rfl ?_
    refine x_iload_n d_Mo_use_50 rfl ?_
    refine y_iald hG d_Mo_use_51 k_m_offH _ rfl (by omega) ?_
    refine w_callV (As := [_, _]) d_Mo_use_52 k_Mo_162 k_model rfl rfl rfl (c_Mo_make (S := moThr S 0) (s := s) hG hs) ?_
    show EX _ _ _ _ _ _ (mk G B (moUs1 S k s)) _
    refine s_istore_n (lv' := [(0, _), (1, _), (2, _)]) d_Mo_use_55 (by decide) rfl ?_
    refine x_iconst (v := nI 0) d_Mo_use_56 (by decide +kernel) ?_
    refine s_istore_n (lv' := [(0, _), (1, _), (2, _), (3, _)]) d_Mo_use_57 (by decide) rfl ?_
    have L58 : ∀ i, i ≤ (fc k) →  EX G m_Mo_use (d + 2) 58 [(0, .ref (B + 186)), (1, .int (nI k)), (2, .int (nI s)), (3, .int (nI i))] [] (mk G B (moUsL (moUs1 S k s) k s i)) (moRet G B (moUse S R s fc (nI k))) := by
      refine x_down ((fc k)) ?_ ?_
      · skip
        have hL := moUsL_K (k := k) (s := s) h10 (fc k)
        have hA := fun q hq => (hL.1.1 q hq).2.1
        refine x_iload_n d_Mo_use_58 rfl ?_
        refine x_aload_n d_Mo_use_59 rfl ?_
        refine y_getf d_Mo_use_60 gf_Mo_89 k_model rfl ?_
        refine x_iload_n d_Mo_use_63 rfl ?_
        refine y_iald hG d_Mo_use_64 k_m_offFlawCounts _ rfl (by omega) ?_
        rw [hA 213 (by decide), hU 213 (by decide), hfk.1]
        refine z_icmp_ge 123 d_Mo_use_65 rfl (by omega) (by omega) (fun hc65 => ?_) (fun q => absurd q (by omega))
        refine x_aload_n d_Mo_use_123 rfl ?_
        refine x_dup d_Mo_use_124 rfl ?_
        refine y_getf (v := .int (nI R)) d_Mo_use_125 gf_Mo_263 k_model (congrArg (fun q => some (Value.int q)) (by rw [hL.2.1]; exact hRU)) ?_
        refine x_iconst (v := nI 1) d_Mo_use_128 (by decide +kernel) ?_
        refine x_isub d_Mo_use_129 ?_
        rw [pk_sub (by omega)]
        refine y_puti d_Mo_use_130 pf_Mo_263 k_model (xBle rfl) rfl rfl rfl ?_
        show EX _ _ _ _ _ _ (mk G B (moUs3 S R k s (fc k))) _
        refine x_iload_n d_Mo_use_133 rfl ?_
        refine s_istore_n (lv' := [(0, _), (1, _), (2, _), (3, _)]) d_Mo_use_134 (by decide) rfl ?_
        have L135 : ∀ i, i ≤ R - 1 - k →  EX G m_Mo_use (d + 2) 135 [(0, .ref (B + 186)), (1, .int (nI k)), (2, .int (nI s)), (3, .int (nI (k + i)))] [] (mk G B (moUsM (moUs3 S R k s (fc k)) k i)) (moRet G B (moUse S R s fc (nI k))) := by
          refine x_down (R - 1 - k) ?_ ?_
          · skip
            have hM := moUsM_F (S := (moUs3 S R k s (fc k))) (k := k) (R - 1 - k)
            refine x_iload_n d_Mo_use_135 rfl ?_
            refine x_aload_n d_Mo_use_136 rfl ?_
            refine y_getf (v := .int (nI (R - 1))) d_Mo_use_137 gf_Mo_263 k_model (congrArg (fun q => some (Value.int q)) (by rw [hM.1]; unfold moUs3; rw [sF_uF, va_up_self])) ?_
            refine z_icmp_ge 157 d_Mo_use_140 rfl (by omega) (by omega) (fun hc140 => ?_) (fun q => absurd q (by omega))
            refine x_aload_n d_Mo_use_157 rfl ?_
            refine y_getf d_Mo_use_158 gf_Mo_13 k_model rfl ?_
            refine x_iload_n d_Mo_use_161 rfl ?_
            refine y_iald hG d_Mo_use_162 k_m_ids _ rfl (by omega) ?_
            rw [(hM.2.1 188 (by decide)).2.1, show sA (moUs3 S R k s (fc k)) 188 s = sF S 186 1 by
              show sA (moUsL (moUs1 S k s) k s (fc k)) 188 s = _
              rw [hA 188 (by decide)]
              show sA (moMake _ s _ _) 188 s = _
              rw [moMake_188]
              exact moThr_F (by decide)]
            refine x_ireturn d_Mo_use_163 rfl rfl ?_
            unfold moUse moP
            rw [if_pos hC, nI_clamp (show k < 2 ^ 31 by omega)]
            exact ⟨rfl, rfl⟩
          · intro i hi ih
            have hM := moUsM_F (S := (moUs3 S R k s (fc k))) (k := k) i
            refine x_iload_n d_Mo_use_135 rfl ?_
            refine x_aload_n d_Mo_use_136 rfl ?_
            refine y_getf (v := .int (nI (R - 1))) d_Mo_use_137 gf_Mo_263 k_model (congrArg (fun q => some (Value.int q)) (by rw [hM.1]; unfold moUs3; rw [sF_uF, va_up_self])) ?_
            refine z_icmp_ge 157 d_Mo_use_140 rfl (by omega) (by omega) (fun q => absurd q (by omega)) (fun hc140 => ?_)
            refine x_aload_n d_Mo_use_143 rfl ?_
            refine x_iload_n d_Mo_use_144 rfl ?_
            refine x_iconst (v := nI 1) d_Mo_use_145 (by decide +kernel) ?_
            refine x_iadd d_Mo_use_146 ?_
            rw [nI_add]
            refine x_iload_n d_Mo_use_147 rfl ?_
            refine w_callV (As := [_, _]) d_Mo_use_148 k_Mo_288 k_model rfl rfl rfl (c_Mo_moveOffcut hG (by omega) (by omega)) ?_
            refine s_iinc (lv' := [(0, _), (1, _), (2, _), (3, _)]) d_Mo_use_151 rfl (xinc _) (by decide) rfl ?_
            refine x_goto 135 d_Mo_use_154 rfl ?_
            refine x_lv (lv' := [(0, _), (1, _), (2, _), (3, _)]) [0, 1, 2, 3] rfl ?_
            exact ih
        refine x_lv (lv' := [(0, _), (1, _), (2, _), (3, _)]) [0, 1, 2, 3] rfl ?_
        exact L135 0 (Nat.zero_le _)
      · intro i hi ih
        have hL := moUsL_K (k := k) (s := s) h10 i
        have hA := fun q hq => (hL.1.1 q hq).2.1
        refine x_iload_n d_Mo_use_58 rfl ?_
        refine x_aload_n d_Mo_use_59 rfl ?_
        refine y_getf d_Mo_use_60 gf_Mo_89 k_model rfl ?_
        refine x_iload_n d_Mo_use_63 rfl ?_
        refine y_iald hG d_Mo_use_64 k_m_offFlawCounts _ rfl (by omega) ?_
        rw [hA 213 (by decide), hU 213 (by decide), hfk.1]
        refine z_icmp_ge 123 d_Mo_use_65 rfl (by omega) (by omega) (fun q => absurd q (by omega)) (fun hc65 => ?_)
        refine x_bipush (v := nI 24) d_Mo_use_68 (by decide +kernel) ?_
        refine x_iload_n d_Mo_use_70 rfl ?_
        refine x_imul d_Mo_use_71 ?_
        rw [nI_mul]
        refine x_iconst (v := nI 4) d_Mo_use_72 (by decide +kernel) ?_
        refine x_iload_n d_Mo_use_73 rfl ?_
        refine x_imul d_Mo_use_74 ?_
        rw [nI_mul]
        refine x_iadd d_Mo_use_75 ?_
        rw [nI_add]
        refine s_istore (lv' := [(0, _), (1, _), (2, _), (3, _), (4, _)]) d_Mo_use_76 (by decide) rfl ?_
        refine x_aload_n d_Mo_use_78 rfl ?_
        refine x_iload_n d_Mo_use_79 rfl ?_
        refine x_aload_n d_Mo_use_80 rfl ?_
        refine y_getf d_Mo_use_81 gf_Mo_92 k_model rfl ?_
        refine x_iload d_Mo_use_84 rfl ?_
        refine y_iald hG d_Mo_use_86 k_m_offFlaws _ rfl (by omega) ?_
        rw [hA 214 (by decide)]
        refine x_aload_n d_Mo_use_87 rfl ?_
        refine y_getf d_Mo_use_88 gf_Mo_92 k_model rfl ?_
        refine x_iload d_Mo_use_91 rfl ?_
        refine x_iconst (v := nI 1) d_Mo_use_93 (by decide +kernel) ?_
        refine x_iadd d_Mo_use_94 ?_
        rw [nI_add]
        refine y_iald hG d_Mo_use_95 k_m_offFlaws _ rfl (by omega) ?_
        rw [hA 214 (by decide)]
        refine x_aload_n d_Mo_use_96 rfl ?_
        refine y_getf d_Mo_use_97 gf_Mo_92 k_model rfl ?_
        refine x_iload d_Mo_use_100 rfl ?_
        refine x_iconst (v := nI 2) d_Mo_use_102 (by decide +kernel) ?_
        refine x_iadd d_Mo_use_103 ?_
        rw [nI_add]
        refine y_iald hG d_Mo_use_104 k_m_offFlaws _ rfl (by omega) ?_
        rw [hA 214 (by decide)]
        refine x_aload_n d_Mo_use_105 rfl ?_
        refine y_getf d_Mo_use_106 gf_Mo_92 k_model rfl ?_
        refine x_iload d_Mo_use_109 rfl ?_
        refine x_iconst (v := nI 3) d_Mo_use_111 (by decide +kernel) ?_
        refine x_iadd d_Mo_use_112 ?_
        rw [nI_add]
        refine y_iald hG d_Mo_use_113 k_m_offFlaws _ rfl (by omega) ?_
        rw [hA 214 (by decide)]
        refine w_callV (As := [_, _, _, _, _]) d_Mo_use_114 k_Mo_170 k_model rfl rfl rfl (c_Mo_putFlaw hG hs8 hL.2.2 (by omega)) ?_
        refine s_iinc (lv' := [(0, _), (1, _), (2, _), (3, _), (4, _)]) d_Mo_use_117 rfl (xinc _) (by decide) rfl ?_
        refine x_goto 58 d_Mo_use_120 rfl ?_
        refine x_lv (lv' := [(0, _), (1, _), (2, _), (3, _)]) [0, 1, 2, 3] rfl ?_
        exact ih
    refine x_lv (lv' := [(0, _), (1, _), (2, _), (3, _)]) [0, 1, 2, 3] rfl ?_
    exact L58 0 (Nat.zero_le _)
  · skip
    refine x_aload_n d_Mo_use_1 rfl ?_
    refine x_iload_n d_Mo_use_2 rfl ?_
    refine w_callV (As := [_]) d_Mo_use_3 k_Mo_285 k_model rfl rfl rfl (c_Mo_isOffcut hG hR) ?_
    refine z_bif_ne 13 d_Mo_use_6 rfl (fun hc6 => ?_) (fun hc6 => ?_)
    · skip
      skip
      refine x_aload_n d_Mo_use_13 rfl ?_
      refine w_callV (As := []) d_Mo_use_14 k_Mo_154 k_model rfl rfl rfl (c_Mo_sheets hG) ?_
      refine x_bipush (v := nI 8) d_Mo_use_17 (by decide +kernel) ?_
      refine z_icmp_ne 26 d_Mo_use_19 rfl (by have := moSh_le (S := S) 8; omega) (by omega) (fun hc19 => ?_) (fun hc19 => ?_)
      · skip
        skip
        refine x_iconst (v := nI 0) d_Mo_use_26 (by decide +kernel) ?_
        refine J1 _ ?_
        unfold moUseC
        first
          | (rw [if_pos hc6]; done)
          | (rw [if_neg (fun e => Bool.noConfusion (hc6.symm.trans e)), if_pos hc19]; done)
          | (rw [if_neg (fun e => Bool.noConfusion (hc6.symm.trans e)), if_neg hc19]; done)
      · skip
        skip
        refine x_iconst (v := nI 2) d_Mo_use_22 (by decide +kernel) ?_
        refine x_goto 27 d_Mo_use_23 rfl ?_
        refine J1 _ ?_
        unfold moUseC
        first
          | (rw [if_pos hc6]; done)
          | (rw [if_neg (fun e => Bool.noConfusion (hc6.symm.trans e)), if_pos hc19]; done)
          | (rw [if_neg (fun e => Bool.noConfusion (hc6.symm.trans e)), if_neg hc19]; done)
    · skip
      skip
      refine x_iconst (v := nI 1) d_Mo_use_9 (by decide +kernel) ?_
      refine x_goto 27 d_Mo_use_10 rfl ?_
      refine J1 _ ?_
      unfold moUseC
      first
        | (rw [if_pos hc6]; done)
        | (rw [if_neg (fun e => Bool.noConfusion (hc6.symm.trans e)), if_pos hc19]; done)
        | (rw [if_neg (fun e => Bool.noConfusion (hc6.symm.trans e)), if_neg hc19]; done)
