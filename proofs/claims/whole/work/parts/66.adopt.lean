/-! the reference's tree as a whole -/
def ofG (x : Int32) : Option Nat := if x = -1 then none else some x.toNatClampNeg
def moHas (S : xS) (p : Nat) : Nat := (sA S 221 p).toNatClampNeg
def moPn (S : xS) (p : Nat) : Nat := (sA S 224 p).toNatClampNeg
def moGr (S : xS) (s np m p : Nat) : xS := moGrow S s m p np (moHas S p) (moPn S p) (ofG (sA S 229 p))
def moGd (S : xS) (s np m p : Nat) : Prop := (m < 160 ∧ p + 1 < 64) ∧ (sA S 221 p = nI (moHas S p) ∧ moHas S p ≤ 4) ∧ (sA S 224 p = nI (moPn S p) ∧ moPn S p < 2 ^ 30) ∧ (sA S 229 p = cI (ofG (sA S 229 p)) ∧ (ofG (sA S 229 p)).getD 0 < 160) ∧ (sF (moGr S s np m p) 186 43 = nI (sF (moGr S s np m p) 186 43).toNatClampNeg ∧ (sF (moGr S s np m p) 186 43).toNatClampNeg ≤ 64) ∧ sA (moGr S s np m p) 195 s = nI (m + 1) ∧ sF (moGr S s np m p) 186 36 = nI np
def moGA (s np : Nat) : Nat → xS → Nat → Nat → xS → Prop
  | 0, _, _, _, _ => False
  | _ + 1, P, _, 0, Z => P = Z
  | f + 1, P, m, p + 1, Z => moGd P s np m p ∧ moGA s np f (moGr P s np m p) (m + 1) (sF (moGr P s np m p) 186 43).toNatClampNeg Z
def moA0 (S : xS) (s : Nat) : xS := moAt (moPush (uF (uA S 195 s (nI 0)) 186 43 (nI 0)) 0 (nI 0) (nI 0) (nI 0) (nI 0) (-1)) 0 (nI 0) (nI 0) (sA S 189 s) (sA S 190 s)
def moAd1 (Z : xS) (s : Nat) : xS := uA (uA (uA Z 204 (160 * s) (nI 1)) 191 s (nI 1)) 192 s (nI 0)
def moAdF (Z : xS) (s np : Nat) : xS := moSeq (moAd1 Z s) (fun i => some (sA Z 215 i).toNatClampNeg) 208 209 np
set_option maxRecDepth 100000 in
set_option maxHeartbeats 1000000 in
theorem c_Mo_adopt {G : xG} {B d : Nat} {S : xS} (hG : xOkG G) {s np N : Nat} {Z : xS} (hs : s < 8) (hp : sF S 186 36 = nI np) (hp40 : np ≤ 40) (hN6 : N ≤ 6) (hZ : moGA s np 161 (moA0 S s) 0 1 Z) (hL : moLI Z np N) : EX G m_Mo_adopt (d + 5) 0 [(0, .ref (B + 186)), (1, .int (nI s))] [] (mk G B S) ((xRet G B (some (.int (nI np))) (moAdF Z s np))) := by
  refine x_aload_n d_Mo_adopt_0 rfl ?_
  refine y_getf d_Mo_adopt_1 gf_Mo_35 k_model rfl ?_
  refine x_iload_n d_Mo_adopt_4 rfl ?_
  refine x_iconst (v := nI 0) d_Mo_adopt_5 (by decide +kernel) ?_
  refine y_iast hG d_Mo_adopt_6 k_m_nodeCounts _ rfl (by omega) ?_
  refine x_aload_n d_Mo_adopt_7 rfl ?_
  refine x_iconst (v := nI 0) d_Mo_adopt_8 (by decide +kernel) ?_
  refine y_puti d_Mo_adopt_9 pf_Mo_216 k_model (xBle rfl) rfl rfl rfl ?_
  show EX _ _ _ _ _ _ (mk G B (uF (uA S 195 s (nI 0)) 186 43 (nI 0))) _
  refine x_aload_n d_Mo_adopt_12 rfl ?_
  refine x_iconst (v := nI 0) d_Mo_adopt_13 (by decide +kernel) ?_
  refine x_iconst (v := nI 0) d_Mo_adopt_14 (by decide +kernel) ?_
  refine x_iconst (v := nI 0) d_Mo_adopt_15 (by decide +kernel) ?_
  refine x_iconst (v := nI 0) d_Mo_adopt_16 (by decide +kernel) ?_
  refine x_iconst (v := -1) d_Mo_adopt_17 (by decide +kernel) ?_
  refine w_callV (As := [_, _, _, _, _]) d_Mo_adopt_18 k_Mo_230 k_model rfl rfl rfl (c_Mo_push (S := uF (uA S 195 s (nI 0)) 186 43 (nI 0)) (n := 0) hG (by rw [sF_uF, va_up_self]) (by decide)) ?_
  refine x_aload_n d_Mo_adopt_21 rfl ?_
  refine x_iconst (v := nI 0) d_Mo_adopt_22 (by decide +kernel) ?_
  refine x_iconst (v := nI 0) d_Mo_adopt_23 (by decide +kernel) ?_
  refine x_aload_n d_Mo_adopt_24 rfl ?_
  refine y_getf d_Mo_adopt_25 gf_Mo_17 k_model rfl ?_
  refine x_iload_n d_Mo_adopt_28 rfl ?_
  refine y_iald hG d_Mo_adopt_29 k_m_widths _ rfl (by omega) ?_
  rw [moPush_A (by decide), show sA (uF (uA S 195 s (nI 0)) 186 43 (nI 0)) 189 = sA S 189 from sA_uAn _ _ _ (by decide)]
  refine x_aload_n d_Mo_adopt_30 rfl ?_
  refine y_getf d_Mo_adopt_31 gf_Mo_20 k_model rfl ?_
  refine x_iload_n d_Mo_adopt_34 rfl ?_
  refine y_iald hG d_Mo_adopt_35 k_m_heights _ rfl (by omega) ?_
  rw [moPush_A (by decide), show sA (uF (uA S 195 s (nI 0)) 186 43 (nI 0)) 190 = sA S 190 from sA_uAn _ _ _ (by decide)]
  refine w_callV (As := [_, _, _, _]) d_Mo_adopt_36 k_Mo_233 k_model rfl rfl rfl (c_Mo_at (n := 0) hG moPush_n (by decide)) ?_
  show EX _ _ _ _ _ _ (mk G B (moA0 S s)) _
  have L39 : ∀ f, f ≤ 161 → ∀ P m p, (sF P 186 43 = nI p ∧ p ≤ 64) → sA P 195 s = nI m → sF P 186 36 = nI np → moGA s np (161 - f) P m p Z → EX G m_Mo_adopt (d + 5) 39 [(0, .ref (B + 186)), (1, .int (nI s))] [] (mk G B P) (xRet G B (some (.int (nI np))) (moAdF Z s np)) := by
    refine x_down (161) ?_ ?_
    · skip
      skip
      intro P m p hpc hnc hpn hZ
      rw [Nat.sub_self] at hZ
      exact hZ.elim
    · intro f hf ihf
      intro P m p hpc hnc hpn hZ
      rw [show 161 - f = (161 - (f + 1)) + 1 by omega] at hZ
      rcases Nat.eq_zero_or_pos p with hp0 | hp0
      · skip
        subst hp0
        have hZ : Z = P := (show P = Z from hZ).symm
        subst hZ
        refine x_aload_n d_Mo_adopt_39 rfl ?_
        refine y_getf (v := .int (nI 0)) d_Mo_adopt_40 gf_Mo_216 k_model (congrArg (fun q => some (Value.int q)) hpc.1) ?_
        refine z_if_le 54 d_Mo_adopt_43 rfl (by omega) (fun hc43 => ?_) (fun q => absurd q (by omega))
        refine x_aload_n d_Mo_adopt_54 rfl ?_
        refine y_getf d_Mo_adopt_55 gf_Mo_62 k_model rfl ?_
        refine x_sipush (v := nI 160) d_Mo_adopt_58 (by decide +kernel) ?_
        refine x_iload_n d_Mo_adopt_61 rfl ?_
        refine x_imul d_Mo_adopt_62 ?_
        rw [nI_mul]
        refine x_iconst (v := nI 1) d_Mo_adopt_63 (by decide +kernel) ?_
        refine y_iast hG d_Mo_adopt_64 k_m_states _ rfl (by omega) ?_
        refine x_aload_n d_Mo_adopt_65 rfl ?_
        refine y_getf d_Mo_adopt_66 gf_Mo_23 k_model rfl ?_
        refine x_iload_n d_Mo_adopt_69 rfl ?_
        refine x_iconst (v := nI 1) d_Mo_adopt_70 (by decide +kernel) ?_
        refine y_zast hG d_Mo_adopt_71 k_m_planned _ rfl (by omega) (by decide +kernel) ?_
        refine x_aload_n d_Mo_adopt_72 rfl ?_
        refine y_getf d_Mo_adopt_73 gf_Mo_26 k_model rfl ?_
        refine x_iload_n d_Mo_adopt_76 rfl ?_
        refine x_iconst (v := nI 0) d_Mo_adopt_77 (by decide +kernel) ?_
        refine y_zast hG d_Mo_adopt_78 k_m_scored _ rfl (by omega) (by decide +kernel) ?_
        show EX _ _ _ _ _ _ (mk G B (moAd1 Z s)) _
        refine x_iconst (v := nI 0) d_Mo_adopt_79 (by decide +kernel) ?_
        refine s_istore_n (lv' := [(0, _), (1, _), (2, _)]) d_Mo_adopt_80 (by decide) rfl ?_
        have L81 : ∀ i, i ≤ np →  EX G m_Mo_adopt (d + 5) 81 [(0, .ref (B + 186)), (1, .int (nI s)), (2, .int (nI i))] [] (mk G B (moSeq (moAd1 Z s) (fun i => some (sA Z 215 i).toNatClampNeg) 208 209 i)) (xRet G B (some (.int (nI np))) (moAdF Z s np)) := by
          refine x_down (np) ?_ ?_
          · skip
            have hK := moSeq_K (S := moAd1 Z s) (f := fun i => some (sA Z 215 i).toNatClampNeg) (a := 208) (b := 209) (by decide) (by decide) np
            refine x_iload_n d_Mo_adopt_81 rfl ?_
            refine x_aload_n d_Mo_adopt_82 rfl ?_
            refine y_getf (v := .int (nI np)) d_Mo_adopt_83 gf_Mo_174 k_model (congrArg (fun q => some (Value.int q)) (by rw [hK.2]; exact hpn)) ?_
            refine z_icmp_ge 125 d_Mo_adopt_86 rfl (by omega) (by omega) (fun hc86 => ?_) (fun q => absurd q (by omega))
            refine x_aload_n d_Mo_adopt_125 rfl ?_
            refine y_getf (v := .int (nI np)) d_Mo_adopt_126 gf_Mo_174 k_model (congrArg (fun q => some (Value.int q)) (by rw [hK.2]; exact hpn)) ?_
            refine x_ireturn d_Mo_adopt_129 rfl rfl ?_
            exact ⟨rfl, rfl⟩
          · intro i hi ihi
            have hK := moSeq_K (S := moAd1 Z s) (f := fun i => some (sA Z 215 i).toNatClampNeg) (a := 208) (b := 209) (by decide) (by decide) i
            obtain ⟨y, hy, ey⟩ := (hL i hi).1
            rw [moSeq_s (S := moAd1 Z s) (f := fun i => some (sA Z 215 i).toNatClampNeg) (a := 208) (b := 209) (k := i) (x := y) (by show some (sA Z 215 i).toNatClampNeg = some y; rw [ey, nI_clamp (by omega)])] at ihi
            have hAo : sA (moSeq (moAd1 Z s) (fun i => some (sA Z 215 i).toNatClampNeg) 208 209 i) 215 = sA Z 215 := ((hK.1.1 215 (by decide)).2.1).trans ((sA_uAn _ _ _ (by decide)).trans ((sA_uAn _ _ _ (by decide)).trans (sA_uAn _ _ _ (by decide))))
            refine x_iload_n d_Mo_adopt_81 rfl ?_
            refine x_aload_n d_Mo_adopt_82 rfl ?_
            refine y_getf (v := .int (nI np)) d_Mo_adopt_83 gf_Mo_174 k_model (congrArg (fun q => some (Value.int q)) (by rw [hK.2]; exact hpn)) ?_
            refine z_icmp_ge 125 d_Mo_adopt_86 rfl (by omega) (by omega) (fun q => absurd q (by omega)) (fun hc86 => ?_)
            refine x_aload_n d_Mo_adopt_89 rfl ?_
            refine y_getf d_Mo_adopt_90 gf_Mo_74 k_model rfl ?_
            refine x_aload_n d_Mo_adopt_93 rfl ?_
            refine y_getf d_Mo_adopt_94 gf_Mo_95 k_model rfl ?_
            refine x_iload_n d_Mo_adopt_97 rfl ?_
            refine y_iald hG d_Mo_adopt_98 k_m_paneOrder _ rfl (by omega) ?_
            rw [hAo, ey]
            refine x_dup2 d_Mo_adopt_99 rfl rfl ?_
            refine y_iald hG d_Mo_adopt_100 k_m_open _ rfl (by omega) ?_
            refine x_iconst (v := nI 1) d_Mo_adopt_101 (by decide +kernel) ?_
            refine x_isub d_Mo_adopt_102 ?_
            refine y_iast hG d_Mo_adopt_103 k_m_open _ rfl (by omega) ?_
            refine x_aload_n d_Mo_adopt_104 rfl ?_
            refine y_getf d_Mo_adopt_105 gf_Mo_77 k_model rfl ?_
            refine x_aload_n d_Mo_adopt_108 rfl ?_
            refine y_getf d_Mo_adopt_109 gf_Mo_95 k_model rfl ?_
            refine x_iload_n d_Mo_adopt_112 rfl ?_
            refine y_iald hG d_Mo_adopt_113 k_m_paneOrder _ rfl (by omega) ?_
            rw [sA_uAn _ _ _ (by decide), hAo, ey]
            refine x_dup2 d_Mo_adopt_114 rfl rfl ?_
            refine y_iald hG d_Mo_adopt_115 k_m_coming _ rfl (by omega) ?_
            rw [sA_uAn _ _ _ (by decide)]
            refine x_iconst (v := nI 1) d_Mo_adopt_116 (by decide +kernel) ?_
            refine x_iadd d_Mo_adopt_117 ?_
            refine y_iast hG d_Mo_adopt_118 k_m_coming _ rfl (by omega) ?_
            refine s_iinc (lv' := [(0, _), (1, _), (2, _)]) d_Mo_adopt_119 rfl (xinc _) (by decide) rfl ?_
            refine x_goto 81 d_Mo_adopt_122 rfl ?_
            refine x_lv (lv' := [(0, _), (1, _), (2, _)]) [0, 1, 2] rfl ?_
            exact ihi
        refine x_lv (lv' := [(0, _), (1, _), (2, _)]) [0, 1, 2] rfl ?_
        exact L81 0 (Nat.zero_le _)
      · skip
        obtain ⟨p, rfl⟩ : ∃ k, p = k + 1 := ⟨p - 1, by omega⟩
        have hgd := hZ.1
        refine x_aload_n d_Mo_adopt_39 rfl ?_
        refine y_getf (v := .int (nI (p + 1))) d_Mo_adopt_40 gf_Mo_216 k_model (congrArg (fun q => some (Value.int q)) hpc.1) ?_
        refine z_if_le 54 d_Mo_adopt_43 rfl (by omega) (fun q => absurd q (by omega)) (fun hc43 => ?_)
        refine x_aload_n d_Mo_adopt_46 rfl ?_
        refine x_iload_n d_Mo_adopt_47 rfl ?_
        refine w_callV (As := [_]) d_Mo_adopt_48 k_Mo_237 k_model rfl rfl rfl (c_Mo_grow hG hs hgd.1.1 hnc hpc.1 hgd.1.2 hpn hp40 hgd.2.1.1 hgd.2.1.2 hgd.2.2.1.1 hgd.2.2.1.2 hgd.2.2.2.1.1 (fun f e => by have := hgd.2.2.2.1.2; rw [e] at this; exact this)) ?_
        refine x_goto 39 d_Mo_adopt_51 rfl ?_
        refine x_lv (lv' := [(0, _), (1, _)]) [0, 1] rfl ?_
        exact ihf _ _ _ hgd.2.2.2.2.1 hgd.2.2.2.2.2.1 hgd.2.2.2.2.2.2 hZ.2
  refine x_lv (lv' := [(0, _), (1, _)]) [0, 1] rfl ?_
  exact L39 0 (Nat.zero_le _) _ 0 1 ⟨by rw [show sF (moA0 S s) = sF (moPush (uF (uA S 195 s (nI 0)) 186 43 (nI 0)) 0 (nI 0) (nI 0) (nI 0) (nI 0) (-1)) from rfl]; exact moPush_n, by decide⟩ (by unfold moA0; rw [moAt_A (by decide), moPush_A (by decide)]; show sA (uA S 195 s (nI 0)) 195 s = _; rw [sA_uA, va_up_self]) (by rw [show sF (moA0 S s) = sF (moPush (uF (uA S 195 s (nI 0)) 186 43 (nI 0)) 0 (nI 0) (nI 0) (nI 0) (nI 0) (-1)) from rfl, moPush_F (by decide), sF_uF, va_up_ne _ _ (by decide)]; exact hp) hZ
def moPlanC (S : xS) (s : Nat) : Nat := if ¬ sA S 191 s = 0 then 2 else 0
theorem moTk_A {S : xS} : ∀ i q, q ≠ 220 → sA (moTk S i) q = sA S q
  | 0, _, _ => rfl
  | i + 1, q, h => (sA_uAn _ _ _ h).trans (moTk_A i q h)
set_option maxRecDepth 100000 in
set_option maxHeartbeats 1000000 in
theorem c_Mo_planT {G : xG} {B d : Nat} {S : xS} (hG : xOkG G) {x : Int32} (hf : moFind S x 8 = none) : EX G m_Mo_plan (d + 6) 0 [(0, .ref (B + 186)), (1, .int x)] [] (mk G B S) (xRet G B (some (.int 0)) (moThr S 1)) := by
  refine x_aload_n d_Mo_plan_0 rfl ?_
  refine x_iload_n d_Mo_plan_1 rfl ?_
  refine w_callV (As := [_]) d_Mo_plan_2 k_Mo_166 k_model rfl rfl rfl (c_Mo_find hG) ?_
  rw [hf, show cI none = -1 from rfl]
  refine s_istore_n (lv' := [(0, _), (1, _), (2, _)]) d_Mo_plan_5 (by decide) rfl ?_
  refine x_aload_n d_Mo_plan_6 rfl ?_
  refine x_iload_n d_Mo_plan_7 rfl ?_
  refine x_if_ge 15 d_Mo_plan_8 rfl (fun q => absurd q (by decide +kernel)) (fun hc8 => ?_)
  refine x_iconst (v := nI 1) d_Mo_plan_11 (by decide +kernel) ?_
  refine x_goto 29 d_Mo_plan_12 rfl ?_
  refine y_puti d_Mo_plan_29 pf_Mo_140 k_model (xBle rfl) rfl rfl rfl ?_
  refine x_aload_n d_Mo_plan_32 rfl ?_
  refine y_getf (v := .int (nI 1)) d_Mo_plan_33 gf_Mo_140 k_model (congrArg (fun q => some (Value.int q)) moThr_0) ?_
  refine z_if_le 41 d_Mo_plan_36 rfl (by omega) (fun q => absurd q (by omega)) (fun hc36 => ?_)
  refine x_iconst (v := nI 0) d_Mo_plan_39 (by decide +kernel) ?_
  refine x_ireturn d_Mo_plan_40 rfl rfl ?_
  exact ⟨rfl, rfl⟩
set_option maxRecDepth 100000 in
set_option maxHeartbeats 1000000 in
theorem c_Mo_planU {G : xG} {B d : Nat} {S : xS} (hG : xOkG G) {x : Int32} {s : Nat} (hf : moFind S x 8 = some s) (hpl : ¬ sA S 191 s = 0) : EX G m_Mo_plan (d + 6) 0 [(0, .ref (B + 186)), (1, .int x)] [] (mk G B S) (xRet G B (some (.int 0)) (moThr S 2)) := by
  have hs := moFind_lt hf
  refine x_aload_n d_Mo_plan_0 rfl ?_
  refine x_iload_n d_Mo_plan_1 rfl ?_
  refine w_callV (As := [_]) d_Mo_plan_2 k_Mo_166 k_model rfl rfl rfl (c_Mo_find hG) ?_
  rw [hf, show cI (some s) = nI s from rfl]
  refine s_istore_n (lv' := [(0, _), (1, _), (2, _)]) d_Mo_plan_5 (by decide) rfl ?_
  refine x_aload_n d_Mo_plan_6 rfl ?_
  refine x_iload_n d_Mo_plan_7 rfl ?_
  refine z_if_ge 15 d_Mo_plan_8 rfl (by omega) ?_
  refine x_aload_n d_Mo_plan_15 rfl ?_
  refine y_getf d_Mo_plan_16 gf_Mo_23 k_model rfl ?_
  refine x_iload_n d_Mo_plan_19 rfl ?_
  refine y_zald hG d_Mo_plan_20 k_m_planned _ rfl (by omega) ?_
  refine x_if_eq 28 d_Mo_plan_21 rfl (fun q => absurd q hpl) (fun hc21 => ?_)
  refine x_iconst (v := nI 2) d_Mo_plan_24 (by decide +kernel) ?_
  refine x_goto 29 d_Mo_plan_25 rfl ?_
  refine y_puti d_Mo_plan_29 pf_Mo_140 k_model (xBle rfl) rfl rfl rfl ?_
  refine x_aload_n d_Mo_plan_32 rfl ?_
  refine y_getf (v := .int (nI 2)) d_Mo_plan_33 gf_Mo_140 k_model (congrArg (fun q => some (Value.int q)) moThr_0) ?_
  refine z_if_le 41 d_Mo_plan_36 rfl (by omega) (fun q => absurd q (by omega)) (fun hc36 => ?_)
  refine x_iconst (v := nI 0) d_Mo_plan_39 (by decide +kernel) ?_
  refine x_ireturn d_Mo_plan_40 rfl rfl ?_
  exact ⟨rfl, rfl⟩
set_option maxRecDepth 100000 in
set_option maxHeartbeats 1000000 in
theorem c_Mo_plan0 {G : xG} {B d : Nat} {S : xS} (hG : xOkG G) {x : Int32} {s fl N n : Nat} {Z1 : xS} (hf : moFind S x 8 = some s) (hpl : sA S 191 s = 0) (hfl : sA S 193 s = nI fl) (hf6 : fl ≤ 6) (hN : sF S 186 20 = nI N) (hN6 : N ≤ 6) (hZ1 : moStrips (moThr S 0) s fl N = some Z1) (hn : sF Z1 186 36 = nI n) (hn40 : n ≤ 40) (hn0 : n = 0) : EX G m_Mo_plan (d + 6) 0 [(0, .ref (B + 186)), (1, .int x)] [] (mk G B S) (xRet G B (some (.int 0)) Z1) := by
  have hs := moFind_lt hf
  refine x_aload_n d_Mo_plan_0 rfl ?_
  refine x_iload_n d_Mo_plan_1 rfl ?_
  refine w_callV (As := [_]) d_Mo_plan_2 k_Mo_166 k_model rfl rfl rfl (c_Mo_find hG) ?_
  rw [hf, show cI (some s) = nI s from rfl]
  refine s_istore_n (lv' := [(0, _), (1, _), (2, _)]) d_Mo_plan_5 (by decide) rfl ?_
  refine x_aload_n d_Mo_plan_6 rfl ?_
  refine x_iload_n d_Mo_plan_7 rfl ?_
  refine z_if_ge 15 d_Mo_plan_8 rfl (by omega) ?_
  refine x_aload_n d_Mo_plan_15 rfl ?_
  refine y_getf d_Mo_plan_16 gf_Mo_23 k_model rfl ?_
  refine x_iload_n d_Mo_plan_19 rfl ?_
  refine y_zald hG d_Mo_plan_20 k_m_planned _ rfl (by omega) ?_
  refine x_if_eq 28 d_Mo_plan_21 rfl (fun hc21 => ?_) (fun q => absurd q (Classical.not_not.mpr hpl))
  refine x_iconst (v := nI 0) d_Mo_plan_28 (by decide +kernel) ?_
  refine y_puti d_Mo_plan_29 pf_Mo_140 k_model (xBle rfl) rfl rfl rfl ?_
  refine x_aload_n d_Mo_plan_32 rfl ?_
  refine y_getf (v := .int (nI 0)) d_Mo_plan_33 gf_Mo_140 k_model (congrArg (fun q => some (Value.int q)) moThr_0) ?_
  refine z_if_le 41 d_Mo_plan_36 rfl (by omega) (fun hc36 => ?_) (fun q => absurd q (by omega))
  refine x_aload_n d_Mo_plan_41 rfl ?_
  refine x_iload_n d_Mo_plan_42 rfl ?_
  refine w_callV (As := [_]) d_Mo_plan_43 k_Mo_241 k_model rfl rfl rfl (c_Mo_strips (S := moThr S 0) hG hs hfl hf6 ((moThr_F (S := S) (v := nI 0) (k := 20) (by decide)).trans hN) hN6 hZ1) ?_
  refine x_aload_n d_Mo_plan_46 rfl ?_
  refine y_getf (v := .int (nI n)) d_Mo_plan_47 gf_Mo_174 k_model (congrArg (fun q => some (Value.int q)) hn) ?_
  refine z_if_ne 57 d_Mo_plan_50 rfl (by omega) (fun q => absurd q (by omega)) (fun hc50 => ?_)
  refine x_iconst (v := nI 0) d_Mo_plan_53 (by decide +kernel) ?_
  refine x_goto 62 d_Mo_plan_54 rfl ?_
  refine x_ireturn d_Mo_plan_62 rfl rfl ?_
  exact ⟨rfl, rfl⟩
set_option maxRecDepth 100000 in
set_option maxHeartbeats 1000000 in
theorem c_Mo_plan1 {G : xG} {B d : Nat} {S : xS} (hG : xOkG G) {x : Int32} {s fl N n : Nat} {Z1 : xS} (hf : moFind S x 8 = some s) (hpl : sA S 191 s = 0) (hfl : sA S 193 s = nI fl) (hf6 : fl ≤ 6) (hN : sF S 186 20 = nI N) (hN6 : N ≤ 6) (hZ1 : moStrips (moThr S 0) s fl N = some Z1) (hn : sF Z1 186 36 = nI n) (hn40 : n ≤ 40) (hn0 : 0 < n) {Z : xS} (hZ : moGA s n 161 (moA0 Z1 s) 0 1 Z) (hL : moLI Z n N) : EX G m_Mo_plan (d + 6) 0 [(0, .ref (B + 186)), (1, .int x)] [] (mk G B S) (xRet G B (some (.int (nI n))) (moAdF Z s n)) := by
  have hs := moFind_lt hf
  refine x_aload_n d_Mo_plan_0 rfl ?_
  refine x_iload_n d_Mo_plan_1 rfl ?_
  refine w_callV (As := [_]) d_Mo_plan_2 k_Mo_166 k_model rfl rfl rfl (c_Mo_find hG) ?_
  rw [hf, show cI (some s) = nI s from rfl]
  refine s_istore_n (lv' := [(0, _), (1, _), (2, _)]) d_Mo_plan_5 (by decide) rfl ?_
  refine x_aload_n d_Mo_plan_6 rfl ?_
  refine x_iload_n d_Mo_plan_7 rfl ?_
  refine z_if_ge 15 d_Mo_plan_8 rfl (by omega) ?_
  refine x_aload_n d_Mo_plan_15 rfl ?_
  refine y_getf d_Mo_plan_16 gf_Mo_23 k_model rfl ?_
  refine x_iload_n d_Mo_plan_19 rfl ?_
  refine y_zald hG d_Mo_plan_20 k_m_planned _ rfl (by omega) ?_
  refine x_if_eq 28 d_Mo_plan_21 rfl (fun hc21 => ?_) (fun q => absurd q (Classical.not_not.mpr hpl))
  refine x_iconst (v := nI 0) d_Mo_plan_28 (by decide +kernel) ?_
  refine y_puti d_Mo_plan_29 pf_Mo_140 k_model (xBle rfl) rfl rfl rfl ?_
  refine x_aload_n d_Mo_plan_32 rfl ?_
  refine y_getf (v := .int (nI 0)) d_Mo_plan_33 gf_Mo_140 k_model (congrArg (fun q => some (Value.int q)) moThr_0) ?_
  refine z_if_le 41 d_Mo_plan_36 rfl (by omega) (fun hc36 => ?_) (fun q => absurd q (by omega))
  refine x_aload_n d_Mo_plan_41 rfl ?_
  refine x_iload_n d_Mo_plan_42 rfl ?_
  refine w_callV (As := [_]) d_Mo_plan_43 k_Mo_241 k_model rfl rfl rfl (c_Mo_strips (S := moThr S 0) hG hs hfl hf6 ((moThr_F (S := S) (v := nI 0) (k := 20) (by decide)).trans hN) hN6 hZ1) ?_
  refine x_aload_n d_Mo_plan_46 rfl ?_
  refine y_getf (v := .int (nI n)) d_Mo_plan_47 gf_Mo_174 k_model (congrArg (fun q => some (Value.int q)) hn) ?_
  refine z_if_ne 57 d_Mo_plan_50 rfl (by omega) (fun hc50 => ?_) (fun q => absurd q (by omega))
  refine x_aload_n d_Mo_plan_57 rfl ?_
  refine x_iload_n d_Mo_plan_58 rfl ?_
  refine w_callV (As := [_]) d_Mo_plan_59 k_Mo_244 k_model rfl rfl rfl (c_Mo_adopt hG hs hn hn40 hN6 hZ hL) ?_
  refine x_ireturn d_Mo_plan_62 rfl rfl ?_
  exact ⟨rfl, rfl⟩
