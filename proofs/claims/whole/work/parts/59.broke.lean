/-! moves between the reference's counts -/
def moMv (P : xS) (a b x : Nat) : xS := uA (uA P a x (sA P a x - nI 1)) b x (sA P b x + nI 1)
def moSeq (S : xS) (f : Nat → Option Nat) (a b : Nat) : Nat → xS
  | 0 => S
  | k + 1 => match f k with
    | none => moSeq S f a b k
    | some x => moMv (moSeq S f a b k) a b x
theorem moSeq_n {S : xS} {f : Nat → Option Nat} {a b k : Nat} (h : f k = none) : moSeq S f a b (k + 1) = moSeq S f a b k := by simp only [moSeq, h]
theorem moSeq_s {S : xS} {f : Nat → Option Nat} {a b k x : Nat} (h : f k = some x) : moSeq S f a b (k + 1) = moMv (moSeq S f a b k) a b x := by simp only [moSeq, h]
theorem moSeq_K {S : xS} {f : Nat → Option Nat} {a b : Nat} (ha : 208 ≤ a ∧ a < 211) (hb : 208 ≤ b ∧ b < 211) : ∀ k, sK 208 211 S (moSeq S f a b k) ∧ sF (moSeq S f a b k) = sF S
  | 0 => ⟨sK.rf, rfl⟩
  | k + 1 => by
    obtain ⟨h1, h2⟩ := moSeq_K (S := S) (f := f) ha hb k
    cases e : f k with
    | none => rw [moSeq_n e]; exact ⟨h1, h2⟩
    | some x => rw [moSeq_s e]; exact ⟨(h1.A ha).A hb, h2⟩
def moPaF (S : xS) (s : Nat) (k : Nat) : Option Nat := if sA S 196 (160 * s + k) = nI 2 then some (sA S 201 (160 * s + k)).toNatClampNeg else none
def moCanC (S : xS) (s : Nat) : Nat := if sA S 191 s = 0 then 2 else if ¬ sA S 192 s = 0 then 2 else 0
def moCancel (S : xS) (nc : Nat → Nat) (x : Int32) : Int32 × xS := match moFind S x 8 with
  | none => (0, moThr S 1)
  | some s => moP (moCanC S s) (nI (cntN (moPaF S s) (nc s))) S (uA (moSeq (moThr S 0) (moPaF S s) 209 208 (nc s)) 191 s (nI 0))
set_option maxRecDepth 100000 in
set_option maxHeartbeats 1000000 in
theorem c_Mo_cancel {G : xG} {B d : Nat} {S : xS} (hG : xOkG G) {x : Int32} {nc : Nat → Nat} (hcnt : ∀ s, s < 8 → sA S 195 s = nI (nc s) ∧ nc s ≤ 160) {N : Nat} (hN6 : N ≤ 6) (hmk : ∀ s i, s < 8 → i < nc s → sA S 196 (160 * s + i) = nI 2 → ∃ x, x < N ∧ sA S 201 (160 * s + i) = nI x) : EX G m_Mo_cancel (d + 2) 0 [(0, .ref (B + 186)), (1, .int x)] [] (mk G B S) ((moRet G B (moCancel S nc x))) := by
  refine x_aload_n d_Mo_cancel_0 rfl ?_
  refine x_iload_n d_Mo_cancel_1 rfl ?_
  rcases hf : moFind S x 8 with _ | s
  · skip
    refine w_callV (As := [_]) d_Mo_cancel_2 k_Mo_166 k_model rfl rfl rfl (c_Mo_find hG) ?_
    rw [hf, show cI none = -1 from rfl]
    refine s_istore_n (lv' := [(0, _), (1, _), (2, _)]) d_Mo_cancel_5 (by decide) rfl ?_
    refine x_aload_n d_Mo_cancel_6 rfl ?_
    refine x_iload_n d_Mo_cancel_7 rfl ?_
    refine x_if_ge 15 d_Mo_cancel_8 rfl (fun q => absurd q (by decide +kernel)) (fun hc8 => ?_)
    refine x_iconst (v := nI 1) d_Mo_cancel_11 (by decide +kernel) ?_
    refine x_goto 38 d_Mo_cancel_12 rfl ?_
    refine y_puti d_Mo_cancel_38 pf_Mo_140 k_model (xBle rfl) rfl rfl rfl ?_
    refine x_aload_n d_Mo_cancel_41 rfl ?_
    refine y_getf (v := .int (nI 1)) d_Mo_cancel_42 gf_Mo_140 k_model (congrArg (fun q => some (Value.int q)) moThr_0) ?_
    refine z_if_le 50 d_Mo_cancel_45 rfl (by omega) (fun q => absurd q (by omega)) (fun hc45 => ?_)
    refine x_iconst (v := nI 0) d_Mo_cancel_48 (by decide +kernel) ?_
    refine x_ireturn d_Mo_cancel_49 rfl rfl ?_
    simp only [moCancel, hf]
    exact ⟨rfl, rfl⟩
  · skip
    refine w_callV (As := [_]) d_Mo_cancel_2 k_Mo_166 k_model rfl rfl rfl (c_Mo_find hG) ?_
    rw [hf, show cI (some s) = nI s from rfl]
    have hs := moFind_lt hf
    refine s_istore_n (lv' := [(0, _), (1, _), (2, _)]) d_Mo_cancel_5 (by decide) rfl ?_
    refine x_aload_n d_Mo_cancel_6 rfl ?_
    refine x_join 38 (.int (nI (moCanC S s))) ?_ (fun J7 => ?_)
    · skip
      refine y_puti d_Mo_cancel_38 pf_Mo_140 k_model (xBle rfl) rfl rfl rfl ?_
      refine x_aload_n d_Mo_cancel_41 rfl ?_
      refine y_getf (v := .int (nI (moCanC S s))) d_Mo_cancel_42 gf_Mo_140 k_model (congrArg (fun q => some (Value.int q)) moThr_0) ?_
      refine z_if_le 50 d_Mo_cancel_45 rfl (by unfold moCanC; split <;> (try split) <;> omega) (fun hc45 => ?_) (fun hc45 => ?_)
      · skip
        skip
        rw [hc45]
        have hcs := hcnt s hs
        refine x_iconst (v := nI 0) d_Mo_cancel_50 (by decide +kernel) ?_
        refine s_istore_n (lv' := [(0, _), (1, _), (2, _), (3, _)]) d_Mo_cancel_51 (by decide) rfl ?_
        refine x_iconst (v := nI 0) d_Mo_cancel_52 (by decide +kernel) ?_
        refine s_istore (lv' := [(0, _), (1, _), (2, _), (3, _), (4, _)]) d_Mo_cancel_53 (by decide) rfl ?_
        have L55 : ∀ i, i ≤ (nc s) →  EX G m_Mo_cancel (d + 2) 55 [(0, .ref (B + 186)), (1, .int x), (2, .int (nI s)), (3, .int (nI (cntN (moPaF S s) i))), (4, .int (nI i))] [] (mk G B (moSeq (moThr S 0) (moPaF S s) 209 208 i)) (moRet G B (moCancel S nc x)) := by
          refine x_down ((nc s)) ?_ ?_
          · skip
            have hL := moSeq_K (S := moThr S 0) (f := moPaF S s) (a := 209) (b := 208) (by decide) (by decide) (nc s)
            have hA : ∀ q, (q < 208 ∨ 211 ≤ q) → sA (moSeq (moThr S 0) (moPaF S s) 209 208 (nc s)) q = sA S q := fun q hq => (hL.1.1 q hq).2.1
            refine x_iload d_Mo_cancel_55 rfl ?_
            refine x_aload_n d_Mo_cancel_57 rfl ?_
            refine y_getf d_Mo_cancel_58 gf_Mo_35 k_model rfl ?_
            refine x_iload_n d_Mo_cancel_61 rfl ?_
            refine y_iald hG d_Mo_cancel_62 k_m_nodeCounts _ rfl (by omega) ?_
            rw [hA 195 (by decide), hcs.1]
            refine z_icmp_ge 128 d_Mo_cancel_63 rfl (by omega) (by omega) (fun hc63 => ?_) (fun q => absurd q (by omega))
            refine x_aload_n d_Mo_cancel_128 rfl ?_
            refine y_getf d_Mo_cancel_129 gf_Mo_23 k_model rfl ?_
            refine x_iload_n d_Mo_cancel_132 rfl ?_
            refine x_iconst (v := nI 0) d_Mo_cancel_133 (by decide +kernel) ?_
            refine y_zast hG d_Mo_cancel_134 k_m_planned _ rfl (by omega) (by decide +kernel) ?_
            refine x_iload_n d_Mo_cancel_135 rfl ?_
            refine x_ireturn d_Mo_cancel_136 rfl rfl ?_
            simp only [moCancel, hf]
            unfold moP
            rw [if_pos hc45]
            exact ⟨rfl, rfl⟩
          · intro i hi ih
            have hL := moSeq_K (S := moThr S 0) (f := moPaF S s) (a := 209) (b := 208) (by decide) (by decide) i
            have hA : ∀ q, (q < 208 ∨ 211 ≤ q) → sA (moSeq (moThr S 0) (moPaF S s) 209 208 i) q = sA S q := fun q hq => (hL.1.1 q hq).2.1
            refine x_iload d_Mo_cancel_55 rfl ?_
            refine x_aload_n d_Mo_cancel_57 rfl ?_
            refine y_getf d_Mo_cancel_58 gf_Mo_35 k_model rfl ?_
            refine x_iload_n d_Mo_cancel_61 rfl ?_
            refine y_iald hG d_Mo_cancel_62 k_m_nodeCounts _ rfl (by omega) ?_
            rw [hA 195 (by decide), hcs.1]
            refine z_icmp_ge 128 d_Mo_cancel_63 rfl (by omega) (by omega) (fun q => absurd q (by omega)) (fun hc63 => ?_)
            refine x_sipush (v := nI 160) d_Mo_cancel_66 (by decide +kernel) ?_
            refine x_iload_n d_Mo_cancel_69 rfl ?_
            refine x_imul d_Mo_cancel_70 ?_
            rw [nI_mul]
            refine x_iload d_Mo_cancel_71 rfl ?_
            refine x_iadd d_Mo_cancel_73 ?_
            rw [nI_add]
            refine s_istore (lv' := [(0, _), (1, _), (2, _), (3, _), (4, _), (5, _)]) d_Mo_cancel_74 (by decide) rfl ?_
            refine x_aload_n d_Mo_cancel_76 rfl ?_
            refine y_getf d_Mo_cancel_77 gf_Mo_38 k_model rfl ?_
            refine x_iload d_Mo_cancel_80 rfl ?_
            refine y_iald hG d_Mo_cancel_82 k_m_kinds _ rfl (by omega) ?_
            rw [hA 196 (by decide)]
            refine x_iconst (v := nI 2) d_Mo_cancel_83 (by decide +kernel) ?_
            refine x_icmp_ne 122 d_Mo_cancel_84 rfl (fun hc84 => ?_) (fun hc84 => ?_)
            · skip
              have hpf : moPaF S s i = none := if_neg hc84
              rw [moSeq_n hpf, show cntN (moPaF S s) (i + 1) = cntN (moPaF S s) i by simp only [cntN, hpf]] at ih
              refine s_iinc (lv' := [(0, _), (1, _), (2, _), (3, _), (4, _), (5, _)]) d_Mo_cancel_122 rfl (xinc _) (by decide) rfl ?_
              refine x_goto 55 d_Mo_cancel_125 rfl ?_
              refine x_lv (lv' := [(0, _), (1, _), (2, _), (3, _), (4, _)]) [0, 1, 2, 3, 4] rfl ?_
              exact ih
            · skip
              obtain ⟨y, hy, ey⟩ := hmk s i hs hi hc84
              have hpf : moPaF S s i = some y := by unfold moPaF; rw [if_pos hc84, ey, nI_clamp (by omega)]
              rw [moSeq_s hpf, show cntN (moPaF S s) (i + 1) = cntN (moPaF S s) i + 1 by simp only [cntN, hpf]] at ih
              refine x_aload_n d_Mo_cancel_87 rfl ?_
              refine y_getf d_Mo_cancel_88 gf_Mo_77 k_model rfl ?_
              refine x_aload_n d_Mo_cancel_91 rfl ?_
              refine y_getf d_Mo_cancel_92 gf_Mo_53 k_model rfl ?_
              refine x_iload d_Mo_cancel_95 rfl ?_
              refine y_iald hG d_Mo_cancel_97 k_m_cuts _ rfl (by omega) ?_
              rw [hA 201 (by decide), ey]
              refine x_dup2 d_Mo_cancel_98 rfl rfl ?_
              refine y_iald hG d_Mo_cancel_99 k_m_coming _ rfl (by omega) ?_
              refine x_iconst (v := nI 1) d_Mo_cancel_100 (by decide +kernel) ?_
              refine x_isub d_Mo_cancel_101 ?_
              refine y_iast hG d_Mo_cancel_102 k_m_coming _ rfl (by omega) ?_
              refine x_aload_n d_Mo_cancel_103 rfl ?_
              refine y_getf d_Mo_cancel_104 gf_Mo_74 k_model rfl ?_
              refine x_aload_n d_Mo_cancel_107 rfl ?_
              refine y_getf d_Mo_cancel_108 gf_Mo_53 k_model rfl ?_
              refine x_iload d_Mo_cancel_111 rfl ?_
              refine y_iald hG d_Mo_cancel_113 k_m_cuts _ rfl (by omega) ?_
              rw [sA_uAn _ _ _ (by decide), hA 201 (by decide), ey]
              refine x_dup2 d_Mo_cancel_114 rfl rfl ?_
              refine y_iald hG d_Mo_cancel_115 k_m_open _ rfl (by omega) ?_
              rw [sA_uAn _ _ _ (by decide)]
              refine x_iconst (v := nI 1) d_Mo_cancel_116 (by decide +kernel) ?_
              refine x_iadd d_Mo_cancel_117 ?_
              refine y_iast hG d_Mo_cancel_118 k_m_open _ rfl (by omega) ?_
              refine s_iinc (lv' := [(0, _), (1, _), (2, _), (3, _), (4, _), (5, _)]) d_Mo_cancel_119 rfl (xinc _) (by decide) rfl ?_
              refine s_iinc (lv' := [(0, _), (1, _), (2, _), (3, _), (4, _), (5, _)]) d_Mo_cancel_122 rfl (xinc _) (by decide) rfl ?_
              refine x_goto 55 d_Mo_cancel_125 rfl ?_
              refine x_lv (lv' := [(0, _), (1, _), (2, _), (3, _), (4, _)]) [0, 1, 2, 3, 4] rfl ?_
              exact ih
        refine x_lv (lv' := [(0, _), (1, _), (2, _), (3, _), (4, _)]) [0, 1, 2, 3, 4] rfl ?_
        exact L55 0 (Nat.zero_le _)
      · skip
        skip
        refine x_iconst (v := nI 0) d_Mo_cancel_48 (by decide +kernel) ?_
        refine x_ireturn d_Mo_cancel_49 rfl rfl ?_
        simp only [moCancel, hf]
        unfold moP
        rw [if_neg (Nat.pos_iff_ne_zero.mp hc45)]
        exact ⟨rfl, rfl⟩
    · skip
      refine x_iload_n d_Mo_cancel_7 rfl ?_
      refine z_if_ge 15 d_Mo_cancel_8 rfl (by omega) ?_
      refine x_aload_n d_Mo_cancel_15 rfl ?_
      refine y_getf d_Mo_cancel_16 gf_Mo_23 k_model rfl ?_
      refine x_iload_n d_Mo_cancel_19 rfl ?_
      refine y_zald hG d_Mo_cancel_20 k_m_planned _ rfl (by omega) ?_
      refine x_if_eq 33 d_Mo_cancel_21 rfl (fun hc21 => ?_) (fun hc21 => ?_)
      · skip
        skip
        refine x_iconst (v := nI 2) d_Mo_cancel_33 (by decide +kernel) ?_
        refine x_goto 38 d_Mo_cancel_34 rfl ?_
        refine J7 _ ?_
        unfold moCanC
        first
          | (rw [if_pos hc21]; done)
          | (rw [if_neg hc21, if_neg (Classical.not_not.mpr hc30)]; done)
          | (rw [if_neg hc21, if_pos hc30]; done)
      · skip
        skip
        refine x_aload_n d_Mo_cancel_24 rfl ?_
        refine y_getf d_Mo_cancel_25 gf_Mo_26 k_model rfl ?_
        refine x_iload_n d_Mo_cancel_28 rfl ?_
        refine y_zald hG d_Mo_cancel_29 k_m_scored _ rfl (by omega) ?_
        refine x_if_eq 37 d_Mo_cancel_30 rfl (fun hc30 => ?_) (fun hc30 => ?_)
        · skip
          skip
          refine x_iconst (v := nI 0) d_Mo_cancel_37 (by decide +kernel) ?_
          refine J7 _ ?_
          unfold moCanC
          first
            | (rw [if_pos hc21]; done)
            | (rw [if_neg hc21, if_neg (Classical.not_not.mpr hc30)]; done)
            | (rw [if_neg hc21, if_pos hc30]; done)
        · skip
          skip
          refine x_iconst (v := nI 2) d_Mo_cancel_33 (by decide +kernel) ?_
          refine x_goto 38 d_Mo_cancel_34 rfl ?_
          refine J7 _ ?_
          unfold moCanC
          first
            | (rw [if_pos hc21]; done)
            | (rw [if_neg hc21, if_neg (Classical.not_not.mpr hc30)]; done)
            | (rw [if_neg hc21, if_pos hc30]; done)
/-! what breaks -/
def moBrIn (S : xS) (m n : Nat) : Bool := !decide (sA S 197 m < sA S 197 n) && (!decide (sA S 198 m < sA S 198 n) && (!decide (sA S 197 n + sA S 199 n < sA S 197 m + sA S 199 m) && !decide (sA S 198 n + sA S 200 n < sA S 198 m + sA S 200 m)))
def moBrL (S : xS) (s n i : Nat) : Nat → xS × Nat
  | 0 => (S, 0)
  | k + 1 => if moBrIn S (160 * s + (i + k)) n = true then (if sA S 196 (160 * s + (i + k)) = nI 2 then (moMv (uA (moBrL S s n i k).1 204 (160 * s + (i + k)) (nI 3)) 209 208 (sA S 201 (160 * s + (i + k))).toNatClampNeg, (moBrL S s n i k).2 + 1) else (uA (moBrL S s n i k).1 204 (160 * s + (i + k)) (nI 3), (moBrL S s n i k).2)) else moBrL S s n i k
theorem moBrL_K {S : xS} {s n i : Nat} : ∀ k, sK 204 211 S (moBrL S s n i k).1 ∧ sF (moBrL S s n i k).1 = sF S ∧ (moBrL S s n i k).2 ≤ k ∧ (∀ q, q ≠ 204 → (q < 208 ∨ 211 ≤ q) → sA (moBrL S s n i k).1 q = sA S q)
  | 0 => ⟨sK.rf, rfl, Nat.le_refl _, fun _ _ _ => rfl⟩
  | k + 1 => by
    obtain ⟨h1, h2, h3, h4⟩ := moBrL_K (S := S) (s := s) (n := n) (i := i) k
    simp only [moBrL]
    split
    · split
      · refine ⟨((h1.A (by decide)).A (by decide)).A (by decide), h2, by show _ + 1 ≤ k + 1; omega, fun q hq hq2 => ?_⟩
        show sA (moMv _ 209 208 _) q = _
        unfold moMv
        rw [sA_uAn _ _ _ (by omega), sA_uAn _ _ _ (by omega), sA_uAn _ _ _ hq]
        exact h4 q hq hq2
      · refine ⟨h1.A (by decide), h2, by show _ ≤ k + 1; omega, fun q hq hq2 => ?_⟩
        show sA (uA _ 204 _ _) q = _
        rw [sA_uAn _ _ _ hq]
        exact h4 q hq hq2
    · exact ⟨h1, h2, by omega, h4⟩
def moBroC (S : xS) (s : Nat) (y : Int32) : Nat := if sA S 191 s = 0 then 2 else if y < 0 then 3 else if ¬ y < sA S 195 s then 3 else if ¬ sA S 204 (160 * s + y.toNatClampNeg) = nI 1 then 2 else 0
def moBr0 (S : xS) (n : Nat) : xS := uJ (moThr S 0) 186 34 (sJ S 186 34 + moAr S n)
def moBroke (S : xS) (nc : Nat → Nat) (x y : Int32) : Int32 × xS := match moFind S x 8 with
  | none => (0, moThr S 1)
  | some s => moP (moBroC S s y) (nI (moBrL (moBr0 S (160 * s + y.toNatClampNeg)) s (160 * s + y.toNatClampNeg) y.toNatClampNeg (nc s - y.toNatClampNeg)).2) S
      (uA (moBrL (moBr0 S (160 * s + y.toNatClampNeg)) s (160 * s + y.toNatClampNeg) y.toNatClampNeg (nc s - y.toNatClampNeg)).1 187 s (bI (moLv (moBrL (moBr0 S (160 * s + y.toNatClampNeg)) s (160 * s + y.toNatClampNeg) y.toNatClampNeg (nc s - y.toNatClampNeg)).1 s (nc s))))
set_option maxRecDepth 100000 in
set_option maxHeartbeats 1000000 in
theorem c_Mo_brokeT {G : xG} {B d : Nat} {S : xS} (hG : xOkG G) {x y : Int32} {nc : Nat → Nat} (hf : moFind S x 8 = none) : EX G m_Mo_broke (d + 2) 0 [(0, .ref (B + 186)), (1, .int x), (2, .int y)] [] (mk G B S) ((moRet G B (moBroke S nc x y))) := by
  refine x_aload_n d_Mo_broke_0 rfl ?_
  refine x_iload_n d_Mo_broke_1 rfl ?_
  refine w_callV (As := [_]) d_Mo_broke_2 k_Mo_166 k_model rfl rfl rfl (c_Mo_find hG) ?_
  rw [hf, show cI none = -1 from rfl]
  refine s_istore_n (lv' := [(0, _), (1, _), (2, _), (3, _)]) d_Mo_broke_5 (by decide) rfl ?_
  refine x_aload_n d_Mo_broke_6 rfl ?_
  refine x_iload_n d_Mo_broke_7 rfl ?_
  refine x_if_ge 15 d_Mo_broke_8 rfl (fun q => absurd q (by decide +kernel)) (fun hc8 => ?_)
  refine x_iconst (v := nI 1) d_Mo_broke_11 (by decide +kernel) ?_
  refine x_goto 67 d_Mo_broke_12 rfl ?_
  refine y_puti d_Mo_broke_67 pf_Mo_140 k_model (xBle rfl) rfl rfl rfl ?_
  refine x_aload_n d_Mo_broke_70 rfl ?_
  refine y_getf (v := .int (nI 1)) d_Mo_broke_71 gf_Mo_140 k_model (congrArg (fun q => some (Value.int q)) moThr_0) ?_
  refine z_if_le 79 d_Mo_broke_74 rfl (by omega) (fun q => absurd q (by omega)) (fun hc74 => ?_)
  refine x_iconst (v := nI 0) d_Mo_broke_77 (by decide +kernel) ?_
  refine x_ireturn d_Mo_broke_78 rfl rfl ?_
  simp only [moBroke, hf]
  exact ⟨rfl, rfl⟩
set_option maxRecDepth 100000 in
set_option maxHeartbeats 1000000 in
theorem c_Mo_brokeO {G : xG} {B d : Nat} {S : xS} (hG : xOkG G) {x y : Int32} {nc : Nat → Nat} {s : Nat} (hf : moFind S x 8 = some s) (hcnt : ∀ s, s < 8 → sA S 195 s = nI (nc s) ∧ nc s ≤ 160) (hz : inB (nc s) y = false) : EX G m_Mo_broke (d + 2) 0 [(0, .ref (B + 186)), (1, .int x), (2, .int y)] [] (mk G B S) ((moRet G B (moBroke S nc x y))) := by
  have hs := moFind_lt hf
  refine x_aload_n d_Mo_broke_0 rfl ?_
  refine x_iload_n d_Mo_broke_1 rfl ?_
  refine w_callV (As := [_]) d_Mo_broke_2 k_Mo_166 k_model rfl rfl rfl (c_Mo_find hG) ?_
  rw [hf, show cI (some s) = nI s from rfl]
  refine s_istore_n (lv' := [(0, _), (1, _), (2, _), (3, _)]) d_Mo_broke_5 (by decide) rfl ?_
  refine x_aload_n d_Mo_broke_6 rfl ?_
  refine x_join 67 (.int (nI (moBroC S s y))) ?_ (fun J7 => ?_)
  · skip
    refine y_puti d_Mo_broke_67 pf_Mo_140 k_model (xBle rfl) rfl rfl rfl ?_
    refine x_aload_n d_Mo_broke_70 rfl ?_
    refine y_getf (v := .int (nI (moBroC S s y))) d_Mo_broke_71 gf_Mo_140 k_model (congrArg (fun q => some (Value.int q)) moThr_0) ?_
    refine z_if_le 79 d_Mo_broke_74 rfl (by unfold moBroC; split <;> (try split) <;> (try split) <;> (try split) <;> omega) (fun hc74 => ?_) (fun hc74 => ?_)
    · skip
      exfalso
      unfold moBroC at hc74
      have g : y < 0 ∨ ¬ y < sA S 195 s := by
        by_cases q1 : y < 0
        · exact Or.inl q1
        · right
          intro q2
          rw [(hcnt s hs).1] at q2
          unfold inB at hz
          rw [decide_eq_true (Int32.not_lt.mp q1), decide_eq_true q2] at hz
          cases hz
      split at hc74
      · omega
      · split at hc74
        · omega
        · rename_i g2
          rw [if_pos (g.resolve_left g2)] at hc74
          omega
      skip
    · skip
      skip
      refine x_iconst (v := nI 0) d_Mo_broke_77 (by decide +kernel) ?_
      refine x_ireturn d_Mo_broke_78 rfl rfl ?_
      simp only [moBroke, hf]
      unfold moP
      rw [if_neg (Nat.pos_iff_ne_zero.mp hc74)]
      exact ⟨rfl, rfl⟩
  · skip
    refine x_iload_n d_Mo_broke_7 rfl ?_
    refine z_if_ge 15 d_Mo_broke_8 rfl (by omega) ?_
    refine x_aload_n d_Mo_broke_15 rfl ?_
    refine y_getf d_Mo_broke_16 gf_Mo_23 k_model rfl ?_
    refine x_iload_n d_Mo_broke_19 rfl ?_
    refine y_zald hG d_Mo_broke_20 k_m_planned _ rfl (by omega) ?_
    refine x_if_ne 28 d_Mo_broke_21 rfl (fun hc21 => ?_) (fun hc21 => ?_)
    · skip
      skip
      refine x_iload_n d_Mo_broke_28 rfl ?_
      refine x_if_lt 42 d_Mo_broke_29 rfl (fun hc29 => ?_) (fun hc29 => ?_)
      · skip
        skip
        refine x_iconst (v := nI 3) d_Mo_broke_42 (by decide +kernel) ?_
        refine x_goto 67 d_Mo_broke_43 rfl ?_
        refine J7 _ ?_
        unfold moBroC
        first
          | (rw [if_pos hc21]; done)
          | (rw [if_neg hc21, if_pos hc29]; done)
          | (rw [if_neg hc21, if_neg hc29, if_pos hc39]; done)
      · skip
        skip
        refine x_iload_n d_Mo_broke_32 rfl ?_
        refine x_aload_n d_Mo_broke_33 rfl ?_
        refine y_getf d_Mo_broke_34 gf_Mo_35 k_model rfl ?_
        refine x_iload_n d_Mo_broke_37 rfl ?_
        refine y_iald hG d_Mo_broke_38 k_m_nodeCounts _ rfl (by omega) ?_
        refine x_icmp_lt 46 d_Mo_broke_39 rfl (fun hc39 => ?_) (fun hc39 => ?_)
        · skip
          exfalso
          rw [(hcnt s hs).1] at hc39
          unfold inB at hz
          rw [decide_eq_true (Int32.not_lt.mp hc29), decide_eq_true hc39] at hz
          cases hz
          skip
        · skip
          skip
          refine x_iconst (v := nI 3) d_Mo_broke_42 (by decide +kernel) ?_
          refine x_goto 67 d_Mo_broke_43 rfl ?_
          refine J7 _ ?_
          unfold moBroC
          first
            | (rw [if_pos hc21]; done)
            | (rw [if_neg hc21, if_pos hc29]; done)
            | (rw [if_neg hc21, if_neg hc29, if_pos hc39]; done)
    · skip
      skip
      refine x_iconst (v := nI 2) d_Mo_broke_24 (by decide +kernel) ?_
      refine x_goto 67 d_Mo_broke_25 rfl ?_
      refine J7 _ ?_
      unfold moBroC
      first
        | (rw [if_pos hc21]; done)
        | (rw [if_neg hc21, if_pos hc29]; done)
        | (rw [if_neg hc21, if_neg hc29, if_pos hc39]; done)
set_option maxRecDepth 100000 in
set_option maxHeartbeats 1000000 in
theorem c_Mo_broke1 {G : xG} {B d : Nat} {S : xS} (hG : xOkG G) {x : Int32} {nc : Nat → Nat} {s i : Nat} (hf : moFind S x 8 = some s) (hcnt : ∀ s, s < 8 → sA S 195 s = nI (nc s) ∧ nc s ≤ 160) {N : Nat} (hN6 : N ≤ 6) (hmk : ∀ s i, s < 8 → i < nc s → sA S 196 (160 * s + i) = nI 2 → ∃ x, x < N ∧ sA S 201 (160 * s + i) = nI x) (hi : i < nc s) : EX G m_Mo_broke (d + 2) 0 [(0, .ref (B + 186)), (1, .int x), (2, .int (nI i))] [] (mk G B S) ((moRet G B (moBroke S nc x (nI i)))) := by
  have hs := moFind_lt hf
  have hcs := hcnt s hs
  have hlt : nI i < sA S 195 s := by rw [hcs.1]; exact nI_lt hi (by omega)
  refine x_aload_n d_Mo_broke_0 rfl ?_
  refine x_iload_n d_Mo_broke_1 rfl ?_
  refine w_callV (As := [_]) d_Mo_broke_2 k_Mo_166 k_model rfl rfl rfl (c_Mo_find hG) ?_
  rw [hf, show cI (some s) = nI s from rfl]
  refine s_istore_n (lv' := [(0, _), (1, _), (2, _), (3, _)]) d_Mo_broke_5 (by decide) rfl ?_
  refine x_aload_n d_Mo_broke_6 rfl ?_
  refine x_join 67 (.int (nI (moBroC S s (nI i)))) ?_ (fun J7 => ?_)
  · skip
    refine y_puti d_Mo_broke_67 pf_Mo_140 k_model (xBle rfl) rfl rfl rfl ?_
    refine x_aload_n d_Mo_broke_70 rfl ?_
    refine y_getf (v := .int (nI (moBroC S s (nI i)))) d_Mo_broke_71 gf_Mo_140 k_model (congrArg (fun q => some (Value.int q)) moThr_0) ?_
    refine z_if_le 79 d_Mo_broke_74 rfl (by unfold moBroC; split <;> (try split) <;> (try split) <;> (try split) <;> omega) (fun hc74 => ?_) (fun hc74 => ?_)
    · skip
      skip
      rw [hc74]
      refine x_sipush (v := nI 160) d_Mo_broke_79 (by decide +kernel) ?_
      refine x_iload_n d_Mo_broke_82 rfl ?_
      refine x_imul d_Mo_broke_83 ?_
      rw [nI_mul]
      refine x_iload_n d_Mo_broke_84 rfl ?_
      refine x_iadd d_Mo_broke_85 ?_
      rw [nI_add]
      refine s_istore (lv' := [(0, _), (1, _), (2, _), (3, _), (4, _)]) d_Mo_broke_86 (by decide) rfl ?_
      refine x_aload_n d_Mo_broke_88 rfl ?_
      refine x_dup d_Mo_broke_89 rfl ?_
      refine y_getf d_Mo_broke_90 gf_Mo_282 k_model rfl ?_
      refine x_aload_n d_Mo_broke_93 rfl ?_
      refine y_getf d_Mo_broke_94 gf_Mo_47 k_model rfl ?_
      refine x_iload d_Mo_broke_97 rfl ?_
      refine y_iald hG d_Mo_broke_99 k_m_ws _ rfl (by omega) ?_
      refine x_i2l d_Mo_broke_100 ?_
      refine x_aload_n d_Mo_broke_101 rfl ?_
      refine y_getf d_Mo_broke_102 gf_Mo_50 k_model rfl ?_
      refine x_iload d_Mo_broke_105 rfl ?_
      refine y_iald hG d_Mo_broke_107 k_m_hs _ rfl (by omega) ?_
      refine x_i2l d_Mo_broke_108 ?_
      refine x_lmul d_Mo_broke_109 ?_
      refine x_ladd d_Mo_broke_110 ?_
      refine y_putl d_Mo_broke_111 pf_Mo_282 k_model (xBle rfl) rfl ?_
      refine x_iconst (v := nI 0) d_Mo_broke_114 (by decide +kernel) ?_
      refine s_istore (lv' := [(0, _), (1, _), (2, _), (3, _), (4, _), (5, _)]) d_Mo_broke_115 (by decide) rfl ?_
      refine x_iconst (v := nI 1) d_Mo_broke_117 (by decide +kernel) ?_
      refine s_istore (lv' := [(0, _), (1, _), (2, _), (3, _), (4, _), (5, _), (6, _)]) d_Mo_broke_118 (by decide) rfl ?_
      refine x_iload_n d_Mo_broke_120 rfl ?_
      refine s_istore (lv' := [(0, _), (1, _), (2, _), (3, _), (4, _), (5, _), (6, _), (7, _)]) d_Mo_broke_121 (by decide) rfl ?_
      have L123 : ∀ k, k ≤ nc s - i →  EX G m_Mo_broke (d + 2) 123 [(0, .ref (B + 186)), (1, .int x), (2, .int (nI i)), (3, .int (nI s)), (4, .int (nI (160 * s + i))), (5, .int (nI (moBrL (moBr0 S (160 * s + i)) s (160 * s + i) i k).2)), (7, .int (nI (i + k)))] [] (mk G B (moBrL (moBr0 S (160 * s + i)) s (160 * s + i) i k).1) (moRet G B (moBroke S nc x (nI i))) := by
        refine x_down (nc s - i) ?_ ?_
        · skip
          have hL := moBrL_K (S := (moBr0 S (160 * s + i))) (s := s) (n := (160 * s + i)) (i := i) (nc s - i)
          have hA : ∀ q, q ≠ 204 → (q < 208 ∨ 211 ≤ q) → sA (moBrL (moBr0 S (160 * s + i)) s (160 * s + i) i (nc s - i)).1 q = sA S q := hL.2.2.2
          refine x_iload d_Mo_broke_123 rfl ?_
          refine x_aload_n d_Mo_broke_125 rfl ?_
          refine y_getf d_Mo_broke_126 gf_Mo_35 k_model rfl ?_
          refine x_iload_n d_Mo_broke_129 rfl ?_
          refine y_iald hG d_Mo_broke_130 k_m_nodeCounts _ rfl (by omega) ?_
          rw [hA 195 (by decide) (by decide), (hcnt s hs).1]
          refine z_icmp_ge 335 d_Mo_broke_131 rfl (by omega) (by omega) (fun hc131 => ?_) (fun q => absurd q (by omega))
          refine x_aload_n d_Mo_broke_335 rfl ?_
          refine x_iload_n d_Mo_broke_336 rfl ?_
          refine w_callV (As := [_]) d_Mo_broke_337 k_Mo_279 k_model rfl rfl rfl (c_Mo_leave hG hs (by rw [hA 195 (by decide) (by decide)]; exact (hcnt s hs).1) (hcnt s hs).2) ?_
          refine x_iload d_Mo_broke_340 rfl ?_
          refine x_ireturn d_Mo_broke_342 rfl rfl ?_
          simp only [moBroke, hf]
          unfold moP
          rw [if_pos hc74, nI_clamp (show i < 2 ^ 31 by omega)]
          exact ⟨rfl, rfl⟩
        · intro k hk ih
          have hL := moBrL_K (S := (moBr0 S (160 * s + i))) (s := s) (n := (160 * s + i)) (i := i) k
          have hA : ∀ q, q ≠ 204 → (q < 208 ∨ 211 ≤ q) → sA (moBrL (moBr0 S (160 * s + i)) s (160 * s + i) i k).1 q = sA S q := hL.2.2.2
          have hm2 := hL.2.2.1
          refine x_iload d_Mo_broke_123 rfl ?_
          refine x_aload_n d_Mo_broke_125 rfl ?_
          refine y_getf d_Mo_broke_126 gf_Mo_35 k_model rfl ?_
          refine x_iload_n d_Mo_broke_129 rfl ?_
          refine y_iald hG d_Mo_broke_130 k_m_nodeCounts _ rfl (by omega) ?_
          rw [hA 195 (by decide) (by decide), (hcnt s hs).1]
          refine z_icmp_ge 335 d_Mo_broke_131 rfl (by omega) (by omega) (fun q => absurd q (by omega)) (fun hc131 => ?_)
          refine x_sipush (v := nI 160) d_Mo_broke_134 (by decide +kernel) ?_
          refine x_iload_n d_Mo_broke_137 rfl ?_
          refine x_imul d_Mo_broke_138 ?_
          rw [nI_mul]
          refine x_iload d_Mo_broke_139 rfl ?_
          refine x_iadd d_Mo_broke_141 ?_
          rw [nI_add]
          refine s_istore (lv' := [(0, _), (1, _), (2, _), (3, _), (4, _), (5, _), (7, _), (8, _)]) d_Mo_broke_142 (by decide) rfl ?_
          refine x_join 249 (.int (bI (moBrIn S (160 * s + (i + k)) (160 * s + i)))) ?_ (fun J144 => ?_)
          · skip
            refine s_istore (lv' := [(0, _), (1, _), (2, _), (3, _), (4, _), (5, _), (6, _), (7, _), (8, _)]) d_Mo_broke_249 (by decide) rfl ?_
            refine x_iload d_Mo_broke_251 rfl ?_
            refine z_bif_eq 329 d_Mo_broke_253 rfl (fun hc253 => ?_) (fun hc253 => ?_)
            · skip
              rw [show (moBrL (moBr0 S (160 * s + i)) s (160 * s + i) i (k + 1)) = (moBrL (moBr0 S (160 * s + i)) s (160 * s + i) i k) from if_neg (fun q => Bool.noConfusion (hc253.symm.trans q))] at ih
              refine s_iinc (lv' := [(0, _), (1, _), (2, _), (3, _), (4, _), (5, _), (6, _), (7, _), (8, _)]) d_Mo_broke_329 rfl (xinc _) (by decide) rfl ?_
              refine x_goto 123 d_Mo_broke_332 rfl ?_
              refine x_lv (lv' := [(0, _), (1, _), (2, _), (3, _), (4, _), (5, _), (7, _)]) [0, 1, 2, 3, 4, 5, 7] rfl ?_
              exact ih
            · skip
              rw [show (moBrL (moBr0 S (160 * s + i)) s (160 * s + i) i (k + 1)) = (if sA S 196 (160 * s + (i + k)) = nI 2 then _ else _) from if_pos hc253] at ih
              refine x_aload_n d_Mo_broke_256 rfl ?_
              refine y_getf d_Mo_broke_257 gf_Mo_62 k_model rfl ?_
              refine x_iload d_Mo_broke_260 rfl ?_
              refine x_iconst (v := nI 3) d_Mo_broke_262 (by decide +kernel) ?_
              refine y_iast hG d_Mo_broke_263 k_m_states _ rfl (by omega) ?_
              refine x_aload_n d_Mo_broke_264 rfl ?_
              refine y_getf d_Mo_broke_265 gf_Mo_38 k_model rfl ?_
              refine x_iload d_Mo_broke_268 rfl ?_
              refine y_iald hG d_Mo_broke_270 k_m_kinds _ rfl (by omega) ?_
              rw [sA_uAn _ _ _ (by decide), hA 196 (by decide) (by decide)]
              refine x_iconst (v := nI 2) d_Mo_broke_271 (by decide +kernel) ?_
              refine x_icmp_ne 282 d_Mo_broke_272 rfl (fun hc272 => ?_) (fun hc272 => ?_)
              · skip
                rw [if_neg hc272] at ih
                refine x_iload d_Mo_broke_282 rfl ?_
                refine s_istore (lv' := [(0, _), (1, _), (2, _), (3, _), (4, _), (5, _), (6, _), (7, _), (8, _)]) d_Mo_broke_284 (by decide) rfl ?_
                refine x_aload_n d_Mo_broke_286 rfl ?_
                refine y_getf d_Mo_broke_287 gf_Mo_38 k_model rfl ?_
                refine x_iload d_Mo_broke_290 rfl ?_
                refine y_iald hG d_Mo_broke_292 k_m_kinds _ rfl (by omega) ?_
                rw [sA_uAn _ _ _ (by decide), hA 196 (by decide) (by decide)]
                refine x_iconst (v := nI 2) d_Mo_broke_293 (by decide +kernel) ?_
                refine x_icmp_ne 329 d_Mo_broke_294 rfl (fun hc294 => ?_) (fun q => absurd q hc272)
                refine s_iinc (lv' := [(0, _), (1, _), (2, _), (3, _), (4, _), (5, _), (6, _), (7, _), (8, _)]) d_Mo_broke_329 rfl (xinc _) (by decide) rfl ?_
                refine x_goto 123 d_Mo_broke_332 rfl ?_
                refine x_lv (lv' := [(0, _), (1, _), (2, _), (3, _), (4, _), (5, _), (7, _)]) [0, 1, 2, 3, 4, 5, 7] rfl ?_
                exact ih
              · skip
                rw [if_pos hc272] at ih
                obtain ⟨z, hz, ez⟩ := hmk s (i + k) hs (by omega) hc272
                rw [show (sA (moBr0 S (160 * s + i)) 201 (160 * s + (i + k))).toNatClampNeg = z by rw [show sA (moBr0 S (160 * s + i)) 201 = sA S 201 from rfl, ez, nI_clamp (by omega)]] at ih
                refine x_iload d_Mo_broke_275 rfl ?_
                refine x_iconst (v := nI 1) d_Mo_broke_277 (by decide +kernel) ?_
                refine x_iadd d_Mo_broke_278 ?_
                rw [nI_add]
                refine x_goto 284 d_Mo_broke_279 rfl ?_
                refine s_istore (lv' := [(0, _), (1, _), (2, _), (3, _), (4, _), (5, _), (6, _), (7, _), (8, _)]) d_Mo_broke_284 (by decide) rfl ?_
                refine x_aload_n d_Mo_broke_286 rfl ?_
                refine y_getf d_Mo_broke_287 gf_Mo_38 k_model rfl ?_
                refine x_iload d_Mo_broke_290 rfl ?_
                refine y_iald hG d_Mo_broke_292 k_m_kinds _ rfl (by omega) ?_
                rw [sA_uAn _ _ _ (by decide), hA 196 (by decide) (by decide)]
                refine x_iconst (v := nI 2) d_Mo_broke_293 (by decide +kernel) ?_
                refine x_icmp_ne 329 d_Mo_broke_294 rfl (fun q => absurd q (Classical.not_not.mpr hc272)) (fun hc294 => ?_)
                refine x_aload_n d_Mo_broke_297 rfl ?_
                refine y_getf d_Mo_broke_298 gf_Mo_77 k_model rfl ?_
                refine x_aload_n d_Mo_broke_301 rfl ?_
                refine y_getf d_Mo_broke_302 gf_Mo_53 k_model rfl ?_
                refine x_iload d_Mo_broke_305 rfl ?_
                refine y_iald hG d_Mo_broke_307 k_m_cuts _ rfl (by omega) ?_
                rw [sA_uAn _ _ _ (by decide), hA 201 (by decide) (by decide), ez]
                refine x_dup2 d_Mo_broke_308 rfl rfl ?_
                refine y_iald hG d_Mo_broke_309 k_m_coming _ rfl (by omega) ?_
                refine x_iconst (v := nI 1) d_Mo_broke_310 (by decide +kernel) ?_
                refine x_isub d_Mo_broke_311 ?_
                refine y_iast hG d_Mo_broke_312 k_m_coming _ rfl (by omega) ?_
                refine x_aload_n d_Mo_broke_313 rfl ?_
                refine y_getf d_Mo_broke_314 gf_Mo_74 k_model rfl ?_
                refine x_aload_n d_Mo_broke_317 rfl ?_
                refine y_getf d_Mo_broke_318 gf_Mo_53 k_model rfl ?_
                refine x_iload d_Mo_broke_321 rfl ?_
                refine y_iald hG d_Mo_broke_323 k_m_cuts _ rfl (by omega) ?_
                rw [sA_uAn _ _ _ (by decide), sA_uAn _ _ _ (by decide), hA 201 (by decide) (by decide), ez]
                refine x_dup2 d_Mo_broke_324 rfl rfl ?_
                refine y_iald hG d_Mo_broke_325 k_m_open _ rfl (by omega) ?_
                rw [sA_uAn _ _ _ (by decide)]
                refine x_iconst (v := nI 1) d_Mo_broke_326 (by decide +kernel) ?_
                refine x_iadd d_Mo_broke_327 ?_
                refine y_iast hG d_Mo_broke_328 k_m_open _ rfl (by omega) ?_
                refine s_iinc (lv' := [(0, _), (1, _), (2, _), (3, _), (4, _), (5, _), (6, _), (7, _), (8, _)]) d_Mo_broke_329 rfl (xinc _) (by decide) rfl ?_
                refine x_goto 123 d_Mo_broke_332 rfl ?_
                refine x_lv (lv' := [(0, _), (1, _), (2, _), (3, _), (4, _), (5, _), (7, _)]) [0, 1, 2, 3, 4, 5, 7] rfl ?_
                exact ih
          · skip
            refine x_aload_n d_Mo_broke_144 rfl ?_
            refine y_getf d_Mo_broke_145 gf_Mo_41 k_model rfl ?_
            refine x_iload d_Mo_broke_148 rfl ?_
            refine y_iald hG d_Mo_broke_150 k_m_xs _ rfl (by omega) ?_
            rw [hA 197 (by decide) (by decide)]
            refine x_aload_n d_Mo_broke_151 rfl ?_
            refine y_getf d_Mo_broke_152 gf_Mo_41 k_model rfl ?_
            refine x_iload d_Mo_broke_155 rfl ?_
            refine y_iald hG d_Mo_broke_157 k_m_xs _ rfl (by omega) ?_
            rw [hA 197 (by decide) (by decide)]
            refine x_icmp_lt 248 d_Mo_broke_158 rfl (fun hc158 => ?_) (fun hc158 => ?_)
            · skip
              skip
              refine x_iconst (v := nI 0) d_Mo_broke_248 (by decide +kernel) ?_
              refine J144 _ ?_
              unfold moBrIn
              first
                | (rw [decide_eq_true hc158]; rfl)
                | (rw [decide_eq_false hc158, decide_eq_true hc175]; rfl)
                | (rw [decide_eq_false hc158, decide_eq_false hc175, decide_eq_true hc208]; rfl)
                | (rw [decide_eq_false hc158, decide_eq_false hc175, decide_eq_false hc208, decide_eq_true hc241]; rfl)
                | (rw [decide_eq_false hc158, decide_eq_false hc175, decide_eq_false hc208, decide_eq_false hc241]; rfl)
            · skip
              skip
              refine x_aload_n d_Mo_broke_161 rfl ?_
              refine y_getf d_Mo_broke_162 gf_Mo_44 k_model rfl ?_
              refine x_iload d_Mo_broke_165 rfl ?_
              refine y_iald hG d_Mo_broke_167 k_m_ys _ rfl (by omega) ?_
              rw [hA 198 (by decide) (by decide)]
              refine x_aload_n d_Mo_broke_168 rfl ?_
              refine y_getf d_Mo_broke_169 gf_Mo_44 k_model rfl ?_
              refine x_iload d_Mo_broke_172 rfl ?_
              refine y_iald hG d_Mo_broke_174 k_m_ys _ rfl (by omega) ?_
              rw [hA 198 (by decide) (by decide)]
              refine x_icmp_lt 248 d_Mo_broke_175 rfl (fun hc175 => ?_) (fun hc175 => ?_)
              · skip
                skip
                refine x_iconst (v := nI 0) d_Mo_broke_248 (by decide +kernel) ?_
                refine J144 _ ?_
                unfold moBrIn
                first
                  | (rw [decide_eq_true hc158]; rfl)
                  | (rw [decide_eq_false hc158, decide_eq_true hc175]; rfl)
                  | (rw [decide_eq_false hc158, decide_eq_false hc175, decide_eq_true hc208]; rfl)
                  | (rw [decide_eq_false hc158, decide_eq_false hc175, decide_eq_false hc208, decide_eq_true hc241]; rfl)
                  | (rw [decide_eq_false hc158, decide_eq_false hc175, decide_eq_false hc208, decide_eq_false hc241]; rfl)
              · skip
                skip
                refine x_aload_n d_Mo_broke_178 rfl ?_
                refine y_getf d_Mo_broke_179 gf_Mo_41 k_model rfl ?_
                refine x_iload d_Mo_broke_182 rfl ?_
                refine y_iald hG d_Mo_broke_184 k_m_xs _ rfl (by omega) ?_
                rw [hA 197 (by decide) (by decide)]
                refine x_aload_n d_Mo_broke_185 rfl ?_
                refine y_getf d_Mo_broke_186 gf_Mo_47 k_model rfl ?_
                refine x_iload d_Mo_broke_189 rfl ?_
                refine y_iald hG d_Mo_broke_191 k_m_ws _ rfl (by omega) ?_
                rw [hA 199 (by decide) (by decide)]
                refine x_iadd d_Mo_broke_192 ?_
                refine x_aload_n d_Mo_broke_193 rfl ?_
                refine y_getf d_Mo_broke_194 gf_Mo_41 k_model rfl ?_
                refine x_iload d_Mo_broke_197 rfl ?_
                refine y_iald hG d_Mo_broke_199 k_m_xs _ rfl (by omega) ?_
                rw [hA 197 (by decide) (by decide)]
                refine x_aload_n d_Mo_broke_200 rfl ?_
                refine y_getf d_Mo_broke_201 gf_Mo_47 k_model rfl ?_
                refine x_iload d_Mo_broke_204 rfl ?_
                refine y_iald hG d_Mo_broke_206 k_m_ws _ rfl (by omega) ?_
                rw [hA 199 (by decide) (by decide)]
                refine x_iadd d_Mo_broke_207 ?_
                refine x_icmp_gt 248 d_Mo_broke_208 rfl (fun hc208 => ?_) (fun hc208 => ?_)
                · skip
                  skip
                  refine x_iconst (v := nI 0) d_Mo_broke_248 (by decide +kernel) ?_
                  refine J144 _ ?_
                  unfold moBrIn
                  first
                    | (rw [decide_eq_true hc158]; rfl)
                    | (rw [decide_eq_false hc158, decide_eq_true hc175]; rfl)
                    | (rw [decide_eq_false hc158, decide_eq_false hc175, decide_eq_true hc208]; rfl)
                    | (rw [decide_eq_false hc158, decide_eq_false hc175, decide_eq_false hc208, decide_eq_true hc241]; rfl)
                    | (rw [decide_eq_false hc158, decide_eq_false hc175, decide_eq_false hc208, decide_eq_false hc241]; rfl)
                · skip
                  skip
                  refine x_aload_n d_Mo_broke_211 rfl ?_
                  refine y_getf d_Mo_broke_212 gf_Mo_44 k_model rfl ?_
                  refine x_iload d_Mo_broke_215 rfl ?_
                  refine y_iald hG d_Mo_broke_217 k_m_ys _ rfl (by omega) ?_
                  rw [hA 198 (by decide) (by decide)]
                  refine x_aload_n d_Mo_broke_218 rfl ?_
                  refine y_getf d_Mo_broke_219 gf_Mo_50 k_model rfl ?_
                  refine x_iload d_Mo_broke_222 rfl ?_
                  refine y_iald hG d_Mo_broke_224 k_m_hs _ rfl (by omega) ?_
                  rw [hA 200 (by decide) (by decide)]
                  refine x_iadd d_Mo_broke_225 ?_
                  refine x_aload_n d_Mo_broke_226 rfl ?_
                  refine y_getf d_Mo_broke_227 gf_Mo_44 k_model rfl ?_
                  refine x_iload d_Mo_broke_230 rfl ?_
                  refine y_iald hG d_Mo_broke_232 k_m_ys _ rfl (by omega) ?_
                  rw [hA 198 (by decide) (by decide)]
                  refine x_aload_n d_Mo_broke_233 rfl ?_
                  refine y_getf d_Mo_broke_234 gf_Mo_50 k_model rfl ?_
                  refine x_iload d_Mo_broke_237 rfl ?_
                  refine y_iald hG d_Mo_broke_239 k_m_hs _ rfl (by omega) ?_
                  rw [hA 200 (by decide) (by decide)]
                  refine x_iadd d_Mo_broke_240 ?_
                  refine x_icmp_gt 248 d_Mo_broke_241 rfl (fun hc241 => ?_) (fun hc241 => ?_)
                  · skip
                    skip
                    refine x_iconst (v := nI 0) d_Mo_broke_248 (by decide +kernel) ?_
                    refine J144 _ ?_
                    unfold moBrIn
                    first
                      | (rw [decide_eq_true hc158]; rfl)
                      | (rw [decide_eq_false hc158, decide_eq_true hc175]; rfl)
                      | (rw [decide_eq_false hc158, decide_eq_false hc175, decide_eq_true hc208]; rfl)
                      | (rw [decide_eq_false hc158, decide_eq_false hc175, decide_eq_false hc208, decide_eq_true hc241]; rfl)
                      | (rw [decide_eq_false hc158, decide_eq_false hc175, decide_eq_false hc208, decide_eq_false hc241]; rfl)
                  · skip
                    skip
                    refine x_iconst (v := nI 1) d_Mo_broke_244 (by decide +kernel) ?_
                    refine x_goto 249 d_Mo_broke_245 rfl ?_
                    refine J144 _ ?_
                    unfold moBrIn
                    first
                      | (rw [decide_eq_true hc158]; rfl)
                      | (rw [decide_eq_false hc158, decide_eq_true hc175]; rfl)
                      | (rw [decide_eq_false hc158, decide_eq_false hc175, decide_eq_true hc208]; rfl)
                      | (rw [decide_eq_false hc158, decide_eq_false hc175, decide_eq_false hc208, decide_eq_true hc241]; rfl)
                      | (rw [decide_eq_false hc158, decide_eq_false hc175, decide_eq_false hc208, decide_eq_false hc241]; rfl)
      refine x_lv (lv' := [(0, _), (1, _), (2, _), (3, _), (4, _), (5, _), (7, _)]) [0, 1, 2, 3, 4, 5, 7] rfl ?_
      exact L123 0 (Nat.zero_le _)
    · skip
      skip
      refine x_iconst (v := nI 0) d_Mo_broke_77 (by decide +kernel) ?_
      refine x_ireturn d_Mo_broke_78 rfl rfl ?_
      simp only [moBroke, hf]
      unfold moP
      rw [if_neg (Nat.pos_iff_ne_zero.mp hc74)]
      exact ⟨rfl, rfl⟩
  · skip
    refine x_iload_n d_Mo_broke_7 rfl ?_
    refine z_if_ge 15 d_Mo_broke_8 rfl (by omega) ?_
    refine x_aload_n d_Mo_broke_15 rfl ?_
    refine y_getf d_Mo_broke_16 gf_Mo_23 k_model rfl ?_
    refine x_iload_n d_Mo_broke_19 rfl ?_
    refine y_zald hG d_Mo_broke_20 k_m_planned _ rfl (by omega) ?_
    refine x_if_ne 28 d_Mo_broke_21 rfl (fun hc21 => ?_) (fun hc21 => ?_)
    · skip
      skip
      refine x_iload_n d_Mo_broke_28 rfl ?_
      refine z_if_lt d_Mo_broke_29 (tgt := 42) rfl (by omega) ?_
      refine x_iload_n d_Mo_broke_32 rfl ?_
      refine x_aload_n d_Mo_broke_33 rfl ?_
      refine y_getf d_Mo_broke_34 gf_Mo_35 k_model rfl ?_
      refine x_iload_n d_Mo_broke_37 rfl ?_
      refine y_iald hG d_Mo_broke_38 k_m_nodeCounts _ rfl (by omega) ?_
      rw [(hcnt s hs).1]
      refine z_icmp_lt 46 d_Mo_broke_39 rfl (by omega) (by omega) (fun hc39 => ?_) (fun q => absurd q (by omega))
      refine x_aload_n d_Mo_broke_46 rfl ?_
      refine y_getf d_Mo_broke_47 gf_Mo_62 k_model rfl ?_
      refine x_sipush (v := nI 160) d_Mo_broke_50 (by decide +kernel) ?_
      refine x_iload_n d_Mo_broke_53 rfl ?_
      refine x_imul d_Mo_broke_54 ?_
      rw [nI_mul]
      refine x_iload_n d_Mo_broke_55 rfl ?_
      refine x_iadd d_Mo_broke_56 ?_
      rw [nI_add]
      refine y_iald hG d_Mo_broke_57 k_m_states _ rfl (by omega) ?_
      refine x_iconst (v := nI 1) d_Mo_broke_58 (by decide +kernel) ?_
      refine x_icmp_eq 66 d_Mo_broke_59 rfl (fun hc59 => ?_) (fun hc59 => ?_)
      · skip
        skip
        refine x_iconst (v := nI 0) d_Mo_broke_66 (by decide +kernel) ?_
        refine J7 _ ?_
        unfold moBroC
        rw [nI_clamp (show i < 2 ^ 31 by omega)]
        first
          | (rw [if_pos hc21]; done)
          | (rw [if_neg hc21, if_neg (nI_pos (by omega)), if_neg (Classical.not_not.mpr hlt), if_pos hc59]; done)
          | (rw [if_neg hc21, if_neg (nI_pos (by omega)), if_neg (Classical.not_not.mpr hlt), if_neg (Classical.not_not.mpr hc59)]; done)
      · skip
        skip
        refine x_iconst (v := nI 2) d_Mo_broke_62 (by decide +kernel) ?_
        refine x_goto 67 d_Mo_broke_63 rfl ?_
        refine J7 _ ?_
        unfold moBroC
        rw [nI_clamp (show i < 2 ^ 31 by omega)]
        first
          | (rw [if_pos hc21]; done)
          | (rw [if_neg hc21, if_neg (nI_pos (by omega)), if_neg (Classical.not_not.mpr hlt), if_pos hc59]; done)
          | (rw [if_neg hc21, if_neg (nI_pos (by omega)), if_neg (Classical.not_not.mpr hlt), if_neg (Classical.not_not.mpr hc59)]; done)
    · skip
      skip
      refine x_iconst (v := nI 2) d_Mo_broke_24 (by decide +kernel) ?_
      refine x_goto 67 d_Mo_broke_25 rfl ?_
      refine J7 _ ?_
      unfold moBroC
      rw [nI_clamp (show i < 2 ^ 31 by omega)]
      first
        | (rw [if_pos hc21]; done)
        | (rw [if_neg hc21, if_neg (nI_pos (by omega)), if_neg (Classical.not_not.mpr hlt), if_pos hc59]; done)
        | (rw [if_neg hc21, if_neg (nI_pos (by omega)), if_neg (Classical.not_not.mpr hlt), if_neg (Classical.not_not.mpr hc59)]; done)
