/-! the reference -/
theorem nI_mul (a b : Nat) : nI a * nI b = nI (a * b) := (Int32.ofNat_mul a b).symm
def moFind (S : xS) (x : Int32) : Nat → Option Nat
  | 0 => none
  | s + 1 => if ¬ sA S 187 s = 0 ∧ sA S 188 s = x then some s else moFind S x s
theorem moFind_lt {S : xS} {x : Int32} : ∀ {n s : Nat}, moFind S x n = some s → s < n
  | n + 1, s, h => by
    unfold moFind at h
    split at h
    · cases h; omega
    · have := moFind_lt h; omega
def moSh (S : xS) : Nat → Nat
  | 0 => 0
  | s + 1 => if sA S 187 s = 0 then moSh S s else moSh S s + 1
theorem moSh_le {S : xS} : ∀ n, moSh S n ≤ n
  | 0 => Nat.le_refl _
  | n + 1 => by
    have := moSh_le (S := S) n
    simp only [moSh]
    split <;> omega
def moMake (S : xS) (s : Nat) (w h : Int32) : xS := uF (uA (uA (uA (uA (uA (uA (uA S 187 s (nI 1)) 188 s (sF S 186 1)) 189 s w) 190 s h) 191 s (nI 0)) 192 s (nI 0)) 193 s (nI 0)) 186 1 (sF S 186 1 + nI 1)
def moPutFlaw (S : xS) (s n : Nat) (x y w h : Int32) : xS := uA (uA (uA (uA (uA S 194 (24 * s + 4 * n) x) 194 (24 * s + 4 * n + 1) y) 194 (24 * s + 4 * n + 2) w) 194 (24 * s + 4 * n + 3) h) 193 s (nI (n + 1))
def moOver (a b c d : Int32) : Bool := decide (a < c + d) && decide (c < a + b)
def moMeets (S : xS) (s k : Nat) (x y w h : Int32) : Bool := moOver (sA S 194 (24 * s + 4 * k)) (sA S 194 (24 * s + 4 * k + 2)) x w && moOver (sA S 194 (24 * s + 4 * k + 1)) (sA S 194 (24 * s + 4 * k + 3)) y h
set_option maxRecDepth 100000 in
set_option maxHeartbeats 1000000 in
theorem c_Mo_thrown {G : xG} {B d : Nat} {S : xS} (hG : xOkG G)  : EX G m_Mo_thrown d 0 [(0, .ref (B + 186))] [] (mk G B S) ((xRet G B (some (.int (sF S 186 0))) S)) := by
  refine x_aload_n d_Mo_thrown_0 rfl ?_
  refine y_getf d_Mo_thrown_1 gf_Mo_140 k_model rfl ?_
  refine x_ireturn d_Mo_thrown_4 rfl rfl ?_
  exact ⟨rfl, rfl⟩
set_option maxRecDepth 100000 in
set_option maxHeartbeats 1000000 in
theorem c_Mo_find {G : xG} {B d : Nat} {S : xS} (hG : xOkG G) {x : Int32} : EX G m_Mo_find d 0 [(0, .ref (B + 186)), (1, .int x)] [] (mk G B S) ((xRet G B (some (.int (cI (moFind S x 8)))) S)) := by
  refine x_iconst (v := -1) d_Mo_find_0 (by decide +kernel) ?_
  refine s_istore_n (lv' := [(0, _), (1, _), (2, _)]) d_Mo_find_1 (by decide) rfl ?_
  refine x_iconst (v := nI 0) d_Mo_find_2 (by decide +kernel) ?_
  refine s_istore_n (lv' := [(0, _), (1, _), (2, _), (3, _)]) d_Mo_find_3 (by decide) rfl ?_
  have L4 : ∀ i, i ≤ 8 →  EX G m_Mo_find d 4 [(0, .ref (B + 186)), (1, .int x), (2, .int (cI (moFind S x i))), (3, .int (nI i))] [] (mk G B S) (xRet G B (some (.int (cI (moFind S x 8)))) S) := by
    refine x_down (8) ?_ ?_
    · skip
      skip
      refine x_iload_n d_Mo_find_4 rfl ?_
      refine x_bipush (v := nI 8) d_Mo_find_5 (by decide +kernel) ?_
      refine z_icmp_ge 41 d_Mo_find_7 rfl (by omega) (by omega) (fun hc7 => ?_) (fun q => absurd q (by omega))
      refine x_iload_n d_Mo_find_41 rfl ?_
      refine x_ireturn d_Mo_find_42 rfl rfl ?_
      exact ⟨rfl, rfl⟩
    · intro i hi ih
      refine x_iload_n d_Mo_find_4 rfl ?_
      refine x_bipush (v := nI 8) d_Mo_find_5 (by decide +kernel) ?_
      refine z_icmp_ge 41 d_Mo_find_7 rfl (by omega) (by omega) (fun q => absurd q (by omega)) (fun hc7 => ?_)
      refine x_aload_n d_Mo_find_10 rfl ?_
      refine y_getf d_Mo_find_11 gf_Mo_7 k_model rfl ?_
      refine x_iload_n d_Mo_find_14 rfl ?_
      refine y_zald hG d_Mo_find_15 k_m_there _ rfl (by omega) ?_
      refine x_if_eq 33 d_Mo_find_16 rfl (fun hc16 => ?_) (fun hc16 => ?_)
      · skip
        rw [show moFind S x (i + 1) = moFind S x i from if_neg (fun q => q.1 hc16)] at ih
        refine x_iload_n d_Mo_find_33 rfl ?_
        refine s_istore_n (lv' := [(0, _), (1, _), (2, _), (3, _)]) d_Mo_find_34 (by decide) rfl ?_
        refine s_iinc (lv' := [(0, _), (1, _), (2, _), (3, _)]) d_Mo_find_35 rfl (xinc _) (by decide) rfl ?_
        refine x_goto 4 d_Mo_find_38 rfl ?_
        refine x_lv (lv' := [(0, _), (1, _), (2, _), (3, _)]) [0, 1, 2, 3] rfl ?_
        exact ih
      · skip
        skip
        refine x_aload_n d_Mo_find_19 rfl ?_
        refine y_getf d_Mo_find_20 gf_Mo_13 k_model rfl ?_
        refine x_iload_n d_Mo_find_23 rfl ?_
        refine y_iald hG d_Mo_find_24 k_m_ids _ rfl (by omega) ?_
        refine x_iload_n d_Mo_find_25 rfl ?_
        refine x_icmp_ne 33 d_Mo_find_26 rfl (fun hc26 => ?_) (fun hc26 => ?_)
        · skip
          rw [show moFind S x (i + 1) = moFind S x i from if_neg (fun q => hc26 q.2)] at ih
          refine x_iload_n d_Mo_find_33 rfl ?_
          refine s_istore_n (lv' := [(0, _), (1, _), (2, _), (3, _)]) d_Mo_find_34 (by decide) rfl ?_
          refine s_iinc (lv' := [(0, _), (1, _), (2, _), (3, _)]) d_Mo_find_35 rfl (xinc _) (by decide) rfl ?_
          refine x_goto 4 d_Mo_find_38 rfl ?_
          refine x_lv (lv' := [(0, _), (1, _), (2, _), (3, _)]) [0, 1, 2, 3] rfl ?_
          exact ih
        · skip
          rw [show moFind S x (i + 1) = some i from if_pos ⟨hc16, hc26⟩] at ih
          refine x_iload_n d_Mo_find_29 rfl ?_
          refine x_goto 34 d_Mo_find_30 rfl ?_
          refine s_istore_n (lv' := [(0, _), (1, _), (2, _), (3, _)]) d_Mo_find_34 (by decide) rfl ?_
          refine s_iinc (lv' := [(0, _), (1, _), (2, _), (3, _)]) d_Mo_find_35 rfl (xinc _) (by decide) rfl ?_
          refine x_goto 4 d_Mo_find_38 rfl ?_
          refine x_lv (lv' := [(0, _), (1, _), (2, _), (3, _)]) [0, 1, 2, 3] rfl ?_
          exact ih
  refine x_lv (lv' := [(0, _), (1, _), (2, _), (3, _)]) [0, 1, 2, 3] rfl ?_
  exact L4 0 (Nat.zero_le _)
set_option maxRecDepth 100000 in
set_option maxHeartbeats 1000000 in
theorem c_Mo_sheets {G : xG} {B d : Nat} {S : xS} (hG : xOkG G)  : EX G m_Mo_sheets d 0 [(0, .ref (B + 186))] [] (mk G B S) ((xRet G B (some (.int (nI (moSh S 8)))) S)) := by
  refine x_iconst (v := nI 0) d_Mo_sheets_0 (by decide +kernel) ?_
  refine s_istore_n (lv' := [(0, _), (1, _)]) d_Mo_sheets_1 (by decide) rfl ?_
  refine x_iconst (v := nI 0) d_Mo_sheets_2 (by decide +kernel) ?_
  refine s_istore_n (lv' := [(0, _), (1, _), (2, _)]) d_Mo_sheets_3 (by decide) rfl ?_
  have L4 : ∀ i, i ≤ 8 →  EX G m_Mo_sheets d 4 [(0, .ref (B + 186)), (1, .int (nI (moSh S i))), (2, .int (nI i))] [] (mk G B S) (xRet G B (some (.int (nI (moSh S 8)))) S) := by
    refine x_down (8) ?_ ?_
    · skip
      skip
      refine x_iload_n d_Mo_sheets_4 rfl ?_
      refine x_bipush (v := nI 8) d_Mo_sheets_5 (by decide +kernel) ?_
      refine z_icmp_ge 33 d_Mo_sheets_7 rfl (by omega) (by omega) (fun hc7 => ?_) (fun q => absurd q (by omega))
      refine x_iload_n d_Mo_sheets_33 rfl ?_
      refine x_ireturn d_Mo_sheets_34 rfl rfl ?_
      exact ⟨rfl, rfl⟩
    · intro i hi ih
      refine x_iload_n d_Mo_sheets_4 rfl ?_
      refine x_bipush (v := nI 8) d_Mo_sheets_5 (by decide +kernel) ?_
      refine z_icmp_ge 33 d_Mo_sheets_7 rfl (by omega) (by omega) (fun q => absurd q (by omega)) (fun hc7 => ?_)
      refine x_aload_n d_Mo_sheets_10 rfl ?_
      refine y_getf d_Mo_sheets_11 gf_Mo_7 k_model rfl ?_
      refine x_iload_n d_Mo_sheets_14 rfl ?_
      refine y_zald hG d_Mo_sheets_15 k_m_there _ rfl (by omega) ?_
      refine x_if_eq 25 d_Mo_sheets_16 rfl (fun hc16 => ?_) (fun hc16 => ?_)
      · skip
        rw [show moSh S (i + 1) = moSh S i from if_pos hc16] at ih
        refine x_iload_n d_Mo_sheets_25 rfl ?_
        refine s_istore_n (lv' := [(0, _), (1, _), (2, _)]) d_Mo_sheets_26 (by decide) rfl ?_
        refine s_iinc (lv' := [(0, _), (1, _), (2, _)]) d_Mo_sheets_27 rfl (xinc _) (by decide) rfl ?_
        refine x_goto 4 d_Mo_sheets_30 rfl ?_
        refine x_lv (lv' := [(0, _), (1, _), (2, _)]) [0, 1, 2] rfl ?_
        exact ih
      · skip
        rw [show moSh S (i + 1) = moSh S i + 1 from if_neg hc16] at ih
        refine x_iload_n d_Mo_sheets_19 rfl ?_
        refine x_iconst (v := nI 1) d_Mo_sheets_20 (by decide +kernel) ?_
        refine x_iadd d_Mo_sheets_21 ?_
        rw [nI_add]
        refine x_goto 26 d_Mo_sheets_22 rfl ?_
        refine s_istore_n (lv' := [(0, _), (1, _), (2, _)]) d_Mo_sheets_26 (by decide) rfl ?_
        refine s_iinc (lv' := [(0, _), (1, _), (2, _)]) d_Mo_sheets_27 rfl (xinc _) (by decide) rfl ?_
        refine x_goto 4 d_Mo_sheets_30 rfl ?_
        refine x_lv (lv' := [(0, _), (1, _), (2, _)]) [0, 1, 2] rfl ?_
        exact ih
  refine x_lv (lv' := [(0, _), (1, _), (2, _)]) [0, 1, 2] rfl ?_
  exact L4 0 (Nat.zero_le _)
set_option maxRecDepth 100000 in
set_option maxHeartbeats 1000000 in
theorem c_Mo_isOrder {G : xG} {B d : Nat} {S : xS} (hG : xOkG G) {N : Nat} (hN : sF S 186 20 = nI N) (hN6 : N ≤ 6) {x : Int32} : EX G m_Mo_isOrder d 0 [(0, .ref (B + 186)), (1, .int x)] [] (mk G B S) ((xRet G B (some (.int (bI (inB N x)))) S)) := by
  refine x_iload_n d_Mo_isOrder_0 rfl ?_
  refine x_if_lt 16 d_Mo_isOrder_1 rfl (fun hc1 => ?_) (fun hc1 => ?_)
  · skip
    skip
    refine x_iconst (v := nI 0) d_Mo_isOrder_16 (by decide +kernel) ?_
    refine x_ireturn d_Mo_isOrder_17 rfl (by decide +kernel) ?_
    refine ⟨?_, rfl⟩
    unfold inB
    first
      | (rw [decide_eq_false (Int32.not_le.mpr hc1), Bool.false_and]; rfl)
      | (rw [decide_eq_true (Int32.not_lt.mp hc1), decide_eq_true (Int32.not_le.mp hc9)]; rfl)
      | (rw [decide_eq_false (p := x < nI N) (Int32.not_lt.mpr hc9), Bool.and_false]; rfl)
  · skip
    skip
    refine x_iload_n d_Mo_isOrder_4 rfl ?_
    refine x_aload_n d_Mo_isOrder_5 rfl ?_
    refine y_getf (v := .int (nI N)) d_Mo_isOrder_6 gf_Mo_144 k_model (congrArg (fun q => some (Value.int q)) hN) ?_
    refine x_icmp_ge 16 d_Mo_isOrder_9 rfl (fun hc9 => ?_) (fun hc9 => ?_)
    · skip
      skip
      refine x_iconst (v := nI 0) d_Mo_isOrder_16 (by decide +kernel) ?_
      refine x_ireturn d_Mo_isOrder_17 rfl (by decide +kernel) ?_
      refine ⟨?_, rfl⟩
      unfold inB
      first
        | (rw [decide_eq_false (Int32.not_le.mpr hc1), Bool.false_and]; rfl)
        | (rw [decide_eq_true (Int32.not_lt.mp hc1), decide_eq_true (Int32.not_le.mp hc9)]; rfl)
        | (rw [decide_eq_false (p := x < nI N) (Int32.not_lt.mpr hc9), Bool.and_false]; rfl)
    · skip
      skip
      refine x_iconst (v := nI 1) d_Mo_isOrder_12 (by decide +kernel) ?_
      refine x_goto 17 d_Mo_isOrder_13 rfl ?_
      refine x_ireturn d_Mo_isOrder_17 rfl (by decide +kernel) ?_
      refine ⟨?_, rfl⟩
      unfold inB
      first
        | (rw [decide_eq_false (Int32.not_le.mpr hc1), Bool.false_and]; rfl)
        | (rw [decide_eq_true (Int32.not_lt.mp hc1), decide_eq_true (Int32.not_le.mp hc9)]; rfl)
        | (rw [decide_eq_false (p := x < nI N) (Int32.not_lt.mpr hc9), Bool.and_false]; rfl)
set_option maxRecDepth 100000 in
set_option maxHeartbeats 1000000 in
theorem c_Mo_isLength {G : xG} {B d : Nat} {S : xS} (hG : xOkG G) {x : Int32} : EX G m_Mo_isLength d 0 [(0, .int x)] [] (mk G B S) ((xRet G B (some (.int (bI (haLen x)))) S)) := by
  refine x_iload_n d_Mo_isLength_0 rfl ?_
  refine x_iconst (v := nI 1) d_Mo_isLength_1 (by decide +kernel) ?_
  refine x_icmp_lt 16 d_Mo_isLength_2 rfl (fun hc2 => ?_) (fun hc2 => ?_)
  · skip
    skip
    refine x_iconst (v := nI 0) d_Mo_isLength_16 (by decide +kernel) ?_
    refine x_ireturn d_Mo_isLength_17 rfl (by decide +kernel) ?_
    refine ⟨?_, rfl⟩
    unfold haLen
    first
      | (rw [decide_eq_false (Int32.not_le.mpr hc2), Bool.false_and]; rfl)
      | (rw [decide_eq_false (Int32.not_le.mpr hc9), Bool.and_false]; rfl)
      | (rw [decide_eq_true (Int32.not_lt.mp hc2), decide_eq_true (Int32.not_lt.mp hc9)]; rfl)
  · skip
    skip
    refine x_iload_n d_Mo_isLength_5 rfl ?_
    refine x_sipush (v := nI 6000) d_Mo_isLength_6 (by decide +kernel) ?_
    refine x_icmp_gt 16 d_Mo_isLength_9 rfl (fun hc9 => ?_) (fun hc9 => ?_)
    · skip
      skip
      refine x_iconst (v := nI 0) d_Mo_isLength_16 (by decide +kernel) ?_
      refine x_ireturn d_Mo_isLength_17 rfl (by decide +kernel) ?_
      refine ⟨?_, rfl⟩
      unfold haLen
      first
        | (rw [decide_eq_false (Int32.not_le.mpr hc2), Bool.false_and]; rfl)
        | (rw [decide_eq_false (Int32.not_le.mpr hc9), Bool.and_false]; rfl)
        | (rw [decide_eq_true (Int32.not_lt.mp hc2), decide_eq_true (Int32.not_lt.mp hc9)]; rfl)
    · skip
      skip
      refine x_iconst (v := nI 1) d_Mo_isLength_12 (by decide +kernel) ?_
      refine x_goto 17 d_Mo_isLength_13 rfl ?_
      refine x_ireturn d_Mo_isLength_17 rfl (by decide +kernel) ?_
      refine ⟨?_, rfl⟩
      unfold haLen
      first
        | (rw [decide_eq_false (Int32.not_le.mpr hc2), Bool.false_and]; rfl)
        | (rw [decide_eq_false (Int32.not_le.mpr hc9), Bool.and_false]; rfl)
        | (rw [decide_eq_true (Int32.not_lt.mp hc2), decide_eq_true (Int32.not_lt.mp hc9)]; rfl)
set_option maxRecDepth 100000 in
set_option maxHeartbeats 1000000 in
theorem c_Mo_make {G : xG} {B d : Nat} {S : xS} (hG : xOkG G) {s : Nat} {w h : Int32} (hs : fstN (fun s => decide (sA S 187 s = 0)) 8 = some s) : EX G m_Mo_make d 0 [(0, .ref (B + 186)), (1, .int w), (2, .int h)] [] (mk G B S) ((xRet G B (some (.int (nI s))) (moMake S s w h))) := by
  have hs8 := fsL hs
  refine x_iconst (v := nI 0) d_Mo_make_0 (by decide +kernel) ?_
  refine s_istore_n (lv' := [(0, _), (1, _), (2, _), (3, _)]) d_Mo_make_1 (by decide) rfl ?_
  have L2 : ∀ i, i ≤ s →  EX G m_Mo_make d 2 [(0, .ref (B + 186)), (1, .int w), (2, .int h), (3, .int (nI i))] [] (mk G B S) (xRet G B (some (.int (nI s))) (moMake S s w h)) := by
    refine x_down (s) ?_ ?_
    · skip
      skip
      refine x_aload_n d_Mo_make_2 rfl ?_
      refine y_getf d_Mo_make_3 gf_Mo_7 k_model rfl ?_
      refine x_iload_n d_Mo_make_6 rfl ?_
      refine y_zald hG d_Mo_make_7 k_m_there _ rfl (by omega) ?_
      refine x_if_eq 17 d_Mo_make_8 rfl (fun hc8 => ?_) (fun q => absurd q (Classical.not_not.mpr (of_decide_eq_true (fstN_spec hs).2.1)))
      refine x_aload_n d_Mo_make_17 rfl ?_
      refine y_getf d_Mo_make_18 gf_Mo_7 k_model rfl ?_
      refine x_iload_n d_Mo_make_21 rfl ?_
      refine x_iconst (v := nI 1) d_Mo_make_22 (by decide +kernel) ?_
      refine y_zast hG d_Mo_make_23 k_m_there _ rfl (by omega) (by decide +kernel) ?_
      refine x_aload_n d_Mo_make_24 rfl ?_
      refine y_getf d_Mo_make_25 gf_Mo_13 k_model rfl ?_
      refine x_iload_n d_Mo_make_28 rfl ?_
      refine x_aload_n d_Mo_make_29 rfl ?_
      refine y_getf d_Mo_make_30 gf_Mo_147 k_model rfl ?_
      refine y_iast hG d_Mo_make_33 k_m_ids _ rfl (by omega) ?_
      refine x_aload_n d_Mo_make_34 rfl ?_
      refine y_getf d_Mo_make_35 gf_Mo_17 k_model rfl ?_
      refine x_iload_n d_Mo_make_38 rfl ?_
      refine x_iload_n d_Mo_make_39 rfl ?_
      refine y_iast hG d_Mo_make_40 k_m_widths _ rfl (by omega) ?_
      refine x_aload_n d_Mo_make_41 rfl ?_
      refine y_getf d_Mo_make_42 gf_Mo_20 k_model rfl ?_
      refine x_iload_n d_Mo_make_45 rfl ?_
      refine x_iload_n d_Mo_make_46 rfl ?_
      refine y_iast hG d_Mo_make_47 k_m_heights _ rfl (by omega) ?_
      refine x_aload_n d_Mo_make_48 rfl ?_
      refine y_getf d_Mo_make_49 gf_Mo_23 k_model rfl ?_
      refine x_iload_n d_Mo_make_52 rfl ?_
      refine x_iconst (v := nI 0) d_Mo_make_53 (by decide +kernel) ?_
      refine y_zast hG d_Mo_make_54 k_m_planned _ rfl (by omega) (by decide +kernel) ?_
      refine x_aload_n d_Mo_make_55 rfl ?_
      refine y_getf d_Mo_make_56 gf_Mo_26 k_model rfl ?_
      refine x_iload_n d_Mo_make_59 rfl ?_
      refine x_iconst (v := nI 0) d_Mo_make_60 (by decide +kernel) ?_
      refine y_zast hG d_Mo_make_61 k_m_scored _ rfl (by omega) (by decide +kernel) ?_
      refine x_aload_n d_Mo_make_62 rfl ?_
      refine y_getf d_Mo_make_63 gf_Mo_29 k_model rfl ?_
      refine x_iload_n d_Mo_make_66 rfl ?_
      refine x_iconst (v := nI 0) d_Mo_make_67 (by decide +kernel) ?_
      refine y_iast hG d_Mo_make_68 k_m_flawCounts _ rfl (by omega) ?_
      refine x_aload_n d_Mo_make_69 rfl ?_
      refine x_dup d_Mo_make_70 rfl ?_
      refine y_getf d_Mo_make_71 gf_Mo_147 k_model rfl ?_
      refine x_iconst (v := nI 1) d_Mo_make_74 (by decide +kernel) ?_
      refine x_iadd d_Mo_make_75 ?_
      refine y_puti d_Mo_make_76 pf_Mo_147 k_model (xBle rfl) rfl rfl rfl ?_
      refine x_iload_n d_Mo_make_79 rfl ?_
      refine x_ireturn d_Mo_make_80 rfl rfl ?_
      exact ⟨rfl, rfl⟩
    · intro i hi ih
      refine x_aload_n d_Mo_make_2 rfl ?_
      refine y_getf d_Mo_make_3 gf_Mo_7 k_model rfl ?_
      refine x_iload_n d_Mo_make_6 rfl ?_
      refine y_zald hG d_Mo_make_7 k_m_there _ rfl (by omega) ?_
      refine x_if_eq 17 d_Mo_make_8 rfl (fun q => absurd q (of_decide_eq_false ((fstN_spec hs).2.2 i hi))) (fun hc8 => ?_)
      refine s_iinc (lv' := [(0, _), (1, _), (2, _), (3, _)]) d_Mo_make_11 rfl (xinc _) (by decide) rfl ?_
      refine x_goto 2 d_Mo_make_14 rfl ?_
      refine x_lv (lv' := [(0, _), (1, _), (2, _), (3, _)]) [0, 1, 2, 3] rfl ?_
      exact ih
  refine x_lv (lv' := [(0, _), (1, _), (2, _), (3, _)]) [0, 1, 2, 3] rfl ?_
  exact L2 0 (Nat.zero_le _)
set_option maxRecDepth 100000 in
set_option maxHeartbeats 1000000 in
theorem c_Mo_putFlaw {G : xG} {B d : Nat} {S : xS} (hG : xOkG G) {s n : Nat} (hs : s < 8) (hn : sA S 193 s = nI n) (hn6 : n < 6) {x y w h : Int32} : EX G m_Mo_putFlaw d 0 [(0, .ref (B + 186)), (1, .int (nI s)), (2, .int x), (3, .int y), (4, .int w), (5, .int h)] [] (mk G B S) (xRet G B none (moPutFlaw S s n x y w h)) := by
  refine x_bipush (v := nI 24) d_Mo_putFlaw_0 (by decide +kernel) ?_
  refine x_iload_n d_Mo_putFlaw_2 rfl ?_
  refine x_imul d_Mo_putFlaw_3 ?_
  rw [nI_mul]
  refine x_iconst (v := nI 4) d_Mo_putFlaw_4 (by decide +kernel) ?_
  refine x_aload_n d_Mo_putFlaw_5 rfl ?_
  refine y_getf d_Mo_putFlaw_6 gf_Mo_29 k_model rfl ?_
  refine x_iload_n d_Mo_putFlaw_9 rfl ?_
  refine y_iald hG d_Mo_putFlaw_10 k_m_flawCounts _ rfl (by omega) ?_
  rw [hn]
  refine x_imul d_Mo_putFlaw_11 ?_
  rw [nI_mul]
  refine x_iadd d_Mo_putFlaw_12 ?_
  rw [nI_add]
  refine s_istore (lv' := [(0, _), (1, _), (2, _), (3, _), (4, _), (5, _), (6, _)]) d_Mo_putFlaw_13 (by decide) rfl ?_
  refine x_aload_n d_Mo_putFlaw_15 rfl ?_
  refine y_getf d_Mo_putFlaw_16 gf_Mo_32 k_model rfl ?_
  refine x_iload d_Mo_putFlaw_19 rfl ?_
  refine x_iload_n d_Mo_putFlaw_21 rfl ?_
  refine y_iast hG d_Mo_putFlaw_22 k_m_flaws _ rfl (by omega) ?_
  refine x_aload_n d_Mo_putFlaw_23 rfl ?_
  refine y_getf d_Mo_putFlaw_24 gf_Mo_32 k_model rfl ?_
  refine x_iload d_Mo_putFlaw_27 rfl ?_
  refine x_iconst (v := nI 1) d_Mo_putFlaw_29 (by decide +kernel) ?_
  refine x_iadd d_Mo_putFlaw_30 ?_
  rw [nI_add]
  refine x_iload_n d_Mo_putFlaw_31 rfl ?_
  refine y_iast hG d_Mo_putFlaw_32 k_m_flaws _ rfl (by omega) ?_
  refine x_aload_n d_Mo_putFlaw_33 rfl ?_
  refine y_getf d_Mo_putFlaw_34 gf_Mo_32 k_model rfl ?_
  refine x_iload d_Mo_putFlaw_37 rfl ?_
  refine x_iconst (v := nI 2) d_Mo_putFlaw_39 (by decide +kernel) ?_
  refine x_iadd d_Mo_putFlaw_40 ?_
  rw [nI_add]
  refine x_iload d_Mo_putFlaw_41 rfl ?_
  refine y_iast hG d_Mo_putFlaw_43 k_m_flaws _ rfl (by omega) ?_
  refine x_aload_n d_Mo_putFlaw_44 rfl ?_
  refine y_getf d_Mo_putFlaw_45 gf_Mo_32 k_model rfl ?_
  refine x_iload d_Mo_putFlaw_48 rfl ?_
  refine x_iconst (v := nI 3) d_Mo_putFlaw_50 (by decide +kernel) ?_
  refine x_iadd d_Mo_putFlaw_51 ?_
  rw [nI_add]
  refine x_iload d_Mo_putFlaw_52 rfl ?_
  refine y_iast hG d_Mo_putFlaw_54 k_m_flaws _ rfl (by omega) ?_
  refine x_aload_n d_Mo_putFlaw_55 rfl ?_
  refine y_getf d_Mo_putFlaw_56 gf_Mo_29 k_model rfl ?_
  refine x_iload_n d_Mo_putFlaw_59 rfl ?_
  refine x_dup2 d_Mo_putFlaw_60 rfl rfl ?_
  refine y_iald hG d_Mo_putFlaw_61 k_m_flawCounts _ rfl (by omega) ?_
  rw [show sA (uA (uA (uA (uA S 194 (24 * s + 4 * n) x) 194 (24 * s + 4 * n + 1) y) 194 (24 * s + 4 * n + 2) w) 194 (24 * s + 4 * n + 3) h) 193 = sA S 193 by rw [sA_uAn _ _ _ (by decide), sA_uAn _ _ _ (by decide), sA_uAn _ _ _ (by decide), sA_uAn _ _ _ (by decide)], hn]
  refine x_iconst (v := nI 1) d_Mo_putFlaw_62 (by decide +kernel) ?_
  refine x_iadd d_Mo_putFlaw_63 ?_
  rw [nI_add]
  refine y_iast hG d_Mo_putFlaw_64 k_m_flawCounts _ rfl (by omega) ?_
  refine x_return d_Mo_putFlaw_65 rfl ?_
  exact ⟨rfl, rfl⟩
set_option maxRecDepth 100000 in
set_option maxHeartbeats 1000000 in
theorem c_Mo_overlap {G : xG} {B d : Nat} {S : xS} (hG : xOkG G) {a b c d0 : Int32} : EX G m_Mo_overlap d 0 [(0, .int a), (1, .int b), (2, .int c), (3, .int d0)] [] (mk G B S) ((xRet G B (some (.int (bI (moOver a b c d0)))) S)) := by
  refine x_iload_n d_Mo_overlap_0 rfl ?_
  refine x_iload_n d_Mo_overlap_1 rfl ?_
  refine x_iload_n d_Mo_overlap_2 rfl ?_
  refine x_iadd d_Mo_overlap_3 ?_
  refine x_icmp_ge 18 d_Mo_overlap_4 rfl (fun hc4 => ?_) (fun hc4 => ?_)
  · skip
    skip
    refine x_iconst (v := nI 0) d_Mo_overlap_18 (by decide +kernel) ?_
    refine x_ireturn d_Mo_overlap_19 rfl (by decide +kernel) ?_
    refine ⟨?_, rfl⟩
    unfold moOver
    first
      | (rw [decide_eq_true (Int32.not_le.mp hc4), decide_eq_true (Int32.not_le.mp hc11)]; rfl)
      | (rw [decide_eq_false (Int32.not_lt.mpr hc4), Bool.false_and]; rfl)
      | (rw [decide_eq_false (Int32.not_lt.mpr hc11), Bool.and_false]; rfl)
  · skip
    skip
    refine x_iload_n d_Mo_overlap_7 rfl ?_
    refine x_iload_n d_Mo_overlap_8 rfl ?_
    refine x_iload_n d_Mo_overlap_9 rfl ?_
    refine x_iadd d_Mo_overlap_10 ?_
    refine x_icmp_ge 18 d_Mo_overlap_11 rfl (fun hc11 => ?_) (fun hc11 => ?_)
    · skip
      skip
      refine x_iconst (v := nI 0) d_Mo_overlap_18 (by decide +kernel) ?_
      refine x_ireturn d_Mo_overlap_19 rfl (by decide +kernel) ?_
      refine ⟨?_, rfl⟩
      unfold moOver
      first
        | (rw [decide_eq_true (Int32.not_le.mp hc4), decide_eq_true (Int32.not_le.mp hc11)]; rfl)
        | (rw [decide_eq_false (Int32.not_lt.mpr hc4), Bool.false_and]; rfl)
        | (rw [decide_eq_false (Int32.not_lt.mpr hc11), Bool.and_false]; rfl)
    · skip
      skip
      refine x_iconst (v := nI 1) d_Mo_overlap_14 (by decide +kernel) ?_
      refine x_goto 19 d_Mo_overlap_15 rfl ?_
      refine x_ireturn d_Mo_overlap_19 rfl (by decide +kernel) ?_
      refine ⟨?_, rfl⟩
      unfold moOver
      first
        | (rw [decide_eq_true (Int32.not_le.mp hc4), decide_eq_true (Int32.not_le.mp hc11)]; rfl)
        | (rw [decide_eq_false (Int32.not_lt.mpr hc4), Bool.false_and]; rfl)
        | (rw [decide_eq_false (Int32.not_lt.mpr hc11), Bool.and_false]; rfl)
set_option maxRecDepth 100000 in
set_option maxHeartbeats 1000000 in
theorem c_Mo_meets {G : xG} {B d : Nat} {S : xS} (hG : xOkG G) {s k : Nat} (hs : s < 10) (hk : k < 6) (hsk : 24 * s + 4 * k + 3 < 192) {x y w h : Int32} : EX G m_Mo_meets (d + 1) 0 [(0, .ref (B + 186)), (1, .int (nI s)), (2, .int (nI k)), (3, .int x), (4, .int y), (5, .int w), (6, .int h)] [] (mk G B S) ((xRet G B (some (.int (bI (moMeets S s k x y w h)))) S)) := by
  refine x_bipush (v := nI 24) d_Mo_meets_0 (by decide +kernel) ?_
  refine x_iload_n d_Mo_meets_2 rfl ?_
  refine x_imul d_Mo_meets_3 ?_
  rw [nI_mul]
  refine x_iconst (v := nI 4) d_Mo_meets_4 (by decide +kernel) ?_
  refine x_iload_n d_Mo_meets_5 rfl ?_
  refine x_imul d_Mo_meets_6 ?_
  rw [nI_mul]
  refine x_iadd d_Mo_meets_7 ?_
  rw [nI_add]
  refine s_istore (lv' := [(0, _), (1, _), (2, _), (3, _), (4, _), (5, _), (6, _), (7, _)]) d_Mo_meets_8 (by decide) rfl ?_
  refine x_aload_n d_Mo_meets_10 rfl ?_
  refine y_getf d_Mo_meets_11 gf_Mo_32 k_model rfl ?_
  refine x_iload d_Mo_meets_14 rfl ?_
  refine y_iald hG d_Mo_meets_16 k_m_flaws _ rfl (by omega) ?_
  refine x_aload_n d_Mo_meets_17 rfl ?_
  refine y_getf d_Mo_meets_18 gf_Mo_32 k_model rfl ?_
  refine x_iload d_Mo_meets_21 rfl ?_
  refine x_iconst (v := nI 2) d_Mo_meets_23 (by decide +kernel) ?_
  refine x_iadd d_Mo_meets_24 ?_
  rw [nI_add]
  refine y_iald hG d_Mo_meets_25 k_m_flaws _ rfl (by omega) ?_
  refine x_iload_n d_Mo_meets_26 rfl ?_
  refine x_iload d_Mo_meets_27 rfl ?_
  refine w_callS (As := [_, _, _, _]) d_Mo_meets_29 k_Mo_192 rfl rfl rfl (c_Mo_overlap hG) ?_
  refine z_bif_eq 67 d_Mo_meets_32 rfl (fun hc32 => ?_) (fun hc32 => ?_)
  · skip
    skip
    refine x_iconst (v := nI 0) d_Mo_meets_67 (by decide +kernel) ?_
    refine x_ireturn d_Mo_meets_68 rfl (by decide +kernel) ?_
    refine ⟨?_, rfl⟩
    unfold moMeets
    first
      | (rw [hc32, hc60]; rfl)
      | (rw [hc32, Bool.false_and]; rfl)
  · skip
    skip
    refine x_aload_n d_Mo_meets_35 rfl ?_
    refine y_getf d_Mo_meets_36 gf_Mo_32 k_model rfl ?_
    refine x_iload d_Mo_meets_39 rfl ?_
    refine x_iconst (v := nI 1) d_Mo_meets_41 (by decide +kernel) ?_
    refine x_iadd d_Mo_meets_42 ?_
    rw [nI_add]
    refine y_iald hG d_Mo_meets_43 k_m_flaws _ rfl (by omega) ?_
    refine x_aload_n d_Mo_meets_44 rfl ?_
    refine y_getf d_Mo_meets_45 gf_Mo_32 k_model rfl ?_
    refine x_iload d_Mo_meets_48 rfl ?_
    refine x_iconst (v := nI 3) d_Mo_meets_50 (by decide +kernel) ?_
    refine x_iadd d_Mo_meets_51 ?_
    rw [nI_add]
    refine y_iald hG d_Mo_meets_52 k_m_flaws _ rfl (by omega) ?_
    refine x_iload d_Mo_meets_53 rfl ?_
    refine x_iload d_Mo_meets_55 rfl ?_
    refine w_callS (As := [_, _, _, _]) d_Mo_meets_57 k_Mo_192 rfl rfl rfl (c_Mo_overlap hG) ?_
    refine z_bif_eq 67 d_Mo_meets_60 rfl (fun hc60 => ?_) (fun hc60 => ?_)
    · skip
      skip
      refine x_iconst (v := nI 0) d_Mo_meets_67 (by decide +kernel) ?_
      refine x_ireturn d_Mo_meets_68 rfl (by decide +kernel) ?_
      refine ⟨?_, rfl⟩
      unfold moMeets
      first
        | (rw [hc32, hc60]; rfl)
        | (rw [hc32, Bool.false_and]; rfl)
    · skip
      skip
      refine x_iconst (v := nI 1) d_Mo_meets_63 (by decide +kernel) ?_
      refine x_goto 68 d_Mo_meets_64 rfl ?_
      refine x_ireturn d_Mo_meets_68 rfl (by decide +kernel) ?_
      refine ⟨?_, rfl⟩
      unfold moMeets
      first
        | (rw [hc32, hc60]; rfl)
        | (rw [hc32, Bool.false_and]; rfl)
def moThr (S : xS) (k : Nat) : xS := uF S 186 0 (nI k)
theorem moMake_188 {S : xS} {s : Nat} {w h : Int32} : sA (moMake S s w h) 188 s = sF S 186 1 := by
  unfold moMake
  show sA (uA (uA (uA (uA (uA (uA (uA S 187 s (nI 1)) 188 s _) 189 s w) 190 s h) 191 s (nI 0)) 192 s (nI 0)) 193 s (nI 0)) 188 s = _
  rw [sA_uAn _ _ _ (by decide), sA_uAn _ _ _ (by decide), sA_uAn _ _ _ (by decide), sA_uAn _ _ _ (by decide), sA_uAn _ _ _ (by decide), sA_uA, va_up_self]
theorem moThr_F {S : xS} {v : Int32} {k : Nat} (h : k ≠ 0) : sF (uF S 186 0 v) 186 k = sF S 186 k := by rw [sF_uF, va_up_ne _ _ h]
theorem moThr_0 {S : xS} {k : Nat} : sF (moThr S k) 186 0 = nI k := by unfold moThr; rw [sF_uF]; exact va_up_self _ _ _
/-- what a call of the reference comes to: the number of what it throws, its answer, the state -/
def moP (k : Nat) (v : Int32) (S S' : xS) : Int32 × xS := if k = 0 then (v, S') else (0, moThr S k)
def moRet (G : xG) (B : Nat) (p : Int32 × xS) : xR → xH → Prop := xRet G B (some (.int p.1)) p.2
def moSheetC (S : xS) (w h : Int32) : Nat := if haLen w = false then 1 else if haLen h = false then 1 else if moSh S 8 = 8 then 2 else 0
def moSheet (S : xS) (s : Nat) (w h : Int32) : Int32 × xS := moP (moSheetC S w h) (sF S 186 1) S (moMake (uJ (moThr S 0) 186 35 (sJ S 186 35 + w.toInt64 * h.toInt64)) s w h)
set_option maxRecDepth 100000 in
set_option maxHeartbeats 1000000 in
theorem c_Mo_sheet {G : xG} {B d : Nat} {S : xS} (hG : xOkG G) {w h : Int32} {s : Nat} (hs : moSh S 8 ≠ 8 → fstN (fun s => decide (sA S 187 s = 0)) 8 = some s) : EX G m_Mo_sheet (d + 2) 0 [(0, .ref (B + 186)), (1, .int w), (2, .int h)] [] (mk G B S) (moRet G B (moSheet S s w h)) := by
  refine x_aload_n d_Mo_sheet_0 rfl ?_
  refine x_join 33 (.int (nI (moSheetC S w h))) ?_ (fun J1 => ?_)
  · skip
    refine y_puti d_Mo_sheet_33 pf_Mo_140 k_model (xBle rfl) rfl rfl rfl ?_
    refine x_aload_n d_Mo_sheet_36 rfl ?_
    refine y_getf (v := .int (nI (moSheetC S w h))) d_Mo_sheet_37 gf_Mo_140 k_model (congrArg (fun q => some (Value.int q)) moThr_0) ?_
    refine z_if_le 45 d_Mo_sheet_40 rfl (by unfold moSheetC; split <;> (try split) <;> (try split) <;> omega) (fun hc40 => ?_) (fun hc40 => ?_)
    · skip
      skip
      have h8 : moSh S 8 ≠ 8 := fun e => by
        unfold moSheetC at hc40
        rw [if_pos e] at hc40
        split at hc40
        · omega
        · split at hc40 <;> omega
      have hs8 := fsL (hs h8)
      refine x_aload_n d_Mo_sheet_45 rfl ?_
      refine x_dup d_Mo_sheet_46 rfl ?_
      refine y_getf d_Mo_sheet_47 gf_Mo_158 k_model rfl ?_
      refine x_iload_n d_Mo_sheet_50 rfl ?_
      refine x_i2l d_Mo_sheet_51 ?_
      refine x_iload_n d_Mo_sheet_52 rfl ?_
      refine x_i2l d_Mo_sheet_53 ?_
      refine x_lmul d_Mo_sheet_54 ?_
      refine x_ladd d_Mo_sheet_55 ?_
      refine y_putl d_Mo_sheet_56 pf_Mo_158 k_model (xBle rfl) rfl ?_
      refine x_aload_n d_Mo_sheet_59 rfl ?_
      refine y_getf d_Mo_sheet_60 gf_Mo_13 k_model rfl ?_
      refine x_aload_n d_Mo_sheet_63 rfl ?_
      refine x_iload_n d_Mo_sheet_64 rfl ?_
      refine x_iload_n d_Mo_sheet_65 rfl ?_
      refine w_callV (As := [_, _]) d_Mo_sheet_66 k_Mo_162 k_model rfl rfl rfl (c_Mo_make (s := s) hG (hs h8)) ?_
      refine y_iald hG d_Mo_sheet_69 k_m_ids _ rfl (by omega) ?_
      rw [moMake_188, show sF (uJ (uF S 186 0 (nI (moSheetC S w h))) 186 35 (sJ (uF S 186 0 (nI (moSheetC S w h))) 186 35 + w.toInt64 * h.toInt64)) 186 1 = sF S 186 1 from (moThr_F (S := S) (v := nI (moSheetC S w h)) (k := 1) (by decide))]
      refine x_ireturn d_Mo_sheet_70 rfl rfl ?_
      unfold moSheet moP
      rw [if_pos hc40, hc40]
      exact ⟨rfl, rfl⟩
    · skip
      skip
      refine x_iconst (v := nI 0) d_Mo_sheet_43 (by decide +kernel) ?_
      refine x_ireturn d_Mo_sheet_44 rfl rfl ?_
      unfold moSheet moP
      rw [if_neg (by omega)]
      exact ⟨rfl, rfl⟩
  · skip
    refine x_iload_n d_Mo_sheet_1 rfl ?_
    refine w_callS (As := [_]) d_Mo_sheet_2 k_Mo_150 rfl rfl rfl (c_Mo_isLength hG) ?_
    refine z_bif_eq 15 d_Mo_sheet_5 rfl (fun hc5 => ?_) (fun hc5 => ?_)
    · skip
      skip
      refine x_iconst (v := nI 1) d_Mo_sheet_15 (by decide +kernel) ?_
      refine x_goto 33 d_Mo_sheet_16 rfl ?_
      refine J1 _ ?_
      unfold moSheetC
      first
        | (rw [if_pos hc5])
        | (rw [if_neg (fun e => Bool.noConfusion (hc5.symm.trans e)), if_pos hc12])
        | (rw [if_neg (fun e => Bool.noConfusion (hc5.symm.trans e)), if_neg (fun e => Bool.noConfusion (hc12.symm.trans e)), if_pos hc25])
        | (rw [if_neg (fun e => Bool.noConfusion (hc5.symm.trans e)), if_neg (fun e => Bool.noConfusion (hc12.symm.trans e)), if_neg hc25])
    · skip
      skip
      refine x_iload_n d_Mo_sheet_8 rfl ?_
      refine w_callS (As := [_]) d_Mo_sheet_9 k_Mo_150 rfl rfl rfl (c_Mo_isLength hG) ?_
      refine z_bif_ne 19 d_Mo_sheet_12 rfl (fun hc12 => ?_) (fun hc12 => ?_)
      · skip
        skip
        refine x_aload_n d_Mo_sheet_19 rfl ?_
        refine w_callV (As := []) d_Mo_sheet_20 k_Mo_154 k_model rfl rfl rfl (c_Mo_sheets hG) ?_
        refine x_bipush (v := nI 8) d_Mo_sheet_23 (by decide +kernel) ?_
        refine z_icmp_ne 32 d_Mo_sheet_25 rfl (by have := moSh_le (S := S) 8; omega) (by omega) (fun hc25 => ?_) (fun hc25 => ?_)
        · skip
          skip
          refine x_iconst (v := nI 0) d_Mo_sheet_32 (by decide +kernel) ?_
          refine J1 _ ?_
          unfold moSheetC
          first
            | (rw [if_pos hc5])
            | (rw [if_neg (fun e => Bool.noConfusion (hc5.symm.trans e)), if_pos hc12])
            | (rw [if_neg (fun e => Bool.noConfusion (hc5.symm.trans e)), if_neg (fun e => Bool.noConfusion (hc12.symm.trans e)), if_pos hc25])
            | (rw [if_neg (fun e => Bool.noConfusion (hc5.symm.trans e)), if_neg (fun e => Bool.noConfusion (hc12.symm.trans e)), if_neg hc25])
        · skip
          skip
          refine x_iconst (v := nI 2) d_Mo_sheet_28 (by decide +kernel) ?_
          refine x_goto 33 d_Mo_sheet_29 rfl ?_
          refine J1 _ ?_
          unfold moSheetC
          first
            | (rw [if_pos hc5])
            | (rw [if_neg (fun e => Bool.noConfusion (hc5.symm.trans e)), if_pos hc12])
            | (rw [if_neg (fun e => Bool.noConfusion (hc5.symm.trans e)), if_neg (fun e => Bool.noConfusion (hc12.symm.trans e)), if_pos hc25])
            | (rw [if_neg (fun e => Bool.noConfusion (hc5.symm.trans e)), if_neg (fun e => Bool.noConfusion (hc12.symm.trans e)), if_neg hc25])
      · skip
        skip
        refine x_iconst (v := nI 1) d_Mo_sheet_15 (by decide +kernel) ?_
        refine x_goto 33 d_Mo_sheet_16 rfl ?_
        refine J1 _ ?_
        unfold moSheetC
        first
          | (rw [if_pos hc5])
          | (rw [if_neg (fun e => Bool.noConfusion (hc5.symm.trans e)), if_pos hc12])
          | (rw [if_neg (fun e => Bool.noConfusion (hc5.symm.trans e)), if_neg (fun e => Bool.noConfusion (hc12.symm.trans e)), if_pos hc25])
          | (rw [if_neg (fun e => Bool.noConfusion (hc5.symm.trans e)), if_neg (fun e => Bool.noConfusion (hc12.symm.trans e)), if_neg hc25])
def moIn (S : xS) (s : Nat) (x y w h : Int32) : Bool := decide (nI 1 ≤ w) && decide (nI 1 ≤ h) && decide (0 ≤ x) && decide (0 ≤ y) && decide (lg_cmp (x.toInt64 + w.toInt64) (sA S 189 s).toInt64 ≤ 0) && decide (lg_cmp (y.toInt64 + h.toInt64) (sA S 190 s).toInt64 ≤ 0)
def moFlawC (S : xS) (s : Nat) (x y w h : Int32) : Nat := if moIn S s x y w h = false then 2 else if ¬ sA S 191 s = 0 then 3 else if sA S 193 s = nI 6 then 3 else 0
def moFlaw (S : xS) (fs : Option Nat) (n : Nat) (x y w h : Int32) : Int32 × xS := match fs with
  | none => (0, moThr S 1)
  | some s => moP (moFlawC S s x y w h) (nI (n + 1)) S (moPutFlaw (moThr S 0) s n x y w h)
theorem moThr_t {S : xS} {j k : Nat} : moThr (moThr S j) k = moThr S k := by
  show ((up2 (up2 (sF S) 186 0 (nI j)) 186 0 (nI k), sA S, sJ S, sR S, sE S, sN S, sL S) : xS) = (up2 (sF S) 186 0 (nI k), sA S, sJ S, sR S, sE S, sN S, sL S)
  congr 1
  funext o
  by_cases ho : o = 186
  · subst ho
    rw [up2_self, up2_self, up2_self]
    funext i
    by_cases hi : i = 0
    · subst hi; rw [va_up_self, va_up_self]
    · rw [va_up_ne _ _ hi, va_up_ne _ _ hi, va_up_ne _ _ hi]
  · rw [up2_ne _ _ _ ho, up2_ne _ _ _ ho, up2_ne _ _ _ ho]
def moOrderC (N : Nat) (w h n : Int32) : Nat := if haLen w = false then 1 else if haLen h = false then 1 else if n < nI 1 then 1 else if nI 6 < n then 1 else if N = 6 then 2 else 0
def moOrdS (S : xS) (N : Nat) (w h t n : Int32) : xS := uF (uA (uA (uA (uA S 205 N w) 206 N h) 207 N t) 208 N n) 186 20 (nI (N + 1))
def moOrder (S : xS) (N : Nat) (w h t n : Int32) : Int32 × xS := moP (moOrderC N w h n) (nI N) S (moOrdS (moThr S 0) N w h t n)
set_option maxRecDepth 100000 in
set_option maxHeartbeats 1000000 in
theorem c_Mo_flawN {G : xG} {B d : Nat} {S : xS} (hG : xOkG G) {x a b w h : Int32} (hf : moFind S x 8 = none) : EX G m_Mo_flaw (d + 2) 0 [(0, .ref (B + 186)), (1, .int x), (2, .int a), (3, .int b), (4, .int w), (5, .int h)] [] (mk G B S) (moRet G B (moFlaw S none 0 a b w h)) := by
  refine x_aload_n d_Mo_flaw_0 rfl ?_
  refine x_iload_n d_Mo_flaw_1 rfl ?_
  refine w_callV (As := [_]) d_Mo_flaw_2 k_Mo_166 k_model rfl rfl rfl (c_Mo_find hG) ?_
  rw [hf, show cI none = -1 from rfl]
  refine s_istore (lv' := [(0, _), (1, _), (2, _), (3, _), (4, _), (5, _), (6, _)]) d_Mo_flaw_5 (by decide) rfl ?_
  refine x_aload_n d_Mo_flaw_7 rfl ?_
  refine x_iload d_Mo_flaw_8 rfl ?_
  refine x_if_ge 17 d_Mo_flaw_10 rfl (fun q => absurd q (by decide +kernel)) (fun hc10 => ?_)
  refine x_iconst (v := nI 1) d_Mo_flaw_13 (by decide +kernel) ?_
  refine x_goto 18 d_Mo_flaw_14 rfl ?_
  refine y_puti d_Mo_flaw_18 pf_Mo_140 k_model (xBle rfl) rfl rfl rfl ?_
  refine x_aload_n d_Mo_flaw_21 rfl ?_
  refine y_getf (v := .int (nI 1)) d_Mo_flaw_22 gf_Mo_140 k_model (congrArg (fun q => some (Value.int q)) moThr_0) ?_
  refine z_if_le 30 d_Mo_flaw_25 rfl (by omega) (fun q => absurd q (by omega)) (fun hc25 => ?_)
  refine x_iconst (v := nI 0) d_Mo_flaw_28 (by decide +kernel) ?_
  refine x_ireturn d_Mo_flaw_29 rfl rfl ?_
  exact ⟨rfl, rfl⟩
set_option maxRecDepth 100000 in
set_option maxHeartbeats 1000000 in
theorem c_Mo_flaw {G : xG} {B d : Nat} {S : xS} (hG : xOkG G) {x a b w h : Int32} {s n : Nat} (hf : moFind S x 8 = some s) (hn : sA S 193 s = nI n) (hn6 : n ≤ 6) : EX G m_Mo_flaw (d + 2) 0 [(0, .ref (B + 186)), (1, .int x), (2, .int a), (3, .int b), (4, .int w), (5, .int h)] [] (mk G B S) (moRet G B (moFlaw S (some s) n a b w h)) := by
  have hs8 := moFind_lt hf
  refine x_aload_n d_Mo_flaw_0 rfl ?_
  refine x_iload_n d_Mo_flaw_1 rfl ?_
  refine w_callV (As := [_]) d_Mo_flaw_2 k_Mo_166 k_model rfl rfl rfl (c_Mo_find hG) ?_
  rw [hf, show cI (some s) = nI s from rfl]
  refine s_istore (lv' := [(0, _), (1, _), (2, _), (3, _), (4, _), (5, _), (6, _)]) d_Mo_flaw_5 (by decide) rfl ?_
  refine x_aload_n d_Mo_flaw_7 rfl ?_
  refine x_iload d_Mo_flaw_8 rfl ?_
  refine z_if_ge 17 d_Mo_flaw_10 rfl (by omega) ?_
  refine x_iconst (v := nI 0) d_Mo_flaw_17 (by decide +kernel) ?_
  refine y_puti d_Mo_flaw_18 pf_Mo_140 k_model (xBle rfl) rfl rfl rfl ?_
  refine x_aload_n d_Mo_flaw_21 rfl ?_
  refine y_getf (v := .int (nI 0)) d_Mo_flaw_22 gf_Mo_140 k_model (congrArg (fun q => some (Value.int q)) moThr_0) ?_
  refine z_if_le 30 d_Mo_flaw_25 rfl (by omega) (fun hc25 => ?_) (fun q => absurd q (by omega))
  refine x_join 91 (.int (bI (moIn S s a b w h))) ?_ (fun J30 => ?_)
  · skip
    refine s_istore (lv' := [(0, _), (1, _), (2, _), (3, _), (4, _), (5, _), (6, _), (7, _)]) d_Mo_flaw_91 (by decide) rfl ?_
    refine x_aload_n d_Mo_flaw_93 rfl ?_
    refine x_join 130 (.int (nI (moFlawC S s a b w h))) ?_ (fun J94 => ?_)
    · skip
      refine y_puti d_Mo_flaw_130 pf_Mo_140 k_model (xBle rfl) rfl rfl rfl ?_
      refine x_aload_n d_Mo_flaw_133 rfl ?_
      refine y_getf (v := .int (nI (moFlawC S s a b w h))) d_Mo_flaw_134 gf_Mo_140 k_model (congrArg (fun q => some (Value.int q)) moThr_0) ?_
      refine z_if_le 142 d_Mo_flaw_137 rfl (by unfold moFlawC; split <;> (try split) <;> (try split) <;> omega) (fun hc137 => ?_) (fun hc137 => ?_)
      · skip
        skip
        have hn5 : n < 6 := by
          rcases Nat.lt_or_ge n 6 with q | q
          · exact q
          · exfalso
            have e : n = 6 := by omega
            subst e
            unfold moFlawC at hc137
            rw [if_pos hn] at hc137
            split at hc137
            · omega
            · split at hc137 <;> omega
        rw [hc137, show uF (uF S 186 0 (nI 0)) 186 0 (nI 0) = moThr S 0 from moThr_t]
        refine x_aload_n d_Mo_flaw_142 rfl ?_
        refine x_iload d_Mo_flaw_143 rfl ?_
        refine x_iload_n d_Mo_flaw_145 rfl ?_
        refine x_iload_n d_Mo_flaw_146 rfl ?_
        refine x_iload d_Mo_flaw_147 rfl ?_
        refine x_iload d_Mo_flaw_149 rfl ?_
        refine w_callV (As := [_, _, _, _, _]) d_Mo_flaw_151 k_Mo_170 k_model rfl rfl rfl (c_Mo_putFlaw (S := moThr S 0) hG hs8 hn hn5) ?_
        refine x_aload_n d_Mo_flaw_154 rfl ?_
        refine y_getf d_Mo_flaw_155 gf_Mo_29 k_model rfl ?_
        refine x_iload d_Mo_flaw_158 rfl ?_
        refine y_iald hG d_Mo_flaw_160 k_m_flawCounts _ rfl (by omega) ?_
        rw [show sA (moPutFlaw (moThr S 0) s n a b w h) 193 s = nI (n + 1) by unfold moPutFlaw; rw [sA_uA, va_up_self]]
        refine x_ireturn d_Mo_flaw_161 rfl rfl ?_
        unfold moFlaw moP
        simp only []
        rw [if_pos hc137]
        exact ⟨rfl, rfl⟩
      · skip
        skip
        refine x_iconst (v := nI 0) d_Mo_flaw_140 (by decide +kernel) ?_
        refine x_ireturn d_Mo_flaw_141 rfl rfl ?_
        unfold moFlaw moP
        simp only []
        rw [if_neg (by omega)]
        exact ⟨rfl, by rw [show uF (uF S 186 0 (nI 0)) 186 0 (nI (moFlawC S s a b w h)) = _ from moThr_t]⟩
    · skip
      refine x_iload d_Mo_flaw_94 rfl ?_
      refine z_bif_ne 103 d_Mo_flaw_96 rfl (fun hc96 => ?_) (fun hc96 => ?_)
      · skip
        skip
        refine x_aload_n d_Mo_flaw_103 rfl ?_
        refine y_getf d_Mo_flaw_104 gf_Mo_23 k_model rfl ?_
        refine x_iload d_Mo_flaw_107 rfl ?_
        refine y_zald hG d_Mo_flaw_109 k_m_planned _ rfl (by omega) ?_
        refine x_if_ne 125 d_Mo_flaw_110 rfl (fun hc110 => ?_) (fun hc110 => ?_)
        · skip
          skip
          refine x_iconst (v := nI 3) d_Mo_flaw_125 (by decide +kernel) ?_
          refine x_goto 130 d_Mo_flaw_126 rfl ?_
          refine J94 _ ?_
          unfold moFlawC
          first
            | (rw [if_pos hc96]; done)
            | (rw [if_neg (fun e => Bool.noConfusion (hc96.symm.trans e)), if_pos (show ¬ sA S 191 s = 0 from hc110)]; done)
            | (rw [if_neg (fun e => Bool.noConfusion (hc96.symm.trans e)), if_neg (Classical.not_not.mpr (show sA S 191 s = 0 from hc110)), if_pos (show sA S 193 s = nI 6 from hc122)]; done)
            | (rw [if_neg (fun e => Bool.noConfusion (hc96.symm.trans e)), if_neg (Classical.not_not.mpr (show sA S 191 s = 0 from hc110)), if_neg (show ¬ sA S 193 s = nI 6 from hc122)]; done)
        · skip
          skip
          refine x_aload_n d_Mo_flaw_113 rfl ?_
          refine y_getf d_Mo_flaw_114 gf_Mo_29 k_model rfl ?_
          refine x_iload d_Mo_flaw_117 rfl ?_
          refine y_iald hG d_Mo_flaw_119 k_m_flawCounts _ rfl (by omega) ?_
          refine x_bipush (v := nI 6) d_Mo_flaw_120 (by decide +kernel) ?_
          refine x_icmp_ne 129 d_Mo_flaw_122 rfl (fun hc122 => ?_) (fun hc122 => ?_)
          · skip
            skip
            refine x_iconst (v := nI 0) d_Mo_flaw_129 (by decide +kernel) ?_
            refine J94 _ ?_
            unfold moFlawC
            first
              | (rw [if_pos hc96]; done)
              | (rw [if_neg (fun e => Bool.noConfusion (hc96.symm.trans e)), if_pos (show ¬ sA S 191 s = 0 from hc110)]; done)
              | (rw [if_neg (fun e => Bool.noConfusion (hc96.symm.trans e)), if_neg (Classical.not_not.mpr (show sA S 191 s = 0 from hc110)), if_pos (show sA S 193 s = nI 6 from hc122)]; done)
              | (rw [if_neg (fun e => Bool.noConfusion (hc96.symm.trans e)), if_neg (Classical.not_not.mpr (show sA S 191 s = 0 from hc110)), if_neg (show ¬ sA S 193 s = nI 6 from hc122)]; done)
          · skip
            skip
            refine x_iconst (v := nI 3) d_Mo_flaw_125 (by decide +kernel) ?_
            refine x_goto 130 d_Mo_flaw_126 rfl ?_
            refine J94 _ ?_
            unfold moFlawC
            first
              | (rw [if_pos hc96]; done)
              | (rw [if_neg (fun e => Bool.noConfusion (hc96.symm.trans e)), if_pos (show ¬ sA S 191 s = 0 from hc110)]; done)
              | (rw [if_neg (fun e => Bool.noConfusion (hc96.symm.trans e)), if_neg (Classical.not_not.mpr (show sA S 191 s = 0 from hc110)), if_pos (show sA S 193 s = nI 6 from hc122)]; done)
              | (rw [if_neg (fun e => Bool.noConfusion (hc96.symm.trans e)), if_neg (Classical.not_not.mpr (show sA S 191 s = 0 from hc110)), if_neg (show ¬ sA S 193 s = nI 6 from hc122)]; done)
      · skip
        skip
        refine x_iconst (v := nI 2) d_Mo_flaw_99 (by decide +kernel) ?_
        refine x_goto 130 d_Mo_flaw_100 rfl ?_
        refine J94 _ ?_
        unfold moFlawC
        first
          | (rw [if_pos hc96]; done)
          | (rw [if_neg (fun e => Bool.noConfusion (hc96.symm.trans e)), if_pos (show ¬ sA S 191 s = 0 from hc110)]; done)
          | (rw [if_neg (fun e => Bool.noConfusion (hc96.symm.trans e)), if_neg (Classical.not_not.mpr (show sA S 191 s = 0 from hc110)), if_pos (show sA S 193 s = nI 6 from hc122)]; done)
          | (rw [if_neg (fun e => Bool.noConfusion (hc96.symm.trans e)), if_neg (Classical.not_not.mpr (show sA S 191 s = 0 from hc110)), if_neg (show ¬ sA S 193 s = nI 6 from hc122)]; done)
  · skip
    refine x_iload d_Mo_flaw_30 rfl ?_
    refine x_iconst (v := nI 1) d_Mo_flaw_32 (by decide +kernel) ?_
    refine x_icmp_lt 90 d_Mo_flaw_33 rfl (fun hc33 => ?_) (fun hc33 => ?_)
    · skip
      skip
      refine x_iconst (v := nI 0) d_Mo_flaw_90 (by decide +kernel) ?_
      refine J30 _ ?_
      unfold moIn
      first
        | (rw [decide_eq_true (Int32.not_lt.mp hc33), decide_eq_true (Int32.not_lt.mp hc39), decide_eq_true (Int32.not_lt.mp hc43), decide_eq_true (Int32.not_lt.mp hc47), decide_eq_true (show lg_cmp (a.toInt64 + w.toInt64) (sA S 189 s).toInt64 ≤ 0 from Int32.not_lt.mp hc65), decide_eq_true (show lg_cmp (b.toInt64 + h.toInt64) (sA S 190 s).toInt64 ≤ 0 from Int32.not_lt.mp hc83)]; rfl)
        | (rw [decide_eq_false (show ¬ lg_cmp (b.toInt64 + h.toInt64) (sA S 190 s).toInt64 ≤ 0 from Int32.not_le.mpr hc83), Bool.and_false]; rfl)
        | (rw [decide_eq_false (show ¬ lg_cmp (a.toInt64 + w.toInt64) (sA S 189 s).toInt64 ≤ 0 from Int32.not_le.mpr hc65), Bool.and_false, Bool.false_and]; rfl)
        | (rw [decide_eq_false (Int32.not_le.mpr hc47), Bool.and_false, Bool.false_and, Bool.false_and]; rfl)
        | (rw [decide_eq_false (Int32.not_le.mpr hc43), Bool.and_false, Bool.false_and, Bool.false_and, Bool.false_and]; rfl)
        | (rw [decide_eq_false (Int32.not_le.mpr hc39), Bool.and_false, Bool.false_and, Bool.false_and, Bool.false_and, Bool.false_and]; rfl)
        | (rw [decide_eq_false (Int32.not_le.mpr hc33), Bool.false_and, Bool.false_and, Bool.false_and, Bool.false_and, Bool.false_and]; rfl)
    · skip
      skip
      refine x_iload d_Mo_flaw_36 rfl ?_
      refine x_iconst (v := nI 1) d_Mo_flaw_38 (by decide +kernel) ?_
      refine x_icmp_lt 90 d_Mo_flaw_39 rfl (fun hc39 => ?_) (fun hc39 => ?_)
      · skip
        skip
        refine x_iconst (v := nI 0) d_Mo_flaw_90 (by decide +kernel) ?_
        refine J30 _ ?_
        unfold moIn
        first
          | (rw [decide_eq_true (Int32.not_lt.mp hc33), decide_eq_true (Int32.not_lt.mp hc39), decide_eq_true (Int32.not_lt.mp hc43), decide_eq_true (Int32.not_lt.mp hc47), decide_eq_true (show lg_cmp (a.toInt64 + w.toInt64) (sA S 189 s).toInt64 ≤ 0 from Int32.not_lt.mp hc65), decide_eq_true (show lg_cmp (b.toInt64 + h.toInt64) (sA S 190 s).toInt64 ≤ 0 from Int32.not_lt.mp hc83)]; rfl)
          | (rw [decide_eq_false (show ¬ lg_cmp (b.toInt64 + h.toInt64) (sA S 190 s).toInt64 ≤ 0 from Int32.not_le.mpr hc83), Bool.and_false]; rfl)
          | (rw [decide_eq_false (show ¬ lg_cmp (a.toInt64 + w.toInt64) (sA S 189 s).toInt64 ≤ 0 from Int32.not_le.mpr hc65), Bool.and_false, Bool.false_and]; rfl)
          | (rw [decide_eq_false (Int32.not_le.mpr hc47), Bool.and_false, Bool.false_and, Bool.false_and]; rfl)
          | (rw [decide_eq_false (Int32.not_le.mpr hc43), Bool.and_false, Bool.false_and, Bool.false_and, Bool.false_and]; rfl)
          | (rw [decide_eq_false (Int32.not_le.mpr hc39), Bool.and_false, Bool.false_and, Bool.false_and, Bool.false_and, Bool.false_and]; rfl)
          | (rw [decide_eq_false (Int32.not_le.mpr hc33), Bool.false_and, Bool.false_and, Bool.false_and, Bool.false_and, Bool.false_and]; rfl)
      · skip
        skip
        refine x_iload_n d_Mo_flaw_42 rfl ?_
        refine x_if_lt 90 d_Mo_flaw_43 rfl (fun hc43 => ?_) (fun hc43 => ?_)
        · skip
          skip
          refine x_iconst (v := nI 0) d_Mo_flaw_90 (by decide +kernel) ?_
          refine J30 _ ?_
          unfold moIn
          first
            | (rw [decide_eq_true (Int32.not_lt.mp hc33), decide_eq_true (Int32.not_lt.mp hc39), decide_eq_true (Int32.not_lt.mp hc43), decide_eq_true (Int32.not_lt.mp hc47), decide_eq_true (show lg_cmp (a.toInt64 + w.toInt64) (sA S 189 s).toInt64 ≤ 0 from Int32.not_lt.mp hc65), decide_eq_true (show lg_cmp (b.toInt64 + h.toInt64) (sA S 190 s).toInt64 ≤ 0 from Int32.not_lt.mp hc83)]; rfl)
            | (rw [decide_eq_false (show ¬ lg_cmp (b.toInt64 + h.toInt64) (sA S 190 s).toInt64 ≤ 0 from Int32.not_le.mpr hc83), Bool.and_false]; rfl)
            | (rw [decide_eq_false (show ¬ lg_cmp (a.toInt64 + w.toInt64) (sA S 189 s).toInt64 ≤ 0 from Int32.not_le.mpr hc65), Bool.and_false, Bool.false_and]; rfl)
            | (rw [decide_eq_false (Int32.not_le.mpr hc47), Bool.and_false, Bool.false_and, Bool.false_and]; rfl)
            | (rw [decide_eq_false (Int32.not_le.mpr hc43), Bool.and_false, Bool.false_and, Bool.false_and, Bool.false_and]; rfl)
            | (rw [decide_eq_false (Int32.not_le.mpr hc39), Bool.and_false, Bool.false_and, Bool.false_and, Bool.false_and, Bool.false_and]; rfl)
            | (rw [decide_eq_false (Int32.not_le.mpr hc33), Bool.false_and, Bool.false_and, Bool.false_and, Bool.false_and, Bool.false_and]; rfl)
        · skip
          skip
          refine x_iload_n d_Mo_flaw_46 rfl ?_
          refine x_if_lt 90 d_Mo_flaw_47 rfl (fun hc47 => ?_) (fun hc47 => ?_)
          · skip
            skip
            refine x_iconst (v := nI 0) d_Mo_flaw_90 (by decide +kernel) ?_
            refine J30 _ ?_
            unfold moIn
            first
              | (rw [decide_eq_true (Int32.not_lt.mp hc33), decide_eq_true (Int32.not_lt.mp hc39), decide_eq_true (Int32.not_lt.mp hc43), decide_eq_true (Int32.not_lt.mp hc47), decide_eq_true (show lg_cmp (a.toInt64 + w.toInt64) (sA S 189 s).toInt64 ≤ 0 from Int32.not_lt.mp hc65), decide_eq_true (show lg_cmp (b.toInt64 + h.toInt64) (sA S 190 s).toInt64 ≤ 0 from Int32.not_lt.mp hc83)]; rfl)
              | (rw [decide_eq_false (show ¬ lg_cmp (b.toInt64 + h.toInt64) (sA S 190 s).toInt64 ≤ 0 from Int32.not_le.mpr hc83), Bool.and_false]; rfl)
              | (rw [decide_eq_false (show ¬ lg_cmp (a.toInt64 + w.toInt64) (sA S 189 s).toInt64 ≤ 0 from Int32.not_le.mpr hc65), Bool.and_false, Bool.false_and]; rfl)
              | (rw [decide_eq_false (Int32.not_le.mpr hc47), Bool.and_false, Bool.false_and, Bool.false_and]; rfl)
              | (rw [decide_eq_false (Int32.not_le.mpr hc43), Bool.and_false, Bool.false_and, Bool.false_and, Bool.false_and]; rfl)
              | (rw [decide_eq_false (Int32.not_le.mpr hc39), Bool.and_false, Bool.false_and, Bool.false_and, Bool.false_and, Bool.false_and]; rfl)
              | (rw [decide_eq_false (Int32.not_le.mpr hc33), Bool.false_and, Bool.false_and, Bool.false_and, Bool.false_and, Bool.false_and]; rfl)
          · skip
            skip
            refine x_iload_n d_Mo_flaw_50 rfl ?_
            refine x_i2l d_Mo_flaw_51 ?_
            refine x_iload d_Mo_flaw_52 rfl ?_
            refine x_i2l d_Mo_flaw_54 ?_
            refine x_ladd d_Mo_flaw_55 ?_
            refine x_aload_n d_Mo_flaw_56 rfl ?_
            refine y_getf d_Mo_flaw_57 gf_Mo_17 k_model rfl ?_
            refine x_iload d_Mo_flaw_60 rfl ?_
            refine y_iald hG d_Mo_flaw_62 k_m_widths _ rfl (by omega) ?_
            refine x_i2l d_Mo_flaw_63 ?_
            refine x_lcmp d_Mo_flaw_64 ?_
            refine x_if_gt 90 d_Mo_flaw_65 rfl (fun hc65 => ?_) (fun hc65 => ?_)
            · skip
              skip
              refine x_iconst (v := nI 0) d_Mo_flaw_90 (by decide +kernel) ?_
              refine J30 _ ?_
              unfold moIn
              first
                | (rw [decide_eq_true (Int32.not_lt.mp hc33), decide_eq_true (Int32.not_lt.mp hc39), decide_eq_true (Int32.not_lt.mp hc43), decide_eq_true (Int32.not_lt.mp hc47), decide_eq_true (show lg_cmp (a.toInt64 + w.toInt64) (sA S 189 s).toInt64 ≤ 0 from Int32.not_lt.mp hc65), decide_eq_true (show lg_cmp (b.toInt64 + h.toInt64) (sA S 190 s).toInt64 ≤ 0 from Int32.not_lt.mp hc83)]; rfl)
                | (rw [decide_eq_false (show ¬ lg_cmp (b.toInt64 + h.toInt64) (sA S 190 s).toInt64 ≤ 0 from Int32.not_le.mpr hc83), Bool.and_false]; rfl)
                | (rw [decide_eq_false (show ¬ lg_cmp (a.toInt64 + w.toInt64) (sA S 189 s).toInt64 ≤ 0 from Int32.not_le.mpr hc65), Bool.and_false, Bool.false_and]; rfl)
                | (rw [decide_eq_false (Int32.not_le.mpr hc47), Bool.and_false, Bool.false_and, Bool.false_and]; rfl)
                | (rw [decide_eq_false (Int32.not_le.mpr hc43), Bool.and_false, Bool.false_and, Bool.false_and, Bool.false_and]; rfl)
                | (rw [decide_eq_false (Int32.not_le.mpr hc39), Bool.and_false, Bool.false_and, Bool.false_and, Bool.false_and, Bool.false_and]; rfl)
                | (rw [decide_eq_false (Int32.not_le.mpr hc33), Bool.false_and, Bool.false_and, Bool.false_and, Bool.false_and, Bool.false_and]; rfl)
            · skip
              skip
              refine x_iload_n d_Mo_flaw_68 rfl ?_
              refine x_i2l d_Mo_flaw_69 ?_
              refine x_iload d_Mo_flaw_70 rfl ?_
              refine x_i2l d_Mo_flaw_72 ?_
              refine x_ladd d_Mo_flaw_73 ?_
              refine x_aload_n d_Mo_flaw_74 rfl ?_
              refine y_getf d_Mo_flaw_75 gf_Mo_20 k_model rfl ?_
              refine x_iload d_Mo_flaw_78 rfl ?_
              refine y_iald hG d_Mo_flaw_80 k_m_heights _ rfl (by omega) ?_
              refine x_i2l d_Mo_flaw_81 ?_
              refine x_lcmp d_Mo_flaw_82 ?_
              refine x_if_gt 90 d_Mo_flaw_83 rfl (fun hc83 => ?_) (fun hc83 => ?_)
              · skip
                skip
                refine x_iconst (v := nI 0) d_Mo_flaw_90 (by decide +kernel) ?_
                refine J30 _ ?_
                unfold moIn
                first
                  | (rw [decide_eq_true (Int32.not_lt.mp hc33), decide_eq_true (Int32.not_lt.mp hc39), decide_eq_true (Int32.not_lt.mp hc43), decide_eq_true (Int32.not_lt.mp hc47), decide_eq_true (show lg_cmp (a.toInt64 + w.toInt64) (sA S 189 s).toInt64 ≤ 0 from Int32.not_lt.mp hc65), decide_eq_true (show lg_cmp (b.toInt64 + h.toInt64) (sA S 190 s).toInt64 ≤ 0 from Int32.not_lt.mp hc83)]; rfl)
                  | (rw [decide_eq_false (show ¬ lg_cmp (b.toInt64 + h.toInt64) (sA S 190 s).toInt64 ≤ 0 from Int32.not_le.mpr hc83), Bool.and_false]; rfl)
                  | (rw [decide_eq_false (show ¬ lg_cmp (a.toInt64 + w.toInt64) (sA S 189 s).toInt64 ≤ 0 from Int32.not_le.mpr hc65), Bool.and_false, Bool.false_and]; rfl)
                  | (rw [decide_eq_false (Int32.not_le.mpr hc47), Bool.and_false, Bool.false_and, Bool.false_and]; rfl)
                  | (rw [decide_eq_false (Int32.not_le.mpr hc43), Bool.and_false, Bool.false_and, Bool.false_and, Bool.false_and]; rfl)
                  | (rw [decide_eq_false (Int32.not_le.mpr hc39), Bool.and_false, Bool.false_and, Bool.false_and, Bool.false_and, Bool.false_and]; rfl)
                  | (rw [decide_eq_false (Int32.not_le.mpr hc33), Bool.false_and, Bool.false_and, Bool.false_and, Bool.false_and, Bool.false_and]; rfl)
              · skip
                skip
                refine x_iconst (v := nI 1) d_Mo_flaw_86 (by decide +kernel) ?_
                refine x_goto 91 d_Mo_flaw_87 rfl ?_
                refine J30 _ ?_
                unfold moIn
                first
                  | (rw [decide_eq_true (Int32.not_lt.mp hc33), decide_eq_true (Int32.not_lt.mp hc39), decide_eq_true (Int32.not_lt.mp hc43), decide_eq_true (Int32.not_lt.mp hc47), decide_eq_true (show lg_cmp (a.toInt64 + w.toInt64) (sA S 189 s).toInt64 ≤ 0 from Int32.not_lt.mp hc65), decide_eq_true (show lg_cmp (b.toInt64 + h.toInt64) (sA S 190 s).toInt64 ≤ 0 from Int32.not_lt.mp hc83)]; rfl)
                  | (rw [decide_eq_false (show ¬ lg_cmp (b.toInt64 + h.toInt64) (sA S 190 s).toInt64 ≤ 0 from Int32.not_le.mpr hc83), Bool.and_false]; rfl)
                  | (rw [decide_eq_false (show ¬ lg_cmp (a.toInt64 + w.toInt64) (sA S 189 s).toInt64 ≤ 0 from Int32.not_le.mpr hc65), Bool.and_false, Bool.false_and]; rfl)
                  | (rw [decide_eq_false (Int32.not_le.mpr hc47), Bool.and_false, Bool.false_and, Bool.false_and]; rfl)
                  | (rw [decide_eq_false (Int32.not_le.mpr hc43), Bool.and_false, Bool.false_and, Bool.false_and, Bool.false_and]; rfl)
                  | (rw [decide_eq_false (Int32.not_le.mpr hc39), Bool.and_false, Bool.false_and, Bool.false_and, Bool.false_and, Bool.false_and]; rfl)
                  | (rw [decide_eq_false (Int32.not_le.mpr hc33), Bool.false_and, Bool.false_and, Bool.false_and, Bool.false_and, Bool.false_and]; rfl)
set_option maxRecDepth 100000 in
set_option maxHeartbeats 1000000 in
theorem c_Mo_order {G : xG} {B d : Nat} {S : xS} (hG : xOkG G) {N : Nat} (hN : sF S 186 20 = nI N) (hN6 : N ≤ 6) {w h n : Int32} {t : Bool} : EX G m_Mo_order (d + 1) 0 [(0, .ref (B + 186)), (1, .int w), (2, .int h), (3, .int (bI t)), (4, .int n)] [] (mk G B S) (moRet G B (moOrder S N w h (bI t) n)) := by
  refine x_join 32 (.int (bI (haLen w && haLen h && !decide (n < nI 1) && !decide (nI 6 < n)))) ?_ (fun J0 => ?_)
  · skip
    refine s_istore (lv' := [(0, _), (1, _), (2, _), (3, _), (4, _), (5, _)]) d_Mo_order_32 (by decide) rfl ?_
    refine x_aload_n d_Mo_order_34 rfl ?_
    refine x_join 58 (.int (nI (moOrderC N w h n))) ?_ (fun J35 => ?_)
    · skip
      refine y_puti d_Mo_order_58 pf_Mo_140 k_model (xBle rfl) rfl rfl rfl ?_
      refine x_aload_n d_Mo_order_61 rfl ?_
      refine y_getf (v := .int (nI (moOrderC N w h n))) d_Mo_order_62 gf_Mo_140 k_model (congrArg (fun q => some (Value.int q)) moThr_0) ?_
      refine z_if_le 70 d_Mo_order_65 rfl (by unfold moOrderC; split <;> (try split) <;> (try split) <;> (try split) <;> (try split) <;> omega) (fun hc65 => ?_) (fun hc65 => ?_)
      · skip
        skip
        have hN5 : N < 6 := by
          rcases Nat.lt_or_ge N 6 with q | q
          · exact q
          · exfalso
            have e : N = 6 := by omega
            unfold moOrderC at hc65
            rw [if_pos e] at hc65
            split at hc65
            · omega
            · split at hc65
              · omega
              · split at hc65
                · omega
                · split at hc65 <;> omega
        rw [hc65]
        have hN0 : sF (moThr S 0) 186 20 = nI N := (moThr_F (by decide)).trans hN
        refine x_aload_n d_Mo_order_70 rfl ?_
        refine y_getf d_Mo_order_71 gf_Mo_65 k_model rfl ?_
        refine x_aload_n d_Mo_order_74 rfl ?_
        refine y_getf (v := .int (nI N)) d_Mo_order_75 gf_Mo_144 k_model (congrArg (fun q => some (Value.int q)) hN0) ?_
        refine x_iload_n d_Mo_order_78 rfl ?_
        refine y_iast hG d_Mo_order_79 k_m_orderW _ rfl (by omega) ?_
        refine x_aload_n d_Mo_order_80 rfl ?_
        refine y_getf d_Mo_order_81 gf_Mo_68 k_model rfl ?_
        refine x_aload_n d_Mo_order_84 rfl ?_
        refine y_getf (v := .int (nI N)) d_Mo_order_85 gf_Mo_144 k_model (congrArg (fun q => some (Value.int q)) hN0) ?_
        refine x_iload_n d_Mo_order_88 rfl ?_
        refine y_iast hG d_Mo_order_89 k_m_orderH _ rfl (by omega) ?_
        refine x_aload_n d_Mo_order_90 rfl ?_
        refine y_getf d_Mo_order_91 gf_Mo_71 k_model rfl ?_
        refine x_aload_n d_Mo_order_94 rfl ?_
        refine y_getf (v := .int (nI N)) d_Mo_order_95 gf_Mo_144 k_model (congrArg (fun q => some (Value.int q)) hN0) ?_
        refine x_iload_n d_Mo_order_98 rfl ?_
        refine y_zast hG d_Mo_order_99 k_m_turns _ rfl (by omega) bI_n ?_
        refine x_aload_n d_Mo_order_100 rfl ?_
        refine y_getf d_Mo_order_101 gf_Mo_74 k_model rfl ?_
        refine x_aload_n d_Mo_order_104 rfl ?_
        refine y_getf (v := .int (nI N)) d_Mo_order_105 gf_Mo_144 k_model (congrArg (fun q => some (Value.int q)) hN0) ?_
        refine x_iload d_Mo_order_108 rfl ?_
        refine y_iast hG d_Mo_order_110 k_m_open _ rfl (by omega) ?_
        refine x_aload_n d_Mo_order_111 rfl ?_
        refine x_dup d_Mo_order_112 rfl ?_
        refine y_getf (v := .int (nI N)) d_Mo_order_113 gf_Mo_144 k_model (congrArg (fun q => some (Value.int q)) hN0) ?_
        refine x_iconst (v := nI 1) d_Mo_order_116 (by decide +kernel) ?_
        refine x_iadd d_Mo_order_117 ?_
        rw [nI_add]
        refine y_puti d_Mo_order_118 pf_Mo_144 k_model (xBle rfl) rfl rfl rfl ?_
        refine x_aload_n d_Mo_order_121 rfl ?_
        refine y_getf (v := .int (nI (N + 1))) d_Mo_order_122 gf_Mo_144 k_model (congrArg (fun q => some (Value.int q)) (by rw [sF_uF]; exact va_up_self _ _ _)) ?_
        refine x_iconst (v := nI 1) d_Mo_order_125 (by decide +kernel) ?_
        refine x_isub d_Mo_order_126 ?_
        rw [pk_sub (by omega), Nat.add_sub_cancel]
        refine x_ireturn d_Mo_order_127 rfl rfl ?_
        unfold moOrder moP
        rw [if_pos hc65]
        exact ⟨rfl, rfl⟩
      · skip
        skip
        refine x_iconst (v := nI 0) d_Mo_order_68 (by decide +kernel) ?_
        refine x_ireturn d_Mo_order_69 rfl rfl ?_
        unfold moOrder moP
        rw [if_neg (by omega)]
        exact ⟨rfl, rfl⟩
    · skip
      refine x_iload d_Mo_order_35 rfl ?_
      refine z_bif_ne 44 d_Mo_order_37 rfl (fun hc37 => ?_) (fun hc37 => ?_)
      · skip
        skip
        refine x_aload_n d_Mo_order_44 rfl ?_
        refine y_getf (v := .int (nI N)) d_Mo_order_45 gf_Mo_144 k_model (congrArg (fun q => some (Value.int q)) hN) ?_
        refine x_bipush (v := nI 6) d_Mo_order_48 (by decide +kernel) ?_
        refine z_icmp_ne 57 d_Mo_order_50 rfl (by omega) (by omega) (fun hc50 => ?_) (fun hc50 => ?_)
        · skip
          skip
          refine x_iconst (v := nI 0) d_Mo_order_57 (by decide +kernel) ?_
          refine J35 _ ?_
          unfold moOrderC
          cases q1 : haLen w
          · rw [q1] at hc37; first | rfl | (exact absurd hc37 (by simp))
          cases q2 : haLen h
          · rw [q1, q2] at hc37; first | rfl | (exact absurd hc37 (by simp))
          rw [if_neg (by decide), if_neg (by decide)]
          by_cases q3 : n < nI 1
          · first | (rw [if_pos q3]; done) | (exfalso; rw [q1, q2, decide_eq_true q3] at hc37; simp at hc37; done)
          rw [if_neg q3]
          by_cases q4 : nI 6 < n
          · first | (rw [if_pos q4]; done) | (exfalso; rw [q1, q2, decide_eq_false q3, decide_eq_true q4] at hc37; simp at hc37; done)
          rw [if_neg q4]
          rw [q1, q2, decide_eq_false q3, decide_eq_false q4] at hc37
          first
            | (rw [if_pos hc50]; done)
            | (rw [if_neg hc50]; done)
            | exact absurd hc37 (by decide)
        · skip
          skip
          refine x_iconst (v := nI 2) d_Mo_order_53 (by decide +kernel) ?_
          refine x_goto 58 d_Mo_order_54 rfl ?_
          refine J35 _ ?_
          unfold moOrderC
          cases q1 : haLen w
          · rw [q1] at hc37; first | rfl | (exact absurd hc37 (by simp))
          cases q2 : haLen h
          · rw [q1, q2] at hc37; first | rfl | (exact absurd hc37 (by simp))
          rw [if_neg (by decide), if_neg (by decide)]
          by_cases q3 : n < nI 1
          · first | (rw [if_pos q3]; done) | (exfalso; rw [q1, q2, decide_eq_true q3] at hc37; simp at hc37; done)
          rw [if_neg q3]
          by_cases q4 : nI 6 < n
          · first | (rw [if_pos q4]; done) | (exfalso; rw [q1, q2, decide_eq_false q3, decide_eq_true q4] at hc37; simp at hc37; done)
          rw [if_neg q4]
          rw [q1, q2, decide_eq_false q3, decide_eq_false q4] at hc37
          first
            | (rw [if_pos hc50]; done)
            | (rw [if_neg hc50]; done)
            | exact absurd hc37 (by decide)
      · skip
        skip
        refine x_iconst (v := nI 1) d_Mo_order_40 (by decide +kernel) ?_
        refine x_goto 58 d_Mo_order_41 rfl ?_
        refine J35 _ ?_
        unfold moOrderC
        cases q1 : haLen w
        · rw [q1] at hc37; first | rfl | (exact absurd hc37 (by simp))
        cases q2 : haLen h
        · rw [q1, q2] at hc37; first | rfl | (exact absurd hc37 (by simp))
        rw [if_neg (by decide), if_neg (by decide)]
        by_cases q3 : n < nI 1
        · first | (rw [if_pos q3]; done) | (exfalso; rw [q1, q2, decide_eq_true q3] at hc37; simp at hc37; done)
        rw [if_neg q3]
        by_cases q4 : nI 6 < n
        · first | (rw [if_pos q4]; done) | (exfalso; rw [q1, q2, decide_eq_false q3, decide_eq_true q4] at hc37; simp at hc37; done)
        rw [if_neg q4]
        rw [q1, q2, decide_eq_false q3, decide_eq_false q4] at hc37
        first
          | (rw [if_pos hc50]; done)
          | (rw [if_neg hc50]; done)
          | exact absurd hc37 (by decide)
  · skip
    refine x_iload_n d_Mo_order_0 rfl ?_
    refine w_callS (As := [_]) d_Mo_order_1 k_Mo_150 rfl rfl rfl (c_Mo_isLength hG) ?_
    refine z_bif_eq 31 d_Mo_order_4 rfl (fun hc4 => ?_) (fun hc4 => ?_)
    · skip
      skip
      refine x_iconst (v := nI 0) d_Mo_order_31 (by decide +kernel) ?_
      refine J0 _ ?_
      first
        | (rw [hc4]; rfl)
        | (rw [hc4, hc11]; rfl)
        | (rw [hc4, hc11, decide_eq_true hc17]; rfl)
        | (rw [hc4, hc11, decide_eq_false hc17, decide_eq_true hc24]; rfl)
        | (rw [hc4, hc11, decide_eq_false hc17, decide_eq_false hc24]; rfl)
    · skip
      skip
      refine x_iload_n d_Mo_order_7 rfl ?_
      refine w_callS (As := [_]) d_Mo_order_8 k_Mo_150 rfl rfl rfl (c_Mo_isLength hG) ?_
      refine z_bif_eq 31 d_Mo_order_11 rfl (fun hc11 => ?_) (fun hc11 => ?_)
      · skip
        skip
        refine x_iconst (v := nI 0) d_Mo_order_31 (by decide +kernel) ?_
        refine J0 _ ?_
        first
          | (rw [hc4]; rfl)
          | (rw [hc4, hc11]; rfl)
          | (rw [hc4, hc11, decide_eq_true hc17]; rfl)
          | (rw [hc4, hc11, decide_eq_false hc17, decide_eq_true hc24]; rfl)
          | (rw [hc4, hc11, decide_eq_false hc17, decide_eq_false hc24]; rfl)
      · skip
        skip
        refine x_iload d_Mo_order_14 rfl ?_
        refine x_iconst (v := nI 1) d_Mo_order_16 (by decide +kernel) ?_
        refine x_icmp_lt 31 d_Mo_order_17 rfl (fun hc17 => ?_) (fun hc17 => ?_)
        · skip
          skip
          refine x_iconst (v := nI 0) d_Mo_order_31 (by decide +kernel) ?_
          refine J0 _ ?_
          first
            | (rw [hc4]; rfl)
            | (rw [hc4, hc11]; rfl)
            | (rw [hc4, hc11, decide_eq_true hc17]; rfl)
            | (rw [hc4, hc11, decide_eq_false hc17, decide_eq_true hc24]; rfl)
            | (rw [hc4, hc11, decide_eq_false hc17, decide_eq_false hc24]; rfl)
        · skip
          skip
          refine x_iload d_Mo_order_20 rfl ?_
          refine x_bipush (v := nI 6) d_Mo_order_22 (by decide +kernel) ?_
          refine x_icmp_gt 31 d_Mo_order_24 rfl (fun hc24 => ?_) (fun hc24 => ?_)
          · skip
            skip
            refine x_iconst (v := nI 0) d_Mo_order_31 (by decide +kernel) ?_
            refine J0 _ ?_
            first
              | (rw [hc4]; rfl)
              | (rw [hc4, hc11]; rfl)
              | (rw [hc4, hc11, decide_eq_true hc17]; rfl)
              | (rw [hc4, hc11, decide_eq_false hc17, decide_eq_true hc24]; rfl)
              | (rw [hc4, hc11, decide_eq_false hc17, decide_eq_false hc24]; rfl)
          · skip
            skip
            refine x_iconst (v := nI 1) d_Mo_order_27 (by decide +kernel) ?_
            refine x_goto 32 d_Mo_order_28 rfl ?_
            refine J0 _ ?_
            first
              | (rw [hc4]; rfl)
              | (rw [hc4, hc11]; rfl)
              | (rw [hc4, hc11, decide_eq_true hc17]; rfl)
              | (rw [hc4, hc11, decide_eq_false hc17, decide_eq_true hc24]; rfl)
              | (rw [hc4, hc11, decide_eq_false hc17, decide_eq_false hc24]; rfl)
/-! the reference's layout -/
def moLay (S : xS) (n o : Nat) (t : Bool) (c r : Int32) : xS := uF (uA (uA (uA (uA (uA S 215 n (nI o)) 216 n (if t = true then sA S 206 o else sA S 205 o)) 217 n (if t = true then sA S 205 o else sA S 206 o)) 218 n c) 219 n r) 186 36 (nI (n + 1))
def moInR (S : xS) (i : Nat) (c r : Int32) : Bool := decide (sA S 218 i = c) && decide (sA S 219 i = r)
def moRW (S : xS) (c r : Int32) : Nat → Int32
  | 0 => nI 0
  | i + 1 => if moInR S i c r = true then moRW S c r i + sA S 216 i else moRW S c r i
def moRH (S : xS) (c r : Int32) : Nat → Int32
  | 0 => nI 0
  | i + 1 => if moInR S i c r = true then mx (moRH S c r i) (sA S 217 i) else moRH S c r i
def moCW (S : xS) (c : Int32) (n : Nat) : Nat → Int32
  | 0 => nI 0
  | i + 1 => mx (moCW S c n i) (if sA S 218 i = c then moRW S c (sA S 219 i) n else nI 0)
def moRo (S : xS) (c : Int32) : Nat → Int32
  | 0 => nI 0
  | i + 1 => if sA S 218 i = c ∧ moRo S c i ≤ sA S 219 i then sA S 219 i + nI 1 else moRo S c i
def moCo (S : xS) : Nat → Int32
  | 0 => nI 0
  | i + 1 => if moCo S i ≤ sA S 218 i then sA S 218 i + nI 1 else moCo S i
def moPA (S : xS) (c r : Int32) (p : Nat) : Nat → Nat → Nat → Option Nat
  | 0, _, _ => none
  | k + 1, i, q => if moInR S i c r = true then (if q = p then some i else moPA S c r p k (i + 1) (q + 1)) else moPA S c r p k (i + 1) q
theorem mx_gt {a b : Int32} (h : ¬ b ≤ a) : mx a b = b := if_pos (Int32.not_le.mp h)
theorem mx_le {a b : Int32} (h : b ≤ a) : mx a b = a := if_neg (Int32.not_lt.mpr h)
theorem moInR_t {S : xS} {i : Nat} {c r : Int32} (h1 : sA S 218 i = c) (h2 : sA S 219 i = r) : moInR S i c r = true := by simp [moInR, h1, h2]
theorem moInR_1 {S : xS} {i : Nat} {c r : Int32} (h1 : ¬ sA S 218 i = c) : ¬ moInR S i c r = true := by simp [moInR, h1]
theorem moInR_2 {S : xS} {i : Nat} {c r : Int32} (h1 : ¬ sA S 219 i = r) : ¬ moInR S i c r = true := by simp [moInR, h1]
set_option maxRecDepth 100000 in
set_option maxHeartbeats 1000000 in
theorem c_Mo_lay {G : xG} {B d : Nat} {S : xS} (hG : xOkG G) {n o : Nat} (hp : sF S 186 36 = nI n) (hp40 : n < 40) (ho : o < 6) {t : Bool} {c r : Int32} : EX G m_Mo_lay d 0 [(0, .ref (B + 186)), (1, .int (nI o)), (2, .int (bI t)), (3, .int c), (4, .int r)] [] (mk G B S) (xRet G B none (moLay S n o t c r)) := by
  refine x_aload_n d_Mo_lay_0 rfl ?_
  refine y_getf d_Mo_lay_1 gf_Mo_95 k_model rfl ?_
  refine x_aload_n d_Mo_lay_4 rfl ?_
  refine y_getf (v := .int (nI n)) d_Mo_lay_5 gf_Mo_174 k_model (congrArg (fun q => some (Value.int q)) hp) ?_
  refine x_iload_n d_Mo_lay_8 rfl ?_
  refine y_iast hG d_Mo_lay_9 k_m_paneOrder _ rfl (by omega) ?_
  refine x_aload_n d_Mo_lay_10 rfl ?_
  refine y_getf d_Mo_lay_11 gf_Mo_98 k_model rfl ?_
  refine x_aload_n d_Mo_lay_14 rfl ?_
  refine y_getf (v := .int (nI n)) d_Mo_lay_15 gf_Mo_174 k_model (congrArg (fun q => some (Value.int q)) hp) ?_
  refine x_join 37 (.int (if t = true then sA S 206 o else sA S 205 o)) ?_ (fun J18 => ?_)
  · skip
    refine y_iast hG d_Mo_lay_37 k_m_paneW _ rfl (by omega) ?_
    refine x_aload_n d_Mo_lay_38 rfl ?_
    refine y_getf d_Mo_lay_39 gf_Mo_101 k_model rfl ?_
    refine x_aload_n d_Mo_lay_42 rfl ?_
    refine y_getf (v := .int (nI n)) d_Mo_lay_43 gf_Mo_174 k_model (congrArg (fun q => some (Value.int q)) hp) ?_
    refine x_join 65 (.int (if t = true then sA S 205 o else sA S 206 o)) ?_ (fun J46 => ?_)
    · skip
      refine y_iast hG d_Mo_lay_65 k_m_paneH _ rfl (by omega) ?_
      refine x_aload_n d_Mo_lay_66 rfl ?_
      refine y_getf d_Mo_lay_67 gf_Mo_104 k_model rfl ?_
      refine x_aload_n d_Mo_lay_70 rfl ?_
      refine y_getf (v := .int (nI n)) d_Mo_lay_71 gf_Mo_174 k_model (congrArg (fun q => some (Value.int q)) hp) ?_
      refine x_iload_n d_Mo_lay_74 rfl ?_
      refine y_iast hG d_Mo_lay_75 k_m_paneColumn _ rfl (by omega) ?_
      refine x_aload_n d_Mo_lay_76 rfl ?_
      refine y_getf d_Mo_lay_77 gf_Mo_107 k_model rfl ?_
      refine x_aload_n d_Mo_lay_80 rfl ?_
      refine y_getf (v := .int (nI n)) d_Mo_lay_81 gf_Mo_174 k_model (congrArg (fun q => some (Value.int q)) hp) ?_
      refine x_iload d_Mo_lay_84 rfl ?_
      refine y_iast hG d_Mo_lay_86 k_m_paneRow _ rfl (by omega) ?_
      refine x_aload_n d_Mo_lay_87 rfl ?_
      refine x_dup d_Mo_lay_88 rfl ?_
      refine y_getf (v := .int (nI n)) d_Mo_lay_89 gf_Mo_174 k_model (congrArg (fun q => some (Value.int q)) hp) ?_
      refine x_iconst (v := nI 1) d_Mo_lay_92 (by decide +kernel) ?_
      refine x_iadd d_Mo_lay_93 ?_
      rw [nI_add]
      refine y_puti d_Mo_lay_94 pf_Mo_174 k_model (xBle rfl) rfl rfl rfl ?_
      refine x_return d_Mo_lay_97 rfl ?_
      exact ⟨rfl, rfl⟩
    · skip
      refine x_iload_n d_Mo_lay_46 rfl ?_
      refine z_bif_eq 59 d_Mo_lay_47 rfl (fun hc47 => ?_) (fun hc47 => ?_)
      · skip
        skip
        refine x_aload_n d_Mo_lay_59 rfl ?_
        refine y_getf d_Mo_lay_60 gf_Mo_68 k_model rfl ?_
        refine x_iload_n d_Mo_lay_63 rfl ?_
        refine y_iald hG d_Mo_lay_64 k_m_orderH _ rfl (by omega) ?_
        refine J46 _ ?_
        rw [hc47]; refine congrArg Value.int (congrFun ?_ _); rw [sA_uAn _ _ _ (by decide)]; exact sA_uAn _ _ _ (by decide)
      · skip
        skip
        refine x_aload_n d_Mo_lay_50 rfl ?_
        refine y_getf d_Mo_lay_51 gf_Mo_65 k_model rfl ?_
        refine x_iload_n d_Mo_lay_54 rfl ?_
        refine y_iald hG d_Mo_lay_55 k_m_orderW _ rfl (by omega) ?_
        refine x_goto 65 d_Mo_lay_56 rfl ?_
        refine J46 _ ?_
        rw [hc47]; refine congrArg Value.int (congrFun ?_ _); rw [sA_uAn _ _ _ (by decide)]; exact sA_uAn _ _ _ (by decide)
  · skip
    refine x_iload_n d_Mo_lay_18 rfl ?_
    refine z_bif_eq 31 d_Mo_lay_19 rfl (fun hc19 => ?_) (fun hc19 => ?_)
    · skip
      skip
      refine x_aload_n d_Mo_lay_31 rfl ?_
      refine y_getf d_Mo_lay_32 gf_Mo_65 k_model rfl ?_
      refine x_iload_n d_Mo_lay_35 rfl ?_
      refine y_iald hG d_Mo_lay_36 k_m_orderW _ rfl (by omega) ?_
      refine J18 _ ?_
      rw [hc19]; exact congrArg Value.int (congrFun (sA_uAn _ _ _ (by decide)) _)
    · skip
      skip
      refine x_aload_n d_Mo_lay_22 rfl ?_
      refine y_getf d_Mo_lay_23 gf_Mo_68 k_model rfl ?_
      refine x_iload_n d_Mo_lay_26 rfl ?_
      refine y_iald hG d_Mo_lay_27 k_m_orderH _ rfl (by omega) ?_
      refine x_goto 37 d_Mo_lay_28 rfl ?_
      refine J18 _ ?_
      rw [hc19]; exact congrArg Value.int (congrFun (sA_uAn _ _ _ (by decide)) _)
set_option maxRecDepth 100000 in
set_option maxHeartbeats 1000000 in
theorem c_Mo_rowWidth {G : xG} {B d : Nat} {S : xS} (hG : xOkG G) {n : Nat} (hp : sF S 186 36 = nI n) (hp40 : n ≤ 40) {c r : Int32} : EX G m_Mo_rowWidth d 0 [(0, .ref (B + 186)), (1, .int c), (2, .int r)] [] (mk G B S) ((xRet G B (some (.int (moRW S c r n))) S)) := by
  refine x_iconst (v := nI 0) d_Mo_rowWidth_0 (by decide +kernel) ?_
  refine s_istore_n (lv' := [(0, _), (1, _), (2, _), (3, _)]) d_Mo_rowWidth_1 (by decide) rfl ?_
  refine x_iconst (v := nI 0) d_Mo_rowWidth_2 (by decide +kernel) ?_
  refine s_istore (lv' := [(0, _), (1, _), (2, _), (3, _), (4, _)]) d_Mo_rowWidth_3 (by decide) rfl ?_
  have L5 : ∀ i, i ≤ n →  EX G m_Mo_rowWidth d 5 [(0, .ref (B + 186)), (1, .int c), (2, .int r), (3, .int (moRW S c r i)), (4, .int (nI i))] [] (mk G B S) (xRet G B (some (.int (moRW S c r n))) S) := by
    refine x_down (n) ?_ ?_
    · skip
      skip
      refine x_iload d_Mo_rowWidth_5 rfl ?_
      refine x_aload_n d_Mo_rowWidth_7 rfl ?_
      refine y_getf (v := .int (nI n)) d_Mo_rowWidth_8 gf_Mo_174 k_model (congrArg (fun q => some (Value.int q)) hp) ?_
      refine z_icmp_ge 56 d_Mo_rowWidth_11 rfl (by omega) (by omega) (fun hc11 => ?_) (fun q => absurd q (by omega))
      refine x_iload_n d_Mo_rowWidth_56 rfl ?_
      refine x_ireturn d_Mo_rowWidth_57 rfl rfl ?_
      exact ⟨rfl, rfl⟩
    · intro i hi ih
      refine x_iload d_Mo_rowWidth_5 rfl ?_
      refine x_aload_n d_Mo_rowWidth_7 rfl ?_
      refine y_getf (v := .int (nI n)) d_Mo_rowWidth_8 gf_Mo_174 k_model (congrArg (fun q => some (Value.int q)) hp) ?_
      refine z_icmp_ge 56 d_Mo_rowWidth_11 rfl (by omega) (by omega) (fun q => absurd q (by omega)) (fun hc11 => ?_)
      refine x_aload_n d_Mo_rowWidth_14 rfl ?_
      refine y_getf d_Mo_rowWidth_15 gf_Mo_104 k_model rfl ?_
      refine x_iload d_Mo_rowWidth_18 rfl ?_
      refine y_iald hG d_Mo_rowWidth_20 k_m_paneColumn _ rfl (by omega) ?_
      refine x_iload_n d_Mo_rowWidth_21 rfl ?_
      refine x_icmp_ne 48 d_Mo_rowWidth_22 rfl (fun hc22 => ?_) (fun hc22 => ?_)
      · skip
        rw [show moRW S c r (i + 1) = moRW S c r i from if_neg (moInR_1 hc22)] at ih
        refine x_iload_n d_Mo_rowWidth_48 rfl ?_
        refine s_istore_n (lv' := [(0, _), (1, _), (2, _), (3, _), (4, _)]) d_Mo_rowWidth_49 (by decide) rfl ?_
        refine s_iinc (lv' := [(0, _), (1, _), (2, _), (3, _), (4, _)]) d_Mo_rowWidth_50 rfl (xinc _) (by decide) rfl ?_
        refine x_goto 5 d_Mo_rowWidth_53 rfl ?_
        refine x_lv (lv' := [(0, _), (1, _), (2, _), (3, _), (4, _)]) [0, 1, 2, 3, 4] rfl ?_
        exact ih
      · skip
        skip
        refine x_aload_n d_Mo_rowWidth_25 rfl ?_
        refine y_getf d_Mo_rowWidth_26 gf_Mo_107 k_model rfl ?_
        refine x_iload d_Mo_rowWidth_29 rfl ?_
        refine y_iald hG d_Mo_rowWidth_31 k_m_paneRow _ rfl (by omega) ?_
        refine x_iload_n d_Mo_rowWidth_32 rfl ?_
        refine x_icmp_ne 48 d_Mo_rowWidth_33 rfl (fun hc33 => ?_) (fun hc33 => ?_)
        · skip
          rw [show moRW S c r (i + 1) = moRW S c r i from if_neg (moInR_2 hc33)] at ih
          refine x_iload_n d_Mo_rowWidth_48 rfl ?_
          refine s_istore_n (lv' := [(0, _), (1, _), (2, _), (3, _), (4, _)]) d_Mo_rowWidth_49 (by decide) rfl ?_
          refine s_iinc (lv' := [(0, _), (1, _), (2, _), (3, _), (4, _)]) d_Mo_rowWidth_50 rfl (xinc _) (by decide) rfl ?_
          refine x_goto 5 d_Mo_rowWidth_53 rfl ?_
          refine x_lv (lv' := [(0, _), (1, _), (2, _), (3, _), (4, _)]) [0, 1, 2, 3, 4] rfl ?_
          exact ih
        · skip
          rw [show moRW S c r (i + 1) = moRW S c r i + sA S 216 i from if_pos (moInR_t hc22 hc33)] at ih
          refine x_iload_n d_Mo_rowWidth_36 rfl ?_
          refine x_aload_n d_Mo_rowWidth_37 rfl ?_
          refine y_getf d_Mo_rowWidth_38 gf_Mo_98 k_model rfl ?_
          refine x_iload d_Mo_rowWidth_41 rfl ?_
          refine y_iald hG d_Mo_rowWidth_43 k_m_paneW _ rfl (by omega) ?_
          refine x_iadd d_Mo_rowWidth_44 ?_
          refine x_goto 49 d_Mo_rowWidth_45 rfl ?_
          refine s_istore_n (lv' := [(0, _), (1, _), (2, _), (3, _), (4, _)]) d_Mo_rowWidth_49 (by decide) rfl ?_
          refine s_iinc (lv' := [(0, _), (1, _), (2, _), (3, _), (4, _)]) d_Mo_rowWidth_50 rfl (xinc _) (by decide) rfl ?_
          refine x_goto 5 d_Mo_rowWidth_53 rfl ?_
          refine x_lv (lv' := [(0, _), (1, _), (2, _), (3, _), (4, _)]) [0, 1, 2, 3, 4] rfl ?_
          exact ih
  refine x_lv (lv' := [(0, _), (1, _), (2, _), (3, _), (4, _)]) [0, 1, 2, 3, 4] rfl ?_
  exact L5 0 (Nat.zero_le _)
set_option maxRecDepth 100000 in
set_option maxHeartbeats 1000000 in
theorem c_Mo_rowHeight {G : xG} {B d : Nat} {S : xS} (hG : xOkG G) {n : Nat} (hp : sF S 186 36 = nI n) (hp40 : n ≤ 40) {c r : Int32} : EX G m_Mo_rowHeight d 0 [(0, .ref (B + 186)), (1, .int c), (2, .int r)] [] (mk G B S) ((xRet G B (some (.int (moRH S c r n))) S)) := by
  refine x_iconst (v := nI 0) d_Mo_rowHeight_0 (by decide +kernel) ?_
  refine s_istore_n (lv' := [(0, _), (1, _), (2, _), (3, _)]) d_Mo_rowHeight_1 (by decide) rfl ?_
  refine x_iconst (v := nI 0) d_Mo_rowHeight_2 (by decide +kernel) ?_
  refine s_istore (lv' := [(0, _), (1, _), (2, _), (3, _), (4, _)]) d_Mo_rowHeight_3 (by decide) rfl ?_
  have L5 : ∀ i, i ≤ n →  EX G m_Mo_rowHeight d 5 [(0, .ref (B + 186)), (1, .int c), (2, .int r), (3, .int (moRH S c r i)), (4, .int (nI i))] [] (mk G B S) (xRet G B (some (.int (moRH S c r n))) S) := by
    refine x_down (n) ?_ ?_
    · skip
      skip
      refine x_iload d_Mo_rowHeight_5 rfl ?_
      refine x_aload_n d_Mo_rowHeight_7 rfl ?_
      refine y_getf (v := .int (nI n)) d_Mo_rowHeight_8 gf_Mo_174 k_model (congrArg (fun q => some (Value.int q)) hp) ?_
      refine z_icmp_ge 77 d_Mo_rowHeight_11 rfl (by omega) (by omega) (fun hc11 => ?_) (fun q => absurd q (by omega))
      refine x_iload_n d_Mo_rowHeight_77 rfl ?_
      refine x_ireturn d_Mo_rowHeight_78 rfl rfl ?_
      exact ⟨rfl, rfl⟩
    · intro i hi ih
      refine x_iload d_Mo_rowHeight_5 rfl ?_
      refine x_aload_n d_Mo_rowHeight_7 rfl ?_
      refine y_getf (v := .int (nI n)) d_Mo_rowHeight_8 gf_Mo_174 k_model (congrArg (fun q => some (Value.int q)) hp) ?_
      refine z_icmp_ge 77 d_Mo_rowHeight_11 rfl (by omega) (by omega) (fun q => absurd q (by omega)) (fun hc11 => ?_)
      refine x_join 52 (.int (bI (moInR S i c r && !decide (sA S 217 i ≤ moRH S c r i)))) ?_ (fun J14 => ?_)
      · skip
        refine s_istore (lv' := [(0, _), (1, _), (2, _), (3, _), (4, _), (5, _)]) d_Mo_rowHeight_52 (by decide) rfl ?_
        refine x_iload d_Mo_rowHeight_54 rfl ?_
        refine z_bif_eq 69 d_Mo_rowHeight_56 rfl (fun hc56 => ?_) (fun hc56 => ?_)
        · skip
          rw [show moRH S c r (i + 1) = moRH S c r i by
            show (if moInR S i c r = true then mx (moRH S c r i) (sA S 217 i) else moRH S c r i) = _
            split
            · rename_i q
              rw [q, Bool.true_and] at hc56
              exact mx_le (of_decide_eq_true (by simpa using hc56))
            · rfl] at ih
          refine x_iload_n d_Mo_rowHeight_69 rfl ?_
          refine s_istore_n (lv' := [(0, _), (1, _), (2, _), (3, _), (4, _), (5, _)]) d_Mo_rowHeight_70 (by decide) rfl ?_
          refine s_iinc (lv' := [(0, _), (1, _), (2, _), (3, _), (4, _), (5, _)]) d_Mo_rowHeight_71 rfl (xinc _) (by decide) rfl ?_
          refine x_goto 5 d_Mo_rowHeight_74 rfl ?_
          refine x_lv (lv' := [(0, _), (1, _), (2, _), (3, _), (4, _)]) [0, 1, 2, 3, 4] rfl ?_
          exact ih
        · skip
          rw [show moRH S c r (i + 1) = sA S 217 i by
            have q := Bool.and_eq_true_iff.mp hc56
            show (if moInR S i c r = true then mx (moRH S c r i) (sA S 217 i) else moRH S c r i) = _
            rw [if_pos q.1]
            exact mx_gt (of_decide_eq_false (by simpa using q.2))] at ih
          refine x_aload_n d_Mo_rowHeight_59 rfl ?_
          refine y_getf d_Mo_rowHeight_60 gf_Mo_101 k_model rfl ?_
          refine x_iload d_Mo_rowHeight_63 rfl ?_
          refine y_iald hG d_Mo_rowHeight_65 k_m_paneH _ rfl (by omega) ?_
          refine x_goto 70 d_Mo_rowHeight_66 rfl ?_
          refine s_istore_n (lv' := [(0, _), (1, _), (2, _), (3, _), (4, _), (5, _)]) d_Mo_rowHeight_70 (by decide) rfl ?_
          refine s_iinc (lv' := [(0, _), (1, _), (2, _), (3, _), (4, _), (5, _)]) d_Mo_rowHeight_71 rfl (xinc _) (by decide) rfl ?_
          refine x_goto 5 d_Mo_rowHeight_74 rfl ?_
          refine x_lv (lv' := [(0, _), (1, _), (2, _), (3, _), (4, _)]) [0, 1, 2, 3, 4] rfl ?_
          exact ih
      · skip
        refine x_aload_n d_Mo_rowHeight_14 rfl ?_
        refine y_getf d_Mo_rowHeight_15 gf_Mo_104 k_model rfl ?_
        refine x_iload d_Mo_rowHeight_18 rfl ?_
        refine y_iald hG d_Mo_rowHeight_20 k_m_paneColumn _ rfl (by omega) ?_
        refine x_iload_n d_Mo_rowHeight_21 rfl ?_
        refine x_icmp_ne 51 d_Mo_rowHeight_22 rfl (fun hc22 => ?_) (fun hc22 => ?_)
        · skip
          skip
          refine x_iconst (v := nI 0) d_Mo_rowHeight_51 (by decide +kernel) ?_
          refine J14 _ ?_
          first
            | (rw [moInR_t hc22 hc33, decide_eq_true hc44]; rfl)
            | (rw [moInR_t hc22 hc33, decide_eq_false hc44]; rfl)
            | (rw [Bool.eq_false_iff.mpr (moInR_2 hc33), Bool.false_and]; rfl)
            | (rw [Bool.eq_false_iff.mpr (moInR_1 hc22), Bool.false_and]; rfl)
        · skip
          skip
          refine x_aload_n d_Mo_rowHeight_25 rfl ?_
          refine y_getf d_Mo_rowHeight_26 gf_Mo_107 k_model rfl ?_
          refine x_iload d_Mo_rowHeight_29 rfl ?_
          refine y_iald hG d_Mo_rowHeight_31 k_m_paneRow _ rfl (by omega) ?_
          refine x_iload_n d_Mo_rowHeight_32 rfl ?_
          refine x_icmp_ne 51 d_Mo_rowHeight_33 rfl (fun hc33 => ?_) (fun hc33 => ?_)
          · skip
            skip
            refine x_iconst (v := nI 0) d_Mo_rowHeight_51 (by decide +kernel) ?_
            refine J14 _ ?_
            first
              | (rw [moInR_t hc22 hc33, decide_eq_true hc44]; rfl)
              | (rw [moInR_t hc22 hc33, decide_eq_false hc44]; rfl)
              | (rw [Bool.eq_false_iff.mpr (moInR_2 hc33), Bool.false_and]; rfl)
              | (rw [Bool.eq_false_iff.mpr (moInR_1 hc22), Bool.false_and]; rfl)
          · skip
            skip
            refine x_aload_n d_Mo_rowHeight_36 rfl ?_
            refine y_getf d_Mo_rowHeight_37 gf_Mo_101 k_model rfl ?_
            refine x_iload d_Mo_rowHeight_40 rfl ?_
            refine y_iald hG d_Mo_rowHeight_42 k_m_paneH _ rfl (by omega) ?_
            refine x_iload_n d_Mo_rowHeight_43 rfl ?_
            refine x_icmp_le 51 d_Mo_rowHeight_44 rfl (fun hc44 => ?_) (fun hc44 => ?_)
            · skip
              skip
              refine x_iconst (v := nI 0) d_Mo_rowHeight_51 (by decide +kernel) ?_
              refine J14 _ ?_
              first
                | (rw [moInR_t hc22 hc33, decide_eq_true hc44]; rfl)
                | (rw [moInR_t hc22 hc33, decide_eq_false hc44]; rfl)
                | (rw [Bool.eq_false_iff.mpr (moInR_2 hc33), Bool.false_and]; rfl)
                | (rw [Bool.eq_false_iff.mpr (moInR_1 hc22), Bool.false_and]; rfl)
            · skip
              skip
              refine x_iconst (v := nI 1) d_Mo_rowHeight_47 (by decide +kernel) ?_
              refine x_goto 52 d_Mo_rowHeight_48 rfl ?_
              refine J14 _ ?_
              first
                | (rw [moInR_t hc22 hc33, decide_eq_true hc44]; rfl)
                | (rw [moInR_t hc22 hc33, decide_eq_false hc44]; rfl)
                | (rw [Bool.eq_false_iff.mpr (moInR_2 hc33), Bool.false_and]; rfl)
                | (rw [Bool.eq_false_iff.mpr (moInR_1 hc22), Bool.false_and]; rfl)
  refine x_lv (lv' := [(0, _), (1, _), (2, _), (3, _), (4, _)]) [0, 1, 2, 3, 4] rfl ?_
  exact L5 0 (Nat.zero_le _)
set_option maxRecDepth 100000 in
set_option maxHeartbeats 1000000 in
theorem c_Mo_columnWidth {G : xG} {B d : Nat} {S : xS} (hG : xOkG G) {n : Nat} (hp : sF S 186 36 = nI n) (hp40 : n ≤ 40) {c : Int32} : EX G m_Mo_columnWidth (d + 1) 0 [(0, .ref (B + 186)), (1, .int c)] [] (mk G B S) ((xRet G B (some (.int (moCW S c n n))) S)) := by
  refine x_iconst (v := nI 0) d_Mo_columnWidth_0 (by decide +kernel) ?_
  refine s_istore_n (lv' := [(0, _), (1, _), (2, _)]) d_Mo_columnWidth_1 (by decide) rfl ?_
  refine x_iconst (v := nI 0) d_Mo_columnWidth_2 (by decide +kernel) ?_
  refine s_istore_n (lv' := [(0, _), (1, _), (2, _), (3, _)]) d_Mo_columnWidth_3 (by decide) rfl ?_
  have L4 : ∀ i, i ≤ n →  EX G m_Mo_columnWidth (d + 1) 4 [(0, .ref (B + 186)), (1, .int c), (2, .int (moCW S c n i)), (3, .int (nI i))] [] (mk G B S) (xRet G B (some (.int (moCW S c n n))) S) := by
    refine x_down (n) ?_ ?_
    · skip
      skip
      refine x_iload_n d_Mo_columnWidth_4 rfl ?_
      refine x_aload_n d_Mo_columnWidth_5 rfl ?_
      refine y_getf (v := .int (nI n)) d_Mo_columnWidth_6 gf_Mo_174 k_model (congrArg (fun q => some (Value.int q)) hp) ?_
      refine z_icmp_ge 58 d_Mo_columnWidth_9 rfl (by omega) (by omega) (fun hc9 => ?_) (fun q => absurd q (by omega))
      refine x_iload_n d_Mo_columnWidth_58 rfl ?_
      refine x_ireturn d_Mo_columnWidth_59 rfl rfl ?_
      exact ⟨rfl, rfl⟩
    · intro i hi ih
      refine x_iload_n d_Mo_columnWidth_4 rfl ?_
      refine x_aload_n d_Mo_columnWidth_5 rfl ?_
      refine y_getf (v := .int (nI n)) d_Mo_columnWidth_6 gf_Mo_174 k_model (congrArg (fun q => some (Value.int q)) hp) ?_
      refine z_icmp_ge 58 d_Mo_columnWidth_9 rfl (by omega) (by omega) (fun q => absurd q (by omega)) (fun hc9 => ?_)
      refine x_join 37 (.int (if sA S 218 i = c then moRW S c (sA S 219 i) n else nI 0)) ?_ (fun J12 => ?_)
      · skip
        refine s_istore (lv' := [(0, _), (1, _), (2, _), (3, _), (4, _)]) d_Mo_columnWidth_37 (by decide) rfl ?_
        refine x_iload d_Mo_columnWidth_39 rfl ?_
        refine x_iload_n d_Mo_columnWidth_41 rfl ?_
        refine x_icmp_le 50 d_Mo_columnWidth_42 rfl (fun hc42 => ?_) (fun hc42 => ?_)
        · skip
          rw [show moCW S c n (i + 1) = moCW S c n i from mx_le hc42] at ih
          refine x_iload_n d_Mo_columnWidth_50 rfl ?_
          refine s_istore_n (lv' := [(0, _), (1, _), (2, _), (3, _), (4, _)]) d_Mo_columnWidth_51 (by decide) rfl ?_
          refine s_iinc (lv' := [(0, _), (1, _), (2, _), (3, _), (4, _)]) d_Mo_columnWidth_52 rfl (xinc _) (by decide) rfl ?_
          refine x_goto 4 d_Mo_columnWidth_55 rfl ?_
          refine x_lv (lv' := [(0, _), (1, _), (2, _), (3, _)]) [0, 1, 2, 3] rfl ?_
          exact ih
        · skip
          rw [show moCW S c n (i + 1) = _ from mx_gt hc42] at ih
          refine x_iload d_Mo_columnWidth_45 rfl ?_
          refine x_goto 51 d_Mo_columnWidth_47 rfl ?_
          refine s_istore_n (lv' := [(0, _), (1, _), (2, _), (3, _), (4, _)]) d_Mo_columnWidth_51 (by decide) rfl ?_
          refine s_iinc (lv' := [(0, _), (1, _), (2, _), (3, _), (4, _)]) d_Mo_columnWidth_52 rfl (xinc _) (by decide) rfl ?_
          refine x_goto 4 d_Mo_columnWidth_55 rfl ?_
          refine x_lv (lv' := [(0, _), (1, _), (2, _), (3, _)]) [0, 1, 2, 3] rfl ?_
          exact ih
      · skip
        refine x_aload_n d_Mo_columnWidth_12 rfl ?_
        refine y_getf d_Mo_columnWidth_13 gf_Mo_104 k_model rfl ?_
        refine x_iload_n d_Mo_columnWidth_16 rfl ?_
        refine y_iald hG d_Mo_columnWidth_17 k_m_paneColumn _ rfl (by omega) ?_
        refine x_iload_n d_Mo_columnWidth_18 rfl ?_
        refine x_icmp_ne 36 d_Mo_columnWidth_19 rfl (fun hc19 => ?_) (fun hc19 => ?_)
        · skip
          skip
          refine x_iconst (v := nI 0) d_Mo_columnWidth_36 (by decide +kernel) ?_
          refine J12 _ ?_
          first
            | (rw [if_pos hc19]; done)
            | (rw [if_neg hc19]; done)
        · skip
          skip
          refine x_aload_n d_Mo_columnWidth_22 rfl ?_
          refine x_iload_n d_Mo_columnWidth_23 rfl ?_
          refine x_aload_n d_Mo_columnWidth_24 rfl ?_
          refine y_getf d_Mo_columnWidth_25 gf_Mo_107 k_model rfl ?_
          refine x_iload_n d_Mo_columnWidth_28 rfl ?_
          refine y_iald hG d_Mo_columnWidth_29 k_m_paneRow _ rfl (by omega) ?_
          refine w_callV (As := [_, _]) d_Mo_columnWidth_30 k_Mo_177 k_model rfl rfl rfl (c_Mo_rowWidth hG hp hp40) ?_
          refine x_goto 37 d_Mo_columnWidth_33 rfl ?_
          refine J12 _ ?_
          first
            | (rw [if_pos hc19]; done)
            | (rw [if_neg hc19]; done)
  refine x_lv (lv' := [(0, _), (1, _), (2, _), (3, _)]) [0, 1, 2, 3] rfl ?_
  exact L4 0 (Nat.zero_le _)
set_option maxRecDepth 100000 in
set_option maxHeartbeats 1000000 in
theorem c_Mo_rowsOf {G : xG} {B d : Nat} {S : xS} (hG : xOkG G) {n : Nat} (hp : sF S 186 36 = nI n) (hp40 : n ≤ 40) {c : Int32} : EX G m_Mo_rowsOf d 0 [(0, .ref (B + 186)), (1, .int c)] [] (mk G B S) ((xRet G B (some (.int (moRo S c n))) S)) := by
  refine x_iconst (v := nI 0) d_Mo_rowsOf_0 (by decide +kernel) ?_
  refine s_istore_n (lv' := [(0, _), (1, _), (2, _)]) d_Mo_rowsOf_1 (by decide) rfl ?_
  refine x_iconst (v := nI 0) d_Mo_rowsOf_2 (by decide +kernel) ?_
  refine s_istore_n (lv' := [(0, _), (1, _), (2, _), (3, _)]) d_Mo_rowsOf_3 (by decide) rfl ?_
  have L4 : ∀ i, i ≤ n →  EX G m_Mo_rowsOf d 4 [(0, .ref (B + 186)), (1, .int c), (2, .int (moRo S c i)), (3, .int (nI i))] [] (mk G B S) (xRet G B (some (.int (moRo S c n))) S) := by
    refine x_down (n) ?_ ?_
    · skip
      skip
      refine x_iload_n d_Mo_rowsOf_4 rfl ?_
      refine x_aload_n d_Mo_rowsOf_5 rfl ?_
      refine y_getf (v := .int (nI n)) d_Mo_rowsOf_6 gf_Mo_174 k_model (congrArg (fun q => some (Value.int q)) hp) ?_
      refine z_icmp_ge 51 d_Mo_rowsOf_9 rfl (by omega) (by omega) (fun hc9 => ?_) (fun q => absurd q (by omega))
      refine x_iload_n d_Mo_rowsOf_51 rfl ?_
      refine x_ireturn d_Mo_rowsOf_52 rfl rfl ?_
      exact ⟨rfl, rfl⟩
    · intro i hi ih
      refine x_iload_n d_Mo_rowsOf_4 rfl ?_
      refine x_aload_n d_Mo_rowsOf_5 rfl ?_
      refine y_getf (v := .int (nI n)) d_Mo_rowsOf_6 gf_Mo_174 k_model (congrArg (fun q => some (Value.int q)) hp) ?_
      refine z_icmp_ge 51 d_Mo_rowsOf_9 rfl (by omega) (by omega) (fun q => absurd q (by omega)) (fun hc9 => ?_)
      refine x_aload_n d_Mo_rowsOf_12 rfl ?_
      refine y_getf d_Mo_rowsOf_13 gf_Mo_104 k_model rfl ?_
      refine x_iload_n d_Mo_rowsOf_16 rfl ?_
      refine y_iald hG d_Mo_rowsOf_17 k_m_paneColumn _ rfl (by omega) ?_
      refine x_iload_n d_Mo_rowsOf_18 rfl ?_
      refine x_icmp_ne 43 d_Mo_rowsOf_19 rfl (fun hc19 => ?_) (fun hc19 => ?_)
      · skip
        rw [show moRo S c (i + 1) = moRo S c i from if_neg (fun q => hc19 q.1)] at ih
        refine x_iload_n d_Mo_rowsOf_43 rfl ?_
        refine s_istore_n (lv' := [(0, _), (1, _), (2, _), (3, _)]) d_Mo_rowsOf_44 (by decide) rfl ?_
        refine s_iinc (lv' := [(0, _), (1, _), (2, _), (3, _)]) d_Mo_rowsOf_45 rfl (xinc _) (by decide) rfl ?_
        refine x_goto 4 d_Mo_rowsOf_48 rfl ?_
        refine x_lv (lv' := [(0, _), (1, _), (2, _), (3, _)]) [0, 1, 2, 3] rfl ?_
        exact ih
      · skip
        skip
        refine x_aload_n d_Mo_rowsOf_22 rfl ?_
        refine y_getf d_Mo_rowsOf_23 gf_Mo_107 k_model rfl ?_
        refine x_iload_n d_Mo_rowsOf_26 rfl ?_
        refine y_iald hG d_Mo_rowsOf_27 k_m_paneRow _ rfl (by omega) ?_
        refine x_iload_n d_Mo_rowsOf_28 rfl ?_
        refine x_icmp_lt 43 d_Mo_rowsOf_29 rfl (fun hc29 => ?_) (fun hc29 => ?_)
        · skip
          rw [show moRo S c (i + 1) = moRo S c i from if_neg (fun q => Int32.not_le.mpr hc29 q.2)] at ih
          refine x_iload_n d_Mo_rowsOf_43 rfl ?_
          refine s_istore_n (lv' := [(0, _), (1, _), (2, _), (3, _)]) d_Mo_rowsOf_44 (by decide) rfl ?_
          refine s_iinc (lv' := [(0, _), (1, _), (2, _), (3, _)]) d_Mo_rowsOf_45 rfl (xinc _) (by decide) rfl ?_
          refine x_goto 4 d_Mo_rowsOf_48 rfl ?_
          refine x_lv (lv' := [(0, _), (1, _), (2, _), (3, _)]) [0, 1, 2, 3] rfl ?_
          exact ih
        · skip
          rw [show moRo S c (i + 1) = sA S 219 i + nI 1 from if_pos ⟨hc19, Int32.not_lt.mp hc29⟩] at ih
          refine x_aload_n d_Mo_rowsOf_32 rfl ?_
          refine y_getf d_Mo_rowsOf_33 gf_Mo_107 k_model rfl ?_
          refine x_iload_n d_Mo_rowsOf_36 rfl ?_
          refine y_iald hG d_Mo_rowsOf_37 k_m_paneRow _ rfl (by omega) ?_
          refine x_iconst (v := nI 1) d_Mo_rowsOf_38 (by decide +kernel) ?_
          refine x_iadd d_Mo_rowsOf_39 ?_
          refine x_goto 44 d_Mo_rowsOf_40 rfl ?_
          refine s_istore_n (lv' := [(0, _), (1, _), (2, _), (3, _)]) d_Mo_rowsOf_44 (by decide) rfl ?_
          refine s_iinc (lv' := [(0, _), (1, _), (2, _), (3, _)]) d_Mo_rowsOf_45 rfl (xinc _) (by decide) rfl ?_
          refine x_goto 4 d_Mo_rowsOf_48 rfl ?_
          refine x_lv (lv' := [(0, _), (1, _), (2, _), (3, _)]) [0, 1, 2, 3] rfl ?_
          exact ih
  refine x_lv (lv' := [(0, _), (1, _), (2, _), (3, _)]) [0, 1, 2, 3] rfl ?_
  exact L4 0 (Nat.zero_le _)
set_option maxRecDepth 100000 in
set_option maxHeartbeats 1000000 in
theorem c_Mo_columns {G : xG} {B d : Nat} {S : xS} (hG : xOkG G) {n : Nat} (hp : sF S 186 36 = nI n) (hp40 : n ≤ 40) : EX G m_Mo_columns d 0 [(0, .ref (B + 186))] [] (mk G B S) ((xRet G B (some (.int (moCo S n))) S)) := by
  refine x_iconst (v := nI 0) d_Mo_columns_0 (by decide +kernel) ?_
  refine s_istore_n (lv' := [(0, _), (1, _)]) d_Mo_columns_1 (by decide) rfl ?_
  refine x_iconst (v := nI 0) d_Mo_columns_2 (by decide +kernel) ?_
  refine s_istore_n (lv' := [(0, _), (1, _), (2, _)]) d_Mo_columns_3 (by decide) rfl ?_
  have L4 : ∀ i, i ≤ n →  EX G m_Mo_columns d 4 [(0, .ref (B + 186)), (1, .int (moCo S i)), (2, .int (nI i))] [] (mk G B S) (xRet G B (some (.int (moCo S n))) S) := by
    refine x_down (n) ?_ ?_
    · skip
      skip
      refine x_iload_n d_Mo_columns_4 rfl ?_
      refine x_aload_n d_Mo_columns_5 rfl ?_
      refine y_getf (v := .int (nI n)) d_Mo_columns_6 gf_Mo_174 k_model (congrArg (fun q => some (Value.int q)) hp) ?_
      refine z_icmp_ge 41 d_Mo_columns_9 rfl (by omega) (by omega) (fun hc9 => ?_) (fun q => absurd q (by omega))
      refine x_iload_n d_Mo_columns_41 rfl ?_
      refine x_ireturn d_Mo_columns_42 rfl rfl ?_
      exact ⟨rfl, rfl⟩
    · intro i hi ih
      refine x_iload_n d_Mo_columns_4 rfl ?_
      refine x_aload_n d_Mo_columns_5 rfl ?_
      refine y_getf (v := .int (nI n)) d_Mo_columns_6 gf_Mo_174 k_model (congrArg (fun q => some (Value.int q)) hp) ?_
      refine z_icmp_ge 41 d_Mo_columns_9 rfl (by omega) (by omega) (fun q => absurd q (by omega)) (fun hc9 => ?_)
      refine x_aload_n d_Mo_columns_12 rfl ?_
      refine y_getf d_Mo_columns_13 gf_Mo_104 k_model rfl ?_
      refine x_iload_n d_Mo_columns_16 rfl ?_
      refine y_iald hG d_Mo_columns_17 k_m_paneColumn _ rfl (by omega) ?_
      refine x_iload_n d_Mo_columns_18 rfl ?_
      refine x_icmp_lt 33 d_Mo_columns_19 rfl (fun hc19 => ?_) (fun hc19 => ?_)
      · skip
        rw [show moCo S (i + 1) = moCo S i from if_neg (Int32.not_le.mpr hc19)] at ih
        refine x_iload_n d_Mo_columns_33 rfl ?_
        refine s_istore_n (lv' := [(0, _), (1, _), (2, _)]) d_Mo_columns_34 (by decide) rfl ?_
        refine s_iinc (lv' := [(0, _), (1, _), (2, _)]) d_Mo_columns_35 rfl (xinc _) (by decide) rfl ?_
        refine x_goto 4 d_Mo_columns_38 rfl ?_
        refine x_lv (lv' := [(0, _), (1, _), (2, _)]) [0, 1, 2] rfl ?_
        exact ih
      · skip
        rw [show moCo S (i + 1) = sA S 218 i + nI 1 from if_pos (Int32.not_lt.mp hc19)] at ih
        refine x_aload_n d_Mo_columns_22 rfl ?_
        refine y_getf d_Mo_columns_23 gf_Mo_104 k_model rfl ?_
        refine x_iload_n d_Mo_columns_26 rfl ?_
        refine y_iald hG d_Mo_columns_27 k_m_paneColumn _ rfl (by omega) ?_
        refine x_iconst (v := nI 1) d_Mo_columns_28 (by decide +kernel) ?_
        refine x_iadd d_Mo_columns_29 ?_
        refine x_goto 34 d_Mo_columns_30 rfl ?_
        refine s_istore_n (lv' := [(0, _), (1, _), (2, _)]) d_Mo_columns_34 (by decide) rfl ?_
        refine s_iinc (lv' := [(0, _), (1, _), (2, _)]) d_Mo_columns_35 rfl (xinc _) (by decide) rfl ?_
        refine x_goto 4 d_Mo_columns_38 rfl ?_
        refine x_lv (lv' := [(0, _), (1, _), (2, _)]) [0, 1, 2] rfl ?_
        exact ih
  refine x_lv (lv' := [(0, _), (1, _), (2, _)]) [0, 1, 2] rfl ?_
  exact L4 0 (Nat.zero_le _)
