/-! Layout: what its methods answer, as functions of the rows -/
theorem glS {j : Nat} (h : j < 8) : isGlass (67 + 15 * j) := Or.inl ⟨j, h, rfl⟩
theorem glR {k : Nat} (h : k < 10) : isGlass (7 + 5 * k) := Or.inr ⟨k, h, rfl⟩
theorem trS {j : Nat} (h : j < 8) : isTree (72 + 15 * j) := ⟨j, h, rfl⟩
def laIn (S : xS) (i : Nat) (c r : Int32) : Bool := decide (sA S 61 i = c) && decide (sA S 62 i = r)
def mx (x y : Int32) : Int32 := if x < y then y else x
def mn (x y : Int32) : Int32 := if y < x then y else x
def laCols (S : xS) : Nat → Int32
  | 0 => nI 0
  | i + 1 => mx (laCols S i) (sA S 61 i + nI 1)
def laRows (S : xS) (c : Int32) : Nat → Int32
  | 0 => nI 0
  | i + 1 => if sA S 61 i = c then mx (laRows S c i) (sA S 62 i + nI 1) else laRows S c i
def laCount (S : xS) (x : Int32) : Nat → Nat
  | 0 => 0
  | i + 1 => if sA S 58 i = x then laCount S x i + 1 else laCount S x i
def laRW (S : xS) (c r : Int32) : Nat → Int32
  | 0 => nI 0
  | i + 1 => if laIn S i c r = true then laRW S c r i + sA S 59 i else laRW S c r i
def laRH (S : xS) (c r : Int32) : Nat → Int32
  | 0 => nI 0
  | i + 1 => if laIn S i c r = true then mx (laRH S c r i) (sA S 60 i) else laRH S c r i
set_option maxRecDepth 100000 in
set_option maxHeartbeats 1000000 in
theorem c_La_isIn {G : xG} {B d : Nat} {S : xS} (hG : xOkG G) {i : Nat} {c r : Int32} (hi : i < 36) : EX G m_La_isIn d 0 [(0, .ref (B + 57)), (1, .int (nI i)), (2, .int c), (3, .int r)] [] (mk G B S) (xRet G B (some (.int (bI (laIn S i c r)))) S) := by
  refine x_aload_n d_La_isIn_0 rfl ?_
  refine y_getf d_La_isIn_1 gf_La_21 k_lay rfl ?_
  refine x_iload_n d_La_isIn_4 rfl ?_
  refine y_iald hG d_La_isIn_5 k_lay3 _ rfl (by omega) ?_
  refine x_iload_n d_La_isIn_6 rfl ?_
  refine x_icmp_ne 24 d_La_isIn_7 rfl (fun hc7 => ?_) (fun hc7 => ?_)
  · skip
    refine x_iconst (v := nI 0) d_La_isIn_24 (by decide +kernel) ?_
    refine x_ireturn d_La_isIn_25 rfl (by decide +kernel) ?_
    refine ⟨?_, rfl⟩
    simp [laIn, bI, *]
  · skip
    refine x_aload_n d_La_isIn_10 rfl ?_
    refine y_getf d_La_isIn_11 gf_La_24 k_lay rfl ?_
    refine x_iload_n d_La_isIn_14 rfl ?_
    refine y_iald hG d_La_isIn_15 k_lay4 _ rfl (by omega) ?_
    refine x_iload_n d_La_isIn_16 rfl ?_
    refine x_icmp_ne 24 d_La_isIn_17 rfl (fun hc17 => ?_) (fun hc17 => ?_)
    · skip
      refine x_iconst (v := nI 0) d_La_isIn_24 (by decide +kernel) ?_
      refine x_ireturn d_La_isIn_25 rfl (by decide +kernel) ?_
      refine ⟨?_, rfl⟩
      simp [laIn, bI, *]
    · skip
      refine x_iconst (v := nI 1) d_La_isIn_20 (by decide +kernel) ?_
      refine x_goto 25 d_La_isIn_21 rfl ?_
      refine x_ireturn d_La_isIn_25 rfl (by decide +kernel) ?_
      refine ⟨?_, rfl⟩
      simp [laIn, bI, *]
set_option maxRecDepth 100000 in
set_option maxHeartbeats 1000000 in
theorem c_La_columns {G : xG} {B d : Nat} {S : xS} (hG : xOkG G) {n : Nat} (hn : sF S 57 5 = nI n) (h36 : n ≤ 36) : EX G m_La_columns d 0 [(0, .ref (B + 57))] [] (mk G B S) ((xRet G B (some (.int (laCols S n))) S)) := by
  refine x_iconst (v := nI 0) d_La_columns_0 (by decide +kernel) ?_
  refine x_istore_n d_La_columns_1 (by decide) ?_
  refine x_iconst (v := nI 0) d_La_columns_2 (by decide +kernel) ?_
  refine x_istore_n d_La_columns_3 (by decide) ?_
  have L4 : ∀ i, i ≤ n → EX G m_La_columns d 4 [(0, .ref (B + 57)), (1, .int (laCols S i)), (2, .int (nI i))] [] (mk G B S) (xRet G B (some (.int (laCols S n))) S) := by
    refine x_down n ?_ ?_
    · skip
      refine x_iload_n d_La_columns_4 rfl ?_
      refine x_aload_n d_La_columns_5 rfl ?_
      refine y_getf d_La_columns_6 gf_La_27 k_lay rfl ?_
      rw [hn]
      refine z_icmp_ge 31 d_La_columns_9 rfl (by omega) (by omega) (fun hc9 => ?_) (fun q => absurd q (by omega))
      refine x_iload_n d_La_columns_31 rfl ?_
      refine x_ireturn d_La_columns_32 rfl rfl ?_
      exact ⟨rfl, rfl⟩
    · intro i hi ih
      refine x_iload_n d_La_columns_4 rfl ?_
      refine x_aload_n d_La_columns_5 rfl ?_
      refine y_getf d_La_columns_6 gf_La_27 k_lay rfl ?_
      rw [hn]
      refine z_icmp_ge 31 d_La_columns_9 rfl (by omega) (by omega) (fun q => absurd q (by omega)) (fun hc9 => ?_)
      refine x_iload_n d_La_columns_12 rfl ?_
      refine x_aload_n d_La_columns_13 rfl ?_
      refine y_getf d_La_columns_14 gf_La_21 k_lay rfl ?_
      refine x_iload_n d_La_columns_17 rfl ?_
      refine y_iald hG d_La_columns_18 k_lay3 _ rfl (by omega) ?_
      refine x_iconst (v := nI 1) d_La_columns_19 (by decide +kernel) ?_
      refine x_iadd d_La_columns_20 ?_
      refine x_max d_La_columns_21 k_La_31 j_max_s j_math j_max_c (xBle rfl) ?_
      refine x_istore_n d_La_columns_24 (by decide) ?_
      refine x_iinc d_La_columns_25 rfl (xinc _) (by decide) ?_
      refine x_goto 4 d_La_columns_28 rfl ?_
      exact ih
  exact L4 0 (Nat.zero_le _)
set_option maxRecDepth 100000 in
set_option maxHeartbeats 1000000 in
theorem c_La_rowWidth {G : xG} {B d : Nat} {S : xS} (hG : xOkG G) {n : Nat} (hn : sF S 57 5 = nI n) (h36 : n ≤ 36) {c r : Int32} : EX G m_La_rowWidth (d + 1) 0 [(0, .ref (B + 57)), (1, .int c), (2, .int r)] [] (mk G B S) ((xRet G B (some (.int (laRW S c r n))) S)) := by
  refine x_iconst (v := nI 0) d_La_rowWidth_0 (by decide +kernel) ?_
  refine x_istore_n d_La_rowWidth_1 (by decide) ?_
  refine x_iconst (v := nI 0) d_La_rowWidth_2 (by decide +kernel) ?_
  refine x_istore d_La_rowWidth_3 (by decide) ?_
  have L5 : ∀ i, i ≤ n → EX G m_La_rowWidth (d + 1) 5 [(0, .ref (B + 57)), (1, .int c), (2, .int r), (3, .int (laRW S c r i)), (4, .int (nI i))] [] (mk G B S) (xRet G B (some (.int (laRW S c r n))) S) := by
    refine x_down n ?_ ?_
    · skip
      refine x_iload d_La_rowWidth_5 rfl ?_
      refine x_aload_n d_La_rowWidth_7 rfl ?_
      refine y_getf d_La_rowWidth_8 gf_La_27 k_lay rfl ?_
      rw [hn]
      refine z_icmp_ge 41 d_La_rowWidth_11 rfl (by omega) (by omega) (fun hc11 => ?_) (fun q => absurd q (by omega))
      refine x_iload_n d_La_rowWidth_41 rfl ?_
      refine x_ireturn d_La_rowWidth_42 rfl rfl ?_
      exact ⟨rfl, rfl⟩
    · intro i hi ih
      refine x_iload d_La_rowWidth_5 rfl ?_
      refine x_aload_n d_La_rowWidth_7 rfl ?_
      refine y_getf d_La_rowWidth_8 gf_La_27 k_lay rfl ?_
      rw [hn]
      refine z_icmp_ge 41 d_La_rowWidth_11 rfl (by omega) (by omega) (fun q => absurd q (by omega)) (fun hc11 => ?_)
      refine x_aload_n d_La_rowWidth_14 rfl ?_
      refine x_iload d_La_rowWidth_15 rfl ?_
      refine x_iload_n d_La_rowWidth_17 rfl ?_
      refine x_iload_n d_La_rowWidth_18 rfl ?_
      refine w_callV (As := [_, _, _]) d_La_rowWidth_19 k_La_37 k_lay rfl rfl rfl (c_La_isIn hG (by omega)) ?_
      refine z_bif_eq 35 d_La_rowWidth_22 rfl (fun hc22 => ?_) (fun hc22 => ?_)
      · skip
        refine x_iinc d_La_rowWidth_35 rfl (xinc _) (by decide) ?_
        refine x_goto 5 d_La_rowWidth_38 rfl ?_
        simp only [laRW, hc22] at ih
        exact ih
      · skip
        refine x_iload_n d_La_rowWidth_25 rfl ?_
        refine x_aload_n d_La_rowWidth_26 rfl ?_
        refine y_getf d_La_rowWidth_27 gf_La_15 k_lay rfl ?_
        refine x_iload d_La_rowWidth_30 rfl ?_
        refine y_iald hG d_La_rowWidth_32 k_lay1 _ rfl (by omega) ?_
        refine x_iadd d_La_rowWidth_33 ?_
        refine x_istore_n d_La_rowWidth_34 (by decide) ?_
        refine x_iinc d_La_rowWidth_35 rfl (xinc _) (by decide) ?_
        refine x_goto 5 d_La_rowWidth_38 rfl ?_
        simp only [laRW, hc22] at ih
        exact ih
  exact L5 0 (Nat.zero_le _)
