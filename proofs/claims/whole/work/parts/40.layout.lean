/-! Layout: what its methods answer, as functions of the rows -/
def laIn (S : xS) (i : Nat) (c r : Int32) : Bool := decide (sA S 61 i = c) && decide (sA S 62 i = r)
def laCols (S : xS) : Nat → Int32
  | 0 => nI 0
  | i + 1 => mx (laCols S i) (sA S 61 i + nI 1)
def laRows (S : xS) (c : Int32) : Nat → Int32
  | 0 => nI 0
  | i + 1 => if sA S 61 i = c then mx (laRows S c i) (sA S 62 i + nI 1) else laRows S c i
def laCount (S : xS) (x : Int32) : Nat → Nat
  | 0 => 0
  | i + 1 => if sA S 58 i = x then laCount S x i + 1 else laCount S x i
def laRW (S : xS) (c r : Int32) : Nat → Int32
  | 0 => nI 0
  | i + 1 => if laIn S i c r = true then laRW S c r i + sA S 59 i else laRW S c r i
def laRH (S : xS) (c r : Int32) : Nat → Int32
  | 0 => nI 0
  | i + 1 => if laIn S i c r = true then mx (laRH S c r i) (sA S 60 i) else laRH S c r i
def laCW (S : xS) (c : Int32) (n : Nat) : Nat → Int32
  | 0 => nI 0
  | r + 1 => mx (laCW S c n r) (laRW S c (nI r) n)
def laCH (S : xS) (c : Int32) (n : Nat) : Nat → Int32
  | 0 => nI 0
  | r + 1 => laCH S c n r + laRH S c (nI r) n
def laSum (S : xS) (n : Nat) (m : Nat → Nat) : Nat → Int32
  | 0 => nI 0
  | c + 1 => laSum S n m c + laCW S (nI c) n (m c)
def laPut (S : xS) (n : Nat) (x w h c r : Int32) : xS := uF (uA (uA (uA (uA (uA S 58 n x) 59 n w) 60 n h) 61 n c) 62 n r) 57 5 (nI (n + 1))
set_option maxRecDepth 100000 in
set_option maxHeartbeats 1000000 in
theorem c_La_isIn {G : xG} {B d : Nat} {S : xS} (hG : xOkG G) {i : Nat} {c r : Int32} (hi : i < 36) : EX G m_La_isIn d 0 [(0, .ref (B + 57)), (1, .int (nI i)), (2, .int c), (3, .int r)] [] (mk G B S) (xRet G B (some (.int (bI (laIn S i c r)))) S) := by
  refine x_aload_n d_La_isIn_0 rfl ?_
  refine y_getf d_La_isIn_1 gf_La_21 k_lay rfl ?_
  refine x_iload_n d_La_isIn_4 rfl ?_
  refine y_iald hG d_La_isIn_5 k_lay3 _ rfl (by omega) ?_
  refine x_iload_n d_La_isIn_6 rfl ?_
  refine x_icmp_ne 24 d_La_isIn_7 rfl (fun hc7 => ?_) (fun hc7 => ?_)
  · skip
    skip
    refine x_iconst (v := nI 0) d_La_isIn_24 (by decide +kernel) ?_
    refine x_ireturn d_La_isIn_25 rfl (by decide +kernel) ?_
    refine ⟨?_, rfl⟩
    simp [laIn, bI, *]
  · skip
    skip
    refine x_aload_n d_La_isIn_10 rfl ?_
    refine y_getf d_La_isIn_11 gf_La_24 k_lay rfl ?_
    refine x_iload_n d_La_isIn_14 rfl ?_
    refine y_iald hG d_La_isIn_15 k_lay4 _ rfl (by omega) ?_
    refine x_iload_n d_La_isIn_16 rfl ?_
    refine x_icmp_ne 24 d_La_isIn_17 rfl (fun hc17 => ?_) (fun hc17 => ?_)
    · skip
      skip
      refine x_iconst (v := nI 0) d_La_isIn_24 (by decide +kernel) ?_
      refine x_ireturn d_La_isIn_25 rfl (by decide +kernel) ?_
      refine ⟨?_, rfl⟩
      simp [laIn, bI, *]
    · skip
      skip
      refine x_iconst (v := nI 1) d_La_isIn_20 (by decide +kernel) ?_
      refine x_goto 25 d_La_isIn_21 rfl ?_
      refine x_ireturn d_La_isIn_25 rfl (by decide +kernel) ?_
      refine ⟨?_, rfl⟩
      simp [laIn, bI, *]
set_option maxRecDepth 100000 in
set_option maxHeartbeats 1000000 in
theorem c_La_columns {G : xG} {B d : Nat} {S : xS} (hG : xOkG G) {n : Nat} (hn : sF S 57 5 = nI n) (h36 : n ≤ 36) : EX G m_La_columns d 0 [(0, .ref (B + 57))] [] (mk G B S) ((xRet G B (some (.int (laCols S n))) S)) := by
  refine x_iconst (v := nI 0) d_La_columns_0 (by decide +kernel) ?_
  refine s_istore_n (lv' := [(0, _), (1, _)]) d_La_columns_1 (by decide) rfl ?_
  refine x_iconst (v := nI 0) d_La_columns_2 (by decide +kernel) ?_
  refine s_istore_n (lv' := [(0, _), (1, _), (2, _)]) d_La_columns_3 (by decide) rfl ?_
  have L4 : ∀ i, i ≤ n →  EX G m_La_columns d 4 [(0, .ref (B + 57)), (1, .int (laCols S i)), (2, .int (nI i))] [] (mk G B S) (xRet G B (some (.int (laCols S n))) S) := by
    refine x_down (n) ?_ ?_
    · skip
      skip
      refine x_iload_n d_La_columns_4 rfl ?_
      refine x_aload_n d_La_columns_5 rfl ?_
      refine y_getf (v := .int (nI n)) d_La_columns_6 gf_La_27 k_lay (congrArg (fun q => some (Value.int q)) hn) ?_
      refine z_icmp_ge 31 d_La_columns_9 rfl (by omega) (by omega) (fun hc9 => ?_) (fun q => absurd q (by omega))
      refine x_iload_n d_La_columns_31 rfl ?_
      refine x_ireturn d_La_columns_32 rfl rfl ?_
      exact ⟨rfl, rfl⟩
    · intro i hi ih
      refine x_iload_n d_La_columns_4 rfl ?_
      refine x_aload_n d_La_columns_5 rfl ?_
      refine y_getf (v := .int (nI n)) d_La_columns_6 gf_La_27 k_lay (congrArg (fun q => some (Value.int q)) hn) ?_
      refine z_icmp_ge 31 d_La_columns_9 rfl (by omega) (by omega) (fun q => absurd q (by omega)) (fun hc9 => ?_)
      refine x_iload_n d_La_columns_12 rfl ?_
      refine x_aload_n d_La_columns_13 rfl ?_
      refine y_getf d_La_columns_14 gf_La_21 k_lay rfl ?_
      refine x_iload_n d_La_columns_17 rfl ?_
      refine y_iald hG d_La_columns_18 k_lay3 _ rfl (by omega) ?_
      refine x_iconst (v := nI 1) d_La_columns_19 (by decide +kernel) ?_
      refine x_iadd d_La_columns_20 ?_
      refine w_max d_La_columns_21 k_La_31 rfl ?_
      refine s_istore_n (lv' := [(0, _), (1, _), (2, _)]) d_La_columns_24 (by decide) rfl ?_
      refine s_iinc (lv' := [(0, _), (1, _), (2, _)]) d_La_columns_25 rfl (xinc _) (by decide) rfl ?_
      refine x_goto 4 d_La_columns_28 rfl ?_
      refine x_lv (lv' := [(0, _), (1, _), (2, _)]) [0, 1, 2] rfl ?_
      exact ih
  refine x_lv (lv' := [(0, _), (1, _), (2, _)]) [0, 1, 2] rfl ?_
  exact L4 0 (Nat.zero_le _)
set_option maxRecDepth 100000 in
set_option maxHeartbeats 1000000 in
theorem c_La_rowsIn {G : xG} {B d : Nat} {S : xS} (hG : xOkG G) {n : Nat} (hn : sF S 57 5 = nI n) (h36 : n ≤ 36) {c : Int32} : EX G m_La_rowsIn d 0 [(0, .ref (B + 57)), (1, .int c)] [] (mk G B S) ((xRet G B (some (.int (laRows S c n))) S)) := by
  refine x_iconst (v := nI 0) d_La_rowsIn_0 (by decide +kernel) ?_
  refine s_istore_n (lv' := [(0, _), (1, _), (2, _)]) d_La_rowsIn_1 (by decide) rfl ?_
  refine x_iconst (v := nI 0) d_La_rowsIn_2 (by decide +kernel) ?_
  refine s_istore_n (lv' := [(0, _), (1, _), (2, _), (3, _)]) d_La_rowsIn_3 (by decide) rfl ?_
  have L4 : ∀ i, i ≤ n →  EX G m_La_rowsIn d 4 [(0, .ref (B + 57)), (1, .int c), (2, .int (laRows S c i)), (3, .int (nI i))] [] (mk G B S) (xRet G B (some (.int (laRows S c n))) S) := by
    refine x_down (n) ?_ ?_
    · skip
      skip
      refine x_iload_n d_La_rowsIn_4 rfl ?_
      refine x_aload_n d_La_rowsIn_5 rfl ?_
      refine y_getf (v := .int (nI n)) d_La_rowsIn_6 gf_La_27 k_lay (congrArg (fun q => some (Value.int q)) hn) ?_
      refine z_icmp_ge 41 d_La_rowsIn_9 rfl (by omega) (by omega) (fun hc9 => ?_) (fun q => absurd q (by omega))
      refine x_iload_n d_La_rowsIn_41 rfl ?_
      refine x_ireturn d_La_rowsIn_42 rfl rfl ?_
      exact ⟨rfl, rfl⟩
    · intro i hi ih
      refine x_iload_n d_La_rowsIn_4 rfl ?_
      refine x_aload_n d_La_rowsIn_5 rfl ?_
      refine y_getf (v := .int (nI n)) d_La_rowsIn_6 gf_La_27 k_lay (congrArg (fun q => some (Value.int q)) hn) ?_
      refine z_icmp_ge 41 d_La_rowsIn_9 rfl (by omega) (by omega) (fun q => absurd q (by omega)) (fun hc9 => ?_)
      refine x_aload_n d_La_rowsIn_12 rfl ?_
      refine y_getf d_La_rowsIn_13 gf_La_21 k_lay rfl ?_
      refine x_iload_n d_La_rowsIn_16 rfl ?_
      refine y_iald hG d_La_rowsIn_17 k_lay3 _ rfl (by omega) ?_
      refine x_iload_n d_La_rowsIn_18 rfl ?_
      refine x_icmp_ne 35 d_La_rowsIn_19 rfl (fun hc19 => ?_) (fun hc19 => ?_)
      · skip
        skip
        refine s_iinc (lv' := [(0, _), (1, _), (2, _), (3, _)]) d_La_rowsIn_35 rfl (xinc _) (by decide) rfl ?_
        refine x_goto 4 d_La_rowsIn_38 rfl ?_
        refine x_lv (lv' := [(0, _), (1, _), (2, _), (3, _)]) [0, 1, 2, 3] rfl ?_
        simp only [laRows, hc19, if_true, if_false] at ih
        exact ih
      · skip
        skip
        refine x_iload_n d_La_rowsIn_22 rfl ?_
        refine x_aload_n d_La_rowsIn_23 rfl ?_
        refine y_getf d_La_rowsIn_24 gf_La_24 k_lay rfl ?_
        refine x_iload_n d_La_rowsIn_27 rfl ?_
        refine y_iald hG d_La_rowsIn_28 k_lay4 _ rfl (by omega) ?_
        refine x_iconst (v := nI 1) d_La_rowsIn_29 (by decide +kernel) ?_
        refine x_iadd d_La_rowsIn_30 ?_
        refine w_max d_La_rowsIn_31 k_La_31 rfl ?_
        refine s_istore_n (lv' := [(0, _), (1, _), (2, _), (3, _)]) d_La_rowsIn_34 (by decide) rfl ?_
        refine s_iinc (lv' := [(0, _), (1, _), (2, _), (3, _)]) d_La_rowsIn_35 rfl (xinc _) (by decide) rfl ?_
        refine x_goto 4 d_La_rowsIn_38 rfl ?_
        refine x_lv (lv' := [(0, _), (1, _), (2, _), (3, _)]) [0, 1, 2, 3] rfl ?_
        simp only [laRows, hc19, if_true, if_false] at ih
        exact ih
  refine x_lv (lv' := [(0, _), (1, _), (2, _), (3, _)]) [0, 1, 2, 3] rfl ?_
  exact L4 0 (Nat.zero_le _)
set_option maxRecDepth 100000 in
set_option maxHeartbeats 1000000 in
theorem c_La_countOf {G : xG} {B d : Nat} {S : xS} (hG : xOkG G) {n : Nat} (hn : sF S 57 5 = nI n) (h36 : n ≤ 36) {c : Int32} : EX G m_La_countOf d 0 [(0, .ref (B + 57)), (1, .int c)] [] (mk G B S) ((xRet G B (some (.int (nI (laCount S c n)))) S)) := by
  refine x_iconst (v := nI 0) d_La_countOf_0 (by decide +kernel) ?_
  refine s_istore_n (lv' := [(0, _), (1, _), (2, _)]) d_La_countOf_1 (by decide) rfl ?_
  refine x_iconst (v := nI 0) d_La_countOf_2 (by decide +kernel) ?_
  refine s_istore_n (lv' := [(0, _), (1, _), (2, _), (3, _)]) d_La_countOf_3 (by decide) rfl ?_
  have L4 : ∀ i, i ≤ n →  EX G m_La_countOf d 4 [(0, .ref (B + 57)), (1, .int c), (2, .int (nI (laCount S c i))), (3, .int (nI i))] [] (mk G B S) (xRet G B (some (.int (nI (laCount S c n)))) S) := by
    refine x_down (n) ?_ ?_
    · skip
      skip
      refine x_iload_n d_La_countOf_4 rfl ?_
      refine x_aload_n d_La_countOf_5 rfl ?_
      refine y_getf (v := .int (nI n)) d_La_countOf_6 gf_La_27 k_lay (congrArg (fun q => some (Value.int q)) hn) ?_
      refine z_icmp_ge 31 d_La_countOf_9 rfl (by omega) (by omega) (fun hc9 => ?_) (fun q => absurd q (by omega))
      refine x_iload_n d_La_countOf_31 rfl ?_
      refine x_ireturn d_La_countOf_32 rfl rfl ?_
      exact ⟨rfl, rfl⟩
    · intro i hi ih
      refine x_iload_n d_La_countOf_4 rfl ?_
      refine x_aload_n d_La_countOf_5 rfl ?_
      refine y_getf (v := .int (nI n)) d_La_countOf_6 gf_La_27 k_lay (congrArg (fun q => some (Value.int q)) hn) ?_
      refine z_icmp_ge 31 d_La_countOf_9 rfl (by omega) (by omega) (fun q => absurd q (by omega)) (fun hc9 => ?_)
      refine x_aload_n d_La_countOf_12 rfl ?_
      refine y_getf d_La_countOf_13 gf_La_9 k_lay rfl ?_
      refine x_iload_n d_La_countOf_16 rfl ?_
      refine y_iald hG d_La_countOf_17 k_lay0 _ rfl (by omega) ?_
      refine x_iload_n d_La_countOf_18 rfl ?_
      refine x_icmp_ne 25 d_La_countOf_19 rfl (fun hc19 => ?_) (fun hc19 => ?_)
      · skip
        skip
        refine s_iinc (lv' := [(0, _), (1, _), (2, _), (3, _)]) d_La_countOf_25 rfl (xinc _) (by decide) rfl ?_
        refine x_goto 4 d_La_countOf_28 rfl ?_
        refine x_lv (lv' := [(0, _), (1, _), (2, _), (3, _)]) [0, 1, 2, 3] rfl ?_
        simp only [laCount, hc19, if_true, if_false] at ih
        exact ih
      · skip
        skip
        refine s_iinc (lv' := [(0, _), (1, _), (2, _), (3, _)]) d_La_countOf_22 rfl (xinc _) (by decide) rfl ?_
        refine s_iinc (lv' := [(0, _), (1, _), (2, _), (3, _)]) d_La_countOf_25 rfl (xinc _) (by decide) rfl ?_
        refine x_goto 4 d_La_countOf_28 rfl ?_
        refine x_lv (lv' := [(0, _), (1, _), (2, _), (3, _)]) [0, 1, 2, 3] rfl ?_
        simp only [laCount, hc19, if_true, if_false] at ih
        exact ih
  refine x_lv (lv' := [(0, _), (1, _), (2, _), (3, _)]) [0, 1, 2, 3] rfl ?_
  exact L4 0 (Nat.zero_le _)
set_option maxRecDepth 100000 in
set_option maxHeartbeats 1000000 in
theorem c_La_rowWidth {G : xG} {B d : Nat} {S : xS} (hG : xOkG G) {n : Nat} (hn : sF S 57 5 = nI n) (h36 : n ≤ 36) {c r : Int32} : EX G m_La_rowWidth (d + 1) 0 [(0, .ref (B + 57)), (1, .int c), (2, .int r)] [] (mk G B S) ((xRet G B (some (.int (laRW S c r n))) S)) := by
  refine x_iconst (v := nI 0) d_La_rowWidth_0 (by decide +kernel) ?_
  refine s_istore_n (lv' := [(0, _), (1, _), (2, _), (3, _)]) d_La_rowWidth_1 (by decide) rfl ?_
  refine x_iconst (v := nI 0) d_La_rowWidth_2 (by decide +kernel) ?_
  refine s_istore (lv' := [(0, _), (1, _), (2, _), (3, _), (4, _)]) d_La_rowWidth_3 (by decide) rfl ?_
  have L5 : ∀ i, i ≤ n →  EX G m_La_rowWidth (d + 1) 5 [(0, .ref (B + 57)), (1, .int c), (2, .int r), (3, .int (laRW S c r i)), (4, .int (nI i))] [] (mk G B S) (xRet G B (some (.int (laRW S c r n))) S) := by
    refine x_down (n) ?_ ?_
    · skip
      skip
      refine x_iload d_La_rowWidth_5 rfl ?_
      refine x_aload_n d_La_rowWidth_7 rfl ?_
      refine y_getf (v := .int (nI n)) d_La_rowWidth_8 gf_La_27 k_lay (congrArg (fun q => some (Value.int q)) hn) ?_
      refine z_icmp_ge 41 d_La_rowWidth_11 rfl (by omega) (by omega) (fun hc11 => ?_) (fun q => absurd q (by omega))
      refine x_iload_n d_La_rowWidth_41 rfl ?_
      refine x_ireturn d_La_rowWidth_42 rfl rfl ?_
      exact ⟨rfl, rfl⟩
    · intro i hi ih
      refine x_iload d_La_rowWidth_5 rfl ?_
      refine x_aload_n d_La_rowWidth_7 rfl ?_
      refine y_getf (v := .int (nI n)) d_La_rowWidth_8 gf_La_27 k_lay (congrArg (fun q => some (Value.int q)) hn) ?_
      refine z_icmp_ge 41 d_La_rowWidth_11 rfl (by omega) (by omega) (fun q => absurd q (by omega)) (fun hc11 => ?_)
      refine x_aload_n d_La_rowWidth_14 rfl ?_
      refine x_iload d_La_rowWidth_15 rfl ?_
      refine x_iload_n d_La_rowWidth_17 rfl ?_
      refine x_iload_n d_La_rowWidth_18 rfl ?_
      refine w_callV (As := [_, _, _]) d_La_rowWidth_19 k_La_37 k_lay rfl rfl rfl (c_La_isIn hG (by omega)) ?_
      refine z_bif_eq 35 d_La_rowWidth_22 rfl (fun hc22 => ?_) (fun hc22 => ?_)
      · skip
        skip
        refine s_iinc (lv' := [(0, _), (1, _), (2, _), (3, _), (4, _)]) d_La_rowWidth_35 rfl (xinc _) (by decide) rfl ?_
        refine x_goto 5 d_La_rowWidth_38 rfl ?_
        refine x_lv (lv' := [(0, _), (1, _), (2, _), (3, _), (4, _)]) [0, 1, 2, 3, 4] rfl ?_
        simp only [laRW, hc22] at ih
        exact ih
      · skip
        skip
        refine x_iload_n d_La_rowWidth_25 rfl ?_
        refine x_aload_n d_La_rowWidth_26 rfl ?_
        refine y_getf d_La_rowWidth_27 gf_La_15 k_lay rfl ?_
        refine x_iload d_La_rowWidth_30 rfl ?_
        refine y_iald hG d_La_rowWidth_32 k_lay1 _ rfl (by omega) ?_
        refine x_iadd d_La_rowWidth_33 ?_
        refine s_istore_n (lv' := [(0, _), (1, _), (2, _), (3, _), (4, _)]) d_La_rowWidth_34 (by decide) rfl ?_
        refine s_iinc (lv' := [(0, _), (1, _), (2, _), (3, _), (4, _)]) d_La_rowWidth_35 rfl (xinc _) (by decide) rfl ?_
        refine x_goto 5 d_La_rowWidth_38 rfl ?_
        refine x_lv (lv' := [(0, _), (1, _), (2, _), (3, _), (4, _)]) [0, 1, 2, 3, 4] rfl ?_
        simp only [laRW, hc22] at ih
        exact ih
  refine x_lv (lv' := [(0, _), (1, _), (2, _), (3, _), (4, _)]) [0, 1, 2, 3, 4] rfl ?_
  exact L5 0 (Nat.zero_le _)
set_option maxRecDepth 100000 in
set_option maxHeartbeats 1000000 in
theorem c_La_rowHeight {G : xG} {B d : Nat} {S : xS} (hG : xOkG G) {n : Nat} (hn : sF S 57 5 = nI n) (h36 : n ≤ 36) {c r : Int32} : EX G m_La_rowHeight (d + 1) 0 [(0, .ref (B + 57)), (1, .int c), (2, .int r)] [] (mk G B S) ((xRet G B (some (.int (laRH S c r n))) S)) := by
  refine x_iconst (v := nI 0) d_La_rowHeight_0 (by decide +kernel) ?_
  refine s_istore_n (lv' := [(0, _), (1, _), (2, _), (3, _)]) d_La_rowHeight_1 (by decide) rfl ?_
  refine x_iconst (v := nI 0) d_La_rowHeight_2 (by decide +kernel) ?_
  refine s_istore (lv' := [(0, _), (1, _), (2, _), (3, _), (4, _)]) d_La_rowHeight_3 (by decide) rfl ?_
  have L5 : ∀ i, i ≤ n →  EX G m_La_rowHeight (d + 1) 5 [(0, .ref (B + 57)), (1, .int c), (2, .int r), (3, .int (laRH S c r i)), (4, .int (nI i))] [] (mk G B S) (xRet G B (some (.int (laRH S c r n))) S) := by
    refine x_down (n) ?_ ?_
    · skip
      skip
      refine x_iload d_La_rowHeight_5 rfl ?_
      refine x_aload_n d_La_rowHeight_7 rfl ?_
      refine y_getf (v := .int (nI n)) d_La_rowHeight_8 gf_La_27 k_lay (congrArg (fun q => some (Value.int q)) hn) ?_
      refine z_icmp_ge 43 d_La_rowHeight_11 rfl (by omega) (by omega) (fun hc11 => ?_) (fun q => absurd q (by omega))
      refine x_iload_n d_La_rowHeight_43 rfl ?_
      refine x_ireturn d_La_rowHeight_44 rfl rfl ?_
      exact ⟨rfl, rfl⟩
    · intro i hi ih
      refine x_iload d_La_rowHeight_5 rfl ?_
      refine x_aload_n d_La_rowHeight_7 rfl ?_
      refine y_getf (v := .int (nI n)) d_La_rowHeight_8 gf_La_27 k_lay (congrArg (fun q => some (Value.int q)) hn) ?_
      refine z_icmp_ge 43 d_La_rowHeight_11 rfl (by omega) (by omega) (fun q => absurd q (by omega)) (fun hc11 => ?_)
      refine x_aload_n d_La_rowHeight_14 rfl ?_
      refine x_iload d_La_rowHeight_15 rfl ?_
      refine x_iload_n d_La_rowHeight_17 rfl ?_
      refine x_iload_n d_La_rowHeight_18 rfl ?_
      refine w_callV (As := [_, _, _]) d_La_rowHeight_19 k_La_37 k_lay rfl rfl rfl (c_La_isIn hG (by omega)) ?_
      refine z_bif_eq 37 d_La_rowHeight_22 rfl (fun hc22 => ?_) (fun hc22 => ?_)
      · skip
        skip
        refine s_iinc (lv' := [(0, _), (1, _), (2, _), (3, _), (4, _)]) d_La_rowHeight_37 rfl (xinc _) (by decide) rfl ?_
        refine x_goto 5 d_La_rowHeight_40 rfl ?_
        refine x_lv (lv' := [(0, _), (1, _), (2, _), (3, _), (4, _)]) [0, 1, 2, 3, 4] rfl ?_
        simp only [laRH, hc22] at ih
        exact ih
      · skip
        skip
        refine x_iload_n d_La_rowHeight_25 rfl ?_
        refine x_aload_n d_La_rowHeight_26 rfl ?_
        refine y_getf d_La_rowHeight_27 gf_La_18 k_lay rfl ?_
        refine x_iload d_La_rowHeight_30 rfl ?_
        refine y_iald hG d_La_rowHeight_32 k_lay2 _ rfl (by omega) ?_
        refine w_max d_La_rowHeight_33 k_La_31 rfl ?_
        refine s_istore_n (lv' := [(0, _), (1, _), (2, _), (3, _), (4, _)]) d_La_rowHeight_36 (by decide) rfl ?_
        refine s_iinc (lv' := [(0, _), (1, _), (2, _), (3, _), (4, _)]) d_La_rowHeight_37 rfl (xinc _) (by decide) rfl ?_
        refine x_goto 5 d_La_rowHeight_40 rfl ?_
        refine x_lv (lv' := [(0, _), (1, _), (2, _), (3, _), (4, _)]) [0, 1, 2, 3, 4] rfl ?_
        simp only [laRH, hc22] at ih
        exact ih
  refine x_lv (lv' := [(0, _), (1, _), (2, _), (3, _), (4, _)]) [0, 1, 2, 3, 4] rfl ?_
  exact L5 0 (Nat.zero_le _)
set_option maxRecDepth 100000 in
set_option maxHeartbeats 1000000 in
theorem c_La_columnWidth {G : xG} {B d : Nat} {S : xS} (hG : xOkG G) {n : Nat} (hn : sF S 57 5 = nI n) (h36 : n ≤ 36) {c : Int32} {m : Nat} (hm : laRows S c n = nI m) (hm2 : m < 2 ^ 31) : EX G m_La_columnWidth (d + 2) 0 [(0, .ref (B + 57)), (1, .int c)] [] (mk G B S) ((xRet G B (some (.int (laCW S c n m))) S)) := by
  refine x_iconst (v := nI 0) d_La_columnWidth_0 (by decide +kernel) ?_
  refine s_istore_n (lv' := [(0, _), (1, _), (2, _)]) d_La_columnWidth_1 (by decide) rfl ?_
  refine x_aload_n d_La_columnWidth_2 rfl ?_
  refine x_iload_n d_La_columnWidth_3 rfl ?_
  refine w_callV (As := [_]) d_La_columnWidth_4 k_La_41 k_lay rfl rfl rfl (c_La_rowsIn hG hn h36) ?_
  rw [hm]
  refine s_istore_n (lv' := [(0, _), (1, _), (2, _), (3, _)]) d_La_columnWidth_7 (by decide) rfl ?_
  refine x_iconst (v := nI 0) d_La_columnWidth_8 (by decide +kernel) ?_
  refine s_istore (lv' := [(0, _), (1, _), (2, _), (3, _), (4, _)]) d_La_columnWidth_9 (by decide) rfl ?_
  have L11 : ∀ i, i ≤ m →  EX G m_La_columnWidth (d + 2) 11 [(0, .ref (B + 57)), (1, .int c), (2, .int (laCW S c n i)), (3, .int (nI m)), (4, .int (nI i))] [] (mk G B S) (xRet G B (some (.int (laCW S c n m))) S) := by
    refine x_down (m) ?_ ?_
    · skip
      skip
      refine x_iload d_La_columnWidth_11 rfl ?_
      refine x_iload_n d_La_columnWidth_13 rfl ?_
      refine z_icmp_ge 35 d_La_columnWidth_14 rfl (by omega) (by omega) (fun hc14 => ?_) (fun q => absurd q (by omega))
      refine x_iload_n d_La_columnWidth_35 rfl ?_
      refine x_ireturn d_La_columnWidth_36 rfl rfl ?_
      exact ⟨rfl, rfl⟩
    · intro i hi ih
      refine x_iload d_La_columnWidth_11 rfl ?_
      refine x_iload_n d_La_columnWidth_13 rfl ?_
      refine z_icmp_ge 35 d_La_columnWidth_14 rfl (by omega) (by omega) (fun q => absurd q (by omega)) (fun hc14 => ?_)
      refine x_iload_n d_La_columnWidth_17 rfl ?_
      refine x_aload_n d_La_columnWidth_18 rfl ?_
      refine x_iload_n d_La_columnWidth_19 rfl ?_
      refine x_iload d_La_columnWidth_20 rfl ?_
      refine w_callV (As := [_, _]) d_La_columnWidth_22 k_La_45 k_lay rfl rfl rfl (c_La_rowWidth hG hn h36) ?_
      refine w_max d_La_columnWidth_25 k_La_31 rfl ?_
      refine s_istore_n (lv' := [(0, _), (1, _), (2, _), (3, _), (4, _)]) d_La_columnWidth_28 (by decide) rfl ?_
      refine s_iinc (lv' := [(0, _), (1, _), (2, _), (3, _), (4, _)]) d_La_columnWidth_29 rfl (xinc _) (by decide) rfl ?_
      refine x_goto 11 d_La_columnWidth_32 rfl ?_
      refine x_lv (lv' := [(0, _), (1, _), (2, _), (3, _), (4, _)]) [0, 1, 2, 3, 4] rfl ?_
      exact ih
  refine x_lv (lv' := [(0, _), (1, _), (2, _), (3, _), (4, _)]) [0, 1, 2, 3, 4] rfl ?_
  exact L11 0 (Nat.zero_le _)
set_option maxRecDepth 100000 in
set_option maxHeartbeats 1000000 in
theorem c_La_columnHeight {G : xG} {B d : Nat} {S : xS} (hG : xOkG G) {n : Nat} (hn : sF S 57 5 = nI n) (h36 : n ≤ 36) {c : Int32} {m : Nat} (hm : laRows S c n = nI m) (hm2 : m < 2 ^ 31) : EX G m_La_columnHeight (d + 2) 0 [(0, .ref (B + 57)), (1, .int c)] [] (mk G B S) ((xRet G B (some (.int (laCH S c n m))) S)) := by
  refine x_iconst (v := nI 0) d_La_columnHeight_0 (by decide +kernel) ?_
  refine s_istore_n (lv' := [(0, _), (1, _), (2, _)]) d_La_columnHeight_1 (by decide) rfl ?_
  refine x_aload_n d_La_columnHeight_2 rfl ?_
  refine x_iload_n d_La_columnHeight_3 rfl ?_
  refine w_callV (As := [_]) d_La_columnHeight_4 k_La_41 k_lay rfl rfl rfl (c_La_rowsIn hG hn h36) ?_
  rw [hm]
  refine s_istore_n (lv' := [(0, _), (1, _), (2, _), (3, _)]) d_La_columnHeight_7 (by decide) rfl ?_
  refine x_iconst (v := nI 0) d_La_columnHeight_8 (by decide +kernel) ?_
  refine s_istore (lv' := [(0, _), (1, _), (2, _), (3, _), (4, _)]) d_La_columnHeight_9 (by decide) rfl ?_
  have L11 : ∀ i, i ≤ m →  EX G m_La_columnHeight (d + 2) 11 [(0, .ref (B + 57)), (1, .int c), (2, .int (laCH S c n i)), (3, .int (nI m)), (4, .int (nI i))] [] (mk G B S) (xRet G B (some (.int (laCH S c n m))) S) := by
    refine x_down (m) ?_ ?_
    · skip
      skip
      refine x_iload d_La_columnHeight_11 rfl ?_
      refine x_iload_n d_La_columnHeight_13 rfl ?_
      refine z_icmp_ge 33 d_La_columnHeight_14 rfl (by omega) (by omega) (fun hc14 => ?_) (fun q => absurd q (by omega))
      refine x_iload_n d_La_columnHeight_33 rfl ?_
      refine x_ireturn d_La_columnHeight_34 rfl rfl ?_
      exact ⟨rfl, rfl⟩
    · intro i hi ih
      refine x_iload d_La_columnHeight_11 rfl ?_
      refine x_iload_n d_La_columnHeight_13 rfl ?_
      refine z_icmp_ge 33 d_La_columnHeight_14 rfl (by omega) (by omega) (fun q => absurd q (by omega)) (fun hc14 => ?_)
      refine x_iload_n d_La_columnHeight_17 rfl ?_
      refine x_aload_n d_La_columnHeight_18 rfl ?_
      refine x_iload_n d_La_columnHeight_19 rfl ?_
      refine x_iload d_La_columnHeight_20 rfl ?_
      refine w_callV (As := [_, _]) d_La_columnHeight_22 k_La_48 k_lay rfl rfl rfl (c_La_rowHeight hG hn h36) ?_
      refine x_iadd d_La_columnHeight_25 ?_
      refine s_istore_n (lv' := [(0, _), (1, _), (2, _), (3, _), (4, _)]) d_La_columnHeight_26 (by decide) rfl ?_
      refine s_iinc (lv' := [(0, _), (1, _), (2, _), (3, _), (4, _)]) d_La_columnHeight_27 rfl (xinc _) (by decide) rfl ?_
      refine x_goto 11 d_La_columnHeight_30 rfl ?_
      refine x_lv (lv' := [(0, _), (1, _), (2, _), (3, _), (4, _)]) [0, 1, 2, 3, 4] rfl ?_
      exact ih
  refine x_lv (lv' := [(0, _), (1, _), (2, _), (3, _), (4, _)]) [0, 1, 2, 3, 4] rfl ?_
  exact L11 0 (Nat.zero_le _)
set_option maxRecDepth 100000 in
set_option maxHeartbeats 1000000 in
theorem c_La_fitsOn {G : xG} {B d : Nat} {S : xS} (hG : xOkG G) {n : Nat} (hn : sF S 57 5 = nI n) (h36 : n ≤ 36) {b k : Nat} (hb : isGlass b) {m : Nat → Nat} (hk : laCols S n = nI k) (hk2 : k < 2 ^ 31) (hm : ∀ c, c < k → laRows S (nI c) n = nI (m c) ∧ m c < 2 ^ 31) : EX G m_La_fitsOn (d + 3) 0 [(0, .ref (B + 57)), (1, .ref (B + b))] [] (mk G B S) ((xRet G B (some (.int (bI ((List.range k).all (fun j => decide (laCH S (nI j) n (m j) ≤ sF S b 5)) && decide (laSum S n m k ≤ sF S b 4))))) S)) := by
  refine x_iconst (v := nI 0) d_La_fitsOn_0 (by decide +kernel) ?_
  refine s_istore_n (lv' := [(0, _), (1, _), (2, _)]) d_La_fitsOn_1 (by decide) rfl ?_
  refine x_aload_n d_La_fitsOn_2 rfl ?_
  refine w_callV (As := []) d_La_fitsOn_3 k_La_51 k_lay rfl rfl rfl (c_La_columns hG hn h36) ?_
  rw [hk]
  refine s_istore_n (lv' := [(0, _), (1, _), (2, _), (3, _)]) d_La_fitsOn_6 (by decide) rfl ?_
  refine x_iconst (v := nI 0) d_La_fitsOn_7 (by decide +kernel) ?_
  refine s_istore (lv' := [(0, _), (1, _), (2, _), (3, _), (4, _)]) d_La_fitsOn_8 (by decide) rfl ?_
  have L10 : ∀ i, i ≤ k → (∀ j, j < i → laCH S (nI j) n (m j) ≤ sF S b 5) → EX G m_La_fitsOn (d + 3) 10 [(0, .ref (B + 57)), (1, .ref (B + b)), (2, .int (laSum S n m i)), (3, .int (nI k)), (4, .int (nI i))] [] (mk G B S) (xRet G B (some (.int (bI ((List.range k).all (fun j => decide (laCH S (nI j) n (m j) ≤ sF S b 5)) && decide (laSum S n m k ≤ sF S b 4))))) S) := by
    refine x_down (k) ?_ ?_
    · skip
      skip
      intro hp
      refine x_iload d_La_fitsOn_10 rfl ?_
      refine x_iload_n d_La_fitsOn_12 rfl ?_
      refine z_icmp_ge 46 d_La_fitsOn_13 rfl (by omega) (by omega) (fun hc13 => ?_) (fun q => absurd q (by omega))
      refine x_iload_n d_La_fitsOn_46 rfl ?_
      refine x_aload_n d_La_fitsOn_47 rfl ?_
      refine y_getf d_La_fitsOn_48 gf_La_65 (k_glass hb) rfl ?_
      refine x_icmp_gt 58 d_La_fitsOn_51 rfl (fun hc51 => ?_) (fun hc51 => ?_)
      · skip
        skip
        refine x_iconst (v := nI 0) d_La_fitsOn_58 (by decide +kernel) ?_
        refine x_ireturn d_La_fitsOn_59 rfl (by decide +kernel) ?_
        refine ⟨?_, rfl⟩
        have : (List.range k).all (fun j => decide (laCH S (nI j) n (m j) ≤ sF S b 5)) = true := by
          rw [List.all_eq_true]
          intro j hj
          exact decide_eq_true (hp j (List.mem_range.mp hj))
        rw [this]
        first | (rw [decide_eq_false (Int32.not_le.mpr hc51)]; rfl) | (rw [decide_eq_true (Int32.not_lt.mp hc51)]; rfl)
      · skip
        skip
        refine x_iconst (v := nI 1) d_La_fitsOn_54 (by decide +kernel) ?_
        refine x_goto 59 d_La_fitsOn_55 rfl ?_
        refine x_ireturn d_La_fitsOn_59 rfl (by decide +kernel) ?_
        refine ⟨?_, rfl⟩
        have : (List.range k).all (fun j => decide (laCH S (nI j) n (m j) ≤ sF S b 5)) = true := by
          rw [List.all_eq_true]
          intro j hj
          exact decide_eq_true (hp j (List.mem_range.mp hj))
        rw [this]
        first | (rw [decide_eq_false (Int32.not_le.mpr hc51)]; rfl) | (rw [decide_eq_true (Int32.not_lt.mp hc51)]; rfl)
    · intro i hi ih
      intro hp
      refine x_iload d_La_fitsOn_10 rfl ?_
      refine x_iload_n d_La_fitsOn_12 rfl ?_
      refine z_icmp_ge 46 d_La_fitsOn_13 rfl (by omega) (by omega) (fun q => absurd q (by omega)) (fun hc13 => ?_)
      refine x_aload_n d_La_fitsOn_16 rfl ?_
      refine x_iload d_La_fitsOn_17 rfl ?_
      refine w_callV (As := [_]) d_La_fitsOn_19 k_La_55 k_lay rfl rfl rfl (c_La_columnHeight hG hn h36 (hm i hi).1 (hm i hi).2) ?_
      refine x_aload_n d_La_fitsOn_22 rfl ?_
      refine y_getf d_La_fitsOn_23 gf_La_58 (k_glass hb) rfl ?_
      refine x_icmp_le 31 d_La_fitsOn_26 rfl (fun hc26 => ?_) (fun hc26 => ?_)
      · skip
        skip
        refine x_iload_n d_La_fitsOn_31 rfl ?_
        refine x_aload_n d_La_fitsOn_32 rfl ?_
        refine x_iload d_La_fitsOn_33 rfl ?_
        refine w_callV (As := [_]) d_La_fitsOn_35 k_La_62 k_lay rfl rfl rfl (c_La_columnWidth hG hn h36 (hm i hi).1 (hm i hi).2) ?_
        refine x_iadd d_La_fitsOn_38 ?_
        refine s_istore_n (lv' := [(0, _), (1, _), (2, _), (3, _), (4, _)]) d_La_fitsOn_39 (by decide) rfl ?_
        refine s_iinc (lv' := [(0, _), (1, _), (2, _), (3, _), (4, _)]) d_La_fitsOn_40 rfl (xinc _) (by decide) rfl ?_
        refine x_goto 10 d_La_fitsOn_43 rfl ?_
        refine x_lv (lv' := [(0, _), (1, _), (2, _), (3, _), (4, _)]) [0, 1, 2, 3, 4] rfl ?_
        exact ih (lt_s hp hc26)
      · skip
        skip
        refine x_iconst (v := nI 0) d_La_fitsOn_29 (by decide +kernel) ?_
        refine x_ireturn d_La_fitsOn_30 rfl (by decide +kernel) ?_
        refine ⟨?_, rfl⟩
        have : (List.range k).all (fun j => decide (laCH S (nI j) n (m j) ≤ sF S b 5)) = false := by
          rw [List.all_eq_false]
          exact ⟨i, List.mem_range.mpr hi, by simpa using hc26⟩
        rw [this]; rfl
  refine x_lv (lv' := [(0, _), (1, _), (2, _), (3, _), (4, _)]) [0, 1, 2, 3, 4] rfl ?_
  exact L10 0 (Nat.zero_le _) lt_0
set_option maxRecDepth 100000 in
set_option maxHeartbeats 1000000 in
theorem c_La_clear {G : xG} {B d : Nat} {S : xS} (hG : xOkG G)  : EX G m_La_clear d 0 [(0, .ref (B + 57))] [] (mk G B S) (xRet G B none (uF S 57 5 (nI 0))) := by
  refine x_aload_n d_La_clear_0 rfl ?_
  refine x_iconst (v := nI 0) d_La_clear_1 (by decide +kernel) ?_
  refine y_puti d_La_clear_2 pf_La_27 k_lay (xBle rfl) rfl rfl rfl ?_
  refine x_return d_La_clear_5 rfl ?_
  exact ⟨rfl, rfl⟩
set_option maxRecDepth 100000 in
set_option maxHeartbeats 1000000 in
theorem c_La_dropLast {G : xG} {B d : Nat} {S : xS} (hG : xOkG G) {n : Nat} (hn : sF S 57 5 = nI (n + 1)) (h36 : n < 36) : EX G m_La_dropLast d 0 [(0, .ref (B + 57))] [] (mk G B S) (xRet G B none (uF S 57 5 (nI n))) := by
  refine x_aload_n d_La_dropLast_0 rfl ?_
  refine y_getf (v := .int (nI (n + 1))) d_La_dropLast_1 gf_La_27 k_lay (congrArg (fun q => some (Value.int q)) hn) ?_
  refine z_if_le 17 d_La_dropLast_4 rfl (by omega) (fun q => absurd q (by omega)) (fun hc4 => ?_)
  refine x_aload_n d_La_dropLast_7 rfl ?_
  refine x_dup d_La_dropLast_8 rfl ?_
  refine y_getf (v := .int (nI (n + 1))) d_La_dropLast_9 gf_La_27 k_lay (congrArg (fun q => some (Value.int q)) hn) ?_
  refine x_iconst (v := nI 1) d_La_dropLast_12 (by decide +kernel) ?_
  refine x_isub d_La_dropLast_13 ?_
  rw [pk_sub (by omega), Nat.add_sub_cancel]
  refine y_puti d_La_dropLast_14 pf_La_27 k_lay (xBle rfl) rfl rfl rfl ?_
  refine x_return d_La_dropLast_17 rfl ?_
  exact ⟨rfl, rfl⟩
set_option maxRecDepth 100000 in
set_option maxHeartbeats 1000000 in
theorem c_La_put {G : xG} {B d : Nat} {S : xS} (hG : xOkG G) {n : Nat} (hn : sF S 57 5 = nI n) (h36 : n < 36) {x w h c r : Int32} : EX G m_La_put d 0 [(0, .ref (B + 57)), (1, .int x), (2, .int w), (3, .int h), (4, .int c), (5, .int r)] [] (mk G B S) (xRet G B none (laPut S n x w h c r)) := by
  refine x_aload_n d_La_put_0 rfl ?_
  refine y_getf (v := .int (nI n)) d_La_put_1 gf_La_27 k_lay (congrArg (fun q => some (Value.int q)) hn) ?_
  refine x_bipush (v := nI 36) d_La_put_4 (by decide +kernel) ?_
  refine z_icmp_lt 10 d_La_put_6 rfl (by omega) (by omega) (fun hc6 => ?_) (fun q => absurd q (by omega))
  refine x_aload_n d_La_put_10 rfl ?_
  refine y_getf d_La_put_11 gf_La_9 k_lay rfl ?_
  refine x_aload_n d_La_put_14 rfl ?_
  refine y_getf (v := .int (nI n)) d_La_put_15 gf_La_27 k_lay (congrArg (fun q => some (Value.int q)) hn) ?_
  refine x_iload_n d_La_put_18 rfl ?_
  refine y_iast hG d_La_put_19 k_lay0 _ rfl (by omega) ?_
  refine x_aload_n d_La_put_20 rfl ?_
  refine y_getf d_La_put_21 gf_La_15 k_lay rfl ?_
  refine x_aload_n d_La_put_24 rfl ?_
  refine y_getf (v := .int (nI n)) d_La_put_25 gf_La_27 k_lay (congrArg (fun q => some (Value.int q)) hn) ?_
  refine x_iload_n d_La_put_28 rfl ?_
  refine y_iast hG d_La_put_29 k_lay1 _ rfl (by omega) ?_
  refine x_aload_n d_La_put_30 rfl ?_
  refine y_getf d_La_put_31 gf_La_18 k_lay rfl ?_
  refine x_aload_n d_La_put_34 rfl ?_
  refine y_getf (v := .int (nI n)) d_La_put_35 gf_La_27 k_lay (congrArg (fun q => some (Value.int q)) hn) ?_
  refine x_iload_n d_La_put_38 rfl ?_
  refine y_iast hG d_La_put_39 k_lay2 _ rfl (by omega) ?_
  refine x_aload_n d_La_put_40 rfl ?_
  refine y_getf d_La_put_41 gf_La_21 k_lay rfl ?_
  refine x_aload_n d_La_put_44 rfl ?_
  refine y_getf (v := .int (nI n)) d_La_put_45 gf_La_27 k_lay (congrArg (fun q => some (Value.int q)) hn) ?_
  refine x_iload d_La_put_48 rfl ?_
  refine y_iast hG d_La_put_50 k_lay3 _ rfl (by omega) ?_
  refine x_aload_n d_La_put_51 rfl ?_
  refine y_getf d_La_put_52 gf_La_24 k_lay rfl ?_
  refine x_aload_n d_La_put_55 rfl ?_
  refine y_getf (v := .int (nI n)) d_La_put_56 gf_La_27 k_lay (congrArg (fun q => some (Value.int q)) hn) ?_
  refine x_iload d_La_put_59 rfl ?_
  refine y_iast hG d_La_put_61 k_lay4 _ rfl (by omega) ?_
  refine x_aload_n d_La_put_62 rfl ?_
  refine x_dup d_La_put_63 rfl ?_
  refine y_getf (v := .int (nI n)) d_La_put_64 gf_La_27 k_lay (congrArg (fun q => some (Value.int q)) hn) ?_
  refine x_iconst (v := nI 1) d_La_put_67 (by decide +kernel) ?_
  refine x_iadd d_La_put_68 ?_
  rw [nI_add]
  refine y_puti d_La_put_69 pf_La_27 k_lay (xBle rfl) rfl rfl rfl ?_
  refine x_return d_La_put_72 rfl ?_
  exact ⟨rfl, rfl⟩
