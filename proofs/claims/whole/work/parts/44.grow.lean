/-! Tree: growing -/
theorem tN_le {n : Nat} (h : n ≤ 145) : tN n ≤ 145 := by unfold tN; split <;> omega
theorem tC_ok {n : Nat} : tC n = -1 ∨ ∃ j, j < 145 ∧ tC n = nI j := by
  unfold tC
  split
  · exact Or.inr ⟨n, by omega, rfl⟩
  · exact Or.inl rfl
theorem tAdd_K {S : xS} {b n : Nat} {k x y w h m : Int32} : sK b (b + 9) S (tAdd S b n k x y w h m) := by
  unfold tAdd
  split
  · exact ((((((((sK.rf.A (by omega)).A (by omega)).A (by omega)).A (by omega)).A (by omega)).A (by omega)).A (by omega)).A (by omega)).F (by omega)
  · exact sK.rf
theorem tAdd_n {S : xS} {b n : Nat} {k x y w h m : Int32} (hn : sF S b 8 = nI n) : sF (tAdd S b n k x y w h m) b 8 = nI (tN n) := by
  unfold tAdd tN
  split
  · show sF (uF _ b 8 _) b 8 = _
    rw [sF_uF]; exact va_up_self _ _ _
  · exact hn
theorem tSec_K {S : xS} {b n : Nat} {c : Int32} : sK b (b + 9) S (tSec S b n c) := by
  unfold tSec
  split
  · exact sK.rf
  · exact sK.rf.A (by omega)
theorem tSec_n {S : xS} {b n q : Nat} {c : Int32} (hn : sF S b 8 = nI q) : sF (tSec S b n c) b 8 = nI q := by
  unfold tSec
  split
  · exact hn
  · exact hn
theorem tRest_ok {S : xS} {b n : Nat} {x y w h : Int32} (hn : sF S b 8 = nI n) (h145 : n ≤ 145) : sK b (b + 9) S (tRest S b n x y w h).1 ∧ sF (tRest S b n x y w h).1 b 8 = nI (tRest S b n x y w h).2 ∧ (tRest S b n x y w h).2 ≤ 145 := by
  unfold tRest
  split
  · exact ⟨sK.rf, hn, h145⟩
  · split
    · exact ⟨sK.rf, hn, h145⟩
    · exact ⟨tAdd_K, tAdd_n hn, tN_le h145⟩
/-- a cut, or none where nothing would be left -/
def tCp (S : xS) (b n : Nat) (z : Bool) (k x y w h m : Int32) : xS × Nat × Int32 := if z = true then (S, n, -1) else (tAdd S b n k x y w h m, tN n, tC n)
theorem tCp_ok {S : xS} {b n : Nat} {z : Bool} {k x y w h m : Int32} (hn : sF S b 8 = nI n) (h145 : n ≤ 145) : sK b (b + 9) S (tCp S b n z k x y w h m).1 ∧ sF (tCp S b n z k x y w h m).1 b 8 = nI (tCp S b n z k x y w h m).2.1 ∧ (tCp S b n z k x y w h m).2.1 ≤ 145 ∧ ((tCp S b n z k x y w h m).2.2 = -1 ∨ ∃ j, j < 145 ∧ (tCp S b n z k x y w h m).2.2 = nI j) := by
  unfold tCp
  split
  · exact ⟨sK.rf, hn, h145, Or.inl rfl⟩
  · exact ⟨tAdd_K, tAdd_n hn, tN_le h145, tC_ok⟩
def tCell1 (b : Nat) (c : xS × Nat × Int32) (i : Nat) (w g l y h : Int32) : xS × Nat := tRest (tSec (tAdd c.1 b c.2.1 (nI 2) l y w g (sA c.1 58 i)) b (tN c.2.1) c.2.2) b (tN c.2.1) l (y + g) w (h - g)
def tCell (S : xS) (b n i : Nat) (l y h : Int32) : xS × Nat := tCell1 b (tCp S b n (decide (h ≤ sA S 60 i)) (nI 1) l y (sA S 59 i) h (sA S 60 i)) i (sA S 59 i) (sA S 60 i) l y h
theorem tCell_ok {S : xS} {b n i : Nat} {l y h : Int32} (hn : sF S b 8 = nI n) (h145 : n ≤ 145) : sK b (b + 9) S (tCell S b n i l y h).1 ∧ sF (tCell S b n i l y h).1 b 8 = nI (tCell S b n i l y h).2 ∧ (tCell S b n i l y h).2 ≤ 145 := by
  unfold tCell
  obtain ⟨c1, c2, c3, c4⟩ := tCp_ok (z := decide (h ≤ sA S 60 i)) (k := nI 1) (x := l) (y := y) (w := sA S 59 i) (h := h) (m := sA S 60 i) hn h145
  generalize tCp S b n (decide (h ≤ sA S 60 i)) (nI 1) l y (sA S 59 i) h (sA S 60 i) = c at c1 c2 c3 c4
  unfold tCell1
  obtain ⟨r1, r2, r3⟩ := tRest_ok (S := tSec (tAdd c.1 b c.2.1 (nI 2) l y (sA S 59 i) (sA S 60 i) (sA c.1 58 i)) b (tN c.2.1) c.2.2) (x := l) (y := y + sA S 60 i) (w := sA S 59 i) (h := h - sA S 60 i) (tSec_n (tAdd_n c2)) (tN_le c3)
  exact ⟨((c1.trans tAdd_K).trans tSec_K).trans r1, r2, r3⟩
def tRow1 (b : Nat) (p : xS × Nat × Int32) (i : Nat) (y e h : Int32) : xS × Nat × Int32 :=
  let c := tCp p.1 b p.2.1 (decide (e - p.2.2 ≤ sA p.1 59 i)) (nI 0) p.2.2 y (e - p.2.2) h (sA p.1 59 i)
  let u := tCell c.1 b c.2.1 i p.2.2 y h
  (tSec u.1 b u.2 c.2.2, u.2, p.2.2 + sA p.1 59 i)
def tRowF (S : xS) (b n : Nat) (c r f y w h : Int32) : Nat → xS × Nat × Int32
  | 0 => (S, n, f)
  | i + 1 => if laIn (tRowF S b n c r f y w h i).1 i c r = true then tRow1 b (tRowF S b n c r f y w h i) i y (f + w) h else tRowF S b n c r f y w h i
theorem tRow1_ok {b i : Nat} {p : xS × Nat × Int32} {y e h : Int32} (hn : sF p.1 b 8 = nI p.2.1) (h145 : p.2.1 ≤ 145) : sK b (b + 9) p.1 (tRow1 b p i y e h).1 ∧ sF (tRow1 b p i y e h).1 b 8 = nI (tRow1 b p i y e h).2.1 ∧ (tRow1 b p i y e h).2.1 ≤ 145 := by
  unfold tRow1
  simp only []
  obtain ⟨c1, c2, c3, c4⟩ := tCp_ok (z := decide (e - p.2.2 ≤ sA p.1 59 i)) (k := nI 0) (x := p.2.2) (y := y) (w := e - p.2.2) (h := h) (m := sA p.1 59 i) hn h145
  generalize tCp p.1 b p.2.1 (decide (e - p.2.2 ≤ sA p.1 59 i)) (nI 0) p.2.2 y (e - p.2.2) h (sA p.1 59 i) = c at c1 c2 c3 c4
  obtain ⟨u1, u2, u3⟩ := tCell_ok (i := i) (l := p.2.2) (y := y) (h := h) c2 c3
  exact ⟨(c1.trans u1).trans tSec_K, tSec_n u2, u3⟩
theorem tRowF_ok {S : xS} {b n : Nat} {c r f y w h : Int32} (hn : sF S b 8 = nI n) (h145 : n ≤ 145) : ∀ i, sK b (b + 9) S (tRowF S b n c r f y w h i).1 ∧ sF (tRowF S b n c r f y w h i).1 b 8 = nI (tRowF S b n c r f y w h i).2.1 ∧ (tRowF S b n c r f y w h i).2.1 ≤ 145
  | 0 => ⟨sK.rf, hn, h145⟩
  | i + 1 => by
    obtain ⟨h1, h2, h3⟩ := tRowF_ok (S := S) (b := b) (n := n) (c := c) (r := r) (f := f) (y := y) (w := w) (h := h) hn h145 i
    simp only [tRowF]
    split
    · obtain ⟨g1, g2, g3⟩ := tRow1_ok (i := i) (y := y) (e := f + w) (h := h) h2 h3
      exact ⟨h1.trans g1, g2, g3⟩
    · exact ⟨h1, h2, h3⟩
def tRow (S : xS) (b n m : Nat) (c r f y w h : Int32) : xS × Nat :=
  let p := tRowF S b n c r f y w h m
  tRest p.1 b p.2.1 p.2.2 y (f + w - p.2.2) h
theorem tRow_ok {S : xS} {b n m : Nat} {c r f y w h : Int32} (hn : sF S b 8 = nI n) (h145 : n ≤ 145) : sK b (b + 9) S (tRow S b n m c r f y w h).1 ∧ sF (tRow S b n m c r f y w h).1 b 8 = nI (tRow S b n m c r f y w h).2 ∧ (tRow S b n m c r f y w h).2 ≤ 145 := by
  obtain ⟨h1, h2, h3⟩ := tRowF_ok (c := c) (r := r) (f := f) (y := y) (w := w) (h := h) hn h145 m
  obtain ⟨r1, r2, r3⟩ := tRest_ok (x := (tRowF S b n c r f y w h m).2.2) (y := y) (w := f + w - (tRowF S b n c r f y w h m).2.2) (h := h) h2 h3
  exact ⟨h1.trans r1, r2, r3⟩
set_option maxRecDepth 100000 in
set_option maxHeartbeats 1000000 in
theorem c_Tr_growCell {G : xG} {B d : Nat} {S : xS} (hG : xOkG G) {b n : Nat} (hb : isTree b) (hn : sF S b 8 = nI n) (h145 : n ≤ 145) {i : Nat} (hi : i < 36) {l y h : Int32} : EX G m_Tr_growCell (d + 2) 0 [(0, .ref (B + b)), (1, .ref (B + 57)), (2, .int (nI i)), (3, .int l), (4, .int y), (5, .int h)] [] (mk G B S) (xRet G B none (tCell S b n i l y h).1) := by
  refine x_aload_n d_Tr_growCell_0 rfl ?_
  refine y_getf d_Tr_growCell_1 gf_Tr_85 k_lay rfl ?_
  refine x_iload_n d_Tr_growCell_4 rfl ?_
  refine y_iald hG d_Tr_growCell_5 k_lay1 _ rfl (by omega) ?_
  refine s_istore (lv' := [(0, _), (1, _), (2, _), (3, _), (4, _), (5, _), (6, _)]) d_Tr_growCell_6 (by decide) rfl ?_
  refine x_aload_n d_Tr_growCell_8 rfl ?_
  refine y_getf d_Tr_growCell_9 gf_Tr_89 k_lay rfl ?_
  refine x_iload_n d_Tr_growCell_12 rfl ?_
  refine y_iald hG d_Tr_growCell_13 k_lay2 _ rfl (by omega) ?_
  refine s_istore (lv' := [(0, _), (1, _), (2, _), (3, _), (4, _), (5, _), (6, _), (7, _)]) d_Tr_growCell_14 (by decide) rfl ?_
  refine x_iload d_Tr_growCell_16 rfl ?_
  refine x_iload d_Tr_growCell_18 rfl ?_
  refine x_icmp_ge 40 d_Tr_growCell_20 rfl (fun hc20 => ?_) (fun hc20 => ?_)
  · skip
    skip
    refine x_iconst (v := -1) d_Tr_growCell_40 (by decide +kernel) ?_
    refine s_istore (lv' := [(0, _), (1, _), (2, _), (3, _), (4, _), (5, _), (6, _), (7, _), (8, _)]) d_Tr_growCell_41 (by decide) rfl ?_
    refine x_aload_n d_Tr_growCell_43 rfl ?_
    refine x_iconst (v := nI 2) d_Tr_growCell_44 (by decide +kernel) ?_
    refine x_iload_n d_Tr_growCell_45 rfl ?_
    refine x_iload d_Tr_growCell_46 rfl ?_
    refine x_iload d_Tr_growCell_48 rfl ?_
    refine x_iload d_Tr_growCell_50 rfl ?_
    refine x_aload_n d_Tr_growCell_52 rfl ?_
    refine y_getf d_Tr_growCell_53 gf_Tr_90 k_lay rfl ?_
    refine x_iload_n d_Tr_growCell_56 rfl ?_
    refine y_iald hG d_Tr_growCell_57 k_lay0 _ rfl (by omega) ?_
    refine w_callV (As := [_, _, _, _, _, _]) d_Tr_growCell_58 k_Tr_53 (k_tree hb) rfl rfl rfl (c_Tr_add hG hb (by first | exact hn | exact tAdd_n hn | exact tAdd_n (tAdd_n hn) | exact tSec_n (tAdd_n hn) | exact tSec_n (tAdd_n (tAdd_n hn))) (by first | exact h145 | exact tN_le h145 | exact tN_le (tN_le h145))) ?_
    refine x_pop d_Tr_growCell_61 rfl ?_
    refine x_aload_n d_Tr_growCell_62 rfl ?_
    refine x_iload d_Tr_growCell_63 rfl ?_
    refine w_callV (As := [_]) d_Tr_growCell_65 k_Tr_61 (k_tree hb) rfl rfl rfl (c_Tr_beginSecond hG hb (by first | exact hn | exact tAdd_n hn | exact tAdd_n (tAdd_n hn) | exact tSec_n (tAdd_n hn) | exact tSec_n (tAdd_n (tAdd_n hn))) (by first | exact h145 | exact tN_le h145 | exact tN_le (tN_le h145)) (by first | exact Or.inl rfl | exact tC_ok)) ?_
    refine x_aload_n d_Tr_growCell_68 rfl ?_
    refine x_iload_n d_Tr_growCell_69 rfl ?_
    refine x_iload d_Tr_growCell_70 rfl ?_
    refine x_iload d_Tr_growCell_72 rfl ?_
    refine x_iadd d_Tr_growCell_74 ?_
    refine x_iload d_Tr_growCell_75 rfl ?_
    refine x_iload d_Tr_growCell_77 rfl ?_
    refine x_iload d_Tr_growCell_79 rfl ?_
    refine x_isub d_Tr_growCell_81 ?_
    refine w_callV (As := [_, _, _, _]) d_Tr_growCell_82 k_Tr_65 (k_tree hb) rfl rfl rfl (c_Tr_addRest hG hb (by first | exact hn | exact tAdd_n hn | exact tAdd_n (tAdd_n hn) | exact tSec_n (tAdd_n hn) | exact tSec_n (tAdd_n (tAdd_n hn))) (by first | exact h145 | exact tN_le h145 | exact tN_le (tN_le h145))) ?_
    refine x_return d_Tr_growCell_85 rfl ?_
    unfold tCell tCp
    first
      | (rw [decide_eq_true hc20, if_pos rfl]; exact ⟨rfl, rfl⟩)
      | (rw [decide_eq_false hc20, if_neg (by decide)]; exact ⟨rfl, rfl⟩)
  · skip
    skip
    refine x_aload_n d_Tr_growCell_23 rfl ?_
    refine x_iconst (v := nI 1) d_Tr_growCell_24 (by decide +kernel) ?_
    refine x_iload_n d_Tr_growCell_25 rfl ?_
    refine x_iload d_Tr_growCell_26 rfl ?_
    refine x_iload d_Tr_growCell_28 rfl ?_
    refine x_iload d_Tr_growCell_30 rfl ?_
    refine x_iload d_Tr_growCell_32 rfl ?_
    refine w_callV (As := [_, _, _, _, _, _]) d_Tr_growCell_34 k_Tr_53 (k_tree hb) rfl rfl rfl (c_Tr_add hG hb hn h145) ?_
    refine x_goto 41 d_Tr_growCell_37 rfl ?_
    refine s_istore (lv' := [(0, _), (1, _), (2, _), (3, _), (4, _), (5, _), (6, _), (7, _), (8, _)]) d_Tr_growCell_41 (by decide) rfl ?_
    refine x_aload_n d_Tr_growCell_43 rfl ?_
    refine x_iconst (v := nI 2) d_Tr_growCell_44 (by decide +kernel) ?_
    refine x_iload_n d_Tr_growCell_45 rfl ?_
    refine x_iload d_Tr_growCell_46 rfl ?_
    refine x_iload d_Tr_growCell_48 rfl ?_
    refine x_iload d_Tr_growCell_50 rfl ?_
    refine x_aload_n d_Tr_growCell_52 rfl ?_
    refine y_getf d_Tr_growCell_53 gf_Tr_90 k_lay rfl ?_
    refine x_iload_n d_Tr_growCell_56 rfl ?_
    refine y_iald hG d_Tr_growCell_57 k_lay0 _ rfl (by omega) ?_
    refine w_callV (As := [_, _, _, _, _, _]) d_Tr_growCell_58 k_Tr_53 (k_tree hb) rfl rfl rfl (c_Tr_add hG hb (by first | exact hn | exact tAdd_n hn | exact tAdd_n (tAdd_n hn) | exact tSec_n (tAdd_n hn) | exact tSec_n (tAdd_n (tAdd_n hn))) (by first | exact h145 | exact tN_le h145 | exact tN_le (tN_le h145))) ?_
    refine x_pop d_Tr_growCell_61 rfl ?_
    refine x_aload_n d_Tr_growCell_62 rfl ?_
    refine x_iload d_Tr_growCell_63 rfl ?_
    refine w_callV (As := [_]) d_Tr_growCell_65 k_Tr_61 (k_tree hb) rfl rfl rfl (c_Tr_beginSecond hG hb (by first | exact hn | exact tAdd_n hn | exact tAdd_n (tAdd_n hn) | exact tSec_n (tAdd_n hn) | exact tSec_n (tAdd_n (tAdd_n hn))) (by first | exact h145 | exact tN_le h145 | exact tN_le (tN_le h145)) (by first | exact Or.inl rfl | exact tC_ok)) ?_
    refine x_aload_n d_Tr_growCell_68 rfl ?_
    refine x_iload_n d_Tr_growCell_69 rfl ?_
    refine x_iload d_Tr_growCell_70 rfl ?_
    refine x_iload d_Tr_growCell_72 rfl ?_
    refine x_iadd d_Tr_growCell_74 ?_
    refine x_iload d_Tr_growCell_75 rfl ?_
    refine x_iload d_Tr_growCell_77 rfl ?_
    refine x_iload d_Tr_growCell_79 rfl ?_
    refine x_isub d_Tr_growCell_81 ?_
    refine w_callV (As := [_, _, _, _]) d_Tr_growCell_82 k_Tr_65 (k_tree hb) rfl rfl rfl (c_Tr_addRest hG hb (by first | exact hn | exact tAdd_n hn | exact tAdd_n (tAdd_n hn) | exact tSec_n (tAdd_n hn) | exact tSec_n (tAdd_n (tAdd_n hn))) (by first | exact h145 | exact tN_le h145 | exact tN_le (tN_le h145))) ?_
    refine x_return d_Tr_growCell_85 rfl ?_
    unfold tCell tCp
    first
      | (rw [decide_eq_true hc20, if_pos rfl]; exact ⟨rfl, rfl⟩)
      | (rw [decide_eq_false hc20, if_neg (by decide)]; exact ⟨rfl, rfl⟩)
set_option maxRecDepth 100000 in
set_option maxHeartbeats 1000000 in
theorem c_Tr_growRow {G : xG} {B d : Nat} {S : xS} (hG : xOkG G) {b n : Nat} (hb : isTree b) (hn : sF S b 8 = nI n) (h145 : n ≤ 145) {m : Nat} (hm : sF S 57 5 = nI m) (h36 : m ≤ 36) {c r f y w h : Int32} : EX G m_Tr_growRow (d + 3) 0 [(0, .ref (B + b)), (1, .ref (B + 57)), (2, .int c), (3, .int r), (4, .int f), (5, .int y), (6, .int w), (7, .int h)] [] (mk G B S) ((xRet G B none (tRow S b n m c r f y w h).1)) := by
  refine x_iload d_Tr_growRow_0 rfl ?_
  refine s_istore (lv' := [(0, _), (1, _), (2, _), (3, _), (4, _), (5, _), (6, _), (7, _), (8, _)]) d_Tr_growRow_2 (by decide) rfl ?_
  refine x_iload d_Tr_growRow_4 rfl ?_
  refine x_iload d_Tr_growRow_6 rfl ?_
  refine x_iadd d_Tr_growRow_8 ?_
  refine s_istore (lv' := [(0, _), (1, _), (2, _), (3, _), (4, _), (5, _), (6, _), (7, _), (8, _), (9, _)]) d_Tr_growRow_9 (by decide) rfl ?_
  refine x_iconst (v := nI 0) d_Tr_growRow_11 (by decide +kernel) ?_
  refine s_istore (lv' := [(0, _), (1, _), (2, _), (3, _), (4, _), (5, _), (6, _), (7, _), (8, _), (9, _), (10, _)]) d_Tr_growRow_12 (by decide) rfl ?_
  have L14 : ∀ i, i ≤ m →  EX G m_Tr_growRow (d + 3) 14 [(0, .ref (B + b)), (1, .ref (B + 57)), (2, .int c), (3, .int r), (4, .int f), (5, .int y), (6, .int w), (7, .int h), (8, .int (tRowF S b n c r f y w h i).2.2), (9, .int (f + w)), (10, .int (nI i))] [] (mk G B (tRowF S b n c r f y w h i).1) (xRet G B none (tRow S b n m c r f y w h).1) := by
    refine x_down m ?_ ?_
    · skip
      obtain ⟨p1, p2, p3⟩ := tRowF_ok (c := c) (r := r) (f := f) (y := y) (w := w) (h := h) hn h145 m
      refine x_iload d_Tr_growRow_14 rfl ?_
      refine x_aload_n d_Tr_growRow_16 rfl ?_
      refine y_getf (v := .int (nI m)) d_Tr_growRow_17 gf_Tr_80 k_lay (congrArg (fun q => some (Value.int q)) ((congrFun (p1.1 57 (Or.inl (by obtain ⟨j, hj, e⟩ := hb; omega))).1 5).trans hm)) ?_
      refine z_icmp_ge 109 d_Tr_growRow_20 rfl (by omega) (by omega) (fun hc20 => ?_) (fun q => absurd q (by omega))
      refine x_aload_n d_Tr_growRow_109 rfl ?_
      refine x_iload d_Tr_growRow_110 rfl ?_
      refine x_iload d_Tr_growRow_112 rfl ?_
      refine x_iload d_Tr_growRow_114 rfl ?_
      refine x_iload d_Tr_growRow_116 rfl ?_
      refine x_isub d_Tr_growRow_118 ?_
      refine x_iload d_Tr_growRow_119 rfl ?_
      refine w_callV (As := [_, _, _, _]) d_Tr_growRow_121 k_Tr_65 (k_tree hb) rfl rfl rfl (c_Tr_addRest hG hb p2 p3) ?_
      refine x_return d_Tr_growRow_124 rfl ?_
      exact ⟨rfl, rfl⟩
    · intro i hi ih
      obtain ⟨p1, p2, p3⟩ := tRowF_ok (c := c) (r := r) (f := f) (y := y) (w := w) (h := h) hn h145 i
      refine x_iload d_Tr_growRow_14 rfl ?_
      refine x_aload_n d_Tr_growRow_16 rfl ?_
      refine y_getf (v := .int (nI m)) d_Tr_growRow_17 gf_Tr_80 k_lay (congrArg (fun q => some (Value.int q)) ((congrFun (p1.1 57 (Or.inl (by obtain ⟨j, hj, e⟩ := hb; omega))).1 5).trans hm)) ?_
      refine z_icmp_ge 109 d_Tr_growRow_20 rfl (by omega) (by omega) (fun q => absurd q (by omega)) (fun hc20 => ?_)
      refine x_aload_n d_Tr_growRow_23 rfl ?_
      refine x_iload d_Tr_growRow_24 rfl ?_
      refine x_iload_n d_Tr_growRow_26 rfl ?_
      refine x_iload_n d_Tr_growRow_27 rfl ?_
      refine w_callV (As := [_, _, _]) d_Tr_growRow_28 k_Tr_81 k_lay rfl rfl rfl (c_La_isIn hG (by omega)) ?_
      refine z_bif_eq 103 d_Tr_growRow_31 rfl (fun hc31 => ?_) (fun hc31 => ?_)
      · skip
        skip
        refine s_iinc (lv' := [(0, _), (1, _), (2, _), (3, _), (4, _), (5, _), (6, _), (7, _), (8, _), (9, _), (10, _)]) d_Tr_growRow_103 rfl (xinc _) (by decide) rfl ?_
        refine x_goto 14 d_Tr_growRow_106 rfl ?_
        refine x_lv (lv' := [(0, _), (1, _), (2, _), (3, _), (4, _), (5, _), (6, _), (7, _), (8, _), (9, _), (10, _)]) [0, 1, 2, 3, 4, 5, 6, 7, 8, 9, 10] rfl ?_
        simp only [tRowF, hc31, if_true, if_false, Bool.false_eq_true, tRow1, tCp] at ih
        first
          | (rw [decide_eq_true hc50, if_pos rfl] at ih; exact ih)
          | (rw [decide_eq_false hc50, if_neg (by decide)] at ih; exact ih)
          | exact ih
      · skip
        skip
        refine x_aload_n d_Tr_growRow_34 rfl ?_
        refine y_getf d_Tr_growRow_35 gf_Tr_85 k_lay rfl ?_
        refine x_iload d_Tr_growRow_38 rfl ?_
        refine y_iald hG d_Tr_growRow_40 k_lay1 _ rfl (by omega) ?_
        refine s_istore (lv' := [(0, _), (1, _), (2, _), (3, _), (4, _), (5, _), (6, _), (7, _), (8, _), (9, _), (10, _), (11, _)]) d_Tr_growRow_41 (by decide) rfl ?_
        refine x_iload d_Tr_growRow_43 rfl ?_
        refine x_iload d_Tr_growRow_45 rfl ?_
        refine x_iload d_Tr_growRow_47 rfl ?_
        refine x_isub d_Tr_growRow_49 ?_
        refine x_icmp_ge 74 d_Tr_growRow_50 rfl (fun hc50 => ?_) (fun hc50 => ?_)
        · skip
          skip
          refine x_iconst (v := -1) d_Tr_growRow_74 (by decide +kernel) ?_
          refine s_istore (lv' := [(0, _), (1, _), (2, _), (3, _), (4, _), (5, _), (6, _), (7, _), (8, _), (9, _), (10, _), (11, _), (12, _)]) d_Tr_growRow_75 (by decide) rfl ?_
          refine x_aload_n d_Tr_growRow_77 rfl ?_
          refine x_aload_n d_Tr_growRow_78 rfl ?_
          refine x_iload d_Tr_growRow_79 rfl ?_
          refine x_iload d_Tr_growRow_81 rfl ?_
          refine x_iload d_Tr_growRow_83 rfl ?_
          refine x_iload d_Tr_growRow_85 rfl ?_
          refine w_callV (As := [_, _, _, _, _]) d_Tr_growRow_87 k_Tr_86 (k_tree hb) rfl rfl rfl (c_Tr_growCell hG hb (by first | exact p2 | exact tAdd_n p2) (by first | exact p3 | exact tN_le p3) (by omega)) ?_
          refine x_aload_n d_Tr_growRow_90 rfl ?_
          refine x_iload d_Tr_growRow_91 rfl ?_
          refine w_callV (As := [_]) d_Tr_growRow_93 k_Tr_61 (k_tree hb) rfl rfl rfl (c_Tr_beginSecond hG hb (tCell_ok (by first | exact p2 | exact tAdd_n p2) (by first | exact p3 | exact tN_le p3)).2.1 (tCell_ok (by first | exact p2 | exact tAdd_n p2) (by first | exact p3 | exact tN_le p3)).2.2 (by first | exact Or.inl rfl | exact tC_ok)) ?_
          refine x_iload d_Tr_growRow_96 rfl ?_
          refine x_iload d_Tr_growRow_98 rfl ?_
          refine x_iadd d_Tr_growRow_100 ?_
          refine s_istore (lv' := [(0, _), (1, _), (2, _), (3, _), (4, _), (5, _), (6, _), (7, _), (8, _), (9, _), (10, _), (11, _), (12, _)]) d_Tr_growRow_101 (by decide) rfl ?_
          refine s_iinc (lv' := [(0, _), (1, _), (2, _), (3, _), (4, _), (5, _), (6, _), (7, _), (8, _), (9, _), (10, _), (11, _), (12, _)]) d_Tr_growRow_103 rfl (xinc _) (by decide) rfl ?_
          refine x_goto 14 d_Tr_growRow_106 rfl ?_
          refine x_lv (lv' := [(0, _), (1, _), (2, _), (3, _), (4, _), (5, _), (6, _), (7, _), (8, _), (9, _), (10, _)]) [0, 1, 2, 3, 4, 5, 6, 7, 8, 9, 10] rfl ?_
          simp only [tRowF, hc31, if_true, if_false, Bool.false_eq_true, tRow1, tCp] at ih
          first
            | (rw [decide_eq_true hc50, if_pos rfl] at ih; exact ih)
            | (rw [decide_eq_false hc50, if_neg (by decide)] at ih; exact ih)
            | exact ih
        · skip
          skip
          refine x_aload_n d_Tr_growRow_53 rfl ?_
          refine x_iconst (v := nI 0) d_Tr_growRow_54 (by decide +kernel) ?_
          refine x_iload d_Tr_growRow_55 rfl ?_
          refine x_iload d_Tr_growRow_57 rfl ?_
          refine x_iload d_Tr_growRow_59 rfl ?_
          refine x_iload d_Tr_growRow_61 rfl ?_
          refine x_isub d_Tr_growRow_63 ?_
          refine x_iload d_Tr_growRow_64 rfl ?_
          refine x_iload d_Tr_growRow_66 rfl ?_
          refine w_callV (As := [_, _, _, _, _, _]) d_Tr_growRow_68 k_Tr_53 (k_tree hb) rfl rfl rfl (c_Tr_add hG hb p2 p3) ?_
          refine x_goto 75 d_Tr_growRow_71 rfl ?_
          refine s_istore (lv' := [(0, _), (1, _), (2, _), (3, _), (4, _), (5, _), (6, _), (7, _), (8, _), (9, _), (10, _), (11, _), (12, _)]) d_Tr_growRow_75 (by decide) rfl ?_
          refine x_aload_n d_Tr_growRow_77 rfl ?_
          refine x_aload_n d_Tr_growRow_78 rfl ?_
          refine x_iload d_Tr_growRow_79 rfl ?_
          refine x_iload d_Tr_growRow_81 rfl ?_
          refine x_iload d_Tr_growRow_83 rfl ?_
          refine x_iload d_Tr_growRow_85 rfl ?_
          refine w_callV (As := [_, _, _, _, _]) d_Tr_growRow_87 k_Tr_86 (k_tree hb) rfl rfl rfl (c_Tr_growCell hG hb (by first | exact p2 | exact tAdd_n p2) (by first | exact p3 | exact tN_le p3) (by omega)) ?_
          refine x_aload_n d_Tr_growRow_90 rfl ?_
          refine x_iload d_Tr_growRow_91 rfl ?_
          refine w_callV (As := [_]) d_Tr_growRow_93 k_Tr_61 (k_tree hb) rfl rfl rfl (c_Tr_beginSecond hG hb (tCell_ok (by first | exact p2 | exact tAdd_n p2) (by first | exact p3 | exact tN_le p3)).2.1 (tCell_ok (by first | exact p2 | exact tAdd_n p2) (by first | exact p3 | exact tN_le p3)).2.2 (by first | exact Or.inl rfl | exact tC_ok)) ?_
          refine x_iload d_Tr_growRow_96 rfl ?_
          refine x_iload d_Tr_growRow_98 rfl ?_
          refine x_iadd d_Tr_growRow_100 ?_
          refine s_istore (lv' := [(0, _), (1, _), (2, _), (3, _), (4, _), (5, _), (6, _), (7, _), (8, _), (9, _), (10, _), (11, _), (12, _)]) d_Tr_growRow_101 (by decide) rfl ?_
          refine s_iinc (lv' := [(0, _), (1, _), (2, _), (3, _), (4, _), (5, _), (6, _), (7, _), (8, _), (9, _), (10, _), (11, _), (12, _)]) d_Tr_growRow_103 rfl (xinc _) (by decide) rfl ?_
          refine x_goto 14 d_Tr_growRow_106 rfl ?_
          refine x_lv (lv' := [(0, _), (1, _), (2, _), (3, _), (4, _), (5, _), (6, _), (7, _), (8, _), (9, _), (10, _)]) [0, 1, 2, 3, 4, 5, 6, 7, 8, 9, 10] rfl ?_
          simp only [tRowF, hc31, if_true, if_false, Bool.false_eq_true, tRow1, tCp] at ih
          first
            | (rw [decide_eq_true hc50, if_pos rfl] at ih; exact ih)
            | (rw [decide_eq_false hc50, if_neg (by decide)] at ih; exact ih)
            | exact ih
  refine x_lv (lv' := [(0, _), (1, _), (2, _), (3, _), (4, _), (5, _), (6, _), (7, _), (8, _), (9, _), (10, _)]) [0, 1, 2, 3, 4, 5, 6, 7, 8, 9, 10] rfl ?_
  exact L14 0 (Nat.zero_le _)
