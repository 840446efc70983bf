/-! Tree: growing -/
theorem tN_le {n : Nat} (h : n ≤ 145) : tN n ≤ 145 := by unfold tN; split <;> omega
theorem tC_ok {n : Nat} : tC n = -1 ∨ ∃ j, j < 145 ∧ tC n = nI j := by
  unfold tC
  split
  · exact Or.inr ⟨n, by omega, rfl⟩
  · exact Or.inl rfl
theorem tAdd_K {S : xS} {b n : Nat} {k x y w h m : Int32} : sK b (b + 9) S (tAdd S b n k x y w h m) := by
  unfold tAdd
  split
  · exact ((((((((sK.rf.A (by omega)).A (by omega)).A (by omega)).A (by omega)).A (by omega)).A (by omega)).A (by omega)).A (by omega)).F (by omega)
  · exact sK.rf
theorem tAdd_n {S : xS} {b n : Nat} {k x y w h m : Int32} (hn : sF S b 8 = nI n) : sF (tAdd S b n k x y w h m) b 8 = nI (tN n) := by
  unfold tAdd tN
  split
  · show sF (uF _ b 8 _) b 8 = _
    rw [sF_uF]; exact va_up_self _ _ _
  · exact hn
theorem tSec_K {S : xS} {b n : Nat} {c : Int32} : sK b (b + 9) S (tSec S b n c) := by
  unfold tSec
  split
  · exact sK.rf
  · exact sK.rf.A (by omega)
theorem tSec_n {S : xS} {b n q : Nat} {c : Int32} (hn : sF S b 8 = nI q) : sF (tSec S b n c) b 8 = nI q := by
  unfold tSec
  split
  · exact hn
  · exact hn
theorem tRest_ok {S : xS} {b n : Nat} {x y w h : Int32} (hn : sF S b 8 = nI n) (h145 : n ≤ 145) : sK b (b + 9) S (tRest S b n x y w h).1 ∧ sF (tRest S b n x y w h).1 b 8 = nI (tRest S b n x y w h).2 ∧ (tRest S b n x y w h).2 ≤ 145 := by
  unfold tRest
  split
  · exact ⟨sK.rf, hn, h145⟩
  · split
    · exact ⟨sK.rf, hn, h145⟩
    · exact ⟨tAdd_K, tAdd_n hn, tN_le h145⟩
/-- a cut, or none where nothing would be left -/
def tCp (S : xS) (b n : Nat) (z : Bool) (k x y w h m : Int32) : xS × Nat × Int32 := if z = true then (S, n, -1) else (tAdd S b n k x y w h m, tN n, tC n)
theorem tCp_ok {S : xS} {b n : Nat} {z : Bool} {k x y w h m : Int32} (hn : sF S b 8 = nI n) (h145 : n ≤ 145) : sK b (b + 9) S (tCp S b n z k x y w h m).1 ∧ sF (tCp S b n z k x y w h m).1 b 8 = nI (tCp S b n z k x y w h m).2.1 ∧ (tCp S b n z k x y w h m).2.1 ≤ 145 ∧ ((tCp S b n z k x y w h m).2.2 = -1 ∨ ∃ j, j < 145 ∧ (tCp S b n z k x y w h m).2.2 = nI j) := by
  unfold tCp
  split
  · exact ⟨sK.rf, hn, h145, Or.inl rfl⟩
  · exact ⟨tAdd_K, tAdd_n hn, tN_le h145, tC_ok⟩
def tCell1 (b : Nat) (c : xS × Nat × Int32) (i : Nat) (w g l y h : Int32) : xS × Nat := tRest (tSec (tAdd c.1 b c.2.1 (nI 2) l y w g (sA c.1 58 i)) b (tN c.2.1) c.2.2) b (tN c.2.1) l (y + g) w (h - g)
def tCell (S : xS) (b n i : Nat) (l y h : Int32) : xS × Nat := tCell1 b (tCp S b n (decide (h ≤ sA S 60 i)) (nI 1) l y (sA S 59 i) h (sA S 60 i)) i (sA S 59 i) (sA S 60 i) l y h
theorem tCell_ok {S : xS} {b n i : Nat} {l y h : Int32} (hn : sF S b 8 = nI n) (h145 : n ≤ 145) : sK b (b + 9) S (tCell S b n i l y h).1 ∧ sF (tCell S b n i l y h).1 b 8 = nI (tCell S b n i l y h).2 ∧ (tCell S b n i l y h).2 ≤ 145 := by
  unfold tCell
  obtain ⟨c1, c2, c3, c4⟩ := tCp_ok (z := decide (h ≤ sA S 60 i)) (k := nI 1) (x := l) (y := y) (w := sA S 59 i) (h := h) (m := sA S 60 i) hn h145
  generalize tCp S b n (decide (h ≤ sA S 60 i)) (nI 1) l y (sA S 59 i) h (sA S 60 i) = c at c1 c2 c3 c4
  unfold tCell1
  obtain ⟨r1, r2, r3⟩ := tRest_ok (S := tSec (tAdd c.1 b c.2.1 (nI 2) l y (sA S 59 i) (sA S 60 i) (sA c.1 58 i)) b (tN c.2.1) c.2.2) (x := l) (y := y + sA S 60 i) (w := sA S 59 i) (h := h - sA S 60 i) (tSec_n (tAdd_n c2)) (tN_le c3)
  exact ⟨((c1.trans tAdd_K).trans tSec_K).trans r1, r2, r3⟩
def tRow1 (b : Nat) (p : xS × Nat × Int32) (i : Nat) (y e h : Int32) : xS × Nat × Int32 :=
  let c := tCp p.1 b p.2.1 (decide (e - p.2.2 ≤ sA p.1 59 i)) (nI 0) p.2.2 y (e - p.2.2) h (sA p.1 59 i)
  let u := tCell c.1 b c.2.1 i p.2.2 y h
  (tSec u.1 b u.2 c.2.2, u.2, p.2.2 + sA p.1 59 i)
def tRowF (S : xS) (b n : Nat) (c r f y w h : Int32) : Nat → xS × Nat × Int32
  | 0 => (S, n, f)
  | i + 1 => if laIn (tRowF S b n c r f y w h i).1 i c r = true then tRow1 b (tRowF S b n c r f y w h i) i y (f + w) h else tRowF S b n c r f y w h i
theorem tRow1_ok {b i : Nat} {p : xS × Nat × Int32} {y e h : Int32} (hn : sF p.1 b 8 = nI p.2.1) (h145 : p.2.1 ≤ 145) : sK b (b + 9) p.1 (tRow1 b p i y e h).1 ∧ sF (tRow1 b p i y e h).1 b 8 = nI (tRow1 b p i y e h).2.1 ∧ (tRow1 b p i y e h).2.1 ≤ 145 := by
  unfold tRow1
  simp only []
  obtain ⟨c1, c2, c3, c4⟩ := tCp_ok (z := decide (e - p.2.2 ≤ sA p.1 59 i)) (k := nI 0) (x := p.2.2) (y := y) (w := e - p.2.2) (h := h) (m := sA p.1 59 i) hn h145
  generalize tCp p.1 b p.2.1 (decide (e - p.2.2 ≤ sA p.1 59 i)) (nI 0) p.2.2 y (e - p.2.2) h (sA p.1 59 i) = c at c1 c2 c3 c4
  obtain ⟨u1, u2, u3⟩ := tCell_ok (i := i) (l := p.2.2) (y := y) (h := h) c2 c3
  exact ⟨(c1.trans u1).trans tSec_K, tSec_n u2, u3⟩
theorem tRowF_ok {S : xS} {b n : Nat} {c r f y w h : Int32} (hn : sF S b 8 = nI n) (h145 : n ≤ 145) : ∀ i, sK b (b + 9) S (tRowF S b n c r f y w h i).1 ∧ sF (tRowF S b n c r f y w h i).1 b 8 = nI (tRowF S b n c r f y w h i).2.1 ∧ (tRowF S b n c r f y w h i).2.1 ≤ 145
  | 0 => ⟨sK.rf, hn, h145⟩
  | i + 1 => by
    obtain ⟨h1, h2, h3⟩ := tRowF_ok (S := S) (b := b) (n := n) (c := c) (r := r) (f := f) (y := y) (w := w) (h := h) hn h145 i
    simp only [tRowF]
    split
    · obtain ⟨g1, g2, g3⟩ := tRow1_ok (i := i) (y := y) (e := f + w) (h := h) h2 h3
      exact ⟨h1.trans g1, g2, g3⟩
    · exact ⟨h1, h2, h3⟩
def tRow (S : xS) (b n m : Nat) (c r f y w h : Int32) : xS × Nat :=
  let p := tRowF S b n c r f y w h m
  tRest p.1 b p.2.1 p.2.2 y (f + w - p.2.2) h
theorem tRow_ok {S : xS} {b n m : Nat} {c r f y w h : Int32} (hn : sF S b 8 = nI n) (h145 : n ≤ 145) : sK b (b + 9) S (tRow S b n m c r f y w h).1 ∧ sF (tRow S b n m c r f y w h).1 b 8 = nI (tRow S b n m c r f y w h).2 ∧ (tRow S b n m c r f y w h).2 ≤ 145 := by
  obtain ⟨h1, h2, h3⟩ := tRowF_ok (c := c) (r := r) (f := f) (y := y) (w := w) (h := h) hn h145 m
  obtain ⟨r1, r2, r3⟩ := tRest_ok (x := (tRowF S b n c r f y w h m).2.2) (y := y) (w := f + w - (tRowF S b n c r f y w h m).2.2) (h := h) h2 h3
  exact ⟨h1.trans r1, r2, r3⟩
set_option maxRecDepth 100000 in
set_option maxHeartbeats 1000000 in
theorem c_Tr_growCell {G : xG} {B d : Nat} {S : xS} (hG : xOkG G) {b n : Nat} (hb : isTree b) (hn : sF S b 8 = nI n) (h145 : n ≤ 145) {i : Nat} (hi : i < 36) {l y h : Int32} : EX G m_Tr_growCell (d + 2) 0 [(0, .ref (B + b)), (1, .ref (B + 57)), (2, .int (nI i)), (3, .int l), (4, .int y), (5, .int h)] [] (mk G B S) (xRet G B none (tCell S b n i l y h).1) := by
  refine x_aload_n d_Tr_growCell_0 rfl ?_
  refine y_getf d_Tr_growCell_1 gf_Tr_85 k_lay rfl ?_
  refine x_iload_n d_Tr_growCell_4 rfl ?_
  refine y_iald hG d_Tr_growCell_5 k_lay1 _ rfl (by omega) ?_
  refine s_istore (lv' := [(0, _), (1, _), (2, _), (3, _), (4, _), (5, _), (6, _)]) d_Tr_growCell_6 (by decide) rfl ?_
  refine x_aload_n d_Tr_growCell_8 rfl ?_
  refine y_getf d_Tr_growCell_9 gf_Tr_89 k_lay rfl ?_
  refine x_iload_n d_Tr_growCell_12 rfl ?_
  refine y_iald hG d_Tr_growCell_13 k_lay2 _ rfl (by omega) ?_
  refine s_istore (lv' := [(0, _), (1, _), (2, _), (3, _), (4, _), (5, _), (6, _), (7, _)]) d_Tr_growCell_14 (by decide) rfl ?_
  refine x_iload d_Tr_growCell_16 rfl ?_
  refine x_iload d_Tr_growCell_18 rfl ?_
  refine x_icmp_ge 40 d_Tr_growCell_20 rfl (fun hc20 => ?_) (fun hc20 => ?_)
  · skip
    skip
    refine x_iconst (v := -1) d_Tr_growCell_40 (by decide +kernel) ?_
    refine s_istore (lv' := [(0, _), (1, _), (2, _), (3, _), (4, _), (5, _), (6, _), (7, _), (8, _)]) d_Tr_growCell_41 (by decide) rfl ?_
    refine x_aload_n d_Tr_growCell_43 rfl ?_
    refine x_iconst (v := nI 2) d_Tr_growCell_44 (by decide +kernel) ?_
    refine x_iload_n d_Tr_growCell_45 rfl ?_
    refine x_iload d_Tr_growCell_46 rfl ?_
    refine x_iload d_Tr_growCell_48 rfl ?_
    refine x_iload d_Tr_growCell_50 rfl ?_
    refine x_aload_n d_Tr_growCell_52 rfl ?_
    refine y_getf d_Tr_growCell_53 gf_Tr_90 k_lay rfl ?_
    refine x_iload_n d_Tr_growCell_56 rfl ?_
    refine y_iald hG d_Tr_growCell_57 k_lay0 _ rfl (by omega) ?_
    refine w_callV (As := [_, _, _, _, _, _]) d_Tr_growCell_58 k_Tr_53 (k_tree hb) rfl rfl rfl (c_Tr_add hG hb (by first | exact hn | exact tAdd_n hn | exact tAdd_n (tAdd_n hn) | exact tSec_n (tAdd_n hn) | exact tSec_n (tAdd_n (tAdd_n hn))) (by first | exact h145 | exact tN_le h145 | exact tN_le (tN_le h145))) ?_
    refine x_pop d_Tr_growCell_61 rfl ?_
    refine x_aload_n d_Tr_growCell_62 rfl ?_
    refine x_iload d_Tr_growCell_63 rfl ?_
    refine w_callV (As := [_]) d_Tr_growCell_65 k_Tr_61 (k_tree hb) rfl rfl rfl (c_Tr_beginSecond hG hb (by first | exact hn | exact tAdd_n hn | exact tAdd_n (tAdd_n hn) | exact tSec_n (tAdd_n hn) | exact tSec_n (tAdd_n (tAdd_n hn))) (by first | exact h145 | exact tN_le h145 | exact tN_le (tN_le h145)) (by first | exact Or.inl rfl | exact tC_ok)) ?_
    refine x_aload_n d_Tr_growCell_68 rfl ?_
    refine x_iload_n d_Tr_growCell_69 rfl ?_
    refine x_iload d_Tr_growCell_70 rfl ?_
    refine x_iload d_Tr_growCell_72 rfl ?_
    refine x_iadd d_Tr_growCell_74 ?_
    refine x_iload d_Tr_growCell_75 rfl ?_
    refine x_iload d_Tr_growCell_77 rfl ?_
    refine x_iload d_Tr_growCell_79 rfl ?_
    refine x_isub d_Tr_growCell_81 ?_
    refine w_callV (As := [_, _, _, _]) d_Tr_growCell_82 k_Tr_65 (k_tree hb) rfl rfl rfl (c_Tr_addRest hG hb (by first | exact hn | exact tAdd_n hn | exact tAdd_n (tAdd_n hn) | exact tSec_n (tAdd_n hn) | exact tSec_n (tAdd_n (tAdd_n hn))) (by first | exact h145 | exact tN_le h145 | exact tN_le (tN_le h145))) ?_
    refine x_return d_Tr_growCell_85 rfl ?_
    unfold tCell tCp
    first
      | (rw [decide_eq_true hc20, if_pos rfl]; exact ⟨rfl, rfl⟩)
      | (rw [decide_eq_false hc20, if_neg (by decide)]; exact ⟨rfl, rfl⟩)
  · skip
    skip
    refine x_aload_n d_Tr_growCell_23 rfl ?_
    refine x_iconst (v := nI 1) d_Tr_growCell_24 (by decide +kernel) ?_
    refine x_iload_n d_Tr_growCell_25 rfl ?_
    refine x_iload d_Tr_growCell_26 rfl ?_
    refine x_iload d_Tr_growCell_28 rfl ?_
    refine x_iload d_Tr_growCell_30 rfl ?_
    refine x_iload d_Tr_growCell_32 rfl ?_
    refine w_callV (As := [_, _, _, _, _, _]) d_Tr_growCell_34 k_Tr_53 (k_tree hb) rfl rfl rfl (c_Tr_add hG hb hn h145) ?_
    refine x_goto 41 d_Tr_growCell_37 rfl ?_
    refine s_istore (lv' := [(0, _), (1, _), (2, _), (3, _), (4, _), (5, _), (6, _), (7, _), (8, _)]) d_Tr_growCell_41 (by decide) rfl ?_
    refine x_aload_n d_Tr_growCell_43 rfl ?_
    refine x_iconst (v := nI 2) d_Tr_growCell_44 (by decide +kernel) ?_
    refine x_iload_n d_Tr_growCell_45 rfl ?_
    refine x_iload d_Tr_growCell_46 rfl ?_
    refine x_iload d_Tr_growCell_48 rfl ?_
    refine x_iload d_Tr_growCell_50 rfl ?_
    refine x_aload_n d_Tr_growCell_52 rfl ?_
    refine y_getf d_Tr_growCell_53 gf_Tr_90 k_lay rfl ?_
    refine x_iload_n d_Tr_growCell_56 rfl ?_
    refine y_iald hG d_Tr_growCell_57 k_lay0 _ rfl (by omega) ?_
    refine w_callV (As := [_, _, _, _, _, _]) d_Tr_growCell_58 k_Tr_53 (k_tree hb) rfl rfl rfl (c_Tr_add hG hb (by first | exact hn | exact tAdd_n hn | exact tAdd_n (tAdd_n hn) | exact tSec_n (tAdd_n hn) | exact tSec_n (tAdd_n (tAdd_n hn))) (by first | exact h145 | exact tN_le h145 | exact tN_le (tN_le h145))) ?_
    refine x_pop d_Tr_growCell_61 rfl ?_
    refine x_aload_n d_Tr_growCell_62 rfl ?_
    refine x_iload d_Tr_growCell_63 rfl ?_
    refine w_callV (As := [_]) d_Tr_growCell_65 k_Tr_61 (k_tree hb) rfl rfl rfl (c_Tr_beginSecond hG hb (by first | exact hn | exact tAdd_n hn | exact tAdd_n (tAdd_n hn) | exact tSec_n (tAdd_n hn) | exact tSec_n (tAdd_n (tAdd_n hn))) (by first | exact h145 | exact tN_le h145 | exact tN_le (tN_le h145)) (by first | exact Or.inl rfl | exact tC_ok)) ?_
    refine x_aload_n d_Tr_growCell_68 rfl ?_
    refine x_iload_n d_Tr_growCell_69 rfl ?_
    refine x_iload d_Tr_growCell_70 rfl ?_
    refine x_iload d_Tr_growCell_72 rfl ?_
    refine x_iadd d_Tr_growCell_74 ?_
    refine x_iload d_Tr_growCell_75 rfl ?_
    refine x_iload d_Tr_growCell_77 rfl ?_
    refine x_iload d_Tr_growCell_79 rfl ?_
    refine x_isub d_Tr_growCell_81 ?_
    refine w_callV (As := [_, _, _, _]) d_Tr_growCell_82 k_Tr_65 (k_tree hb) rfl rfl rfl (c_Tr_addRest hG hb (by first | exact hn | exact tAdd_n hn | exact tAdd_n (tAdd_n hn) | exact tSec_n (tAdd_n hn) | exact tSec_n (tAdd_n (tAdd_n hn))) (by first | exact h145 | exact tN_le h145 | exact tN_le (tN_le h145))) ?_
    refine x_return d_Tr_growCell_85 rfl ?_
    unfold tCell tCp
    first
      | (rw [decide_eq_true hc20, if_pos rfl]; exact ⟨rfl, rfl⟩)
      | (rw [decide_eq_false hc20, if_neg (by decide)]; exact ⟨rfl, rfl⟩)
set_option maxRecDepth 100000 in
set_option maxHeartbeats 1000000 in
theorem c_Tr_growRow {G : xG} {B d : Nat} {S : xS} (hG : xOkG G) {b n : Nat} (hb : isTree b) (hn : sF S b 8 = nI n) (h145 : n ≤ 145) {m : Nat} (hm : sF S 57 5 = nI m) (h36 : m ≤ 36) {c r f y w h : Int32} : EX G m_Tr_growRow (d + 3) 0 [(0, .ref (B + b)), (1, .ref (B + 57)), (2, .int c), (3, .int r), (4, .int f), (5, .int y), (6, .int w), (7, .int h)] [] (mk G B S) ((xRet G B none (tRow S b n m c r f y w h).1)) := by
  refine x_iload d_Tr_growRow_0 rfl ?_
  refine s_istore (lv' := [(0, _), (1, _), (2, _), (3, _), (4, _), (5, _), (6, _), (7, _), (8, _)]) d_Tr_growRow_2 (by decide) rfl ?_
  refine x_iload d_Tr_growRow_4 rfl ?_
  refine x_iload d_Tr_growRow_6 rfl ?_
  refine x_iadd d_Tr_growRow_8 ?_
  refine s_istore (lv' := [(0, _), (1, _), (2, _), (3, _), (4, _), (5, _), (6, _), (7, _), (8, _), (9, _)]) d_Tr_growRow_9 (by decide) rfl ?_
  refine x_iconst (v := nI 0) d_Tr_growRow_11 (by decide +kernel) ?_
  refine s_istore (lv' := [(0, _), (1, _), (2, _), (3, _), (4, _), (5, _), (6, _), (7, _), (8, _), (9, _), (10, _)]) d_Tr_growRow_12 (by decide) rfl ?_
  have L14 : ∀ i, i ≤ m →  EX G m_Tr_growRow (d + 3) 14 [(0, .ref (B + b)), (1, .ref (B + 57)), (2, .int c), (3, .int r), (4, .int f), (5, .int y), (6, .int w), (7, .int h), (8, .int (tRowF S b n c r f y w h i).2.2), (9, .int (f + w)), (10, .int (nI i))] [] (mk G B (tRowF S b n c r f y w h i).1) (xRet G B none (tRow S b n m c r f y w h).1) := by
    refine x_down (m) ?_ ?_
    · skip
      obtain ⟨p1, p2, p3⟩ := tRowF_ok (c := c) (r := r) (f := f) (y := y) (w := w) (h := h) hn h145 m
      refine x_iload d_Tr_growRow_14 rfl ?_
      refine x_aload_n d_Tr_growRow_16 rfl ?_
      refine y_getf (v := .int (nI m)) d_Tr_growRow_17 gf_Tr_80 k_lay (congrArg (fun q => some (Value.int q)) ((congrFun (p1.1 57 (Or.inl (by obtain ⟨j, hj, e⟩ := hb; omega))).1 5).trans hm)) ?_
      refine z_icmp_ge 109 d_Tr_growRow_20 rfl (by omega) (by omega) (fun hc20 => ?_) (fun q => absurd q (by omega))
      refine x_aload_n d_Tr_growRow_109 rfl ?_
      refine x_iload d_Tr_growRow_110 rfl ?_
      refine x_iload d_Tr_growRow_112 rfl ?_
      refine x_iload d_Tr_growRow_114 rfl ?_
      refine x_iload d_Tr_growRow_116 rfl ?_
      refine x_isub d_Tr_growRow_118 ?_
      refine x_iload d_Tr_growRow_119 rfl ?_
      refine w_callV (As := [_, _, _, _]) d_Tr_growRow_121 k_Tr_65 (k_tree hb) rfl rfl rfl (c_Tr_addRest hG hb p2 p3) ?_
      refine x_return d_Tr_growRow_124 rfl ?_
      exact ⟨rfl, rfl⟩
    · intro i hi ih
      obtain ⟨p1, p2, p3⟩ := tRowF_ok (c := c) (r := r) (f := f) (y := y) (w := w) (h := h) hn h145 i
      refine x_iload d_Tr_growRow_14 rfl ?_
      refine x_aload_n d_Tr_growRow_16 rfl ?_
      refine y_getf (v := .int (nI m)) d_Tr_growRow_17 gf_Tr_80 k_lay (congrArg (fun q => some (Value.int q)) ((congrFun (p1.1 57 (Or.inl (by obtain ⟨j, hj, e⟩ := hb; omega))).1 5).trans hm)) ?_
      refine z_icmp_ge 109 d_Tr_growRow_20 rfl (by omega) (by omega) (fun q => absurd q (by omega)) (fun hc20 => ?_)
      refine x_aload_n d_Tr_growRow_23 rfl ?_
      refine x_iload d_Tr_growRow_24 rfl ?_
      refine x_iload_n d_Tr_growRow_26 rfl ?_
      refine x_iload_n d_Tr_growRow_27 rfl ?_
      refine w_callV (As := [_, _, _]) d_Tr_growRow_28 k_Tr_81 k_lay rfl rfl rfl (c_La_isIn hG (by omega)) ?_
      refine z_bif_eq 103 d_Tr_growRow_31 rfl (fun hc31 => ?_) (fun hc31 => ?_)
      · skip
        skip
        refine s_iinc (lv' := [(0, _), (1, _), (2, _), (3, _), (4, _), (5, _), (6, _), (7, _), (8, _), (9, _), (10, _)]) d_Tr_growRow_103 rfl (xinc _) (by decide) rfl ?_
        refine x_goto 14 d_Tr_growRow_106 rfl ?_
        refine x_lv (lv' := [(0, _), (1, _), (2, _), (3, _), (4, _), (5, _), (6, _), (7, _), (8, _), (9, _), (10, _)]) [0, 1, 2, 3, 4, 5, 6, 7, 8, 9, 10] rfl ?_
        simp only [tRowF, hc31, if_true, if_false, Bool.false_eq_true, tRow1, tCp] at ih
        first
          | (rw [decide_eq_true hc50, if_pos rfl] at ih; exact ih)
          | (rw [decide_eq_false hc50, if_neg (by decide)] at ih; exact ih)
          | exact ih
      · skip
        skip
        refine x_aload_n d_Tr_growRow_34 rfl ?_
        refine y_getf d_Tr_growRow_35 gf_Tr_85 k_lay rfl ?_
        refine x_iload d_Tr_growRow_38 rfl ?_
        refine y_iald hG d_Tr_growRow_40 k_lay1 _ rfl (by omega) ?_
        refine s_istore (lv' := [(0, _), (1, _), (2, _), (3, _), (4, _), (5, _), (6, _), (7, _), (8, _), (9, _), (10, _), (11, _)]) d_Tr_growRow_41 (by decide) rfl ?_
        refine x_iload d_Tr_growRow_43 rfl ?_
        refine x_iload d_Tr_growRow_45 rfl ?_
        refine x_iload d_Tr_growRow_47 rfl ?_
        refine x_isub d_Tr_growRow_49 ?_
        refine x_icmp_ge 74 d_Tr_growRow_50 rfl (fun hc50 => ?_) (fun hc50 => ?_)
        · skip
          skip
          refine x_iconst (v := -1) d_Tr_growRow_74 (by decide +kernel) ?_
          refine s_istore (lv' := [(0, _), (1, _), (2, _), (3, _), (4, _), (5, _), (6, _), (7, _), (8, _), (9, _), (10, _), (11, _), (12, _)]) d_Tr_growRow_75 (by decide) rfl ?_
          refine x_aload_n d_Tr_growRow_77 rfl ?_
          refine x_aload_n d_Tr_growRow_78 rfl ?_
          refine x_iload d_Tr_growRow_79 rfl ?_
          refine x_iload d_Tr_growRow_81 rfl ?_
          refine x_iload d_Tr_growRow_83 rfl ?_
          refine x_iload d_Tr_growRow_85 rfl ?_
          refine w_callV (As := [_, _, _, _, _]) d_Tr_growRow_87 k_Tr_86 (k_tree hb) rfl rfl rfl (c_Tr_growCell hG hb (by first | exact p2 | exact tAdd_n p2) (by first | exact p3 | exact tN_le p3) (by omega)) ?_
          refine x_aload_n d_Tr_growRow_90 rfl ?_
          refine x_iload d_Tr_growRow_91 rfl ?_
          refine w_callV (As := [_]) d_Tr_growRow_93 k_Tr_61 (k_tree hb) rfl rfl rfl (c_Tr_beginSecond hG hb (tCell_ok (by first | exact p2 | exact tAdd_n p2) (by first | exact p3 | exact tN_le p3)).2.1 (tCell_ok (by first | exact p2 | exact tAdd_n p2) (by first | exact p3 | exact tN_le p3)).2.2 (by first | exact Or.inl rfl | exact tC_ok)) ?_
          refine x_iload d_Tr_growRow_96 rfl ?_
          refine x_iload d_Tr_growRow_98 rfl ?_
          refine x_iadd d_Tr_growRow_100 ?_
          refine s_istore (lv' := [(0, _), (1, _), (2, _), (3, _), (4, _), (5, _), (6, _), (7, _), (8, _), (9, _), (10, _), (11, _), (12, _)]) d_Tr_growRow_101 (by decide) rfl ?_
          refine s_iinc (lv' := [(0, _), (1, _), (2, _), (3, _), (4, _), (5, _), (6, _), (7, _), (8, _), (9, _), (10, _), (11, _), (12, _)]) d_Tr_growRow_103 rfl (xinc _) (by decide) rfl ?_
          refine x_goto 14 d_Tr_growRow_106 rfl ?_
          refine x_lv (lv' := [(0, _), (1, _), (2, _), (3, _), (4, _), (5, _), (6, _), (7, _), (8, _), (9, _), (10, _)]) [0, 1, 2, 3, 4, 5, 6, 7, 8, 9, 10] rfl ?_
          simp only [tRowF, hc31, if_true, if_false, Bool.false_eq_true, tRow1, tCp] at ih
          first
            | (rw [decide_eq_true hc50, if_pos rfl] at ih; exact ih)
            | (rw [decide_eq_false hc50, if_neg (by decide)] at ih; exact ih)
            | exact ih
        · skip
          skip
          refine x_aload_n d_Tr_growRow_53 rfl ?_
          refine x_iconst (v := nI 0) d_Tr_growRow_54 (by decide +kernel) ?_
          refine x_iload d_Tr_growRow_55 rfl ?_
          refine x_iload d_Tr_growRow_57 rfl ?_
          refine x_iload d_Tr_growRow_59 rfl ?_
          refine x_iload d_Tr_growRow_61 rfl ?_
          refine x_isub d_Tr_growRow_63 ?_
          refine x_iload d_Tr_growRow_64 rfl ?_
          refine x_iload d_Tr_growRow_66 rfl ?_
          refine w_callV (As := [_, _, _, _, _, _]) d_Tr_growRow_68 k_Tr_53 (k_tree hb) rfl rfl rfl (c_Tr_add hG hb p2 p3) ?_
          refine x_goto 75 d_Tr_growRow_71 rfl ?_
          refine s_istore (lv' := [(0, _), (1, _), (2, _), (3, _), (4, _), (5, _), (6, _), (7, _), (8, _), (9, _), (10, _), (11, _), (12, _)]) d_Tr_growRow_75 (by decide) rfl ?_
          refine x_aload_n d_Tr_growRow_77 rfl ?_
          refine x_aload_n d_Tr_growRow_78 rfl ?_
          refine x_iload d_Tr_growRow_79 rfl ?_
          refine x_iload d_Tr_growRow_81 rfl ?_
          refine x_iload d_Tr_growRow_83 rfl ?_
          refine x_iload d_Tr_growRow_85 rfl ?_
          refine w_callV (As := [_, _, _, _, _]) d_Tr_growRow_87 k_Tr_86 (k_tree hb) rfl rfl rfl (c_Tr_growCell hG hb (by first | exact p2 | exact tAdd_n p2) (by first | exact p3 | exact tN_le p3) (by omega)) ?_
          refine x_aload_n d_Tr_growRow_90 rfl ?_
          refine x_iload d_Tr_growRow_91 rfl ?_
          refine w_callV (As := [_]) d_Tr_growRow_93 k_Tr_61 (k_tree hb) rfl rfl rfl (c_Tr_beginSecond hG hb (tCell_ok (by first | exact p2 | exact tAdd_n p2) (by first | exact p3 | exact tN_le p3)).2.1 (tCell_ok (by first | exact p2 | exact tAdd_n p2) (by first | exact p3 | exact tN_le p3)).2.2 (by first | exact Or.inl rfl | exact tC_ok)) ?_
          refine x_iload d_Tr_growRow_96 rfl ?_
          refine x_iload d_Tr_growRow_98 rfl ?_
          refine x_iadd d_Tr_growRow_100 ?_
          refine s_istore (lv' := [(0, _), (1, _), (2, _), (3, _), (4, _), (5, _), (6, _), (7, _), (8, _), (9, _), (10, _), (11, _), (12, _)]) d_Tr_growRow_101 (by decide) rfl ?_
          refine s_iinc (lv' := [(0, _), (1, _), (2, _), (3, _), (4, _), (5, _), (6, _), (7, _), (8, _), (9, _), (10, _), (11, _), (12, _)]) d_Tr_growRow_103 rfl (xinc _) (by decide) rfl ?_
          refine x_goto 14 d_Tr_growRow_106 rfl ?_
          refine x_lv (lv' := [(0, _), (1, _), (2, _), (3, _), (4, _), (5, _), (6, _), (7, _), (8, _), (9, _), (10, _)]) [0, 1, 2, 3, 4, 5, 6, 7, 8, 9, 10] rfl ?_
          simp only [tRowF, hc31, if_true, if_false, Bool.false_eq_true, tRow1, tCp] at ih
          first
            | (rw [decide_eq_true hc50, if_pos rfl] at ih; exact ih)
            | (rw [decide_eq_false hc50, if_neg (by decide)] at ih; exact ih)
            | exact ih
  refine x_lv (lv' := [(0, _), (1, _), (2, _), (3, _), (4, _), (5, _), (6, _), (7, _), (8, _), (9, _), (10, _)]) [0, 1, 2, 3, 4, 5, 6, 7, 8, 9, 10] rfl ?_
  exact L14 0 (Nat.zero_le _)
theorem k57 {b : Nat} {S S' : xS} (hb : isTree b) (h : sK b (b + 9) S S') {o : Nat} (ho : o < 72) : sF S' o = sF S o ∧ sA S' o = sA S o := by
  obtain ⟨j, hj, e⟩ := hb
  obtain ⟨a1, a2, -, -⟩ := h.1 o (Or.inl (by omega))
  exact ⟨a1, a2⟩
theorem laRows_c {S S' : xS} {c : Int32} (h1 : sA S' 61 = sA S 61) (h2 : sA S' 62 = sA S 62) : ∀ n, laRows S' c n = laRows S c n
  | 0 => rfl
  | n + 1 => by simp only [laRows, h1, h2, laRows_c h1 h2 n]
theorem laCols_c {S S' : xS} (h1 : sA S' 61 = sA S 61) : ∀ n, laCols S' n = laCols S n
  | 0 => rfl
  | n + 1 => by simp only [laCols, h1, laCols_c h1 n]
def tCol1 (b : Nat) (p : xS × Nat × Int32) (m : Nat) (c l w h : Int32) (r : Nat) : xS × Nat × Int32 :=
  let g := laRH p.1 c (nI r) m
  let q := tCp p.1 b p.2.1 (decide (h - p.2.2 ≤ g)) (nI 1) l p.2.2 w (h - p.2.2) g
  let u := tRow q.1 b q.2.1 m c (nI r) l p.2.2 w g
  (tSec u.1 b u.2 q.2.2, u.2, p.2.2 + g)
def tColF (S : xS) (b n m : Nat) (c l w h : Int32) : Nat → xS × Nat × Int32
  | 0 => (S, n, nI 0)
  | r + 1 => tCol1 b (tColF S b n m c l w h r) m c l w h r
theorem tCol1_ok {b r m : Nat} {p : xS × Nat × Int32} {c l w h : Int32} (hn : sF p.1 b 8 = nI p.2.1) (h145 : p.2.1 ≤ 145) : sK b (b + 9) p.1 (tCol1 b p m c l w h r).1 ∧ sF (tCol1 b p m c l w h r).1 b 8 = nI (tCol1 b p m c l w h r).2.1 ∧ (tCol1 b p m c l w h r).2.1 ≤ 145 := by
  unfold tCol1
  simp only []
  generalize laRH p.1 c (nI r) m = g
  obtain ⟨c1, c2, c3, c4⟩ := tCp_ok (z := decide (h - p.2.2 ≤ g)) (k := nI 1) (x := l) (y := p.2.2) (w := w) (h := h - p.2.2) (m := g) hn h145
  generalize tCp p.1 b p.2.1 (decide (h - p.2.2 ≤ g)) (nI 1) l p.2.2 w (h - p.2.2) g = q at c1 c2 c3 c4
  obtain ⟨u1, u2, u3⟩ := tRow_ok (m := m) (c := c) (r := nI r) (f := l) (y := p.2.2) (w := w) (h := g) c2 c3
  exact ⟨(c1.trans u1).trans tSec_K, tSec_n u2, u3⟩
theorem tColF_ok {S : xS} {b n m : Nat} {c l w h : Int32} (hn : sF S b 8 = nI n) (h145 : n ≤ 145) : ∀ r, sK b (b + 9) S (tColF S b n m c l w h r).1 ∧ sF (tColF S b n m c l w h r).1 b 8 = nI (tColF S b n m c l w h r).2.1 ∧ (tColF S b n m c l w h r).2.1 ≤ 145
  | 0 => ⟨sK.rf, hn, h145⟩
  | r + 1 => by
    obtain ⟨h1, h2, h3⟩ := tColF_ok (S := S) (b := b) (n := n) (m := m) (c := c) (l := l) (w := w) (h := h) hn h145 r
    obtain ⟨g1, g2, g3⟩ := tCol1_ok (r := r) (m := m) (c := c) (l := l) (w := w) (h := h) h2 h3
    exact ⟨h1.trans g1, g2, g3⟩
def tCol (S : xS) (b n m k : Nat) (c l w h : Int32) : xS × Nat :=
  let p := tColF S b n m c l w h k
  tRest p.1 b p.2.1 l p.2.2 w (h - p.2.2)
theorem tCol_ok {S : xS} {b n m k : Nat} {c l w h : Int32} (hn : sF S b 8 = nI n) (h145 : n ≤ 145) : sK b (b + 9) S (tCol S b n m k c l w h).1 ∧ sF (tCol S b n m k c l w h).1 b 8 = nI (tCol S b n m k c l w h).2 ∧ (tCol S b n m k c l w h).2 ≤ 145 := by
  obtain ⟨h1, h2, h3⟩ := tColF_ok (m := m) (c := c) (l := l) (w := w) (h := h) hn h145 k
  obtain ⟨r1, r2, r3⟩ := tRest_ok (x := l) (y := (tColF S b n m c l w h k).2.2) (w := w) (h := h - (tColF S b n m c l w h k).2.2) h2 h3
  exact ⟨h1.trans r1, r2, r3⟩
def tGrow1 (b : Nat) (p : xS × Nat × Int32) (m : Nat) (k : Nat → Nat) (w h : Int32) (c : Nat) : xS × Nat × Int32 :=
  let g := laCW p.1 (nI c) m (k c)
  let q := tCp p.1 b p.2.1 (decide (w - p.2.2 ≤ g)) (nI 0) p.2.2 (nI 0) (w - p.2.2) h g
  let u := tCol q.1 b q.2.1 m (k c) (nI c) p.2.2 g h
  (tSec u.1 b u.2 q.2.2, u.2, p.2.2 + g)
def tGrowF (S : xS) (b m : Nat) (k : Nat → Nat) (w h : Int32) : Nat → xS × Nat × Int32
  | 0 => (uF S b 8 (nI 0), 0, nI 0)
  | c + 1 => tGrow1 b (tGrowF S b m k w h c) m k w h c
theorem tGrow1_ok {b c m : Nat} {k : Nat → Nat} {p : xS × Nat × Int32} {w h : Int32} (hn : sF p.1 b 8 = nI p.2.1) (h145 : p.2.1 ≤ 145) : sK b (b + 9) p.1 (tGrow1 b p m k w h c).1 ∧ sF (tGrow1 b p m k w h c).1 b 8 = nI (tGrow1 b p m k w h c).2.1 ∧ (tGrow1 b p m k w h c).2.1 ≤ 145 := by
  unfold tGrow1
  simp only []
  generalize laCW p.1 (nI c) m (k c) = g
  obtain ⟨c1, c2, c3, c4⟩ := tCp_ok (z := decide (w - p.2.2 ≤ g)) (k := nI 0) (x := p.2.2) (y := nI 0) (w := w - p.2.2) (h := h) (m := g) hn h145
  generalize tCp p.1 b p.2.1 (decide (w - p.2.2 ≤ g)) (nI 0) p.2.2 (nI 0) (w - p.2.2) h g = q at c1 c2 c3 c4
  obtain ⟨u1, u2, u3⟩ := tCol_ok (m := m) (k := k c) (c := nI c) (l := p.2.2) (w := g) (h := h) c2 c3
  exact ⟨(c1.trans u1).trans tSec_K, tSec_n u2, u3⟩
theorem tGrowF_ok {S : xS} {b m : Nat} {k : Nat → Nat} {w h : Int32} : ∀ c, sK b (b + 9) S (tGrowF S b m k w h c).1 ∧ sF (tGrowF S b m k w h c).1 b 8 = nI (tGrowF S b m k w h c).2.1 ∧ (tGrowF S b m k w h c).2.1 ≤ 145
  | 0 => ⟨sK.rf.F (by omega), by show sF (uF _ b 8 _) b 8 = _; rw [sF_uF]; exact va_up_self _ _ _, Nat.zero_le _⟩
  | c + 1 => by
    obtain ⟨h1, h2, h3⟩ := tGrowF_ok (S := S) (b := b) (m := m) (k := k) (w := w) (h := h) c
    obtain ⟨g1, g2, g3⟩ := tGrow1_ok (c := c) (m := m) (k := k) (w := w) (h := h) h2 h3
    exact ⟨h1.trans g1, g2, g3⟩
def tGrow (S : xS) (b m K : Nat) (k : Nat → Nat) (w h : Int32) : xS × Nat :=
  let p := tGrowF S b m k w h K
  let q := tRest p.1 b p.2.1 p.2.2 (nI 0) (w - p.2.2) h
  (uA q.1 (b + 8) 0 (nI 1), q.2)
theorem tGrow_ok {S : xS} {b m K : Nat} {k : Nat → Nat} {w h : Int32} : sK b (b + 9) S (tGrow S b m K k w h).1 ∧ sF (tGrow S b m K k w h).1 b 8 = nI (tGrow S b m K k w h).2 ∧ (tGrow S b m K k w h).2 ≤ 145 := by
  obtain ⟨h1, h2, h3⟩ := tGrowF_ok (S := S) (b := b) (m := m) (k := k) (w := w) (h := h) K
  obtain ⟨r1, r2, r3⟩ := tRest_ok (x := (tGrowF S b m k w h K).2.2) (y := nI 0) (w := w - (tGrowF S b m k w h K).2.2) (h := h) h2 h3
  exact ⟨(h1.trans r1).A (by omega), r2, r3⟩
set_option maxRecDepth 100000 in
set_option maxHeartbeats 1000000 in
theorem c_Tr_growColumn {G : xG} {B d : Nat} {S : xS} (hG : xOkG G) {b n : Nat} (hb : isTree b) (hn : sF S b 8 = nI n) (h145 : n ≤ 145) {m : Nat} (hm : sF S 57 5 = nI m) (h36 : m ≤ 36) {c l w h : Int32} {k : Nat} (hk : laRows S c m = nI k) (hk2 : k < 2 ^ 31) : EX G m_Tr_growColumn (d + 4) 0 [(0, .ref (B + b)), (1, .ref (B + 57)), (2, .int c), (3, .int l), (4, .int w), (5, .int h)] [] (mk G B S) ((xRet G B none (tCol S b n m k c l w h).1)) := by
  refine x_iconst (v := nI 0) d_Tr_growColumn_0 (by decide +kernel) ?_
  refine s_istore (lv' := [(0, _), (1, _), (2, _), (3, _), (4, _), (5, _), (6, _)]) d_Tr_growColumn_1 (by decide) rfl ?_
  refine x_aload_n d_Tr_growColumn_3 rfl ?_
  refine x_iload_n d_Tr_growColumn_4 rfl ?_
  refine w_callV (As := [_]) d_Tr_growColumn_5 k_Tr_69 k_lay rfl rfl rfl (c_La_rowsIn hG hm h36) ?_
  rw [hk]
  refine s_istore (lv' := [(0, _), (1, _), (2, _), (3, _), (4, _), (5, _), (6, _), (7, _)]) d_Tr_growColumn_8 (by decide) rfl ?_
  refine x_iconst (v := nI 0) d_Tr_growColumn_10 (by decide +kernel) ?_
  refine s_istore (lv' := [(0, _), (1, _), (2, _), (3, _), (4, _), (5, _), (6, _), (7, _), (8, _)]) d_Tr_growColumn_11 (by decide) rfl ?_
  have L13 : ∀ i, i ≤ k →  EX G m_Tr_growColumn (d + 4) 13 [(0, .ref (B + b)), (1, .ref (B + 57)), (2, .int c), (3, .int l), (4, .int w), (5, .int h), (6, .int (tColF S b n m c l w h i).2.2), (7, .int (nI k)), (8, .int (nI i))] [] (mk G B (tColF S b n m c l w h i).1) (xRet G B none (tCol S b n m k c l w h).1) := by
    refine x_down (k) ?_ ?_
    · skip
      obtain ⟨p1, p2, p3⟩ := tColF_ok (m := m) (c := c) (l := l) (w := w) (h := h) hn h145 k
      refine x_iload d_Tr_growColumn_13 rfl ?_
      refine x_iload d_Tr_growColumn_15 rfl ?_
      refine z_icmp_ge 96 d_Tr_growColumn_17 rfl (by omega) (by omega) (fun hc17 => ?_) (fun q => absurd q (by omega))
      refine x_aload_n d_Tr_growColumn_96 rfl ?_
      refine x_iload_n d_Tr_growColumn_97 rfl ?_
      refine x_iload d_Tr_growColumn_98 rfl ?_
      refine x_iload d_Tr_growColumn_100 rfl ?_
      refine x_iload d_Tr_growColumn_102 rfl ?_
      refine x_iload d_Tr_growColumn_104 rfl ?_
      refine x_isub d_Tr_growColumn_106 ?_
      refine w_callV (As := [_, _, _, _]) d_Tr_growColumn_107 k_Tr_65 (k_tree hb) rfl rfl rfl (c_Tr_addRest hG hb p2 p3) ?_
      refine x_return d_Tr_growColumn_110 rfl ?_
      exact ⟨rfl, rfl⟩
    · intro i hi ih
      obtain ⟨p1, p2, p3⟩ := tColF_ok (m := m) (c := c) (l := l) (w := w) (h := h) hn h145 i
      refine x_iload d_Tr_growColumn_13 rfl ?_
      refine x_iload d_Tr_growColumn_15 rfl ?_
      refine z_icmp_ge 96 d_Tr_growColumn_17 rfl (by omega) (by omega) (fun q => absurd q (by omega)) (fun hc17 => ?_)
      refine x_aload_n d_Tr_growColumn_20 rfl ?_
      refine x_iload_n d_Tr_growColumn_21 rfl ?_
      refine x_iload d_Tr_growColumn_22 rfl ?_
      refine w_callV (As := [_, _]) d_Tr_growColumn_24 k_Tr_72 k_lay rfl rfl rfl (c_La_rowHeight hG ((congrFun (k57 hb p1 (by decide)).1 5).trans hm) h36) ?_
      refine s_istore (lv' := [(0, _), (1, _), (2, _), (3, _), (4, _), (5, _), (6, _), (7, _), (8, _), (9, _)]) d_Tr_growColumn_27 (by decide) rfl ?_
      refine x_iload d_Tr_growColumn_29 rfl ?_
      refine x_iload d_Tr_growColumn_31 rfl ?_
      refine x_iload d_Tr_growColumn_33 rfl ?_
      refine x_isub d_Tr_growColumn_35 ?_
      refine x_icmp_ge 59 d_Tr_growColumn_36 rfl (fun hc36 => ?_) (fun hc36 => ?_)
      · skip
        skip
        refine x_iconst (v := -1) d_Tr_growColumn_59 (by decide +kernel) ?_
        refine s_istore (lv' := [(0, _), (1, _), (2, _), (3, _), (4, _), (5, _), (6, _), (7, _), (8, _), (9, _), (10, _)]) d_Tr_growColumn_60 (by decide) rfl ?_
        refine x_aload_n d_Tr_growColumn_62 rfl ?_
        refine x_aload_n d_Tr_growColumn_63 rfl ?_
        refine x_iload_n d_Tr_growColumn_64 rfl ?_
        refine x_iload d_Tr_growColumn_65 rfl ?_
        refine x_iload_n d_Tr_growColumn_67 rfl ?_
        refine x_iload d_Tr_growColumn_68 rfl ?_
        refine x_iload d_Tr_growColumn_70 rfl ?_
        refine x_iload d_Tr_growColumn_72 rfl ?_
        refine w_callV (As := [_, _, _, _, _, _, _]) d_Tr_growColumn_74 k_Tr_76 (k_tree hb) rfl rfl rfl (c_Tr_growRow hG hb (by first | exact p2 | exact tAdd_n p2) (by first | exact p3 | exact tN_le p3) (by first | exact ((congrFun (k57 hb p1 (by decide)).1 5).trans hm) | exact ((congrFun (k57 hb (p1.trans tAdd_K) (by decide)).1 5).trans hm)) h36) ?_
        refine x_aload_n d_Tr_growColumn_77 rfl ?_
        refine x_iload d_Tr_growColumn_78 rfl ?_
        refine w_callV (As := [_]) d_Tr_growColumn_80 k_Tr_61 (k_tree hb) rfl rfl rfl (c_Tr_beginSecond hG hb (tRow_ok (by first | exact p2 | exact tAdd_n p2) (by first | exact p3 | exact tN_le p3)).2.1 (tRow_ok (by first | exact p2 | exact tAdd_n p2) (by first | exact p3 | exact tN_le p3)).2.2 (by first | exact Or.inl rfl | exact tC_ok)) ?_
        refine x_iload d_Tr_growColumn_83 rfl ?_
        refine x_iload d_Tr_growColumn_85 rfl ?_
        refine x_iadd d_Tr_growColumn_87 ?_
        refine s_istore (lv' := [(0, _), (1, _), (2, _), (3, _), (4, _), (5, _), (6, _), (7, _), (8, _), (9, _), (10, _)]) d_Tr_growColumn_88 (by decide) rfl ?_
        refine s_iinc (lv' := [(0, _), (1, _), (2, _), (3, _), (4, _), (5, _), (6, _), (7, _), (8, _), (9, _), (10, _)]) d_Tr_growColumn_90 rfl (xinc _) (by decide) rfl ?_
        refine x_goto 13 d_Tr_growColumn_93 rfl ?_
        refine x_lv (lv' := [(0, _), (1, _), (2, _), (3, _), (4, _), (5, _), (6, _), (7, _), (8, _)]) [0, 1, 2, 3, 4, 5, 6, 7, 8] rfl ?_
        simp only [tColF, tCol1, tCp] at ih
        first
          | (rw [decide_eq_true hc36, if_pos rfl] at ih; exact ih)
          | (rw [decide_eq_false hc36, if_neg (by decide)] at ih; exact ih)
      · skip
        skip
        refine x_aload_n d_Tr_growColumn_39 rfl ?_
        refine x_iconst (v := nI 1) d_Tr_growColumn_40 (by decide +kernel) ?_
        refine x_iload_n d_Tr_growColumn_41 rfl ?_
        refine x_iload d_Tr_growColumn_42 rfl ?_
        refine x_iload d_Tr_growColumn_44 rfl ?_
        refine x_iload d_Tr_growColumn_46 rfl ?_
        refine x_iload d_Tr_growColumn_48 rfl ?_
        refine x_isub d_Tr_growColumn_50 ?_
        refine x_iload d_Tr_growColumn_51 rfl ?_
        refine w_callV (As := [_, _, _, _, _, _]) d_Tr_growColumn_53 k_Tr_53 (k_tree hb) rfl rfl rfl (c_Tr_add hG hb p2 p3) ?_
        refine x_goto 60 d_Tr_growColumn_56 rfl ?_
        refine s_istore (lv' := [(0, _), (1, _), (2, _), (3, _), (4, _), (5, _), (6, _), (7, _), (8, _), (9, _), (10, _)]) d_Tr_growColumn_60 (by decide) rfl ?_
        refine x_aload_n d_Tr_growColumn_62 rfl ?_
        refine x_aload_n d_Tr_growColumn_63 rfl ?_
        refine x_iload_n d_Tr_growColumn_64 rfl ?_
        refine x_iload d_Tr_growColumn_65 rfl ?_
        refine x_iload_n d_Tr_growColumn_67 rfl ?_
        refine x_iload d_Tr_growColumn_68 rfl ?_
        refine x_iload d_Tr_growColumn_70 rfl ?_
        refine x_iload d_Tr_growColumn_72 rfl ?_
        refine w_callV (As := [_, _, _, _, _, _, _]) d_Tr_growColumn_74 k_Tr_76 (k_tree hb) rfl rfl rfl (c_Tr_growRow hG hb (by first | exact p2 | exact tAdd_n p2) (by first | exact p3 | exact tN_le p3) (by first | exact ((congrFun (k57 hb p1 (by decide)).1 5).trans hm) | exact ((congrFun (k57 hb (p1.trans tAdd_K) (by decide)).1 5).trans hm)) h36) ?_
        refine x_aload_n d_Tr_growColumn_77 rfl ?_
        refine x_iload d_Tr_growColumn_78 rfl ?_
        refine w_callV (As := [_]) d_Tr_growColumn_80 k_Tr_61 (k_tree hb) rfl rfl rfl (c_Tr_beginSecond hG hb (tRow_ok (by first | exact p2 | exact tAdd_n p2) (by first | exact p3 | exact tN_le p3)).2.1 (tRow_ok (by first | exact p2 | exact tAdd_n p2) (by first | exact p3 | exact tN_le p3)).2.2 (by first | exact Or.inl rfl | exact tC_ok)) ?_
        refine x_iload d_Tr_growColumn_83 rfl ?_
        refine x_iload d_Tr_growColumn_85 rfl ?_
        refine x_iadd d_Tr_growColumn_87 ?_
        refine s_istore (lv' := [(0, _), (1, _), (2, _), (3, _), (4, _), (5, _), (6, _), (7, _), (8, _), (9, _), (10, _)]) d_Tr_growColumn_88 (by decide) rfl ?_
        refine s_iinc (lv' := [(0, _), (1, _), (2, _), (3, _), (4, _), (5, _), (6, _), (7, _), (8, _), (9, _), (10, _)]) d_Tr_growColumn_90 rfl (xinc _) (by decide) rfl ?_
        refine x_goto 13 d_Tr_growColumn_93 rfl ?_
        refine x_lv (lv' := [(0, _), (1, _), (2, _), (3, _), (4, _), (5, _), (6, _), (7, _), (8, _)]) [0, 1, 2, 3, 4, 5, 6, 7, 8] rfl ?_
        simp only [tColF, tCol1, tCp] at ih
        first
          | (rw [decide_eq_true hc36, if_pos rfl] at ih; exact ih)
          | (rw [decide_eq_false hc36, if_neg (by decide)] at ih; exact ih)
  refine x_lv (lv' := [(0, _), (1, _), (2, _), (3, _), (4, _), (5, _), (6, _), (7, _), (8, _)]) [0, 1, 2, 3, 4, 5, 6, 7, 8] rfl ?_
  exact L13 0 (Nat.zero_le _)
set_option maxRecDepth 100000 in
set_option maxHeartbeats 1000000 in
theorem c_Tr_grow {G : xG} {B d : Nat} {S : xS} (hG : xOkG G) {b : Nat} (hb : isTree b) {m : Nat} (hm : sF S 57 5 = nI m) (h36 : m ≤ 36) {w h : Int32} {K : Nat} {k : Nat → Nat} (hK : laCols S m = nI K) (hK2 : K < 2 ^ 31) (hk : ∀ c, c < K → laRows S (nI c) m = nI (k c) ∧ k c < 2 ^ 31) : EX G m_Tr_grow (d + 5) 0 [(0, .ref (B + b)), (1, .ref (B + 57)), (2, .int w), (3, .int h)] [] (mk G B S) ((xRet G B none (tGrow S b m K k w h).1)) := by
  refine x_aload_n d_Tr_grow_0 rfl ?_
  refine w_callV (As := []) d_Tr_grow_1 k_Tr_40 (k_tree hb) rfl rfl rfl (c_Tr_clear hG hb) ?_
  refine x_iconst (v := nI 0) d_Tr_grow_4 (by decide +kernel) ?_
  refine s_istore (lv' := [(0, _), (1, _), (2, _), (3, _), (4, _)]) d_Tr_grow_5 (by decide) rfl ?_
  refine x_aload_n d_Tr_grow_7 rfl ?_
  refine w_callV (As := []) d_Tr_grow_8 k_Tr_43 k_lay rfl rfl rfl (c_La_columns hG ((congrFun (k57 hb (sK.rf.F (by omega)) (by decide)).1 5).trans hm) h36) ?_
  rw [laCols_c (S := S) (k57 hb (sK.rf.F (by omega)) (by decide)).2 m, hK]
  refine s_istore (lv' := [(0, _), (1, _), (2, _), (3, _), (4, _), (5, _)]) d_Tr_grow_11 (by decide) rfl ?_
  refine x_iconst (v := nI 0) d_Tr_grow_13 (by decide +kernel) ?_
  refine s_istore (lv' := [(0, _), (1, _), (2, _), (3, _), (4, _), (5, _), (6, _)]) d_Tr_grow_14 (by decide) rfl ?_
  have L16 : ∀ i, i ≤ K →  EX G m_Tr_grow (d + 5) 16 [(0, .ref (B + b)), (1, .ref (B + 57)), (2, .int w), (3, .int h), (4, .int (tGrowF S b m k w h i).2.2), (5, .int (nI K)), (6, .int (nI i))] [] (mk G B (tGrowF S b m k w h i).1) (xRet G B none (tGrow S b m K k w h).1) := by
    refine x_down (K) ?_ ?_
    · skip
      obtain ⟨p1, p2, p3⟩ := tGrowF_ok (S := S) (b := b) (m := m) (k := k) (w := w) (h := h) K
      refine x_iload d_Tr_grow_16 rfl ?_
      refine x_iload d_Tr_grow_18 rfl ?_
      refine z_icmp_ge 92 d_Tr_grow_20 rfl (by omega) (by omega) (fun hc20 => ?_) (fun q => absurd q (by omega))
      refine x_aload_n d_Tr_grow_92 rfl ?_
      refine x_iload d_Tr_grow_93 rfl ?_
      refine x_iconst (v := nI 0) d_Tr_grow_95 (by decide +kernel) ?_
      refine x_iload_n d_Tr_grow_96 rfl ?_
      refine x_iload d_Tr_grow_97 rfl ?_
      refine x_isub d_Tr_grow_99 ?_
      refine x_iload_n d_Tr_grow_100 rfl ?_
      refine w_callV (As := [_, _, _, _]) d_Tr_grow_101 k_Tr_65 (k_tree hb) rfl rfl rfl (c_Tr_addRest hG hb p2 p3) ?_
      refine x_aload_n d_Tr_grow_104 rfl ?_
      refine y_getf d_Tr_grow_105 gf_Tr_33 (k_tree hb) rfl ?_
      refine x_iconst (v := nI 0) d_Tr_grow_108 (by decide +kernel) ?_
      refine x_iconst (v := nI 1) d_Tr_grow_109 (by decide +kernel) ?_
      refine y_iast hG d_Tr_grow_110 (k_trA8 hb) _ rfl (by omega) ?_
      refine x_return d_Tr_grow_111 rfl ?_
      exact ⟨rfl, rfl⟩
    · intro i hi ih
      obtain ⟨p1, p2, p3⟩ := tGrowF_ok (S := S) (b := b) (m := m) (k := k) (w := w) (h := h) i
      refine x_iload d_Tr_grow_16 rfl ?_
      refine x_iload d_Tr_grow_18 rfl ?_
      refine z_icmp_ge 92 d_Tr_grow_20 rfl (by omega) (by omega) (fun q => absurd q (by omega)) (fun hc20 => ?_)
      refine x_aload_n d_Tr_grow_23 rfl ?_
      refine x_iload d_Tr_grow_24 rfl ?_
      refine w_callV (As := [_]) d_Tr_grow_26 k_Tr_49 k_lay rfl rfl rfl (c_La_columnWidth hG ((congrFun (k57 hb p1 (by decide)).1 5).trans hm) h36 ((laRows_c (k57 hb p1 (by decide)).2 (k57 hb p1 (by decide)).2 m).trans (hk i hi).1) (hk i hi).2) ?_
      refine s_istore (lv' := [(0, _), (1, _), (2, _), (3, _), (4, _), (5, _), (6, _), (7, _)]) d_Tr_grow_29 (by decide) rfl ?_
      refine x_iload d_Tr_grow_31 rfl ?_
      refine x_iload_n d_Tr_grow_33 rfl ?_
      refine x_iload d_Tr_grow_34 rfl ?_
      refine x_isub d_Tr_grow_36 ?_
      refine x_icmp_ge 58 d_Tr_grow_37 rfl (fun hc37 => ?_) (fun hc37 => ?_)
      · skip
        skip
        refine x_iconst (v := -1) d_Tr_grow_58 (by decide +kernel) ?_
        refine s_istore (lv' := [(0, _), (1, _), (2, _), (3, _), (4, _), (5, _), (6, _), (7, _), (8, _)]) d_Tr_grow_59 (by decide) rfl ?_
        refine x_aload_n d_Tr_grow_61 rfl ?_
        refine x_aload_n d_Tr_grow_62 rfl ?_
        refine x_iload d_Tr_grow_63 rfl ?_
        refine x_iload d_Tr_grow_65 rfl ?_
        refine x_iload d_Tr_grow_67 rfl ?_
        refine x_iload_n d_Tr_grow_69 rfl ?_
        refine w_callV (As := [_, _, _, _, _]) d_Tr_grow_70 k_Tr_57 (k_tree hb) rfl rfl rfl (c_Tr_growColumn hG hb (by first | exact p2 | exact tAdd_n p2) (by first | exact p3 | exact tN_le p3) (by first | exact ((congrFun (k57 hb p1 (by decide)).1 5).trans hm) | exact ((congrFun (k57 hb (p1.trans tAdd_K) (by decide)).1 5).trans hm)) h36 (by first | exact ((laRows_c (k57 hb p1 (by decide)).2 (k57 hb p1 (by decide)).2 m).trans (hk i hi).1) | exact ((laRows_c (k57 hb (p1.trans tAdd_K) (by decide)).2 (k57 hb (p1.trans tAdd_K) (by decide)).2 m).trans (hk i hi).1)) (hk i hi).2) ?_
        refine x_aload_n d_Tr_grow_73 rfl ?_
        refine x_iload d_Tr_grow_74 rfl ?_
        refine w_callV (As := [_]) d_Tr_grow_76 k_Tr_61 (k_tree hb) rfl rfl rfl (c_Tr_beginSecond hG hb (tCol_ok (by first | exact p2 | exact tAdd_n p2) (by first | exact p3 | exact tN_le p3)).2.1 (tCol_ok (by first | exact p2 | exact tAdd_n p2) (by first | exact p3 | exact tN_le p3)).2.2 (by first | exact Or.inl rfl | exact tC_ok)) ?_
        refine x_iload d_Tr_grow_79 rfl ?_
        refine x_iload d_Tr_grow_81 rfl ?_
        refine x_iadd d_Tr_grow_83 ?_
        refine s_istore (lv' := [(0, _), (1, _), (2, _), (3, _), (4, _), (5, _), (6, _), (7, _), (8, _)]) d_Tr_grow_84 (by decide) rfl ?_
        refine s_iinc (lv' := [(0, _), (1, _), (2, _), (3, _), (4, _), (5, _), (6, _), (7, _), (8, _)]) d_Tr_grow_86 rfl (xinc _) (by decide) rfl ?_
        refine x_goto 16 d_Tr_grow_89 rfl ?_
        refine x_lv (lv' := [(0, _), (1, _), (2, _), (3, _), (4, _), (5, _), (6, _)]) [0, 1, 2, 3, 4, 5, 6] rfl ?_
        simp only [tGrowF, tGrow1, tCp] at ih
        first
          | (rw [decide_eq_true hc37, if_pos rfl] at ih; exact ih)
          | (rw [decide_eq_false hc37, if_neg (by decide)] at ih; exact ih)
      · skip
        skip
        refine x_aload_n d_Tr_grow_40 rfl ?_
        refine x_iconst (v := nI 0) d_Tr_grow_41 (by decide +kernel) ?_
        refine x_iload d_Tr_grow_42 rfl ?_
        refine x_iconst (v := nI 0) d_Tr_grow_44 (by decide +kernel) ?_
        refine x_iload_n d_Tr_grow_45 rfl ?_
        refine x_iload d_Tr_grow_46 rfl ?_
        refine x_isub d_Tr_grow_48 ?_
        refine x_iload_n d_Tr_grow_49 rfl ?_
        refine x_iload d_Tr_grow_50 rfl ?_
        refine w_callV (As := [_, _, _, _, _, _]) d_Tr_grow_52 k_Tr_53 (k_tree hb) rfl rfl rfl (c_Tr_add hG hb p2 p3) ?_
        refine x_goto 59 d_Tr_grow_55 rfl ?_
        refine s_istore (lv' := [(0, _), (1, _), (2, _), (3, _), (4, _), (5, _), (6, _), (7, _), (8, _)]) d_Tr_grow_59 (by decide) rfl ?_
        refine x_aload_n d_Tr_grow_61 rfl ?_
        refine x_aload_n d_Tr_grow_62 rfl ?_
        refine x_iload d_Tr_grow_63 rfl ?_
        refine x_iload d_Tr_grow_65 rfl ?_
        refine x_iload d_Tr_grow_67 rfl ?_
        refine x_iload_n d_Tr_grow_69 rfl ?_
        refine w_callV (As := [_, _, _, _, _]) d_Tr_grow_70 k_Tr_57 (k_tree hb) rfl rfl rfl (c_Tr_growColumn hG hb (by first | exact p2 | exact tAdd_n p2) (by first | exact p3 | exact tN_le p3) (by first | exact ((congrFun (k57 hb p1 (by decide)).1 5).trans hm) | exact ((congrFun (k57 hb (p1.trans tAdd_K) (by decide)).1 5).trans hm)) h36 (by first | exact ((laRows_c (k57 hb p1 (by decide)).2 (k57 hb p1 (by decide)).2 m).trans (hk i hi).1) | exact ((laRows_c (k57 hb (p1.trans tAdd_K) (by decide)).2 (k57 hb (p1.trans tAdd_K) (by decide)).2 m).trans (hk i hi).1)) (hk i hi).2) ?_
        refine x_aload_n d_Tr_grow_73 rfl ?_
        refine x_iload d_Tr_grow_74 rfl ?_
        refine w_callV (As := [_]) d_Tr_grow_76 k_Tr_61 (k_tree hb) rfl rfl rfl (c_Tr_beginSecond hG hb (tCol_ok (by first | exact p2 | exact tAdd_n p2) (by first | exact p3 | exact tN_le p3)).2.1 (tCol_ok (by first | exact p2 | exact tAdd_n p2) (by first | exact p3 | exact tN_le p3)).2.2 (by first | exact Or.inl rfl | exact tC_ok)) ?_
        refine x_iload d_Tr_grow_79 rfl ?_
        refine x_iload d_Tr_grow_81 rfl ?_
        refine x_iadd d_Tr_grow_83 ?_
        refine s_istore (lv' := [(0, _), (1, _), (2, _), (3, _), (4, _), (5, _), (6, _), (7, _), (8, _)]) d_Tr_grow_84 (by decide) rfl ?_
        refine s_iinc (lv' := [(0, _), (1, _), (2, _), (3, _), (4, _), (5, _), (6, _), (7, _), (8, _)]) d_Tr_grow_86 rfl (xinc _) (by decide) rfl ?_
        refine x_goto 16 d_Tr_grow_89 rfl ?_
        refine x_lv (lv' := [(0, _), (1, _), (2, _), (3, _), (4, _), (5, _), (6, _)]) [0, 1, 2, 3, 4, 5, 6] rfl ?_
        simp only [tGrowF, tGrow1, tCp] at ih
        first
          | (rw [decide_eq_true hc37, if_pos rfl] at ih; exact ih)
          | (rw [decide_eq_false hc37, if_neg (by decide)] at ih; exact ih)
  refine x_lv (lv' := [(0, _), (1, _), (2, _), (3, _), (4, _), (5, _), (6, _)]) [0, 1, 2, 3, 4, 5, 6] rfl ?_
  exact L16 0 (Nat.zero_le _)
