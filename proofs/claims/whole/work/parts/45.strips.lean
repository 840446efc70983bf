/-! Strips: S 63: column 2, row 3, x 4, y 5, room 6 -/
def stCan (S : xS) (b fl n : Nat) (D : Nat → Int32) (o : Nat) (t : Bool) : Bool :=
  !decide (D 3 ≤ nI (laCount S (nI o) n)) && ((!t || !decide (D 2 = 0)) && (!decide (sF S 63 6 < (if t = true then D 1 else D 0)) && (!decide (sF S b 5 - sF S 63 5 < (if t = true then D 0 else D 1)) &&
    glClear S b fl (sF S 63 4) (sF S 63 5) (if t = true then D 1 else D 0) (if t = true then D 0 else D 1))))
def stPut (S : xS) (n : Nat) (D : Nat → Int32) (o : Nat) (t : Bool) : xS := laPut S n (nI o) (if t = true then D 1 else D 0) (if t = true then D 0 else D 1) (sF S 63 2) (sF S 63 3)
def stTake (S : xS) (b fl n : Nat) (D : Nat → Int32) (o : Nat) (t : Bool) : xS := if stCan S b fl n D o t = true then stPut S n D o t else S
def stAny (S : xS) (b fl n : Nat) (D : Nat → Nat → Int32) (rk : Nat → Nat) (k : Nat) : Bool := stCan S b fl n (D (rk k)) (rk k) false || stCan S b fl n (D (rk k)) (rk k) true
def stFst (S : xS) (b fl n N : Nat) (D : Nat → Nat → Int32) (rk : Nat → Nat) : Option Nat := fstN (stAny S b fl n D rk) N
def stGot (S : xS) (b fl n N : Nat) (D : Nat → Nat → Int32) (rk : Nat → Nat) : xS := match stFst S b fl n N D rk with
  | none => S
  | some k => if stCan S b fl n (D (rk k)) (rk k) false = true then stPut S n (D (rk k)) (rk k) false else stPut S n (D (rk k)) (rk k) true
/-- what stays while strips are filled -/
def stI (S : xS) (B b fl N : Nat) (D : Nat → Nat → Int32) (rk oa : Nat → Nat) (n : Nat) : Prop := (sF S 57 5 = nI n ∧ n ≤ 36) ∧ (sF S b 6 = nI fl ∧ fl ≤ 6) ∧ (sF S 2 2 = nI N ∧ N ≤ 6) ∧ bkOk S B N oa D ∧ ∀ q, q < N → sA S 4 q = nI (rk q) ∧ rk q < N
theorem glOut {b : Nat} (h : isGlass b) : (b < 57 ∧ 7 ≤ b) ∨ 67 ≤ b := by
  rcases h with ⟨j, hj, rfl⟩ | ⟨k, hk, rfl⟩
  · right; omega
  · left; omega
theorem stI_63 {S : xS} {B b fl N : Nat} {D : Nat → Nat → Int32} {rk oa : Nat → Nat} {n k : Nat} {v : Int32} (hb : isGlass b) (h : stI S B b fl N D rk oa n) : stI (uF S 63 k v) B b fl N D rk oa n := by
  obtain ⟨⟨a1, a2⟩, ⟨b1, b2⟩, ⟨c1, c2⟩, h4, h5⟩ := h
  have hg := glOut hb
  exact ⟨⟨by rw [sF_uFn _ _ _ (by decide)]; exact a1, a2⟩, ⟨by rw [sF_uFn _ _ _ (by omega)]; exact b1, b2⟩, ⟨by rw [sF_uFn _ _ _ (by decide)]; exact c1, c2⟩, h4, h5⟩
theorem stI_put {S : xS} {B b fl N : Nat} {D : Nat → Nat → Int32} {rk oa : Nat → Nat} {n : Nat} {x w h c r : Int32} (hb : isGlass b) (hn : n < 36) (q : stI S B b fl N D rk oa n) : stI (laPut S n x w h c r) B b fl N D rk oa (n + 1) := by
  obtain ⟨⟨a1, a2⟩, ⟨b1, b2⟩, ⟨c1, c2⟩, h4, h5⟩ := q
  have hg := glOut hb
  unfold laPut
  refine ⟨⟨by rw [sF_uF]; exact va_up_self _ _ _, by omega⟩, ⟨by rw [sF_uFn _ _ _ (by omega)]; exact b1, b2⟩, ⟨by rw [sF_uFn _ _ _ (by decide)]; exact c1, c2⟩, h4, fun q hq => ?_⟩
  have e : sA (uF (uA (uA (uA (uA (uA S 58 n x) 59 n w) 60 n h) 61 n c) 62 n r) 57 5 (nI (n + 1))) 4 = sA S 4 := by
    show sA (uA (uA (uA (uA (uA S 58 n x) 59 n w) 60 n h) 61 n c) 62 n r) 4 = _
    rw [sA_uAn _ _ _ (by decide), sA_uAn _ _ _ (by decide), sA_uAn _ _ _ (by decide), sA_uAn _ _ _ (by decide), sA_uAn _ _ _ (by decide)]
  rw [e]
  exact h5 q hq
set_option maxRecDepth 100000 in
set_option maxHeartbeats 1000000 in
theorem c_St_take0 {G : xG} {B d : Nat} {S : xS} (hG : xOkG G) {b fl N n : Nat} {D : Nat → Nat → Int32} {rk oa : Nat → Nat} (hb : isGlass b) (hI : stI S B b fl N D rk oa n) (hn : n < 36) {o : Nat} (hoN : o < N) : EX G m_St_take (d + 1) 0 [(0, .ref (B + 63)), (1, .ref (B + b)), (2, .int (nI o)), (3, .int (nI 0))] [] (mk G B S) (xRet G B (some (.int (bI (stCan S b fl n (D o) o false)))) (stTake S b fl n (D o) o false)) := by
  refine x_aload_n d_St_take_0 rfl ?_
  refine y_getf d_St_take_1 gf_St_9 k_strips rfl ?_
  refine x_iload_n d_St_take_4 rfl ?_
  refine w_callV (As := [_]) d_St_take_5 k_St_72 k_book rfl rfl rfl (c_Bk_at hG hI.2.2.1.1 hI.2.2.1.2 hoN (hI.2.2.2.1 o hoN).1) ?_
  refine s_astore (lv' := [(0, _), (1, _), (2, _), (3, _), (4, _)]) d_St_take_8 (by decide) rfl ?_
  refine x_aload d_St_take_10 rfl ?_
  refine x_ifnull d_St_take_12 ?_
  refine x_aload d_St_take_15 rfl ?_
  refine y_getE d_St_take_17 gf_St_76 (hI.2.2.2.1 o hoN).2 rfl ?_
  refine x_aload_n d_St_take_20 rfl ?_
  refine y_getf d_St_take_21 gf_St_15 k_strips rfl ?_
  refine x_iload_n d_St_take_24 rfl ?_
  refine w_callV (As := [_]) d_St_take_25 k_St_81 k_lay rfl rfl rfl (c_La_countOf hG hI.1.1 hI.1.2) ?_
  refine x_icmp_le 43 d_St_take_28 rfl (fun hc28 => ?_) (fun hc28 => ?_)
  · skip
    skip
    refine x_iconst (v := nI 0) d_St_take_43 (by decide +kernel) ?_
    refine x_ireturn d_St_take_44 rfl (by decide +kernel) ?_
    unfold stTake
    rw [show stCan S b fl n (D o) o false = false by simp [stCan, *], if_neg (by decide)]
    exact ⟨rfl, rfl⟩
  · skip
    skip
    refine x_iload_n d_St_take_31 rfl ?_
    refine z_if_eq 45 d_St_take_32 rfl (by omega) (fun hc32 => ?_) (fun q => absurd q (by omega))
    refine x_iload_n d_St_take_45 rfl ?_
    refine z_if_eq 57 d_St_take_46 rfl (by omega) (fun hc46 => ?_) (fun q => absurd q (by omega))
    refine x_aload d_St_take_57 rfl ?_
    refine y_getE d_St_take_59 gf_St_91 (hI.2.2.2.1 o hoN).2 rfl ?_
    refine s_istore (lv' := [(0, _), (1, _), (2, _), (3, _), (4, _), (5, _)]) d_St_take_62 (by decide) rfl ?_
    refine x_iload_n d_St_take_64 rfl ?_
    refine z_if_eq 76 d_St_take_65 rfl (by omega) (fun hc65 => ?_) (fun q => absurd q (by omega))
    refine x_aload d_St_take_76 rfl ?_
    refine y_getE d_St_take_78 gf_St_89 (hI.2.2.2.1 o hoN).2 rfl ?_
    refine s_istore (lv' := [(0, _), (1, _), (2, _), (3, _), (4, _), (5, _), (6, _)]) d_St_take_81 (by decide) rfl ?_
    refine x_iload d_St_take_83 rfl ?_
    refine x_aload_n d_St_take_85 rfl ?_
    refine y_getf d_St_take_86 gf_St_43 k_strips rfl ?_
    refine x_icmp_gt 125 d_St_take_89 rfl (fun hc89 => ?_) (fun hc89 => ?_)
    · skip
      skip
      refine x_iconst (v := nI 0) d_St_take_125 (by decide +kernel) ?_
      refine x_ireturn d_St_take_126 rfl (by decide +kernel) ?_
      unfold stTake
      rw [show stCan S b fl n (D o) o false = false by simp [stCan, *], if_neg (by decide)]
      exact ⟨rfl, rfl⟩
    · skip
      skip
      refine x_iload d_St_take_92 rfl ?_
      refine x_aload_n d_St_take_94 rfl ?_
      refine y_getf d_St_take_95 gf_St_92 (k_glass hb) rfl ?_
      refine x_aload_n d_St_take_98 rfl ?_
      refine y_getf d_St_take_99 gf_St_35 k_strips rfl ?_
      refine x_isub d_St_take_102 ?_
      refine x_icmp_gt 125 d_St_take_103 rfl (fun hc103 => ?_) (fun hc103 => ?_)
      · skip
        skip
        refine x_iconst (v := nI 0) d_St_take_125 (by decide +kernel) ?_
        refine x_ireturn d_St_take_126 rfl (by decide +kernel) ?_
        unfold stTake
        rw [show stCan S b fl n (D o) o false = false by simp [stCan, *], if_neg (by decide)]
        exact ⟨rfl, rfl⟩
      · skip
        skip
        refine x_aload_n d_St_take_106 rfl ?_
        refine x_aload_n d_St_take_107 rfl ?_
        refine y_getf d_St_take_108 gf_St_24 k_strips rfl ?_
        refine x_aload_n d_St_take_111 rfl ?_
        refine y_getf d_St_take_112 gf_St_35 k_strips rfl ?_
        refine x_iload d_St_take_115 rfl ?_
        refine x_iload d_St_take_117 rfl ?_
        refine w_callV (As := [_, _, _, _]) d_St_take_119 k_St_93 (k_glass hb) rfl rfl rfl (c_Gl_isClear hG hb hI.2.1.1 hI.2.1.2) ?_
        refine z_bif_ne 127 d_St_take_122 rfl (fun hc122 => ?_) (fun hc122 => ?_)
        · skip
          skip
          refine x_aload_n d_St_take_127 rfl ?_
          refine y_getf d_St_take_128 gf_St_15 k_strips rfl ?_
          refine x_iload_n d_St_take_131 rfl ?_
          refine x_iload d_St_take_132 rfl ?_
          refine x_iload d_St_take_134 rfl ?_
          refine x_aload_n d_St_take_136 rfl ?_
          refine y_getf d_St_take_137 gf_St_28 k_strips rfl ?_
          refine x_aload_n d_St_take_140 rfl ?_
          refine y_getf d_St_take_141 gf_St_46 k_strips rfl ?_
          refine w_callV (As := [_, _, _, _, _]) d_St_take_144 k_St_97 k_lay rfl rfl rfl (c_La_put hG hI.1.1 hn) ?_
          refine x_iconst (v := nI 1) d_St_take_147 (by decide +kernel) ?_
          refine x_ireturn d_St_take_148 rfl (by decide +kernel) ?_
          unfold stTake
          rw [show stCan S b fl n (D o) o false = true by simp [stCan, *], if_pos rfl]
          exact ⟨rfl, rfl⟩
        · skip
          skip
          refine x_iconst (v := nI 0) d_St_take_125 (by decide +kernel) ?_
          refine x_ireturn d_St_take_126 rfl (by decide +kernel) ?_
          unfold stTake
          rw [show stCan S b fl n (D o) o false = false by simp [stCan, *], if_neg (by decide)]
          exact ⟨rfl, rfl⟩
set_option maxRecDepth 100000 in
set_option maxHeartbeats 1000000 in
theorem c_St_take1 {G : xG} {B d : Nat} {S : xS} (hG : xOkG G) {b fl N n : Nat} {D : Nat → Nat → Int32} {rk oa : Nat → Nat} (hb : isGlass b) (hI : stI S B b fl N D rk oa n) (hn : n < 36) {o : Nat} (hoN : o < N) : EX G m_St_take (d + 1) 0 [(0, .ref (B + 63)), (1, .ref (B + b)), (2, .int (nI o)), (3, .int (nI 1))] [] (mk G B S) (xRet G B (some (.int (bI (stCan S b fl n (D o) o true)))) (stTake S b fl n (D o) o true)) := by
  refine x_aload_n d_St_take_0 rfl ?_
  refine y_getf d_St_take_1 gf_St_9 k_strips rfl ?_
  refine x_iload_n d_St_take_4 rfl ?_
  refine w_callV (As := [_]) d_St_take_5 k_St_72 k_book rfl rfl rfl (c_Bk_at hG hI.2.2.1.1 hI.2.2.1.2 hoN (hI.2.2.2.1 o hoN).1) ?_
  refine s_astore (lv' := [(0, _), (1, _), (2, _), (3, _), (4, _)]) d_St_take_8 (by decide) rfl ?_
  refine x_aload d_St_take_10 rfl ?_
  refine x_ifnull d_St_take_12 ?_
  refine x_aload d_St_take_15 rfl ?_
  refine y_getE d_St_take_17 gf_St_76 (hI.2.2.2.1 o hoN).2 rfl ?_
  refine x_aload_n d_St_take_20 rfl ?_
  refine y_getf d_St_take_21 gf_St_15 k_strips rfl ?_
  refine x_iload_n d_St_take_24 rfl ?_
  refine w_callV (As := [_]) d_St_take_25 k_St_81 k_lay rfl rfl rfl (c_La_countOf hG hI.1.1 hI.1.2) ?_
  refine x_icmp_le 43 d_St_take_28 rfl (fun hc28 => ?_) (fun hc28 => ?_)
  · skip
    skip
    refine x_iconst (v := nI 0) d_St_take_43 (by decide +kernel) ?_
    refine x_ireturn d_St_take_44 rfl (by decide +kernel) ?_
    unfold stTake
    rw [show stCan S b fl n (D o) o true = false by simp [stCan, *], if_neg (by decide)]
    exact ⟨rfl, rfl⟩
  · skip
    skip
    refine x_iload_n d_St_take_31 rfl ?_
    refine z_if_eq 45 d_St_take_32 rfl (by omega) (fun q => absurd q (by omega)) (fun hc32 => ?_)
    refine x_aload d_St_take_35 rfl ?_
    refine y_getE d_St_take_37 gf_St_85 (hI.2.2.2.1 o hoN).2 rfl ?_
    refine x_if_ne 45 d_St_take_40 rfl (fun hc40 => ?_) (fun hc40 => ?_)
    · skip
      skip
      refine x_iload_n d_St_take_45 rfl ?_
      refine z_if_eq 57 d_St_take_46 rfl (by omega) (fun q => absurd q (by omega)) (fun hc46 => ?_)
      refine x_aload d_St_take_49 rfl ?_
      refine y_getE d_St_take_51 gf_St_89 (hI.2.2.2.1 o hoN).2 rfl ?_
      refine x_goto 62 d_St_take_54 rfl ?_
      refine s_istore (lv' := [(0, _), (1, _), (2, _), (3, _), (4, _), (5, _)]) d_St_take_62 (by decide) rfl ?_
      refine x_iload_n d_St_take_64 rfl ?_
      refine z_if_eq 76 d_St_take_65 rfl (by omega) (fun q => absurd q (by omega)) (fun hc65 => ?_)
      refine x_aload d_St_take_68 rfl ?_
      refine y_getE d_St_take_70 gf_St_91 (hI.2.2.2.1 o hoN).2 rfl ?_
      refine x_goto 81 d_St_take_73 rfl ?_
      refine s_istore (lv' := [(0, _), (1, _), (2, _), (3, _), (4, _), (5, _), (6, _)]) d_St_take_81 (by decide) rfl ?_
      refine x_iload d_St_take_83 rfl ?_
      refine x_aload_n d_St_take_85 rfl ?_
      refine y_getf d_St_take_86 gf_St_43 k_strips rfl ?_
      refine x_icmp_gt 125 d_St_take_89 rfl (fun hc89 => ?_) (fun hc89 => ?_)
      · skip
        skip
        refine x_iconst (v := nI 0) d_St_take_125 (by decide +kernel) ?_
        refine x_ireturn d_St_take_126 rfl (by decide +kernel) ?_
        unfold stTake
        rw [show stCan S b fl n (D o) o true = false by simp [stCan, *], if_neg (by decide)]
        exact ⟨rfl, rfl⟩
      · skip
        skip
        refine x_iload d_St_take_92 rfl ?_
        refine x_aload_n d_St_take_94 rfl ?_
        refine y_getf d_St_take_95 gf_St_92 (k_glass hb) rfl ?_
        refine x_aload_n d_St_take_98 rfl ?_
        refine y_getf d_St_take_99 gf_St_35 k_strips rfl ?_
        refine x_isub d_St_take_102 ?_
        refine x_icmp_gt 125 d_St_take_103 rfl (fun hc103 => ?_) (fun hc103 => ?_)
        · skip
          skip
          refine x_iconst (v := nI 0) d_St_take_125 (by decide +kernel) ?_
          refine x_ireturn d_St_take_126 rfl (by decide +kernel) ?_
          unfold stTake
          rw [show stCan S b fl n (D o) o true = false by simp [stCan, *], if_neg (by decide)]
          exact ⟨rfl, rfl⟩
        · skip
          skip
          refine x_aload_n d_St_take_106 rfl ?_
          refine x_aload_n d_St_take_107 rfl ?_
          refine y_getf d_St_take_108 gf_St_24 k_strips rfl ?_
          refine x_aload_n d_St_take_111 rfl ?_
          refine y_getf d_St_take_112 gf_St_35 k_strips rfl ?_
          refine x_iload d_St_take_115 rfl ?_
          refine x_iload d_St_take_117 rfl ?_
          refine w_callV (As := [_, _, _, _]) d_St_take_119 k_St_93 (k_glass hb) rfl rfl rfl (c_Gl_isClear hG hb hI.2.1.1 hI.2.1.2) ?_
          refine z_bif_ne 127 d_St_take_122 rfl (fun hc122 => ?_) (fun hc122 => ?_)
          · skip
            skip
            refine x_aload_n d_St_take_127 rfl ?_
            refine y_getf d_St_take_128 gf_St_15 k_strips rfl ?_
            refine x_iload_n d_St_take_131 rfl ?_
            refine x_iload d_St_take_132 rfl ?_
            refine x_iload d_St_take_134 rfl ?_
            refine x_aload_n d_St_take_136 rfl ?_
            refine y_getf d_St_take_137 gf_St_28 k_strips rfl ?_
            refine x_aload_n d_St_take_140 rfl ?_
            refine y_getf d_St_take_141 gf_St_46 k_strips rfl ?_
            refine w_callV (As := [_, _, _, _, _]) d_St_take_144 k_St_97 k_lay rfl rfl rfl (c_La_put hG hI.1.1 hn) ?_
            refine x_iconst (v := nI 1) d_St_take_147 (by decide +kernel) ?_
            refine x_ireturn d_St_take_148 rfl (by decide +kernel) ?_
            unfold stTake
            rw [show stCan S b fl n (D o) o true = true by simp [stCan, *], if_pos rfl]
            exact ⟨rfl, rfl⟩
          · skip
            skip
            refine x_iconst (v := nI 0) d_St_take_125 (by decide +kernel) ?_
            refine x_ireturn d_St_take_126 rfl (by decide +kernel) ?_
            unfold stTake
            rw [show stCan S b fl n (D o) o true = false by simp [stCan, *], if_neg (by decide)]
            exact ⟨rfl, rfl⟩
    · skip
      skip
      refine x_iconst (v := nI 0) d_St_take_43 (by decide +kernel) ?_
      refine x_ireturn d_St_take_44 rfl (by decide +kernel) ?_
      unfold stTake
      rw [show stCan S b fl n (D o) o true = false by simp [stCan, *], if_neg (by decide)]
      exact ⟨rfl, rfl⟩
set_option maxRecDepth 100000 in
set_option maxHeartbeats 1000000 in
theorem c_St_takeFirst {G : xG} {B d : Nat} {S : xS} (hG : xOkG G) {b fl N n : Nat} {D : Nat → Nat → Int32} {rk oa : Nat → Nat} (hb : isGlass b) (hI : stI S B b fl N D rk oa n) (hn : n < 36) : EX G m_St_takeFirst (d + 2) 0 [(0, .ref (B + 63)), (1, .ref (B + b))] [] (mk G B S) ((xRet G B (some (.int (bI (stFst S b fl n N D rk).isSome))) (stGot S b fl n N D rk))) := by
  refine x_iconst (v := nI 0) d_St_takeFirst_0 (by decide +kernel) ?_
  refine s_istore_n (lv' := [(0, _), (1, _), (2, _)]) d_St_takeFirst_1 (by decide) rfl ?_
  have L2 : ∀ i, i ≤ N → (∀ j, j < i → stAny S b fl n D rk j = false) → EX G m_St_takeFirst (d + 2) 2 [(0, .ref (B + 63)), (1, .ref (B + b)), (2, .int (nI i))] [] (mk G B S) (xRet G B (some (.int (bI (stFst S b fl n N D rk).isSome))) (stGot S b fl n N D rk)) := by
    refine x_down (N) ?_ ?_
    · skip
      skip
      intro hp
      have hN6 := hI.2.2.1.2
      refine x_iload_n d_St_takeFirst_2 rfl ?_
      refine x_aload_n d_St_takeFirst_3 rfl ?_
      refine y_getf d_St_takeFirst_4 gf_St_9 k_strips rfl ?_
      refine y_getf (v := .int (nI N)) d_St_takeFirst_7 gf_St_62 k_book (congrArg (fun q => some (Value.int q)) hI.2.2.1.1) ?_
      refine z_icmp_ge 57 d_St_takeFirst_10 rfl (by omega) (by omega) (fun hc10 => ?_) (fun q => absurd q (by omega))
      refine x_iconst (v := nI 0) d_St_takeFirst_57 (by decide +kernel) ?_
      refine x_ireturn d_St_takeFirst_58 rfl (by decide +kernel) ?_
      have e : stFst S b fl n N D rk = none := fstN_none hp
      unfold stGot
      rw [e]
      exact ⟨rfl, rfl⟩
    · intro i hi ih
      intro hp
      have hN6 := hI.2.2.1.2
      refine x_iload_n d_St_takeFirst_2 rfl ?_
      refine x_aload_n d_St_takeFirst_3 rfl ?_
      refine y_getf d_St_takeFirst_4 gf_St_9 k_strips rfl ?_
      refine y_getf (v := .int (nI N)) d_St_takeFirst_7 gf_St_62 k_book (congrArg (fun q => some (Value.int q)) hI.2.2.1.1) ?_
      refine z_icmp_ge 57 d_St_takeFirst_10 rfl (by omega) (by omega) (fun q => absurd q (by omega)) (fun hc10 => ?_)
      refine x_aload_n d_St_takeFirst_13 rfl ?_
      refine x_aload_n d_St_takeFirst_14 rfl ?_
      refine x_aload_n d_St_takeFirst_15 rfl ?_
      refine y_getf d_St_takeFirst_16 gf_St_9 k_strips rfl ?_
      refine y_getf d_St_takeFirst_19 gf_St_65 k_book rfl ?_
      refine x_iload_n d_St_takeFirst_22 rfl ?_
      refine y_iald hG d_St_takeFirst_23 k_ranked _ rfl (by omega) ?_
      rw [(hI.2.2.2.2 i hi).1]
      refine x_iconst (v := nI 0) d_St_takeFirst_24 (by decide +kernel) ?_
      refine w_callV (As := [_, _, _]) d_St_takeFirst_25 k_St_68 k_strips rfl rfl rfl (c_St_take0 hG hb hI hn (hI.2.2.2.2 i hi).2) ?_
      refine z_bif_ne 49 d_St_takeFirst_28 rfl (fun hc28 => ?_) (fun hc28 => ?_)
      · skip
        skip
        refine x_iconst (v := nI 1) d_St_takeFirst_49 (by decide +kernel) ?_
        refine x_ireturn d_St_takeFirst_50 rfl (by decide +kernel) ?_
        have e : stFst S b fl n N D rk = some i := fstN_some (by simp [stAny, *]) hp hi
        unfold stGot stTake
        rw [e]
        first
          | (simp only [hc28, hc46, if_true, if_false, Bool.false_eq_true]; exact ⟨rfl, rfl⟩)
          | (simp only [hc28, if_true]; exact ⟨rfl, rfl⟩)
      · skip
        skip
        refine x_aload_n d_St_takeFirst_31 rfl ?_
        refine x_aload_n d_St_takeFirst_32 rfl ?_
        refine x_aload_n d_St_takeFirst_33 rfl ?_
        
        refine y_getf d_St_takeFirst_34 gf_St_9 k_strips rfl ?_
        refine y_getf d_St_takeFirst_37 gf_St_65 k_book rfl ?_
        refine x_iload_n d_St_takeFirst_40 rfl ?_
        refine y_iald hG d_St_takeFirst_41 k_ranked _ rfl (by omega) ?_
        unfold stTake
        rw [hc28, if_neg (by decide), (hI.2.2.2.2 i hi).1]
        refine x_iconst (v := nI 1) d_St_takeFirst_42 (by decide +kernel) ?_
        refine w_callV (As := [_, _, _]) d_St_takeFirst_43 k_St_68 k_strips rfl rfl rfl (c_St_take1 hG hb hI hn (hI.2.2.2.2 i hi).2) ?_
        refine z_bif_eq 51 d_St_takeFirst_46 rfl (fun hc46 => ?_) (fun hc46 => ?_)
        · skip
          skip
          refine s_iinc (lv' := [(0, _), (1, _), (2, _)]) d_St_takeFirst_51 rfl (xinc _) (by decide) rfl ?_
          refine x_goto 2 d_St_takeFirst_54 rfl ?_
          refine x_lv (lv' := [(0, _), (1, _), (2, _)]) [0, 1, 2] rfl ?_
          unfold stTake
          rw [hc46, if_neg (by decide)]
          exact ih (lt_s hp (by simp [stAny, hc28, hc46]))
        · skip
          skip
          refine x_iconst (v := nI 1) d_St_takeFirst_49 (by decide +kernel) ?_
          refine x_ireturn d_St_takeFirst_50 rfl (by decide +kernel) ?_
          have e : stFst S b fl n N D rk = some i := fstN_some (by simp [stAny, *]) hp hi
          unfold stGot stTake
          rw [e]
          first
            | (simp only [hc28, hc46, if_true, if_false, Bool.false_eq_true]; exact ⟨rfl, rfl⟩)
            | (simp only [hc28, if_true]; exact ⟨rfl, rfl⟩)
  refine x_lv (lv' := [(0, _), (1, _), (2, _)]) [0, 1, 2] rfl ?_
  exact L2 0 (Nat.zero_le _) lt_0
/-- a column, from row r on: its width, the state, how many panes there are -/
def stCol (b fl N : Nat) (D : Nat → Nat → Int32) (rk : Nat → Nat) : Nat → Nat → xS → Nat → Int32 → Int32 × xS × Nat
  | 0, _, S, n, w => (w, S, n)
  | k + 1, r, S, n, w =>
    let S1 := uF S 63 3 (nI r)
    if 36 ≤ n then (w, S1, n)
    else if (stFst S1 b fl n N D rk).isSome = false then (w, S1, n)
    else
      let S2 := stGot S1 b fl n N D rk
      let w2 := if r = 0 then sA S2 59 n else w
      let S3 := if r = 0 then uF S2 63 6 w2 else S2
      stCol b fl N D rk k (r + 1) (uF S3 63 5 (sF S3 63 5 + sA S3 60 n)) (n + 1) w2
theorem stGot_I {S : xS} {B b fl N : Nat} {D : Nat → Nat → Int32} {rk oa : Nat → Nat} {n : Nat} (hb : isGlass b) (hn : n < 36) (q : stI S B b fl N D rk oa n) (hs : (stFst S b fl n N D rk).isSome = true) : stI (stGot S b fl n N D rk) B b fl N D rk oa (n + 1) := by
  unfold stGot
  cases h : stFst S b fl n N D rk with
  | none => rw [h] at hs; cases hs
  | some k =>
    simp only []
    split
    · exact stI_put hb hn q
    · exact stI_put hb hn q
theorem stCol_I {B b fl N : Nat} {D : Nat → Nat → Int32} {rk oa : Nat → Nat} (hb : isGlass b) : ∀ (k r : Nat) (S : xS) (n : Nat) (w : Int32), stI S B b fl N D rk oa n → stI (stCol b fl N D rk k r S n w).2.1 B b fl N D rk oa (stCol b fl N D rk k r S n w).2.2
  | 0, r, S, n, w, h => h
  | k + 1, r, S, n, w, h => by
    unfold stCol
    simp only []
    split
    · exact stI_63 hb h
    · split
      · exact stI_63 hb h
      · rename_i h1 h2
        have g := stGot_I hb (Nat.not_le.mp h1) (stI_63 (k := 3) (v := nI r) hb h) (by revert h2; cases (stFst (uF S 63 3 (nI r)) b fl n N D rk).isSome <;> simp)
        refine stCol_I hb k (r + 1) _ _ _ (stI_63 hb ?_)
        split
        · exact stI_63 hb g
        · exact g
def stFil (b fl N : Nat) (D : Nat → Nat → Int32) (rk : Nat → Nat) : Nat → Nat → xS → Nat → xS × Nat
  | 0, _, S, n => (S, n)
  | k + 1, c, S, n =>
    let S1 := uF S 63 2 (nI c)
    let S2 := uF S1 63 5 (nI 0)
    let q := stCol b fl N D rk 36 0 (uF S2 63 6 (sF S2 b 4 - sF S2 63 4)) n (nI 0)
    if q.1 = 0 then (q.2.1, q.2.2) else stFil b fl N D rk k (c + 1) (uF q.2.1 63 4 (sF q.2.1 63 4 + q.1)) q.2.2
theorem stI_clear {S : xS} {B b fl N : Nat} {D : Nat → Nat → Int32} {rk oa : Nat → Nat} {n : Nat} (hb : isGlass b) (h : stI S B b fl N D rk oa n) : stI (uF S 57 5 (nI 0)) B b fl N D rk oa 0 := by
  obtain ⟨⟨a1, a2⟩, ⟨b1, b2⟩, ⟨c1, c2⟩, h4, h5⟩ := h
  have hg := glOut hb
  exact ⟨⟨by rw [sF_uF]; exact va_up_self _ _ _, Nat.zero_le _⟩, ⟨by rw [sF_uFn _ _ _ (by omega)]; exact b1, b2⟩, ⟨by rw [sF_uFn _ _ _ (by decide)]; exact c1, c2⟩, h4, h5⟩
set_option maxRecDepth 100000 in
set_option maxHeartbeats 1000000 in
theorem c_St_stackColumn {G : xG} {B d : Nat} {S : xS} (hG : xOkG G) {b fl N n : Nat} {D : Nat → Nat → Int32} {rk oa : Nat → Nat} (hb : isGlass b) (hI : stI S B b fl N D rk oa n) : EX G m_St_stackColumn (d + 3) 0 [(0, .ref (B + 63)), (1, .ref (B + b))] [] (mk G B S) (xRet G B (some (.int (stCol b fl N D rk 36 0 (uF (uF S 63 5 (nI 0)) 63 6 (sF (uF S 63 5 (nI 0)) b 4 - sF (uF S 63 5 (nI 0)) 63 4)) n (nI 0)).1)) (stCol b fl N D rk 36 0 (uF (uF S 63 5 (nI 0)) 63 6 (sF (uF S 63 5 (nI 0)) b 4 - sF (uF S 63 5 (nI 0)) 63 4)) n (nI 0)).2.1) := by
  refine x_iconst (v := nI 0) d_St_stackColumn_0 (by decide +kernel) ?_
  refine s_istore_n (lv' := [(0, _), (1, _), (2, _)]) d_St_stackColumn_1 (by decide) rfl ?_
  refine x_aload_n d_St_stackColumn_2 rfl ?_
  refine x_iconst (v := nI 0) d_St_stackColumn_3 (by decide +kernel) ?_
  refine y_puti d_St_stackColumn_4 pf_St_35 k_strips (xBle rfl) rfl rfl rfl ?_
  refine x_aload_n d_St_stackColumn_7 rfl ?_
  refine x_aload_n d_St_stackColumn_8 rfl ?_
  refine y_getf d_St_stackColumn_9 gf_St_38 (k_glass hb) rfl ?_
  refine x_aload_n d_St_stackColumn_12 rfl ?_
  refine y_getf d_St_stackColumn_13 gf_St_24 k_strips rfl ?_
  refine x_isub d_St_stackColumn_16 ?_
  refine y_puti d_St_stackColumn_17 pf_St_43 k_strips (xBle rfl) rfl rfl rfl ?_
  refine x_iconst (v := nI 0) d_St_stackColumn_20 (by decide +kernel) ?_
  refine s_istore_n (lv' := [(0, _), (1, _), (2, _), (3, _)]) d_St_stackColumn_21 (by decide) rfl ?_
  have L22 : ∀ i, i ≤ 36 → ∀ (S1 : xS) (n1 : Nat) (wd : Int32), stI S1 B b fl N D rk oa n1 → EX G m_St_stackColumn (d + 3) 22 [(0, .ref (B + 63)), (1, .ref (B + b)), (2, .int wd), (3, .int (nI i))] [] (mk G B S1) (xRet G B (some (.int (stCol b fl N D rk (36 - i) i S1 n1 wd).1)) (stCol b fl N D rk (36 - i) i S1 n1 wd).2.1) := by
    refine x_down (36) ?_ ?_
    · skip
      skip
      intro S1 n1 wd hJ
      refine x_iload_n d_St_stackColumn_22 rfl ?_
      refine x_bipush (v := nI 36) d_St_stackColumn_23 (by decide +kernel) ?_
      refine z_icmp_ge 104 d_St_stackColumn_25 rfl (by omega) (by omega) (fun hc25 => ?_) (fun q => absurd q (by omega))
      refine x_iload_n d_St_stackColumn_104 rfl ?_
      refine x_ireturn d_St_stackColumn_105 rfl rfl ?_
      rw [Nat.sub_self]
      exact ⟨rfl, rfl⟩
    · intro i hi ih
      intro S1 n1 wd hJ
      have hJ1 := stI_63 (k := 3) (v := nI i) hb hJ
      have h36 := hJ.1.2
      refine x_iload_n d_St_stackColumn_22 rfl ?_
      refine x_bipush (v := nI 36) d_St_stackColumn_23 (by decide +kernel) ?_
      refine z_icmp_ge 104 d_St_stackColumn_25 rfl (by omega) (by omega) (fun q => absurd q (by omega)) (fun hc25 => ?_)
      refine x_aload_n d_St_stackColumn_28 rfl ?_
      refine x_iload_n d_St_stackColumn_29 rfl ?_
      refine y_puti d_St_stackColumn_30 pf_St_46 k_strips (xBle rfl) rfl rfl rfl ?_
      refine x_aload_n d_St_stackColumn_33 rfl ?_
      refine y_getf d_St_stackColumn_34 gf_St_15 k_strips rfl ?_
      refine y_getf (v := .int (nI n1)) d_St_stackColumn_37 gf_St_49 k_lay (congrArg (fun q => some (Value.int q)) hJ1.1.1) ?_
      refine s_istore (lv' := [(0, _), (1, _), (2, _), (3, _), (4, _)]) d_St_stackColumn_40 (by decide) rfl ?_
      refine x_iload d_St_stackColumn_42 rfl ?_
      refine x_bipush (v := nI 36) d_St_stackColumn_44 (by decide +kernel) ?_
      refine z_icmp_ge 57 d_St_stackColumn_46 rfl (by omega) (by omega) (fun hc46 => ?_) (fun hc46 => ?_)
      · skip
        skip
        refine x_iload_n d_St_stackColumn_57 rfl ?_
        refine x_ireturn d_St_stackColumn_58 rfl rfl ?_
        first
          | (rw [show 36 - i = (36 - (i + 1)) + 1 by omega]; simp only [stCol]; rw [if_pos hc46]; exact ⟨rfl, rfl⟩)
          | (rw [show 36 - i = (36 - (i + 1)) + 1 by omega]; simp only [stCol]; rw [if_neg (by omega), if_pos hc54, show stGot (uF S1 63 3 (nI i)) b fl n1 N D rk = uF S1 63 3 (nI i) by unfold stGot; cases hq : stFst (uF S1 63 3 (nI i)) b fl n1 N D rk with | none => rfl | some k => rw [hq] at hc54; cases hc54]; exact ⟨rfl, rfl⟩)
      · skip
        skip
        refine x_aload_n d_St_stackColumn_49 rfl ?_
        refine x_aload_n d_St_stackColumn_50 rfl ?_
        refine w_callV (As := [_]) d_St_stackColumn_51 k_St_52 k_strips rfl rfl rfl (c_St_takeFirst hG hb hJ1 (by omega)) ?_
        refine z_bif_ne 59 d_St_stackColumn_54 rfl (fun hc54 => ?_) (fun hc54 => ?_)
        · skip
          skip
          refine x_iload_n d_St_stackColumn_59 rfl ?_
          refine z_if_ne 79 d_St_stackColumn_60 rfl (by omega) (fun hc60 => ?_) (fun hc60 => ?_)
          · skip
            skip
            refine x_aload_n d_St_stackColumn_79 rfl ?_
            refine x_dup d_St_stackColumn_80 rfl ?_
            refine y_getf d_St_stackColumn_81 gf_St_35 k_strips rfl ?_
            refine x_aload_n d_St_stackColumn_84 rfl ?_
            refine y_getf d_St_stackColumn_85 gf_St_15 k_strips rfl ?_
            refine y_getf d_St_stackColumn_88 gf_St_59 k_lay rfl ?_
            refine x_iload d_St_stackColumn_91 rfl ?_
            refine y_iald hG d_St_stackColumn_93 k_lay2 _ rfl (by omega) ?_
            refine x_iadd d_St_stackColumn_94 ?_
            refine y_puti d_St_stackColumn_95 pf_St_35 k_strips (xBle rfl) rfl rfl rfl ?_
            refine s_iinc (lv' := [(0, _), (1, _), (2, _), (3, _), (4, _)]) d_St_stackColumn_98 rfl (xinc _) (by decide) rfl ?_
            refine x_goto 22 d_St_stackColumn_101 rfl ?_
            refine x_lv (lv' := [(0, _), (1, _), (2, _), (3, _)]) [0, 1, 2, 3] rfl ?_
            rw [show 36 - i = (36 - (i + 1)) + 1 by omega]
            simp only [stCol]
            rw [if_neg (by omega), if_neg (by rw [hc54]; decide)]
            first
              | (rw [if_pos hc60, if_pos hc60]; exact ih _ _ _ (stI_63 hb (stI_63 hb (stGot_I hb (by omega) hJ1 hc54))))
              | (rw [if_neg hc60, if_neg hc60]; exact ih _ _ _ (stI_63 hb (stGot_I hb (by omega) hJ1 hc54)))
          · skip
            skip
            refine x_aload_n d_St_stackColumn_63 rfl ?_
            refine y_getf d_St_stackColumn_64 gf_St_15 k_strips rfl ?_
            refine y_getf d_St_stackColumn_67 gf_St_56 k_lay rfl ?_
            refine x_iload d_St_stackColumn_70 rfl ?_
            refine y_iald hG d_St_stackColumn_72 k_lay1 _ rfl (by omega) ?_
            refine s_istore_n (lv' := [(0, _), (1, _), (2, _), (3, _), (4, _)]) d_St_stackColumn_73 (by decide) rfl ?_
            refine x_aload_n d_St_stackColumn_74 rfl ?_
            refine x_iload_n d_St_stackColumn_75 rfl ?_
            refine y_puti d_St_stackColumn_76 pf_St_43 k_strips (xBle rfl) rfl rfl rfl ?_
            refine x_aload_n d_St_stackColumn_79 rfl ?_
            refine x_dup d_St_stackColumn_80 rfl ?_
            refine y_getf d_St_stackColumn_81 gf_St_35 k_strips rfl ?_
            refine x_aload_n d_St_stackColumn_84 rfl ?_
            refine y_getf d_St_stackColumn_85 gf_St_15 k_strips rfl ?_
            refine y_getf d_St_stackColumn_88 gf_St_59 k_lay rfl ?_
            refine x_iload d_St_stackColumn_91 rfl ?_
            refine y_iald hG d_St_stackColumn_93 k_lay2 _ rfl (by omega) ?_
            refine x_iadd d_St_stackColumn_94 ?_
            refine y_puti d_St_stackColumn_95 pf_St_35 k_strips (xBle rfl) rfl rfl rfl ?_
            refine s_iinc (lv' := [(0, _), (1, _), (2, _), (3, _), (4, _)]) d_St_stackColumn_98 rfl (xinc _) (by decide) rfl ?_
            refine x_goto 22 d_St_stackColumn_101 rfl ?_
            refine x_lv (lv' := [(0, _), (1, _), (2, _), (3, _)]) [0, 1, 2, 3] rfl ?_
            rw [show 36 - i = (36 - (i + 1)) + 1 by omega]
            simp only [stCol]
            rw [if_neg (by omega), if_neg (by rw [hc54]; decide)]
            first
              | (rw [if_pos hc60, if_pos hc60]; exact ih _ _ _ (stI_63 hb (stI_63 hb (stGot_I hb (by omega) hJ1 hc54))))
              | (rw [if_neg hc60, if_neg hc60]; exact ih _ _ _ (stI_63 hb (stGot_I hb (by omega) hJ1 hc54)))
        · skip
          skip
          refine x_iload_n d_St_stackColumn_57 rfl ?_
          refine x_ireturn d_St_stackColumn_58 rfl rfl ?_
          first
            | (rw [show 36 - i = (36 - (i + 1)) + 1 by omega]; simp only [stCol]; rw [if_pos hc46]; exact ⟨rfl, rfl⟩)
            | (rw [show 36 - i = (36 - (i + 1)) + 1 by omega]; simp only [stCol]; rw [if_neg (by omega), if_pos hc54, show stGot (uF S1 63 3 (nI i)) b fl n1 N D rk = uF S1 63 3 (nI i) by unfold stGot; cases hq : stFst (uF S1 63 3 (nI i)) b fl n1 N D rk with | none => rfl | some k => rw [hq] at hc54; cases hc54]; exact ⟨rfl, rfl⟩)
  refine x_lv (lv' := [(0, _), (1, _), (2, _), (3, _)]) [0, 1, 2, 3] rfl ?_
  exact L22 0 (Nat.zero_le _) _ n (nI 0) (stI_63 hb (stI_63 hb hI))
set_option maxRecDepth 100000 in
set_option maxHeartbeats 1000000 in
theorem c_St_fill {G : xG} {B d : Nat} {S : xS} (hG : xOkG G) {b fl N n : Nat} {D : Nat → Nat → Int32} {rk oa : Nat → Nat} (hb : isGlass b) (hI : stI S B b fl N D rk oa n) : EX G m_St_fill (d + 4) 0 [(0, .ref (B + 63)), (1, .ref (B + b))] [] (mk G B S) (xRet G B none (stFil b fl N D rk 36 0 (uF (uF S 57 5 (nI 0)) 63 4 (nI 0)) 0).1) := by
  refine x_aload_n d_St_fill_0 rfl ?_
  refine y_getf d_St_fill_1 gf_St_15 k_strips rfl ?_
  refine w_callV (As := []) d_St_fill_4 k_St_19 k_lay rfl rfl rfl (c_La_clear hG) ?_
  refine x_aload_n d_St_fill_7 rfl ?_
  refine x_iconst (v := nI 0) d_St_fill_8 (by decide +kernel) ?_
  refine y_puti d_St_fill_9 pf_St_24 k_strips (xBle rfl) rfl rfl rfl ?_
  refine x_iconst (v := nI 0) d_St_fill_12 (by decide +kernel) ?_
  refine s_istore_n (lv' := [(0, _), (1, _), (2, _)]) d_St_fill_13 (by decide) rfl ?_
  have L14 : ∀ i, i ≤ 36 → ∀ (S1 : xS) (n1 : Nat), stI S1 B b fl N D rk oa n1 → EX G m_St_fill (d + 4) 14 [(0, .ref (B + 63)), (1, .ref (B + b)), (2, .int (nI i))] [] (mk G B S1) (xRet G B none (stFil b fl N D rk (36 - i) i S1 n1).1) := by
    refine x_down (36) ?_ ?_
    · skip
      skip
      intro S1 n1 hJ
      refine x_iload_n d_St_fill_14 rfl ?_
      refine x_bipush (v := nI 36) d_St_fill_15 (by decide +kernel) ?_
      refine z_icmp_ge 52 d_St_fill_17 rfl (by omega) (by omega) (fun hc17 => ?_) (fun q => absurd q (by omega))
      refine x_return d_St_fill_52 rfl ?_
      rw [Nat.sub_self]
      exact ⟨rfl, rfl⟩
    · intro i hi ih
      intro S1 n1 hJ
      have hJ1 := stI_63 (k := 2) (v := nI i) hb hJ
      have hJ2 := stCol_I (oa := oa) hb 36 0 _ n1 (nI 0) (stI_63 (k := 6) (v := sF (uF (uF S1 63 2 (nI i)) 63 5 (nI 0)) b 4 - sF (uF (uF S1 63 2 (nI i)) 63 5 (nI 0)) 63 4) hb (stI_63 (k := 5) (v := nI 0) hb hJ1))
      refine x_iload_n d_St_fill_14 rfl ?_
      refine x_bipush (v := nI 36) d_St_fill_15 (by decide +kernel) ?_
      refine z_icmp_ge 52 d_St_fill_17 rfl (by omega) (by omega) (fun q => absurd q (by omega)) (fun hc17 => ?_)
      refine x_aload_n d_St_fill_20 rfl ?_
      refine x_iload_n d_St_fill_21 rfl ?_
      refine y_puti d_St_fill_22 pf_St_28 k_strips (xBle rfl) rfl rfl rfl ?_
      refine x_aload_n d_St_fill_25 rfl ?_
      refine x_aload_n d_St_fill_26 rfl ?_
      refine w_callV (As := [_]) d_St_fill_27 k_St_31 k_strips rfl rfl rfl (c_St_stackColumn hG hb hJ1) ?_
      refine s_istore_n (lv' := [(0, _), (1, _), (2, _), (3, _)]) d_St_fill_30 (by decide) rfl ?_
      refine x_iload_n d_St_fill_31 rfl ?_
      refine x_if_ne 36 d_St_fill_32 rfl (fun hc32 => ?_) (fun hc32 => ?_)
      · skip
        skip
        refine x_aload_n d_St_fill_36 rfl ?_
        refine x_dup d_St_fill_37 rfl ?_
        refine y_getf d_St_fill_38 gf_St_24 k_strips rfl ?_
        refine x_iload_n d_St_fill_41 rfl ?_
        refine x_iadd d_St_fill_42 ?_
        refine y_puti d_St_fill_43 pf_St_24 k_strips (xBle rfl) rfl rfl rfl ?_
        refine s_iinc (lv' := [(0, _), (1, _), (2, _), (3, _)]) d_St_fill_46 rfl (xinc _) (by decide) rfl ?_
        refine x_goto 14 d_St_fill_49 rfl ?_
        refine x_lv (lv' := [(0, _), (1, _), (2, _)]) [0, 1, 2] rfl ?_
        rw [show 36 - i = (36 - (i + 1)) + 1 by omega]
        simp only [stFil]
        rw [if_neg hc32]
        exact ih _ _ (stI_63 hb hJ2)
      · skip
        skip
        refine x_return d_St_fill_35 rfl ?_
        rw [show 36 - i = (36 - (i + 1)) + 1 by omega]
        simp only [stFil]
        rw [if_pos hc32]
        exact ⟨rfl, rfl⟩
  refine x_lv (lv' := [(0, _), (1, _), (2, _)]) [0, 1, 2] rfl ?_
  exact L14 0 (Nat.zero_le _) _ 0 (stI_63 hb (stI_clear hb hI))
