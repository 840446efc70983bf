/-! Glass -/
def glBec (S : xS) (b : Nat) (w h : Int32) : xS := uF (uF (uF S b 4 w) b 5 h) b 6 (nI 0)
def glFl (S : xS) (b n : Nat) (x y w h : Int32) : xS := uF (uA (uA (uA (uA S (b + 1) n x) (b + 2) n y) (b + 3) n w) (b + 4) n h) b 6 (nI (n + 1))
def glAdd (S : xS) (b n : Nat) (x y w h : Int32) : xS := if n < 6 then glFl S b n x y w h else S
def glN (n : Nat) : Nat := if n < 6 then n + 1 else n
def glSurf (S : xS) (b : Nat) : Int64 := (sF S b 4).toInt64 * (sF S b 5).toInt64
def glBes (S : xS) (b k : Nat) (x w : Int32) : Bool := decide (x + w ≤ sA S (b + 1) k) || !decide (x < sA S (b + 1) k + sA S (b + 3) k)
def glAbo (S : xS) (b k : Nat) (y h : Int32) : Bool := decide (y + h ≤ sA S (b + 2) k) || !decide (y < sA S (b + 2) k + sA S (b + 4) k)
def glClear (S : xS) (b n : Nat) (x y w h : Int32) : Bool := (List.range n).all fun k => glBes S b k x w || glAbo S b k y h
/-- whole's flaws that lie in the part: the state, and how many there are -/
def glPart (S : xS) (b a : Nat) (x y w h : Int32) : Nat → xS × Nat
  | 0 => (glBec S b w h, 0)
  | k + 1 =>
    let p := glPart S b a x y w h k
    let l := mx x (sA p.1 (a + 1) k)
    let r := mn (x + w) (sA p.1 (a + 1) k + sA p.1 (a + 3) k)
    let lo := mx y (sA p.1 (a + 2) k)
    let u := mn (y + h) (sA p.1 (a + 2) k + sA p.1 (a + 4) k)
    if r ≤ l then p else if u ≤ lo then p else (glAdd p.1 b p.2 (l - x) (lo - y) (r - l) (u - lo), glN p.2)
theorem glBec_K {S : xS} {b : Nat} {w h : Int32} : sK b (b + 5) S (glBec S b w h) := ((sK.rf.F (by omega)).F (by omega)).F (by omega)
theorem glAdd_K {S : xS} {b n : Nat} {x y w h : Int32} : sK b (b + 5) S (glAdd S b n x y w h) := by
  unfold glAdd
  split
  · exact ((((sK.rf.A (by omega)).A (by omega)).A (by omega)).A (by omega)).F (by omega)
  · exact sK.rf
theorem glAdd_n {S : xS} {b n : Nat} {x y w h : Int32} (hn : sF S b 6 = nI n) : sF (glAdd S b n x y w h) b 6 = nI (glN n) := by
  unfold glAdd glN
  split
  · show sF (uF _ b 6 _) b 6 = _
    rw [sF_uF]; exact va_up_self _ _ _
  · exact hn
theorem glN_le {n : Nat} (h : n ≤ 6) : glN n ≤ 6 := by unfold glN; split <;> omega
theorem glPart_ok {S : xS} {b a : Nat} {x y w h : Int32} : ∀ k, sK b (b + 5) S (glPart S b a x y w h k).1 ∧ sF (glPart S b a x y w h k).1 b 6 = nI (glPart S b a x y w h k).2 ∧ (glPart S b a x y w h k).2 ≤ 6
  | 0 => ⟨glBec_K, by show sF (uF _ b 6 _) b 6 = _; rw [sF_uF]; exact va_up_self _ _ _, by show 0 ≤ 6; omega⟩
  | k + 1 => by
    obtain ⟨h1, h2, h3⟩ := glPart_ok (S := S) (b := b) (a := a) (x := x) (y := y) (w := w) (h := h) k
    unfold glPart
    simp only []
    split
    · exact ⟨h1, h2, h3⟩
    · split
      · exact ⟨h1, h2, h3⟩
      · exact ⟨h1.trans glAdd_K, glAdd_n h2, glN_le h3⟩
set_option maxRecDepth 100000 in
set_option maxHeartbeats 1000000 in
theorem c_Gl_become {G : xG} {B d : Nat} {S : xS} (hG : xOkG G) {b : Nat} (hb : isGlass b) {w h : Int32} : EX G m_Gl_become d 0 [(0, .ref (B + b)), (1, .int w), (2, .int h)] [] (mk G B S) (xRet G B none (glBec S b w h)) := by
  refine x_aload_n d_Gl_become_0 rfl ?_
  refine x_iload_n d_Gl_become_1 rfl ?_
  refine y_puti d_Gl_become_2 pf_Gl_24 (k_glass hb) (xBle rfl) rfl rfl rfl ?_
  refine x_aload_n d_Gl_become_5 rfl ?_
  refine x_iload_n d_Gl_become_6 rfl ?_
  refine y_puti d_Gl_become_7 pf_Gl_28 (k_glass hb) (xBle rfl) rfl rfl rfl ?_
  refine x_aload_n d_Gl_become_10 rfl ?_
  refine x_iconst (v := nI 0) d_Gl_become_11 (by decide +kernel) ?_
  refine y_puti d_Gl_become_12 pf_Gl_31 (k_glass hb) (xBle rfl) rfl rfl rfl ?_
  refine x_return d_Gl_become_15 rfl ?_
  exact ⟨rfl, rfl⟩
set_option maxRecDepth 100000 in
set_option maxHeartbeats 1000000 in
theorem c_Gl_addFlaw {G : xG} {B d : Nat} {S : xS} (hG : xOkG G) {b n : Nat} (hb : isGlass b) (hn : sF S b 6 = nI n) (h6 : n ≤ 6) {x y w h : Int32} : EX G m_Gl_addFlaw d 0 [(0, .ref (B + b)), (1, .int x), (2, .int y), (3, .int w), (4, .int h)] [] (mk G B S) (xRet G B none (glAdd S b n x y w h)) := by
  refine x_aload_n d_Gl_addFlaw_0 rfl ?_
  refine y_getf (v := .int (nI n)) d_Gl_addFlaw_1 gf_Gl_31 (k_glass hb) (congrArg (fun q => some (Value.int q)) hn) ?_
  refine x_bipush (v := nI 6) d_Gl_addFlaw_4 (by decide +kernel) ?_
  refine z_icmp_lt 10 d_Gl_addFlaw_6 rfl (by omega) (by omega) (fun hc6 => ?_) (fun hc6 => ?_)
  · skip
    skip
    refine x_aload_n d_Gl_addFlaw_10 rfl ?_
    refine y_getf d_Gl_addFlaw_11 gf_Gl_9 (k_glass hb) rfl ?_
    refine x_aload_n d_Gl_addFlaw_14 rfl ?_
    refine y_getf (v := .int (nI n)) d_Gl_addFlaw_15 gf_Gl_31 (k_glass hb) (congrArg (fun q => some (Value.int q)) hn) ?_
    refine x_iload_n d_Gl_addFlaw_18 rfl ?_
    refine y_iast hG d_Gl_addFlaw_19 (k_glA1 hb) _ rfl (by omega) ?_
    refine x_aload_n d_Gl_addFlaw_20 rfl ?_
    refine y_getf d_Gl_addFlaw_21 gf_Gl_15 (k_glass hb) rfl ?_
    refine x_aload_n d_Gl_addFlaw_24 rfl ?_
    refine y_getf (v := .int (nI n)) d_Gl_addFlaw_25 gf_Gl_31 (k_glass hb) (congrArg (fun q => some (Value.int q)) hn) ?_
    refine x_iload_n d_Gl_addFlaw_28 rfl ?_
    refine y_iast hG d_Gl_addFlaw_29 (k_glA2 hb) _ rfl (by omega) ?_
    refine x_aload_n d_Gl_addFlaw_30 rfl ?_
    refine y_getf d_Gl_addFlaw_31 gf_Gl_18 (k_glass hb) rfl ?_
    refine x_aload_n d_Gl_addFlaw_34 rfl ?_
    refine y_getf (v := .int (nI n)) d_Gl_addFlaw_35 gf_Gl_31 (k_glass hb) (congrArg (fun q => some (Value.int q)) hn) ?_
    refine x_iload_n d_Gl_addFlaw_38 rfl ?_
    refine y_iast hG d_Gl_addFlaw_39 (k_glA3 hb) _ rfl (by omega) ?_
    refine x_aload_n d_Gl_addFlaw_40 rfl ?_
    refine y_getf d_Gl_addFlaw_41 gf_Gl_21 (k_glass hb) rfl ?_
    refine x_aload_n d_Gl_addFlaw_44 rfl ?_
    refine y_getf (v := .int (nI n)) d_Gl_addFlaw_45 gf_Gl_31 (k_glass hb) (congrArg (fun q => some (Value.int q)) hn) ?_
    refine x_iload d_Gl_addFlaw_48 rfl ?_
    refine y_iast hG d_Gl_addFlaw_50 (k_glA4 hb) _ rfl (by omega) ?_
    refine x_aload_n d_Gl_addFlaw_51 rfl ?_
    refine x_dup d_Gl_addFlaw_52 rfl ?_
    refine y_getf (v := .int (nI n)) d_Gl_addFlaw_53 gf_Gl_31 (k_glass hb) (congrArg (fun q => some (Value.int q)) hn) ?_
    refine x_iconst (v := nI 1) d_Gl_addFlaw_56 (by decide +kernel) ?_
    refine x_iadd d_Gl_addFlaw_57 ?_
    rw [nI_add]
    refine y_puti d_Gl_addFlaw_58 pf_Gl_31 (k_glass hb) (xBle rfl) rfl rfl rfl ?_
    refine x_return d_Gl_addFlaw_61 rfl ?_
    unfold glAdd
    first | (rw [if_neg (by omega)]; exact ⟨rfl, rfl⟩) | (rw [if_pos (by omega)]; exact ⟨rfl, rfl⟩)
  · skip
    skip
    refine x_return d_Gl_addFlaw_9 rfl ?_
    unfold glAdd
    first | (rw [if_neg (by omega)]; exact ⟨rfl, rfl⟩) | (rw [if_pos (by omega)]; exact ⟨rfl, rfl⟩)
set_option maxRecDepth 100000 in
set_option maxHeartbeats 1000000 in
theorem c_Gl_surface {G : xG} {B d : Nat} {S : xS} (hG : xOkG G) {b : Nat} (hb : isGlass b) : EX G m_Gl_surface d 0 [(0, .ref (B + b))] [] (mk G B S) (xRet G B (some (.long (glSurf S b))) S) := by
  refine x_aload_n d_Gl_surface_0 rfl ?_
  refine y_getf d_Gl_surface_1 gf_Gl_24 (k_glass hb) rfl ?_
  refine x_i2l d_Gl_surface_4 ?_
  refine x_aload_n d_Gl_surface_5 rfl ?_
  refine y_getf d_Gl_surface_6 gf_Gl_28 (k_glass hb) rfl ?_
  refine x_i2l d_Gl_surface_9 ?_
  refine x_lmul d_Gl_surface_10 ?_
  refine x_lreturn d_Gl_surface_11 rfl ?_
  exact ⟨rfl, rfl⟩
set_option maxRecDepth 100000 in
set_option maxHeartbeats 1000000 in
theorem c_Gl_isClear {G : xG} {B d : Nat} {S : xS} (hG : xOkG G) {b n : Nat} (hb : isGlass b) (hn : sF S b 6 = nI n) (h6 : n ≤ 6) {x y w h : Int32} : EX G m_Gl_isClear d 0 [(0, .ref (B + b)), (1, .int x), (2, .int y), (3, .int w), (4, .int h)] [] (mk G B S) ((xRet G B (some (.int (bI (glClear S b n x y w h)))) S)) := by
  refine x_iconst (v := nI 0) d_Gl_isClear_0 (by decide +kernel) ?_
  refine s_istore (lv' := [(0, _), (1, _), (2, _), (3, _), (4, _), (5, _)]) d_Gl_isClear_1 (by decide) rfl ?_
  have L3 : ∀ i, i ≤ n → (∀ j, j < i → (glBes S b j x w || glAbo S b j y h) = true) → EX G m_Gl_isClear d 3 [(0, .ref (B + b)), (1, .int x), (2, .int y), (3, .int w), (4, .int h), (5, .int (nI i))] [] (mk G B S) (xRet G B (some (.int (bI (glClear S b n x y w h)))) S) := by
    refine x_down (n) ?_ ?_
    · skip
      skip
      intro hp
      refine x_iload d_Gl_isClear_3 rfl ?_
      refine x_aload_n d_Gl_isClear_5 rfl ?_
      refine y_getf (v := .int (nI n)) d_Gl_isClear_6 gf_Gl_31 (k_glass hb) (congrArg (fun q => some (Value.int q)) hn) ?_
      refine z_icmp_ge 109 d_Gl_isClear_9 rfl (by omega) (by omega) (fun hc9 => ?_) (fun q => absurd q (by omega))
      refine x_iconst (v := nI 1) d_Gl_isClear_109 (by decide +kernel) ?_
      refine x_ireturn d_Gl_isClear_110 rfl (by decide +kernel) ?_
      refine ⟨?_, rfl⟩
      have : glClear S b n x y w h = true := by
        unfold glClear
        rw [List.all_eq_true]
        exact fun j hj => hp j (List.mem_range.mp hj)
      rw [this]; rfl
    · intro i hi ih
      intro hp
      refine x_iload d_Gl_isClear_3 rfl ?_
      refine x_aload_n d_Gl_isClear_5 rfl ?_
      refine y_getf (v := .int (nI n)) d_Gl_isClear_6 gf_Gl_31 (k_glass hb) (congrArg (fun q => some (Value.int q)) hn) ?_
      refine z_icmp_ge 109 d_Gl_isClear_9 rfl (by omega) (by omega) (fun q => absurd q (by omega)) (fun hc9 => ?_)
      refine x_join 49 (.int (bI (glBes S b i x w))) ?_ (fun J12 => ?_)
      · skip
        refine s_istore (lv' := [(0, _), (1, _), (2, _), (3, _), (4, _), (5, _), (6, _)]) d_Gl_isClear_49 (by decide) rfl ?_
        refine x_join 89 (.int (bI (glAbo S b i y h))) ?_ (fun J51 => ?_)
        · skip
          refine s_istore (lv' := [(0, _), (1, _), (2, _), (3, _), (4, _), (5, _), (6, _), (7, _)]) d_Gl_isClear_89 (by decide) rfl ?_
          refine x_iload d_Gl_isClear_91 rfl ?_
          refine z_bif_ne 103 d_Gl_isClear_93 rfl (fun hc93 => ?_) (fun hc93 => ?_)
          · skip
            skip
            refine s_iinc (lv' := [(0, _), (1, _), (2, _), (3, _), (4, _), (5, _), (6, _), (7, _)]) d_Gl_isClear_103 rfl (xinc _) (by decide) rfl ?_
            refine x_goto 3 d_Gl_isClear_106 rfl ?_
            refine x_lv (lv' := [(0, _), (1, _), (2, _), (3, _), (4, _), (5, _)]) [0, 1, 2, 3, 4, 5] rfl ?_
            exact ih (lt_s hp (by simp [*]))
          · skip
            skip
            refine x_iload d_Gl_isClear_96 rfl ?_
            refine z_bif_ne 103 d_Gl_isClear_98 rfl (fun hc98 => ?_) (fun hc98 => ?_)
            · skip
              skip
              refine s_iinc (lv' := [(0, _), (1, _), (2, _), (3, _), (4, _), (5, _), (6, _), (7, _)]) d_Gl_isClear_103 rfl (xinc _) (by decide) rfl ?_
              refine x_goto 3 d_Gl_isClear_106 rfl ?_
              refine x_lv (lv' := [(0, _), (1, _), (2, _), (3, _), (4, _), (5, _)]) [0, 1, 2, 3, 4, 5] rfl ?_
              exact ih (lt_s hp (by simp [*]))
            · skip
              skip
              refine x_iconst (v := nI 0) d_Gl_isClear_101 (by decide +kernel) ?_
              refine x_ireturn d_Gl_isClear_102 rfl (by decide +kernel) ?_
              refine ⟨?_, rfl⟩
              have : glClear S b n x y w h = false := by
                unfold glClear
                rw [List.all_eq_false]
                exact ⟨i, List.mem_range.mpr hi, by simp [*]⟩
              rw [this]; rfl
        · skip
          refine x_iload_n d_Gl_isClear_51 rfl ?_
          refine x_iload d_Gl_isClear_52 rfl ?_
          refine x_iadd d_Gl_isClear_54 ?_
          refine x_aload_n d_Gl_isClear_55 rfl ?_
          refine y_getf d_Gl_isClear_56 gf_Gl_15 (k_glass hb) rfl ?_
          refine x_iload d_Gl_isClear_59 rfl ?_
          refine y_iald hG d_Gl_isClear_61 (k_glA2 hb) _ rfl (by omega) ?_
          refine x_icmp_le 84 d_Gl_isClear_62 rfl (fun hc62 => ?_) (fun hc62 => ?_)
          · skip
            skip
            refine x_iconst (v := nI 1) d_Gl_isClear_84 (by decide +kernel) ?_
            refine x_goto 89 d_Gl_isClear_85 rfl ?_
            exact J51 _ (by simp [glAbo, bI, *])
          · skip
            skip
            refine x_aload_n d_Gl_isClear_65 rfl ?_
            refine y_getf d_Gl_isClear_66 gf_Gl_15 (k_glass hb) rfl ?_
            refine x_iload d_Gl_isClear_69 rfl ?_
            refine y_iald hG d_Gl_isClear_71 (k_glA2 hb) _ rfl (by omega) ?_
            refine x_aload_n d_Gl_isClear_72 rfl ?_
            refine y_getf d_Gl_isClear_73 gf_Gl_21 (k_glass hb) rfl ?_
            refine x_iload d_Gl_isClear_76 rfl ?_
            refine y_iald hG d_Gl_isClear_78 (k_glA4 hb) _ rfl (by omega) ?_
            refine x_iadd d_Gl_isClear_79 ?_
            refine x_iload_n d_Gl_isClear_80 rfl ?_
            refine x_icmp_gt 88 d_Gl_isClear_81 rfl (fun hc81 => ?_) (fun hc81 => ?_)
            · skip
              skip
              refine x_iconst (v := nI 0) d_Gl_isClear_88 (by decide +kernel) ?_
              exact J51 _ (by simp [glAbo, bI, *])
            · skip
              skip
              refine x_iconst (v := nI 1) d_Gl_isClear_84 (by decide +kernel) ?_
              refine x_goto 89 d_Gl_isClear_85 rfl ?_
              exact J51 _ (by simp [glAbo, bI, *])
      · skip
        refine x_iload_n d_Gl_isClear_12 rfl ?_
        refine x_iload_n d_Gl_isClear_13 rfl ?_
        refine x_iadd d_Gl_isClear_14 ?_
        refine x_aload_n d_Gl_isClear_15 rfl ?_
        refine y_getf d_Gl_isClear_16 gf_Gl_9 (k_glass hb) rfl ?_
        refine x_iload d_Gl_isClear_19 rfl ?_
        refine y_iald hG d_Gl_isClear_21 (k_glA1 hb) _ rfl (by omega) ?_
        refine x_icmp_le 44 d_Gl_isClear_22 rfl (fun hc22 => ?_) (fun hc22 => ?_)
        · skip
          skip
          refine x_iconst (v := nI 1) d_Gl_isClear_44 (by decide +kernel) ?_
          refine x_goto 49 d_Gl_isClear_45 rfl ?_
          exact J12 _ (by simp [glBes, bI, *])
        · skip
          skip
          refine x_aload_n d_Gl_isClear_25 rfl ?_
          refine y_getf d_Gl_isClear_26 gf_Gl_9 (k_glass hb) rfl ?_
          refine x_iload d_Gl_isClear_29 rfl ?_
          refine y_iald hG d_Gl_isClear_31 (k_glA1 hb) _ rfl (by omega) ?_
          refine x_aload_n d_Gl_isClear_32 rfl ?_
          refine y_getf d_Gl_isClear_33 gf_Gl_18 (k_glass hb) rfl ?_
          refine x_iload d_Gl_isClear_36 rfl ?_
          refine y_iald hG d_Gl_isClear_38 (k_glA3 hb) _ rfl (by omega) ?_
          refine x_iadd d_Gl_isClear_39 ?_
          refine x_iload_n d_Gl_isClear_40 rfl ?_
          refine x_icmp_gt 48 d_Gl_isClear_41 rfl (fun hc41 => ?_) (fun hc41 => ?_)
          · skip
            skip
            refine x_iconst (v := nI 0) d_Gl_isClear_48 (by decide +kernel) ?_
            exact J12 _ (by simp [glBes, bI, *])
          · skip
            skip
            refine x_iconst (v := nI 1) d_Gl_isClear_44 (by decide +kernel) ?_
            refine x_goto 49 d_Gl_isClear_45 rfl ?_
            exact J12 _ (by simp [glBes, bI, *])
  refine x_lv (lv' := [(0, _), (1, _), (2, _), (3, _), (4, _), (5, _)]) [0, 1, 2, 3, 4, 5] rfl ?_
  exact L3 0 (Nat.zero_le _) lt_0
set_option maxRecDepth 100000 in
set_option maxHeartbeats 1000000 in
theorem c_Gl_becomePart {G : xG} {B d : Nat} {S : xS} (hG : xOkG G) {b a m : Nat} (hb : isGlass b) (ha : isGlass a) (hab : a < b ∨ b + 5 ≤ a) (hm : sF S a 6 = nI m) (h6 : m ≤ 6) {x y w h : Int32} : EX G m_Gl_becomePart (d + 1) 0 [(0, .ref (B + b)), (1, .ref (B + a)), (2, .int x), (3, .int y), (4, .int w), (5, .int h)] [] (mk G B S) ((xRet G B none (glPart S b a x y w h m).1)) := by
  refine x_aload_n d_Gl_becomePart_0 rfl ?_
  refine x_iload d_Gl_becomePart_1 rfl ?_
  refine x_iload d_Gl_becomePart_3 rfl ?_
  refine w_callV (As := [_, _]) d_Gl_becomePart_5 k_Gl_34 (k_glass hb) rfl rfl rfl (c_Gl_become hG hb) ?_
  refine x_iconst (v := nI 0) d_Gl_becomePart_8 (by decide +kernel) ?_
  refine s_istore (lv' := [(0, _), (1, _), (2, _), (3, _), (4, _), (5, _), (6, _)]) d_Gl_becomePart_9 (by decide) rfl ?_
  have L11 : ∀ i, i ≤ m →  EX G m_Gl_becomePart (d + 1) 11 [(0, .ref (B + b)), (1, .ref (B + a)), (2, .int x), (3, .int y), (4, .int w), (5, .int h), (6, .int (nI i))] [] (mk G B (glPart S b a x y w h i).1) (xRet G B none (glPart S b a x y w h m).1) := by
    refine x_down (m) ?_ ?_
    · skip
      obtain ⟨hK, hf, hf6⟩ := glPart_ok (S := S) (b := b) (a := a) (x := x) (y := y) (w := w) (h := h) m
      refine x_iload d_Gl_becomePart_11 rfl ?_
      refine x_aload_n d_Gl_becomePart_13 rfl ?_
      refine y_getf (v := .int (nI m)) d_Gl_becomePart_14 gf_Gl_31 (k_glass ha) (congrArg (fun q => some (Value.int q)) ((congrFun (hK.1 a hab).1 6).trans hm)) ?_
      refine z_icmp_ge 136 d_Gl_becomePart_17 rfl (by omega) (by omega) (fun hc17 => ?_) (fun q => absurd q (by omega))
      refine x_return d_Gl_becomePart_136 rfl ?_
      exact ⟨rfl, rfl⟩
    · intro i hi ih
      obtain ⟨hK, hf, hf6⟩ := glPart_ok (S := S) (b := b) (a := a) (x := x) (y := y) (w := w) (h := h) i
      refine x_iload d_Gl_becomePart_11 rfl ?_
      refine x_aload_n d_Gl_becomePart_13 rfl ?_
      refine y_getf (v := .int (nI m)) d_Gl_becomePart_14 gf_Gl_31 (k_glass ha) (congrArg (fun q => some (Value.int q)) ((congrFun (hK.1 a hab).1 6).trans hm)) ?_
      refine z_icmp_ge 136 d_Gl_becomePart_17 rfl (by omega) (by omega) (fun q => absurd q (by omega)) (fun hc17 => ?_)
      refine x_iload_n d_Gl_becomePart_20 rfl ?_
      refine x_aload_n d_Gl_becomePart_21 rfl ?_
      refine y_getf d_Gl_becomePart_22 gf_Gl_9 (k_glass ha) rfl ?_
      refine x_iload d_Gl_becomePart_25 rfl ?_
      refine y_iald hG d_Gl_becomePart_27 (k_glA1 ha) _ rfl (by omega) ?_
      refine w_max d_Gl_becomePart_28 k_Gl_38 rfl ?_
      refine s_istore (lv' := [(0, _), (1, _), (2, _), (3, _), (4, _), (5, _), (6, _), (7, _)]) d_Gl_becomePart_31 (by decide) rfl ?_
      refine x_iload_n d_Gl_becomePart_33 rfl ?_
      refine x_iload d_Gl_becomePart_34 rfl ?_
      refine x_iadd d_Gl_becomePart_36 ?_
      refine x_aload_n d_Gl_becomePart_37 rfl ?_
      refine y_getf d_Gl_becomePart_38 gf_Gl_9 (k_glass ha) rfl ?_
      refine x_iload d_Gl_becomePart_41 rfl ?_
      refine y_iald hG d_Gl_becomePart_43 (k_glA1 ha) _ rfl (by omega) ?_
      refine x_aload_n d_Gl_becomePart_44 rfl ?_
      refine y_getf d_Gl_becomePart_45 gf_Gl_18 (k_glass ha) rfl ?_
      refine x_iload d_Gl_becomePart_48 rfl ?_
      refine y_iald hG d_Gl_becomePart_50 (k_glA3 ha) _ rfl (by omega) ?_
      refine x_iadd d_Gl_becomePart_51 ?_
      refine w_min d_Gl_becomePart_52 k_Gl_44 rfl ?_
      refine s_istore (lv' := [(0, _), (1, _), (2, _), (3, _), (4, _), (5, _), (6, _), (7, _), (8, _)]) d_Gl_becomePart_55 (by decide) rfl ?_
      refine x_iload_n d_Gl_becomePart_57 rfl ?_
      refine x_aload_n d_Gl_becomePart_58 rfl ?_
      refine y_getf d_Gl_becomePart_59 gf_Gl_15 (k_glass ha) rfl ?_
      refine x_iload d_Gl_becomePart_62 rfl ?_
      refine y_iald hG d_Gl_becomePart_64 (k_glA2 ha) _ rfl (by omega) ?_
      refine w_max d_Gl_becomePart_65 k_Gl_38 rfl ?_
      refine s_istore (lv' := [(0, _), (1, _), (2, _), (3, _), (4, _), (5, _), (6, _), (7, _), (8, _), (9, _)]) d_Gl_becomePart_68 (by decide) rfl ?_
      refine x_iload_n d_Gl_becomePart_70 rfl ?_
      refine x_iload d_Gl_becomePart_71 rfl ?_
      refine x_iadd d_Gl_becomePart_73 ?_
      refine x_aload_n d_Gl_becomePart_74 rfl ?_
      refine y_getf d_Gl_becomePart_75 gf_Gl_15 (k_glass ha) rfl ?_
      refine x_iload d_Gl_becomePart_78 rfl ?_
      refine y_iald hG d_Gl_becomePart_80 (k_glA2 ha) _ rfl (by omega) ?_
      refine x_aload_n d_Gl_becomePart_81 rfl ?_
      refine y_getf d_Gl_becomePart_82 gf_Gl_21 (k_glass ha) rfl ?_
      refine x_iload d_Gl_becomePart_85 rfl ?_
      refine y_iald hG d_Gl_becomePart_87 (k_glA4 ha) _ rfl (by omega) ?_
      refine x_iadd d_Gl_becomePart_88 ?_
      refine w_min d_Gl_becomePart_89 k_Gl_44 rfl ?_
      refine s_istore (lv' := [(0, _), (1, _), (2, _), (3, _), (4, _), (5, _), (6, _), (7, _), (8, _), (9, _), (10, _)]) d_Gl_becomePart_92 (by decide) rfl ?_
      refine x_iload d_Gl_becomePart_94 rfl ?_
      refine x_iload d_Gl_becomePart_96 rfl ?_
      refine x_icmp_ge 130 d_Gl_becomePart_98 rfl (fun hc98 => ?_) (fun hc98 => ?_)
      · skip
        skip
        refine s_iinc (lv' := [(0, _), (1, _), (2, _), (3, _), (4, _), (5, _), (6, _), (7, _), (8, _), (9, _), (10, _)]) d_Gl_becomePart_130 rfl (xinc _) (by decide) rfl ?_
        refine x_goto 11 d_Gl_becomePart_133 rfl ?_
        refine x_lv (lv' := [(0, _), (1, _), (2, _), (3, _), (4, _), (5, _), (6, _)]) [0, 1, 2, 3, 4, 5, 6] rfl ?_
        first
          | (simp only [glPart, hc98, if_true] at ih; exact ih)
          | (simp only [glPart, hc98, hc105, if_true, if_false] at ih; exact ih)
      · skip
        skip
        refine x_iload d_Gl_becomePart_101 rfl ?_
        refine x_iload d_Gl_becomePart_103 rfl ?_
        refine x_icmp_ge 130 d_Gl_becomePart_105 rfl (fun hc105 => ?_) (fun hc105 => ?_)
        · skip
          skip
          refine s_iinc (lv' := [(0, _), (1, _), (2, _), (3, _), (4, _), (5, _), (6, _), (7, _), (8, _), (9, _), (10, _)]) d_Gl_becomePart_130 rfl (xinc _) (by decide) rfl ?_
          refine x_goto 11 d_Gl_becomePart_133 rfl ?_
          refine x_lv (lv' := [(0, _), (1, _), (2, _), (3, _), (4, _), (5, _), (6, _)]) [0, 1, 2, 3, 4, 5, 6] rfl ?_
          first
            | (simp only [glPart, hc98, if_true] at ih; exact ih)
            | (simp only [glPart, hc98, hc105, if_true, if_false] at ih; exact ih)
        · skip
          skip
          refine x_aload_n d_Gl_becomePart_108 rfl ?_
          refine x_iload d_Gl_becomePart_109 rfl ?_
          refine x_iload_n d_Gl_becomePart_111 rfl ?_
          refine x_isub d_Gl_becomePart_112 ?_
          refine x_iload d_Gl_becomePart_113 rfl ?_
          refine x_iload_n d_Gl_becomePart_115 rfl ?_
          refine x_isub d_Gl_becomePart_116 ?_
          refine x_iload d_Gl_becomePart_117 rfl ?_
          refine x_iload d_Gl_becomePart_119 rfl ?_
          refine x_isub d_Gl_becomePart_121 ?_
          refine x_iload d_Gl_becomePart_122 rfl ?_
          refine x_iload d_Gl_becomePart_124 rfl ?_
          refine x_isub d_Gl_becomePart_126 ?_
          refine w_callV (As := [_, _, _, _]) d_Gl_becomePart_127 k_Gl_47 (k_glass hb) rfl rfl rfl (c_Gl_addFlaw hG hb hf hf6) ?_
          refine s_iinc (lv' := [(0, _), (1, _), (2, _), (3, _), (4, _), (5, _), (6, _), (7, _), (8, _), (9, _), (10, _)]) d_Gl_becomePart_130 rfl (xinc _) (by decide) rfl ?_
          refine x_goto 11 d_Gl_becomePart_133 rfl ?_
          refine x_lv (lv' := [(0, _), (1, _), (2, _), (3, _), (4, _), (5, _), (6, _)]) [0, 1, 2, 3, 4, 5, 6] rfl ?_
          first
            | (simp only [glPart, hc98, if_true] at ih; exact ih)
            | (simp only [glPart, hc98, hc105, if_true, if_false] at ih; exact ih)
  refine x_lv (lv' := [(0, _), (1, _), (2, _), (3, _), (4, _), (5, _), (6, _)]) [0, 1, 2, 3, 4, 5, 6] rfl ?_
  exact L11 0 (Nat.zero_le _)
/-! Rack: g says which glass stands where -/
def rkOk (S : xS) (B : Nat) (g : Nat → Nat) : Prop := ∀ k, k < 10 → sR S 6 k = some (B + g k) ∧ isGlass (g k)
def rkSurf (S : xS) (g : Nat → Nat) : Nat → Int64
  | 0 => 0
  | k + 1 => rkSurf S g k + glSurf S (g k)
def rkFits (S : xS) (b : Nat) (w h : Int32) : Bool := !(decide (sF S b 4 < w) || decide (sF S b 5 < h))
def rkBest (S : xS) (g : Nat → Nat) (w h : Int32) : Nat → Option Nat
  | 0 => none
  | k + 1 => match rkBest S g w h k with
    | none => if (rkFits S (g k) w h || rkFits S (g k) h w) = true then some k else none
    | some j => if (rkFits S (g k) w h || rkFits S (g k) h w) = true ∧ ¬ 0 ≤ lg_cmp (glSurf S (g k)) (glSurf S (g j)) then some k else some j
theorem rkBest_lt {S : xS} {g : Nat → Nat} {w h : Int32} : ∀ {n j : Nat}, rkBest S g w h n = some j → j < n
  | 0, j, e => by cases e
  | n + 1, j, e => by
    unfold rkBest at e
    cases hq : rkBest S g w h n with
    | none =>
      rw [hq] at e
      simp only [] at e
      split at e
      · cases e; omega
      · cases e
    | some i =>
      rw [hq] at e
      simp only [] at e
      have := rkBest_lt hq
      split at e <;> cases e <;> omega
def rkShift (S : xS) (B : Nat) (g : Nat → Nat) (k : Nat) : Nat → xS
  | 0 => S
  | i + 1 => uR (rkShift S B g k i) 6 (k + i) (some (B + g (k + i + 1)))
def rkRem (S : xS) (B : Nat) (g : Nat → Nat) (k n : Nat) : xS := uR (uF (rkShift S B g k (n - 1 - k)) 5 1 (nI (n - 1))) 6 (n - 1) (some (B + g k))
theorem rkShift_R {S : xS} {B k : Nat} {g : Nat → Nat} : ∀ i q, k + i ≤ q → sR (rkShift S B g k i) 6 q = sR S 6 q
  | 0, q, _ => rfl
  | i + 1, q, h => by
    show sR (uR _ 6 (k + i) _) 6 q = _
    rw [sR_uR, va_up_ne _ _ (by omega)]
    exact rkShift_R i q (by omega)
theorem rkShift_F {S : xS} {B k : Nat} {g : Nat → Nat} : ∀ i, sF (rkShift S B g k i) = sF S
  | 0 => rfl
  | i + 1 => rkShift_F i
set_option maxRecDepth 100000 in
set_option maxHeartbeats 1000000 in
theorem c_Rk_has {G : xG} {B d : Nat} {S : xS} (hG : xOkG G) {n : Nat} (hn : sF S 5 1 = nI n) (h10 : n ≤ 10) {i : Int32} : EX G m_Rk_has d 0 [(0, .ref (B + 5)), (1, .int i)] [] (mk G B S) (xRet G B (some (.int (bI (decide (0 ≤ i) && decide (i < nI n))))) S) := by
  refine x_iload_n d_Rk_has_0 rfl ?_
  refine x_if_lt 16 d_Rk_has_1 rfl (fun hc1 => ?_) (fun hc1 => ?_)
  · skip
    skip
    refine x_iconst (v := nI 0) d_Rk_has_16 (by decide +kernel) ?_
    refine x_ireturn d_Rk_has_17 rfl (by decide +kernel) ?_
    refine ⟨?_, rfl⟩
    first
      | (rw [decide_eq_true (Int32.not_lt.mp hc1), decide_eq_true (Int32.not_le.mp hc9)]; rfl)
      | (rw [decide_eq_false (p := i < nI n) (Int32.not_lt.mpr hc9), Bool.and_false]; rfl)
      | (rw [decide_eq_false (p := 0 ≤ i) (Int32.not_le.mpr hc1), Bool.false_and]; rfl)
  · skip
    skip
    refine x_iload_n d_Rk_has_4 rfl ?_
    refine x_aload_n d_Rk_has_5 rfl ?_
    refine y_getf (v := .int (nI n)) d_Rk_has_6 gf_Rk_18 k_rack (congrArg (fun q => some (Value.int q)) hn) ?_
    refine x_icmp_ge 16 d_Rk_has_9 rfl (fun hc9 => ?_) (fun hc9 => ?_)
    · skip
      skip
      refine x_iconst (v := nI 0) d_Rk_has_16 (by decide +kernel) ?_
      refine x_ireturn d_Rk_has_17 rfl (by decide +kernel) ?_
      refine ⟨?_, rfl⟩
      first
        | (rw [decide_eq_true (Int32.not_lt.mp hc1), decide_eq_true (Int32.not_le.mp hc9)]; rfl)
        | (rw [decide_eq_false (p := i < nI n) (Int32.not_lt.mpr hc9), Bool.and_false]; rfl)
        | (rw [decide_eq_false (p := 0 ≤ i) (Int32.not_le.mpr hc1), Bool.false_and]; rfl)
    · skip
      skip
      refine x_iconst (v := nI 1) d_Rk_has_12 (by decide +kernel) ?_
      refine x_goto 17 d_Rk_has_13 rfl ?_
      refine x_ireturn d_Rk_has_17 rfl (by decide +kernel) ?_
      refine ⟨?_, rfl⟩
      first
        | (rw [decide_eq_true (Int32.not_lt.mp hc1), decide_eq_true (Int32.not_le.mp hc9)]; rfl)
        | (rw [decide_eq_false (p := i < nI n) (Int32.not_lt.mpr hc9), Bool.and_false]; rfl)
        | (rw [decide_eq_false (p := 0 ≤ i) (Int32.not_le.mpr hc1), Bool.false_and]; rfl)
set_option maxRecDepth 100000 in
set_option maxHeartbeats 1000000 in
theorem c_Rk_surface {G : xG} {B d : Nat} {S : xS} (hG : xOkG G) {n : Nat} (hn : sF S 5 1 = nI n) (h10 : n ≤ 10) {g : Nat → Nat} (hr : rkOk S B g) : EX G m_Rk_surface (d + 1) 0 [(0, .ref (B + 5))] [] (mk G B S) ((xRet G B (some (.long (rkSurf S g n))) S)) := by
  refine x_lconst (v := 0) d_Rk_surface_0 (by decide +kernel) ?_
  refine s_lstore_n (lv' := [(0, _), (1, _)]) d_Rk_surface_1 (by decide) rfl ?_
  refine x_iconst (v := nI 0) d_Rk_surface_2 (by decide +kernel) ?_
  refine s_istore_n (lv' := [(0, _), (1, _), (3, _)]) d_Rk_surface_3 (by decide) rfl ?_
  have L4 : ∀ i, i ≤ n →  EX G m_Rk_surface (d + 1) 4 [(0, .ref (B + 5)), (1, .long (rkSurf S g i)), (3, .int (nI i))] [] (mk G B S) (xRet G B (some (.long (rkSurf S g n))) S) := by
    refine x_down (n) ?_ ?_
    · skip
      skip
      refine x_iload_n d_Rk_surface_4 rfl ?_
      refine x_aload_n d_Rk_surface_5 rfl ?_
      refine y_getf (v := .int (nI n)) d_Rk_surface_6 gf_Rk_18 k_rack (congrArg (fun q => some (Value.int q)) hn) ?_
      refine z_icmp_ge 30 d_Rk_surface_9 rfl (by omega) (by omega) (fun hc9 => ?_) (fun q => absurd q (by omega))
      refine x_lload_n d_Rk_surface_30 rfl ?_
      refine x_lreturn d_Rk_surface_31 rfl ?_
      exact ⟨rfl, rfl⟩
    · intro i hi ih
      refine x_iload_n d_Rk_surface_4 rfl ?_
      refine x_aload_n d_Rk_surface_5 rfl ?_
      refine y_getf (v := .int (nI n)) d_Rk_surface_6 gf_Rk_18 k_rack (congrArg (fun q => some (Value.int q)) hn) ?_
      refine z_icmp_ge 30 d_Rk_surface_9 rfl (by omega) (by omega) (fun q => absurd q (by omega)) (fun hc9 => ?_)
      refine x_lload_n d_Rk_surface_12 rfl ?_
      refine x_aload_n d_Rk_surface_13 rfl ?_
      refine y_getf d_Rk_surface_14 gf_Rk_11 k_rack rfl ?_
      refine x_iload_n d_Rk_surface_17 rfl ?_
      refine y_aald hG d_Rk_surface_18 k_rows rfl _ rfl (by omega) ?_
      rw [(hr i (by omega)).1]
      refine w_callV (As := []) d_Rk_surface_19 k_Rk_36 (k_glass (hr i (by omega)).2) rfl rfl rfl (c_Gl_surface hG (hr i (by omega)).2) ?_
      refine x_ladd d_Rk_surface_22 ?_
      refine s_lstore_n (lv' := [(0, _), (1, _), (3, _)]) d_Rk_surface_23 (by decide) rfl ?_
      refine s_iinc (lv' := [(0, _), (1, _), (3, _)]) d_Rk_surface_24 rfl (xinc _) (by decide) rfl ?_
      refine x_goto 4 d_Rk_surface_27 rfl ?_
      refine x_lv (lv' := [(0, _), (1, _), (3, _)]) [0, 1, 3] rfl ?_
      exact ih
  refine x_lv (lv' := [(0, _), (1, _), (3, _)]) [0, 1, 3] rfl ?_
  exact L4 0 (Nat.zero_le _)
