theorem cI_m1 {q : Option Nat} (h : ∀ j, q = some j → j < 2 ^ 31) : cI q = -1 ↔ q = none := by
  cases q with
  | none => exact ⟨fun _ => rfl, fun _ => rfl⟩
  | some j =>
    constructor
    · intro e
      have hj := h j rfl
      have : (nI j).toInt = (-1 : Int32).toInt := congrArg Int32.toInt e
      rw [nI_toInt hj] at this
      exact absurd this (by have : (-1 : Int32).toInt = -1 := by decide +kernel
                            omega)
    · intro e; cases e
theorem hasN {k n : Nat} (hk : k < 2 ^ 31) (hn : n < 2 ^ 31) : (decide (0 ≤ nI k) && decide (nI k < nI n)) = decide (k < n) := by
  rw [decide_eq_true (nI_pos' hk), Bool.true_and]
  by_cases h : k < n
  · rw [decide_eq_true h, decide_eq_true ((nI_ltI hk hn).mpr h)]
  · rw [decide_eq_false h, decide_eq_false (fun q => h ((nI_ltI hk hn).mp q))]
theorem rkBest_no {S : xS} {g : Nat → Nat} {w h : Int32} {n : Nat} (hf : (rkFits S (g n) w h || rkFits S (g n) h w) = false) : rkBest S g w h (n + 1) = rkBest S g w h n := by
  simp only [rkBest]
  cases rkBest S g w h n <;> simp [hf]
theorem rkBest_first {S : xS} {g : Nat → Nat} {w h : Int32} {n : Nat} (hf : (rkFits S (g n) w h || rkFits S (g n) h w) = true) (h0 : rkBest S g w h n = none) : rkBest S g w h (n + 1) = some n := by
  simp only [rkBest, h0, hf, if_true]
theorem rkBest_keep {S : xS} {g : Nat → Nat} {w h : Int32} {n j : Nat} (h0 : rkBest S g w h n = some j) (hl : 0 ≤ lg_cmp (glSurf S (g n)) (glSurf S (g j))) : rkBest S g w h (n + 1) = rkBest S g w h n := by
  simp only [rkBest, h0, hl, not_true_eq_false, and_false, if_false]
theorem rkBest_less {S : xS} {g : Nat → Nat} {w h : Int32} {n j : Nat} (hf : (rkFits S (g n) w h || rkFits S (g n) h w) = true) (h0 : rkBest S g w h n = some j) (hl : ¬ 0 ≤ lg_cmp (glSurf S (g n)) (glSurf S (g j))) : rkBest S g w h (n + 1) = some n := by
  simp only [rkBest, h0, hf, hl, not_false_eq_true, and_self, if_true]
set_option maxRecDepth 100000 in
set_option maxHeartbeats 1000000 in
theorem c_Rk_smallestFor {G : xG} {B d : Nat} {S : xS} (hG : xOkG G) {n : Nat} (hn : sF S 5 1 = nI n) (h10 : n ≤ 10) {g : Nat → Nat} (hr : rkOk S B g) {w h : Int32} : EX G m_Rk_smallestFor (d + 1) 0 [(0, .ref (B + 5)), (1, .int w), (2, .int h)] [] (mk G B S) ((xRet G B (some (.int (cI (rkBest S g w h n)))) S)) := by
  refine x_iconst (v := -1) d_Rk_smallestFor_0 (by decide +kernel) ?_
  refine s_istore_n (lv' := [(0, _), (1, _), (2, _), (3, _)]) d_Rk_smallestFor_1 (by decide) rfl ?_
  refine x_iconst (v := nI 0) d_Rk_smallestFor_2 (by decide +kernel) ?_
  refine s_istore (lv' := [(0, _), (1, _), (2, _), (3, _), (4, _)]) d_Rk_smallestFor_3 (by decide) rfl ?_
  have L5 : ∀ i, i ≤ n →  EX G m_Rk_smallestFor (d + 1) 5 [(0, .ref (B + 5)), (1, .int w), (2, .int h), (3, .int (cI (rkBest S g w h i))), (4, .int (nI i))] [] (mk G B S) (xRet G B (some (.int (cI (rkBest S g w h n)))) S) := by
    refine x_down (n) ?_ ?_
    · skip
      skip
      refine x_iload d_Rk_smallestFor_5 rfl ?_
      refine x_aload_n d_Rk_smallestFor_7 rfl ?_
      refine y_getf (v := .int (nI n)) d_Rk_smallestFor_8 gf_Rk_18 k_rack (congrArg (fun q => some (Value.int q)) hn) ?_
      refine z_icmp_ge 115 d_Rk_smallestFor_11 rfl (by omega) (by omega) (fun hc11 => ?_) (fun q => absurd q (by omega))
      refine x_iload_n d_Rk_smallestFor_115 rfl ?_
      refine x_ireturn d_Rk_smallestFor_116 rfl rfl ?_
      exact ⟨rfl, rfl⟩
    · intro i hi ih
      refine x_iload d_Rk_smallestFor_5 rfl ?_
      refine x_aload_n d_Rk_smallestFor_7 rfl ?_
      refine y_getf (v := .int (nI n)) d_Rk_smallestFor_8 gf_Rk_18 k_rack (congrArg (fun q => some (Value.int q)) hn) ?_
      refine z_icmp_ge 115 d_Rk_smallestFor_11 rfl (by omega) (by omega) (fun q => absurd q (by omega)) (fun hc11 => ?_)
      refine x_aload_n d_Rk_smallestFor_14 rfl ?_
      refine y_getf d_Rk_smallestFor_15 gf_Rk_11 k_rack rfl ?_
      refine x_iload d_Rk_smallestFor_18 rfl ?_
      refine y_aald hG d_Rk_smallestFor_20 k_rows rfl _ rfl (by omega) ?_
      rw [(hr i (by omega)).1]
      refine s_astore (lv' := [(0, _), (1, _), (2, _), (3, _), (4, _), (5, _)]) d_Rk_smallestFor_21 (by decide) rfl ?_
      refine x_join 46 (.int (bI (rkFits S (g i) w h))) ?_ (fun J23 => ?_)
      · skip
        refine s_istore (lv' := [(0, _), (1, _), (2, _), (3, _), (4, _), (5, _), (6, _)]) d_Rk_smallestFor_46 (by decide) rfl ?_
        refine x_join 71 (.int (bI (rkFits S (g i) h w))) ?_ (fun J48 => ?_)
        · skip
          refine s_istore (lv' := [(0, _), (1, _), (2, _), (3, _), (4, _), (5, _), (6, _), (7, _)]) d_Rk_smallestFor_71 (by decide) rfl ?_
          refine x_iload d_Rk_smallestFor_73 rfl ?_
          refine z_bif_ne 83 d_Rk_smallestFor_75 rfl (fun hc75 => ?_) (fun hc75 => ?_)
          · skip
            skip
            refine x_iload_n d_Rk_smallestFor_83 rfl ?_
            refine x_iconst (v := -1) d_Rk_smallestFor_84 (by decide +kernel) ?_
            refine x_icmp_eq 106 d_Rk_smallestFor_85 rfl (fun hc85 => ?_) (fun hc85 => ?_)
            · skip
              have hj : rkBest S g w h i = none := (cI_m1 (fun j e => by have := rkBest_lt e; omega)).mp hc85
              refine x_iload d_Rk_smallestFor_106 rfl ?_
              refine s_istore_n (lv' := [(0, _), (1, _), (2, _), (3, _), (4, _), (5, _), (6, _), (7, _)]) d_Rk_smallestFor_108 (by decide) rfl ?_
              refine s_iinc (lv' := [(0, _), (1, _), (2, _), (3, _), (4, _), (5, _), (6, _), (7, _)]) d_Rk_smallestFor_109 rfl (xinc _) (by decide) rfl ?_
              refine x_goto 5 d_Rk_smallestFor_112 rfl ?_
              refine x_lv (lv' := [(0, _), (1, _), (2, _), (3, _), (4, _)]) [0, 1, 2, 3, 4] rfl ?_
              first
                | (rw [rkBest_keep hj hc103] at ih; exact ih)
                | (rw [rkBest_less (by simp [*]) hj hc103] at ih; exact ih)
                | (rw [rkBest_first (by simp [*]) hj] at ih; exact ih)
                | (rw [rkBest_no (by simp [hc75, hc80])] at ih; exact ih)
            · skip
              obtain ⟨j, hj⟩ : ∃ j, rkBest S g w h i = some j := by
                cases hq : rkBest S g w h i with
                | none => exact absurd (by rw [hq]; rfl) hc85
                | some j => exact ⟨j, rfl⟩
              have hjn := rkBest_lt hj
              refine x_aload d_Rk_smallestFor_88 rfl ?_
              refine w_callV (As := []) d_Rk_smallestFor_90 k_Rk_36 (k_glass (hr i (by omega)).2) rfl rfl rfl (c_Gl_surface hG (hr i (by omega)).2) ?_
              refine x_aload_n d_Rk_smallestFor_93 rfl ?_
              refine y_getf d_Rk_smallestFor_94 gf_Rk_11 k_rack rfl ?_
              refine x_iload_n d_Rk_smallestFor_97 rfl ?_
              refine y_aald hG d_Rk_smallestFor_98 k_rows rfl j (by rw [hj]; rfl) (by omega) ?_
              rw [(hr j (by omega)).1]
              refine w_callV (As := []) d_Rk_smallestFor_99 k_Rk_36 (k_glass (hr j (by omega)).2) rfl rfl rfl (c_Gl_surface hG (hr j (by omega)).2) ?_
              refine x_lcmp d_Rk_smallestFor_102 ?_
              refine x_if_ge 109 d_Rk_smallestFor_103 rfl (fun hc103 => ?_) (fun hc103 => ?_)
              · skip
                skip
                refine s_iinc (lv' := [(0, _), (1, _), (2, _), (3, _), (4, _), (5, _), (6, _), (7, _)]) d_Rk_smallestFor_109 rfl (xinc _) (by decide) rfl ?_
                refine x_goto 5 d_Rk_smallestFor_112 rfl ?_
                refine x_lv (lv' := [(0, _), (1, _), (2, _), (3, _), (4, _)]) [0, 1, 2, 3, 4] rfl ?_
                first
                  | (rw [rkBest_keep hj hc103] at ih; exact ih)
                  | (rw [rkBest_less (by simp [*]) hj hc103] at ih; exact ih)
                  | (rw [rkBest_first (by simp [*]) hj] at ih; exact ih)
                  | (rw [rkBest_no (by simp [hc75, hc80])] at ih; exact ih)
              · skip
                skip
                refine x_iload d_Rk_smallestFor_106 rfl ?_
                refine s_istore_n (lv' := [(0, _), (1, _), (2, _), (3, _), (4, _), (5, _), (6, _), (7, _)]) d_Rk_smallestFor_108 (by decide) rfl ?_
                refine s_iinc (lv' := [(0, _), (1, _), (2, _), (3, _), (4, _), (5, _), (6, _), (7, _)]) d_Rk_smallestFor_109 rfl (xinc _) (by decide) rfl ?_
                refine x_goto 5 d_Rk_smallestFor_112 rfl ?_
                refine x_lv (lv' := [(0, _), (1, _), (2, _), (3, _), (4, _)]) [0, 1, 2, 3, 4] rfl ?_
                first
                  | (rw [rkBest_keep hj hc103] at ih; exact ih)
                  | (rw [rkBest_less (by simp [*]) hj hc103] at ih; exact ih)
                  | (rw [rkBest_first (by simp [*]) hj] at ih; exact ih)
                  | (rw [rkBest_no (by simp [hc75, hc80])] at ih; exact ih)
          · skip
            skip
            refine x_iload d_Rk_smallestFor_78 rfl ?_
            refine z_bif_eq 109 d_Rk_smallestFor_80 rfl (fun hc80 => ?_) (fun hc80 => ?_)
            · skip
              skip
              refine s_iinc (lv' := [(0, _), (1, _), (2, _), (3, _), (4, _), (5, _), (6, _), (7, _)]) d_Rk_smallestFor_109 rfl (xinc _) (by decide) rfl ?_
              refine x_goto 5 d_Rk_smallestFor_112 rfl ?_
              refine x_lv (lv' := [(0, _), (1, _), (2, _), (3, _), (4, _)]) [0, 1, 2, 3, 4] rfl ?_
              first
                | (rw [rkBest_keep hj hc103] at ih; exact ih)
                | (rw [rkBest_less (by simp [*]) hj hc103] at ih; exact ih)
                | (rw [rkBest_first (by simp [*]) hj] at ih; exact ih)
                | (rw [rkBest_no (by simp [hc75, hc80])] at ih; exact ih)
            · skip
              skip
              refine x_iload_n d_Rk_smallestFor_83 rfl ?_
              refine x_iconst (v := -1) d_Rk_smallestFor_84 (by decide +kernel) ?_
              refine x_icmp_eq 106 d_Rk_smallestFor_85 rfl (fun hc85 => ?_) (fun hc85 => ?_)
              · skip
                have hj : rkBest S g w h i = none := (cI_m1 (fun j e => by have := rkBest_lt e; omega)).mp hc85
                refine x_iload d_Rk_smallestFor_106 rfl ?_
                refine s_istore_n (lv' := [(0, _), (1, _), (2, _), (3, _), (4, _), (5, _), (6, _), (7, _)]) d_Rk_smallestFor_108 (by decide) rfl ?_
                refine s_iinc (lv' := [(0, _), (1, _), (2, _), (3, _), (4, _), (5, _), (6, _), (7, _)]) d_Rk_smallestFor_109 rfl (xinc _) (by decide) rfl ?_
                refine x_goto 5 d_Rk_smallestFor_112 rfl ?_
                refine x_lv (lv' := [(0, _), (1, _), (2, _), (3, _), (4, _)]) [0, 1, 2, 3, 4] rfl ?_
                first
                  | (rw [rkBest_keep hj hc103] at ih; exact ih)
                  | (rw [rkBest_less (by simp [*]) hj hc103] at ih; exact ih)
                  | (rw [rkBest_first (by simp [*]) hj] at ih; exact ih)
                  | (rw [rkBest_no (by simp [hc75, hc80])] at ih; exact ih)
              · skip
                obtain ⟨j, hj⟩ : ∃ j, rkBest S g w h i = some j := by
                  cases hq : rkBest S g w h i with
                  | none => exact absurd (by rw [hq]; rfl) hc85
                  | some j => exact ⟨j, rfl⟩
                have hjn := rkBest_lt hj
                refine x_aload d_Rk_smallestFor_88 rfl ?_
                refine w_callV (As := []) d_Rk_smallestFor_90 k_Rk_36 (k_glass (hr i (by omega)).2) rfl rfl rfl (c_Gl_surface hG (hr i (by omega)).2) ?_
                refine x_aload_n d_Rk_smallestFor_93 rfl ?_
                refine y_getf d_Rk_smallestFor_94 gf_Rk_11 k_rack rfl ?_
                refine x_iload_n d_Rk_smallestFor_97 rfl ?_
                refine y_aald hG d_Rk_smallestFor_98 k_rows rfl j (by rw [hj]; rfl) (by omega) ?_
                rw [(hr j (by omega)).1]
                refine w_callV (As := []) d_Rk_smallestFor_99 k_Rk_36 (k_glass (hr j (by omega)).2) rfl rfl rfl (c_Gl_surface hG (hr j (by omega)).2) ?_
                refine x_lcmp d_Rk_smallestFor_102 ?_
                refine x_if_ge 109 d_Rk_smallestFor_103 rfl (fun hc103 => ?_) (fun hc103 => ?_)
                · skip
                  skip
                  refine s_iinc (lv' := [(0, _), (1, _), (2, _), (3, _), (4, _), (5, _), (6, _), (7, _)]) d_Rk_smallestFor_109 rfl (xinc _) (by decide) rfl ?_
                  refine x_goto 5 d_Rk_smallestFor_112 rfl ?_
                  refine x_lv (lv' := [(0, _), (1, _), (2, _), (3, _), (4, _)]) [0, 1, 2, 3, 4] rfl ?_
                  first
                    | (rw [rkBest_keep hj hc103] at ih; exact ih)
                    | (rw [rkBest_less (by simp [*]) hj hc103] at ih; exact ih)
                    | (rw [rkBest_first (by simp [*]) hj] at ih; exact ih)
                    | (rw [rkBest_no (by simp [hc75, hc80])] at ih; exact ih)
                · skip
                  skip
                  refine x_iload d_Rk_smallestFor_106 rfl ?_
                  refine s_istore_n (lv' := [(0, _), (1, _), (2, _), (3, _), (4, _), (5, _), (6, _), (7, _)]) d_Rk_smallestFor_108 (by decide) rfl ?_
                  refine s_iinc (lv' := [(0, _), (1, _), (2, _), (3, _), (4, _), (5, _), (6, _), (7, _)]) d_Rk_smallestFor_109 rfl (xinc _) (by decide) rfl ?_
                  refine x_goto 5 d_Rk_smallestFor_112 rfl ?_
                  refine x_lv (lv' := [(0, _), (1, _), (2, _), (3, _), (4, _)]) [0, 1, 2, 3, 4] rfl ?_
                  first
                    | (rw [rkBest_keep hj hc103] at ih; exact ih)
                    | (rw [rkBest_less (by simp [*]) hj hc103] at ih; exact ih)
                    | (rw [rkBest_first (by simp [*]) hj] at ih; exact ih)
                    | (rw [rkBest_no (by simp [hc75, hc80])] at ih; exact ih)
        · skip
          refine x_aload d_Rk_smallestFor_48 rfl ?_
          refine y_getf d_Rk_smallestFor_50 gf_Rk_30 (k_glass (hr i (by omega)).2) rfl ?_
          refine x_iload_n d_Rk_smallestFor_53 rfl ?_
          refine x_icmp_lt 70 d_Rk_smallestFor_54 rfl (fun hc54 => ?_) (fun hc54 => ?_)
          · skip
            skip
            refine x_iconst (v := nI 0) d_Rk_smallestFor_70 (by decide +kernel) ?_
            exact J48 _ (by simp [rkFits, bI, *])
          · skip
            skip
            refine x_aload d_Rk_smallestFor_57 rfl ?_
            refine y_getf d_Rk_smallestFor_59 gf_Rk_33 (k_glass (hr i (by omega)).2) rfl ?_
            refine x_iload_n d_Rk_smallestFor_62 rfl ?_
            refine x_icmp_lt 70 d_Rk_smallestFor_63 rfl (fun hc63 => ?_) (fun hc63 => ?_)
            · skip
              skip
              refine x_iconst (v := nI 0) d_Rk_smallestFor_70 (by decide +kernel) ?_
              exact J48 _ (by simp [rkFits, bI, *])
            · skip
              skip
              refine x_iconst (v := nI 1) d_Rk_smallestFor_66 (by decide +kernel) ?_
              refine x_goto 71 d_Rk_smallestFor_67 rfl ?_
              exact J48 _ (by simp [rkFits, bI, *])
      · skip
        refine x_aload d_Rk_smallestFor_23 rfl ?_
        refine y_getf d_Rk_smallestFor_25 gf_Rk_30 (k_glass (hr i (by omega)).2) rfl ?_
        refine x_iload_n d_Rk_smallestFor_28 rfl ?_
        refine x_icmp_lt 45 d_Rk_smallestFor_29 rfl (fun hc29 => ?_) (fun hc29 => ?_)
        · skip
          skip
          refine x_iconst (v := nI 0) d_Rk_smallestFor_45 (by decide +kernel) ?_
          exact J23 _ (by simp [rkFits, bI, *])
        · skip
          skip
          refine x_aload d_Rk_smallestFor_32 rfl ?_
          refine y_getf d_Rk_smallestFor_34 gf_Rk_33 (k_glass (hr i (by omega)).2) rfl ?_
          refine x_iload_n d_Rk_smallestFor_37 rfl ?_
          refine x_icmp_lt 45 d_Rk_smallestFor_38 rfl (fun hc38 => ?_) (fun hc38 => ?_)
          · skip
            skip
            refine x_iconst (v := nI 0) d_Rk_smallestFor_45 (by decide +kernel) ?_
            exact J23 _ (by simp [rkFits, bI, *])
          · skip
            skip
            refine x_iconst (v := nI 1) d_Rk_smallestFor_41 (by decide +kernel) ?_
            refine x_goto 46 d_Rk_smallestFor_42 rfl ?_
            exact J23 _ (by simp [rkFits, bI, *])
  refine x_lv (lv' := [(0, _), (1, _), (2, _), (3, _), (4, _)]) [0, 1, 2, 3, 4] rfl ?_
  exact L5 0 (Nat.zero_le _)
theorem xDyn_E {B a : Nat} {S S' : xS} {D : Nat → Int32} (h : xDyn B S a D) (e : sE S' = sE S) : xDyn B S' a D := ⟨h.1, by rw [e]; exact h.2⟩
theorem xdec {n i : Nat} (h : i < n) : nI (n - i) + Int32.ofInt (-1) = nI (n - (i + 1)) := by
  rw [show n - i = (n - (i + 1)) + 1 by omega]
  exact pk_m1 _
def rkAdd (S : xS) (g : Nat → Nat) (n a m : Nat) (x y w h : Int32) : xS := uF (glPart S (g n) a x y w h m).1 5 1 (nI (n + 1))
set_option maxRecDepth 100000 in
set_option maxHeartbeats 1000000 in
theorem c_Rk_addPart {G : xG} {B d : Nat} {S : xS} (hG : xOkG G) {n : Nat} (hn : sF S 5 1 = nI n) (h10 : n < 10) {g : Nat → Nat} (hr : rkOk S B g) {a m : Nat} (ha : isGlass a) (hab : a < g n ∨ g n + 5 ≤ a) (hm : sF S a 6 = nI m) (h6 : m ≤ 6) {x y w h : Int32} : EX G m_Rk_addPart (d + 2) 0 [(0, .ref (B + 5)), (1, .ref (B + a)), (2, .int x), (3, .int y), (4, .int w), (5, .int h)] [] (mk G B S) (xRet G B none (rkAdd S g n a m x y w h)) := by
  refine x_aload_n d_Rk_addPart_0 rfl ?_
  refine y_getf (v := .int (nI n)) d_Rk_addPart_1 gf_Rk_18 k_rack (congrArg (fun q => some (Value.int q)) hn) ?_
  refine x_bipush (v := nI 10) d_Rk_addPart_4 (by decide +kernel) ?_
  refine z_icmp_ge 38 d_Rk_addPart_6 rfl (by omega) (by omega) (fun q => absurd q (by omega)) (fun hc6 => ?_)
  refine x_aload_n d_Rk_addPart_9 rfl ?_
  refine y_getf d_Rk_addPart_10 gf_Rk_11 k_rack rfl ?_
  refine x_aload_n d_Rk_addPart_13 rfl ?_
  refine y_getf (v := .int (nI n)) d_Rk_addPart_14 gf_Rk_18 k_rack (congrArg (fun q => some (Value.int q)) hn) ?_
  refine y_aald hG d_Rk_addPart_17 k_rows rfl _ rfl (by omega) ?_
  rw [(hr n (by omega)).1]
  refine x_aload_n d_Rk_addPart_18 rfl ?_
  refine x_iload_n d_Rk_addPart_19 rfl ?_
  refine x_iload_n d_Rk_addPart_20 rfl ?_
  refine x_iload d_Rk_addPart_21 rfl ?_
  refine x_iload d_Rk_addPart_23 rfl ?_
  refine w_callV (As := [_, _, _, _, _]) d_Rk_addPart_25 k_Rk_22 (k_glass (hr n (by omega)).2) rfl rfl rfl (c_Gl_becomePart hG (hr n (by omega)).2 ha hab hm h6) ?_
  refine x_aload_n d_Rk_addPart_28 rfl ?_
  refine x_dup d_Rk_addPart_29 rfl ?_
  refine y_getf (v := .int (nI n)) d_Rk_addPart_30 gf_Rk_18 k_rack (congrArg (fun q => some (Value.int q)) ((congrFun ((glPart_ok m).1.1 5 (Or.inl (by have := (hr n (by omega)).2; rcases this with ⟨j, hj, e⟩ | ⟨k, hk, e⟩ <;> omega))).1 1).trans hn)) ?_
  refine x_iconst (v := nI 1) d_Rk_addPart_33 (by decide +kernel) ?_
  refine x_iadd d_Rk_addPart_34 ?_
  rw [nI_add]
  refine y_puti d_Rk_addPart_35 pf_Rk_18 k_rack (xBle rfl) rfl rfl rfl ?_
  refine x_return d_Rk_addPart_38 rfl ?_
  exact ⟨rfl, rfl⟩
set_option maxRecDepth 100000 in
set_option maxHeartbeats 1000000 in
theorem c_Rk_remove {G : xG} {B d : Nat} {S : xS} (hG : xOkG G) {n : Nat} (hn : sF S 5 1 = nI n) (h10 : n ≤ 10) {g : Nat → Nat} (hr : rkOk S B g) {k : Nat} (hk : k < n) : EX G m_Rk_remove (d + 1) 0 [(0, .ref (B + 5)), (1, .int (nI k))] [] (mk G B S) ((xRet G B none (rkRem S B g k n))) := by
  refine x_aload_n d_Rk_remove_0 rfl ?_
  refine x_iload_n d_Rk_remove_1 rfl ?_
  refine w_callV (As := [_]) d_Rk_remove_2 k_Rk_26 k_rack rfl rfl rfl (c_Rk_has hG hn h10) ?_
  rw [hasN (by omega) (by omega)]
  refine z_bif_ne 9 d_Rk_remove_5 rfl (fun hc5 => ?_) (fun q => absurd q (by simp [hk]))
  refine x_aload_n d_Rk_remove_9 rfl ?_
  refine y_getf d_Rk_remove_10 gf_Rk_11 k_rack rfl ?_
  refine x_iload_n d_Rk_remove_13 rfl ?_
  refine y_aald hG d_Rk_remove_14 k_rows rfl _ rfl (by omega) ?_
  rw [(hr k (by omega)).1]
  refine s_astore_n (lv' := [(0, _), (1, _), (2, _)]) d_Rk_remove_15 (by decide) rfl ?_
  refine x_iload_n d_Rk_remove_16 rfl ?_
  refine s_istore_n (lv' := [(0, _), (1, _), (2, _), (3, _)]) d_Rk_remove_17 (by decide) rfl ?_
  have L18 : ∀ i, i ≤ (n - 1 - k) →  EX G m_Rk_remove (d + 1) 18 [(0, .ref (B + 5)), (1, .int (nI k)), (2, .ref (B + g k)), (3, .int (nI (k + i)))] [] (mk G B (rkShift S B g k i)) (xRet G B none (rkRem S B g k n)) := by
    refine x_down ((n - 1 - k)) ?_ ?_
    · skip
      skip
      refine x_iload_n d_Rk_remove_18 rfl ?_
      refine x_iconst (v := nI 1) d_Rk_remove_19 (by decide +kernel) ?_
      refine x_iadd d_Rk_remove_20 ?_
      rw [nI_add]
      refine x_aload_n d_Rk_remove_21 rfl ?_
      refine y_getf (v := .int (nI n)) d_Rk_remove_22 gf_Rk_18 k_rack (congrArg (fun q => some (Value.int q)) ((congrFun (congrFun (rkShift_F _) 5) 1).trans hn)) ?_
      refine z_icmp_ge 48 d_Rk_remove_25 rfl (by omega) (by omega) (fun hc25 => ?_) (fun q => absurd q (by omega))
      refine x_aload_n d_Rk_remove_48 rfl ?_
      refine x_dup d_Rk_remove_49 rfl ?_
      refine y_getf (v := .int (nI n)) d_Rk_remove_50 gf_Rk_18 k_rack (congrArg (fun q => some (Value.int q)) ((congrFun (congrFun (rkShift_F _) 5) 1).trans hn)) ?_
      refine x_iconst (v := nI 1) d_Rk_remove_53 (by decide +kernel) ?_
      refine x_isub d_Rk_remove_54 ?_
      rw [pk_sub (by omega)]
      refine y_puti d_Rk_remove_55 pf_Rk_18 k_rack (xBle rfl) rfl rfl rfl ?_
      refine x_aload_n d_Rk_remove_58 rfl ?_
      refine y_getf d_Rk_remove_59 gf_Rk_11 k_rack rfl ?_
      refine x_aload_n d_Rk_remove_62 rfl ?_
      refine y_getf (v := .int (nI (n - 1))) d_Rk_remove_63 gf_Rk_18 k_rack (congrArg (fun q => some (Value.int q)) (show sF (uF _ 5 1 (nI (n - 1))) 5 1 = nI (n - 1) by rw [sF_uF]; exact va_up_self _ _ _)) ?_
      refine x_aload_n d_Rk_remove_66 rfl ?_
      refine y_aast hG d_Rk_remove_67 k_rows rfl (k_glass (hr k (by omega)).2) rfl _ rfl (by omega) ?_
      refine x_return d_Rk_remove_68 rfl ?_
      exact ⟨rfl, rfl⟩
    · intro i hi ih
      refine x_iload_n d_Rk_remove_18 rfl ?_
      refine x_iconst (v := nI 1) d_Rk_remove_19 (by decide +kernel) ?_
      refine x_iadd d_Rk_remove_20 ?_
      rw [nI_add]
      refine x_aload_n d_Rk_remove_21 rfl ?_
      refine y_getf (v := .int (nI n)) d_Rk_remove_22 gf_Rk_18 k_rack (congrArg (fun q => some (Value.int q)) ((congrFun (congrFun (rkShift_F _) 5) 1).trans hn)) ?_
      refine z_icmp_ge 48 d_Rk_remove_25 rfl (by omega) (by omega) (fun q => absurd q (by omega)) (fun hc25 => ?_)
      refine x_aload_n d_Rk_remove_28 rfl ?_
      refine y_getf d_Rk_remove_29 gf_Rk_11 k_rack rfl ?_
      refine x_iload_n d_Rk_remove_32 rfl ?_
      refine x_aload_n d_Rk_remove_33 rfl ?_
      refine y_getf d_Rk_remove_34 gf_Rk_11 k_rack rfl ?_
      refine x_iload_n d_Rk_remove_37 rfl ?_
      refine x_iconst (v := nI 1) d_Rk_remove_38 (by decide +kernel) ?_
      refine x_iadd d_Rk_remove_39 ?_
      rw [nI_add]
      refine y_aald hG d_Rk_remove_40 k_rows rfl _ rfl (by omega) ?_
      rw [rkShift_R i (k + i + 1) (by omega), (hr (k + i + 1) (by omega)).1]
      refine y_aast hG d_Rk_remove_41 k_rows rfl (k_glass (hr (k + i + 1) (by omega)).2) rfl _ rfl (by omega) ?_
      refine s_iinc (lv' := [(0, _), (1, _), (2, _), (3, _)]) d_Rk_remove_42 rfl (xinc _) (by decide) rfl ?_
      refine x_goto 18 d_Rk_remove_45 rfl ?_
      refine x_lv (lv' := [(0, _), (1, _), (2, _), (3, _)]) [0, 1, 2, 3] rfl ?_
      exact ih
  refine x_lv (lv' := [(0, _), (1, _), (2, _), (3, _)]) [0, 1, 2, 3] rfl ?_
  exact L18 0 (Nat.zero_le _)
/-! orders: D k: wide, high, turns, open, planned, done -/
def bkOk (S : xS) (B n : Nat) (oa : Nat → Nat) (D : Nat → Nat → Int32) : Prop := ∀ k, k < n → sR S 3 k = some (oa k) ∧ xDyn B S (oa k) (D k)
def goB (D E : Nat → Int32) : Bool := if D 1 = E 1 then !decide (D 0 ≤ E 0) else !decide (D 1 ≤ E 1)
def bkMove (S : xS) (a : Nat) (D : Nat → Int32) (i j : Nat) : xS := uE S a (eO (va_up (va_up D i (D i - nI 1)) j (D j + nI 1)))
def bkPos (f : Nat → Bool) : Nat → Nat
  | 0 => 0
  | r + 1 => if f r = true then bkPos f r else r + 1
theorem bkPos_of {f : Nat → Bool} {r : Nat} : ∀ {n : Nat}, r ≤ n → (∀ q, r ≤ q → q < n → f q = true) → (r = 0 ∨ f (r - 1) = false) → bkPos f n = r
  | 0, h, _, _ => by unfold bkPos; omega
  | n + 1, h, h1, h2 => by
    unfold bkPos
    by_cases hr : r = n + 1
    · subst hr
      rcases h2 with h2 | h2
      · omega
      · rw [Nat.add_sub_cancel] at h2
        simp [h2]
    · rw [if_pos (h1 n (by omega) (by omega))]
      exact bkPos_of (by omega) (fun q a b => h1 q a (by omega)) h2
def bkSh (S : xS) (rk : Nat → Nat) (n : Nat) : Nat → xS
  | 0 => S
  | c + 1 => uA (bkSh S rk n c) 4 (n - c) (nI (rk (n - c - 1)))
def bkIns (S : xS) (rk : Nat → Nat) (n c a : Nat) : xS := uF (uR (uA (bkSh S rk n c) 4 (n - c) (nI n)) 3 n (some a)) 2 2 (nI (n + 1))
theorem bkSh_F {S : xS} {rk : Nat → Nat} {n : Nat} : ∀ c, sF (bkSh S rk n c) = sF S ∧ sR (bkSh S rk n c) = sR S ∧ sE (bkSh S rk n c) = sE S
  | 0 => ⟨rfl, rfl, rfl⟩
  | c + 1 => bkSh_F c
theorem bkSh_A {S : xS} {rk : Nat → Nat} {n : Nat} : ∀ c q, q + c ≤ n → sA (bkSh S rk n c) 4 q = sA S 4 q
  | 0, q, _ => rfl
  | c + 1, q, h => by
    show sA (uA _ 4 (n - c) _) 4 q = _
    rw [sA_uA, va_up_ne _ _ (by omega)]
    exact bkSh_A c q (by omega)
set_option maxRecDepth 100000 in
set_option maxHeartbeats 1000000 in
theorem c_Or_goesBefore {G : xG} {B d : Nat} {S : xS} (hG : xOkG G) {a c : Nat} {D E : Nat → Int32} (ha : xDyn B S a D) (hc : xDyn B S c E) : EX G m_Or_goesBefore d 0 [(0, .ref a), (1, .ref c)] [] (mk G B S) (xRet G B (some (.int (bI (goB D E)))) S) := by
  refine x_aload_n d_Or_goesBefore_0 rfl ?_
  refine y_getE d_Or_goesBefore_1 gf_Or_13 ha rfl ?_
  refine x_aload_n d_Or_goesBefore_4 rfl ?_
  refine y_getE d_Or_goesBefore_5 gf_Or_13 hc rfl ?_
  refine x_icmp_eq 30 d_Or_goesBefore_8 rfl (fun hc8 => ?_) (fun hc8 => ?_)
  · skip
    skip
    refine x_aload_n d_Or_goesBefore_30 rfl ?_
    refine y_getE d_Or_goesBefore_31 gf_Or_7 ha rfl ?_
    refine x_aload_n d_Or_goesBefore_34 rfl ?_
    refine y_getE d_Or_goesBefore_35 gf_Or_7 hc rfl ?_
    refine x_icmp_le 45 d_Or_goesBefore_38 rfl (fun hc38 => ?_) (fun hc38 => ?_)
    · skip
      skip
      refine x_iconst (v := nI 0) d_Or_goesBefore_45 (by decide +kernel) ?_
      refine x_ireturn d_Or_goesBefore_46 rfl (by decide +kernel) ?_
      refine ⟨?_, rfl⟩
      simp [goB, bI, *]
    · skip
      skip
      refine x_iconst (v := nI 1) d_Or_goesBefore_41 (by decide +kernel) ?_
      refine x_goto 46 d_Or_goesBefore_42 rfl ?_
      refine x_ireturn d_Or_goesBefore_46 rfl (by decide +kernel) ?_
      refine ⟨?_, rfl⟩
      simp [goB, bI, *]
  · skip
    skip
    refine x_aload_n d_Or_goesBefore_11 rfl ?_
    refine y_getE d_Or_goesBefore_12 gf_Or_13 ha rfl ?_
    refine x_aload_n d_Or_goesBefore_15 rfl ?_
    refine y_getE d_Or_goesBefore_16 gf_Or_13 hc rfl ?_
    refine x_icmp_le 26 d_Or_goesBefore_19 rfl (fun hc19 => ?_) (fun hc19 => ?_)
    · skip
      skip
      refine x_iconst (v := nI 0) d_Or_goesBefore_26 (by decide +kernel) ?_
      refine x_goto 46 d_Or_goesBefore_27 rfl ?_
      refine x_ireturn d_Or_goesBefore_46 rfl (by decide +kernel) ?_
      refine ⟨?_, rfl⟩
      simp [goB, bI, *]
    · skip
      skip
      refine x_iconst (v := nI 1) d_Or_goesBefore_22 (by decide +kernel) ?_
      refine x_goto 46 d_Or_goesBefore_23 rfl ?_
      refine x_ireturn d_Or_goesBefore_46 rfl (by decide +kernel) ?_
      refine ⟨?_, rfl⟩
      simp [goB, bI, *]
set_option maxRecDepth 100000 in
set_option maxHeartbeats 1000000 in
theorem c_Bk_at {G : xG} {B d : Nat} {S : xS} (hG : xOkG G) {n : Nat} (hn : sF S 2 2 = nI n) (h6 : n ≤ 6) {k a : Nat} (hk : k < n) (ho : sR S 3 k = some a) : EX G m_Bk_at d 0 [(0, .ref (B + 2)), (1, .int (nI k))] [] (mk G B S) (xRet G B (some (.ref a)) S) := by
  refine x_iload_n d_Bk_at_0 rfl ?_
  refine z_if_lt d_Bk_at_1 (tgt := 21) rfl (by omega) ?_
  refine x_iload_n d_Bk_at_4 rfl ?_
  refine x_aload_n d_Bk_at_5 rfl ?_
  refine y_getf (v := .int (nI n)) d_Bk_at_6 gf_Bk_21 k_book (congrArg (fun q => some (Value.int q)) hn) ?_
  refine z_icmp_ge 21 d_Bk_at_9 rfl (by omega) (by omega) (fun q => absurd q (by omega)) (fun hc9 => ?_)
  refine x_aload_n d_Bk_at_12 rfl ?_
  refine y_getf d_Bk_at_13 gf_Bk_11 k_book rfl ?_
  refine x_iload_n d_Bk_at_16 rfl ?_
  refine y_aald hG d_Bk_at_17 k_orders rfl _ rfl (by omega) ?_
  rw [ho]
  refine x_goto 22 d_Bk_at_18 rfl ?_
  refine x_areturn d_Bk_at_22 rfl ?_
  exact ⟨rfl, rfl⟩
set_option maxRecDepth 100000 in
set_option maxHeartbeats 1000000 in
theorem c_Bk_atN {G : xG} {B d : Nat} {S : xS} (hG : xOkG G) {n : Nat} (hn : sF S 2 2 = nI n) (h6 : n ≤ 6) {i : Int32} (hi : (decide (0 ≤ i) && decide (i < nI n)) = false) : EX G m_Bk_at d 0 [(0, .ref (B + 2)), (1, .int i)] [] (mk G B S) (xRet G B (some .null) S) := by
  refine x_iload_n d_Bk_at_0 rfl ?_
  refine x_if_lt 21 d_Bk_at_1 rfl (fun hc1 => ?_) (fun hc1 => ?_)
  · skip
    skip
    refine x_null d_Bk_at_21 ?_
    refine x_areturnN d_Bk_at_22 rfl ?_
    exact ⟨rfl, rfl⟩
  · skip
    skip
    refine x_iload_n d_Bk_at_4 rfl ?_
    refine x_aload_n d_Bk_at_5 rfl ?_
    refine y_getf (v := .int (nI n)) d_Bk_at_6 gf_Bk_21 k_book (congrArg (fun q => some (Value.int q)) hn) ?_
    refine x_icmp_ge 21 d_Bk_at_9 rfl (fun hc9 => ?_) (fun q => absurd q (fun q => by rw [decide_eq_true (Int32.not_lt.mp hc1), decide_eq_true (Int32.not_le.mp q)] at hi; cases hi))
    refine x_null d_Bk_at_21 ?_
    refine x_areturnN d_Bk_at_22 rfl ?_
    exact ⟨rfl, rfl⟩
set_option maxRecDepth 100000 in
set_option maxHeartbeats 1000000 in
theorem c_Bk_takeUp {G : xG} {B d : Nat} {S : xS} (hG : xOkG G) {n : Nat} (hn : sF S 2 2 = nI n) (h6 : n ≤ 6) {oa : Nat → Nat} {D : Nat → Nat → Int32} (ho : bkOk S B n oa D) {k : Nat} (hk : k < n) : EX G m_Bk_takeUp (d + 1) 0 [(0, .ref (B + 2)), (1, .int (nI k))] [] (mk G B S) (xRet G B none (bkMove S (oa k) (D k) 3 4)) := by
  refine x_aload_n d_Bk_takeUp_0 rfl ?_
  refine x_iload_n d_Bk_takeUp_1 rfl ?_
  refine w_callV (As := [_]) d_Bk_takeUp_2 k_Bk_29 k_book rfl rfl rfl (c_Bk_at hG hn h6 hk (ho k hk).1) ?_
  refine s_astore_n (lv' := [(0, _), (1, _), (2, _)]) d_Bk_takeUp_5 (by decide) rfl ?_
  refine x_aload_n d_Bk_takeUp_6 rfl ?_
  refine x_ifnull d_Bk_takeUp_7 ?_
  refine x_aload_n d_Bk_takeUp_10 rfl ?_
  refine x_dup d_Bk_takeUp_11 rfl ?_
  refine y_getE d_Bk_takeUp_12 gf_Bk_33 (ho k hk).2 rfl ?_
  refine x_iconst (v := nI 1) d_Bk_takeUp_15 (by decide +kernel) ?_
  refine x_isub d_Bk_takeUp_16 ?_
  refine y_putE d_Bk_takeUp_17 pf_Bk_33 (ho k hk).2 (by decide) rfl ?_
  refine x_aload_n d_Bk_takeUp_20 rfl ?_
  refine x_dup d_Bk_takeUp_21 rfl ?_
  refine y_getE d_Bk_takeUp_22 gf_Bk_36 ⟨(ho k hk).2.1, sE_uE _ _ _⟩ rfl ?_
  refine x_iconst (v := nI 1) d_Bk_takeUp_25 (by decide +kernel) ?_
  refine x_iadd d_Bk_takeUp_26 ?_
  refine y_putE d_Bk_takeUp_27 pf_Bk_36 ⟨(ho k hk).2.1, sE_uE _ _ _⟩ (by decide) rfl ?_
  refine x_return d_Bk_takeUp_30 rfl ?_
  refine ⟨rfl, ?_⟩
  rw [uE_uE]
  rfl
set_option maxRecDepth 100000 in
set_option maxHeartbeats 1000000 in
theorem c_Bk_reopen {G : xG} {B d : Nat} {S : xS} (hG : xOkG G) {n : Nat} (hn : sF S 2 2 = nI n) (h6 : n ≤ 6) {oa : Nat → Nat} {D : Nat → Nat → Int32} (ho : bkOk S B n oa D) {k : Nat} (hk : k < n) : EX G m_Bk_reopen (d + 1) 0 [(0, .ref (B + 2)), (1, .int (nI k))] [] (mk G B S) (xRet G B none (bkMove S (oa k) (D k) 4 3)) := by
  refine x_aload_n d_Bk_reopen_0 rfl ?_
  refine x_iload_n d_Bk_reopen_1 rfl ?_
  refine w_callV (As := [_]) d_Bk_reopen_2 k_Bk_29 k_book rfl rfl rfl (c_Bk_at hG hn h6 hk (ho k hk).1) ?_
  refine s_astore_n (lv' := [(0, _), (1, _), (2, _)]) d_Bk_reopen_5 (by decide) rfl ?_
  refine x_aload_n d_Bk_reopen_6 rfl ?_
  refine x_ifnull d_Bk_reopen_7 ?_
  refine x_aload_n d_Bk_reopen_10 rfl ?_
  refine x_dup d_Bk_reopen_11 rfl ?_
  refine y_getE d_Bk_reopen_12 gf_Bk_36 (ho k hk).2 rfl ?_
  refine x_iconst (v := nI 1) d_Bk_reopen_15 (by decide +kernel) ?_
  refine x_isub d_Bk_reopen_16 ?_
  refine y_putE d_Bk_reopen_17 pf_Bk_36 (ho k hk).2 (by decide) rfl ?_
  refine x_aload_n d_Bk_reopen_20 rfl ?_
  refine x_dup d_Bk_reopen_21 rfl ?_
  refine y_getE d_Bk_reopen_22 gf_Bk_33 ⟨(ho k hk).2.1, sE_uE _ _ _⟩ rfl ?_
  refine x_iconst (v := nI 1) d_Bk_reopen_25 (by decide +kernel) ?_
  refine x_iadd d_Bk_reopen_26 ?_
  refine y_putE d_Bk_reopen_27 pf_Bk_33 ⟨(ho k hk).2.1, sE_uE _ _ _⟩ (by decide) rfl ?_
  refine x_return d_Bk_reopen_30 rfl ?_
  refine ⟨rfl, ?_⟩
  rw [uE_uE]
  rfl
set_option maxRecDepth 100000 in
set_option maxHeartbeats 1000000 in
theorem c_Bk_finish {G : xG} {B d : Nat} {S : xS} (hG : xOkG G) {n : Nat} (hn : sF S 2 2 = nI n) (h6 : n ≤ 6) {oa : Nat → Nat} {D : Nat → Nat → Int32} (ho : bkOk S B n oa D) {k : Nat} (hk : k < n) : EX G m_Bk_finish (d + 1) 0 [(0, .ref (B + 2)), (1, .int (nI k))] [] (mk G B S) (xRet G B none (bkMove S (oa k) (D k) 4 5)) := by
  refine x_aload_n d_Bk_finish_0 rfl ?_
  refine x_iload_n d_Bk_finish_1 rfl ?_
  refine w_callV (As := [_]) d_Bk_finish_2 k_Bk_29 k_book rfl rfl rfl (c_Bk_at hG hn h6 hk (ho k hk).1) ?_
  refine s_astore_n (lv' := [(0, _), (1, _), (2, _)]) d_Bk_finish_5 (by decide) rfl ?_
  refine x_aload_n d_Bk_finish_6 rfl ?_
  refine x_ifnull d_Bk_finish_7 ?_
  refine x_aload_n d_Bk_finish_10 rfl ?_
  refine x_dup d_Bk_finish_11 rfl ?_
  refine y_getE d_Bk_finish_12 gf_Bk_36 (ho k hk).2 rfl ?_
  refine x_iconst (v := nI 1) d_Bk_finish_15 (by decide +kernel) ?_
  refine x_isub d_Bk_finish_16 ?_
  refine y_putE d_Bk_finish_17 pf_Bk_36 (ho k hk).2 (by decide) rfl ?_
  refine x_aload_n d_Bk_finish_20 rfl ?_
  refine x_dup d_Bk_finish_21 rfl ?_
  refine y_getE d_Bk_finish_22 gf_Bk_39 ⟨(ho k hk).2.1, sE_uE _ _ _⟩ rfl ?_
  refine x_iconst (v := nI 1) d_Bk_finish_25 (by decide +kernel) ?_
  refine x_iadd d_Bk_finish_26 ?_
  refine y_putE d_Bk_finish_27 pf_Bk_39 ⟨(ho k hk).2.1, sE_uE _ _ _⟩ (by decide) rfl ?_
  refine x_return d_Bk_finish_30 rfl ?_
  refine ⟨rfl, ?_⟩
  rw [uE_uE]
  rfl
set_option maxRecDepth 100000 in
set_option maxHeartbeats 1000000 in
theorem c_Bk_add {G : xG} {B d : Nat} {S : xS} (hG : xOkG G) {n : Nat} (hn : sF S 2 2 = nI n) (h6 : n < 6) {oa : Nat → Nat} {D : Nat → Nat → Int32} (ho : bkOk S B n oa D) {rk : Nat → Nat} (hrk : ∀ q, q < n → sA S 4 q = nI (rk q) ∧ rk q < n) {a : Nat} {E : Nat → Int32} (ha : xDyn B S a E) : EX G m_Bk_add (d + 1) 0 [(0, .ref (B + 2)), (1, .ref a)] [] (mk G B S) ((xRet G B (some (.int (nI n))) (bkIns S rk n (n - bkPos (fun q => goB E (D (rk q))) n) a))) := by
  refine x_aload_n d_Bk_add_0 rfl ?_
  refine y_getf (v := .int (nI n)) d_Bk_add_1 gf_Bk_21 k_book (congrArg (fun q => some (Value.int q)) hn) ?_
  refine x_bipush (v := nI 6) d_Bk_add_4 (by decide +kernel) ?_
  refine z_icmp_lt 11 d_Bk_add_6 rfl (by omega) (by omega) (fun hc6 => ?_) (fun q => absurd q (by omega))
  refine x_aload_n d_Bk_add_11 rfl ?_
  refine y_getf (v := .int (nI n)) d_Bk_add_12 gf_Bk_21 k_book (congrArg (fun q => some (Value.int q)) hn) ?_
  refine s_istore_n (lv' := [(0, _), (1, _), (2, _)]) d_Bk_add_15 (by decide) rfl ?_
  refine x_iload_n d_Bk_add_16 rfl ?_
  refine s_istore_n (lv' := [(0, _), (1, _), (2, _), (3, _)]) d_Bk_add_17 (by decide) rfl ?_
  have L18 : ∀ i, i ≤ n → (∀ q, n - i ≤ q → q < n → goB E (D (rk q)) = true) → EX G m_Bk_add (d + 1) 18 [(0, .ref (B + 2)), (1, .ref a), (2, .int (nI n)), (3, .int (nI (n - i)))] [] (mk G B (bkSh S rk n i)) (xRet G B (some (.int (nI n))) (bkIns S rk n (n - bkPos (fun q => goB E (D (rk q))) n) a)) := by
    refine x_down (n) ?_ ?_
    · skip
      skip
      intro hp
      refine x_iload_n d_Bk_add_18 rfl ?_
      refine z_if_le 62 d_Bk_add_19 rfl (by omega) (fun hc19 => ?_) (fun q => absurd q (by omega))
      refine x_aload_n d_Bk_add_62 rfl ?_
      refine y_getf d_Bk_add_63 gf_Bk_17 k_book rfl ?_
      refine x_iload_n d_Bk_add_66 rfl ?_
      refine x_iload_n d_Bk_add_67 rfl ?_
      refine y_iast hG d_Bk_add_68 k_ranked _ rfl (by omega) ?_
      refine x_aload_n d_Bk_add_69 rfl ?_
      refine y_getf d_Bk_add_70 gf_Bk_11 k_book rfl ?_
      refine x_iload_n d_Bk_add_73 rfl ?_
      refine x_aload_n d_Bk_add_74 rfl ?_
      refine y_aastD hG d_Bk_add_75 k_orders (xDyn_E ha (bkSh_F _).2.2) _ rfl (by omega) ?_
      refine x_aload_n d_Bk_add_76 rfl ?_
      refine x_dup d_Bk_add_77 rfl ?_
      refine y_getf (v := .int (nI n)) d_Bk_add_78 gf_Bk_21 k_book (congrArg (fun q => some (Value.int q)) ((congrFun (congrFun (bkSh_F _).1 2) 2).trans hn)) ?_
      refine x_iconst (v := nI 1) d_Bk_add_81 (by decide +kernel) ?_
      refine x_iadd d_Bk_add_82 ?_
      rw [nI_add]
      refine y_puti d_Bk_add_83 pf_Bk_21 k_book (xBle rfl) rfl rfl rfl ?_
      refine x_iload_n d_Bk_add_86 rfl ?_
      refine x_ireturn d_Bk_add_87 rfl rfl ?_
      refine ⟨rfl, ?_⟩
      rw [show n - bkPos (fun q => goB E (D (rk q))) n = n by
        rw [bkPos_of (r := n - n) (by omega) (fun q a b => hp q a b) (Or.inl (Nat.sub_self n))]; omega]
      rfl
    · intro i hi ih
      intro hp
      refine x_iload_n d_Bk_add_18 rfl ?_
      refine z_if_le 62 d_Bk_add_19 rfl (by omega) (fun q => absurd q (by omega)) (fun hc19 => ?_)
      refine x_aload_n d_Bk_add_22 rfl ?_
      refine x_aload_n d_Bk_add_23 rfl ?_
      refine y_getf d_Bk_add_24 gf_Bk_11 k_book rfl ?_
      refine x_aload_n d_Bk_add_27 rfl ?_
      refine y_getf d_Bk_add_28 gf_Bk_17 k_book rfl ?_
      refine x_iload_n d_Bk_add_31 rfl ?_
      refine x_iconst (v := nI 1) d_Bk_add_32 (by decide +kernel) ?_
      refine x_isub d_Bk_add_33 ?_
      rw [pk_sub (by omega)]
      refine y_iald hG d_Bk_add_34 k_ranked _ rfl (by omega) ?_
      rw [bkSh_A i (n - i - 1) (by omega), (hrk (n - i - 1) (by omega)).1]
      refine y_aald hG d_Bk_add_35 k_orders rfl (rk (n - i - 1)) rfl (by have := (hrk (n - i - 1) (by omega)).2; omega) ?_
      rw [(bkSh_F i).2.1, (ho _ (hrk (n - i - 1) (by omega)).2).1]
      refine w_callE (As := [_]) d_Bk_add_36 k_Bk_25 (xDyn_E ha (bkSh_F i).2.2) rfl rfl rfl (c_Or_goesBefore hG (xDyn_E ha (bkSh_F i).2.2) (xDyn_E (ho _ (hrk (n - i - 1) (by omega)).2).2 (bkSh_F i).2.2)) ?_
      refine z_bif_eq 62 d_Bk_add_39 rfl (fun hc39 => ?_) (fun hc39 => ?_)
      · skip
        skip
        refine x_aload_n d_Bk_add_62 rfl ?_
        refine y_getf d_Bk_add_63 gf_Bk_17 k_book rfl ?_
        refine x_iload_n d_Bk_add_66 rfl ?_
        refine x_iload_n d_Bk_add_67 rfl ?_
        refine y_iast hG d_Bk_add_68 k_ranked _ rfl (by omega) ?_
        refine x_aload_n d_Bk_add_69 rfl ?_
        refine y_getf d_Bk_add_70 gf_Bk_11 k_book rfl ?_
        refine x_iload_n d_Bk_add_73 rfl ?_
        refine x_aload_n d_Bk_add_74 rfl ?_
        refine y_aastD hG d_Bk_add_75 k_orders (xDyn_E ha (bkSh_F _).2.2) _ rfl (by omega) ?_
        refine x_aload_n d_Bk_add_76 rfl ?_
        refine x_dup d_Bk_add_77 rfl ?_
        refine y_getf (v := .int (nI n)) d_Bk_add_78 gf_Bk_21 k_book (congrArg (fun q => some (Value.int q)) ((congrFun (congrFun (bkSh_F _).1 2) 2).trans hn)) ?_
        refine x_iconst (v := nI 1) d_Bk_add_81 (by decide +kernel) ?_
        refine x_iadd d_Bk_add_82 ?_
        rw [nI_add]
        refine y_puti d_Bk_add_83 pf_Bk_21 k_book (xBle rfl) rfl rfl rfl ?_
        refine x_iload_n d_Bk_add_86 rfl ?_
        refine x_ireturn d_Bk_add_87 rfl rfl ?_
        refine ⟨rfl, ?_⟩
        rw [show n - bkPos (fun q => goB E (D (rk q))) n = i by
          rw [bkPos_of (r := n - i) (by omega) (fun q a b => hp q a b) (Or.inr hc39)]; omega]
        rfl
      · skip
        skip
        refine x_aload_n d_Bk_add_42 rfl ?_
        refine y_getf d_Bk_add_43 gf_Bk_17 k_book rfl ?_
        refine x_iload_n d_Bk_add_46 rfl ?_
        refine x_aload_n d_Bk_add_47 rfl ?_
        refine y_getf d_Bk_add_48 gf_Bk_17 k_book rfl ?_
        refine x_iload_n d_Bk_add_51 rfl ?_
        refine x_iconst (v := nI 1) d_Bk_add_52 (by decide +kernel) ?_
        refine x_isub d_Bk_add_53 ?_
        rw [pk_sub (by omega)]
        refine y_iald hG d_Bk_add_54 k_ranked _ rfl (by omega) ?_
        rw [bkSh_A i (n - i - 1) (by omega), (hrk (n - i - 1) (by omega)).1]
        refine y_iast hG d_Bk_add_55 k_ranked _ rfl (by omega) ?_
        refine s_iinc (lv' := [(0, _), (1, _), (2, _), (3, _)]) d_Bk_add_56 rfl (xdec (by omega)) (by decide) rfl ?_
        refine x_goto 18 d_Bk_add_59 rfl ?_
        refine x_lv (lv' := [(0, _), (1, _), (2, _), (3, _)]) [0, 1, 2, 3] rfl ?_
        exact ih (fun q a b => by
          by_cases e : q = n - i - 1
          · rw [e]; exact hc39
          · exact hp q (by omega) b)
  refine x_lv (lv' := [(0, _), (1, _), (2, _), (3, _)]) [0, 1, 2, 3] rfl ?_
  exact L18 0 (Nat.zero_le _) (fun q a b => by omega)
