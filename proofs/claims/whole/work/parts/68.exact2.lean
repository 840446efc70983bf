/-! the reference's exact -/
def moKn (N : Nat) (a b c : Int32) : Bool := inB N a && ((decide (b = -1) || inB N b) && (decide (c = -1) || inB N c))
def moExC (S : xS) (s fl : Nat) (ho : Bool) : Nat := if ¬ sA S 191 s = 0 then 2 else if 0 < fl then 2 else if ho = false then 2 else 0
set_option maxRecDepth 100000 in
set_option maxHeartbeats 1000000 in
theorem c_Mo_exactN {G : xG} {B d : Nat} {S : xS} (hG : xOkG G) {x a b c : Int32} (hf : moFind S x 8 = none) : EX G m_Mo_exact (d + 7) 0 [(0, .ref (B + 186)), (1, .int x), (2, .int a), (3, .int b), (4, .int c)] [] (mk G B S) (xRet G B (some (.int 0)) (moThr S 1)) := by
  refine x_aload_n d_Mo_exact_0 rfl ?_
  refine x_iload_n d_Mo_exact_1 rfl ?_
  refine w_callV (As := [_]) d_Mo_exact_2 k_Mo_166 k_model rfl rfl rfl (c_Mo_find hG) ?_
  rw [hf, show cI none = -1 from rfl]
  refine s_istore (lv' := [(0, _), (1, _), (2, _), (3, _), (4, _), (5, _)]) d_Mo_exact_5 (by decide) rfl ?_
  refine x_iload d_Mo_exact_7 rfl ?_
  refine x_if_lt 52 d_Mo_exact_9 rfl (fun hc9 => ?_) (fun q => absurd q (Classical.not_not.mpr (by decide +kernel)))
  refine x_iconst (v := nI 0) d_Mo_exact_52 (by decide +kernel) ?_
  refine s_istore (lv' := [(0, _), (1, _), (2, _), (3, _), (4, _), (5, _), (6, _)]) d_Mo_exact_53 (by decide) rfl ?_
  refine x_aload_n d_Mo_exact_55 rfl ?_
  refine x_iload d_Mo_exact_56 rfl ?_
  refine z_if_ne 65 d_Mo_exact_58 rfl (by omega) (fun q => absurd q (by omega)) (fun hc58 => ?_)
  refine x_iconst (v := nI 1) d_Mo_exact_61 (by decide +kernel) ?_
  refine x_goto 101 d_Mo_exact_62 rfl ?_
  refine y_puti d_Mo_exact_101 pf_Mo_140 k_model (xBle rfl) rfl rfl rfl ?_
  refine x_aload_n d_Mo_exact_104 rfl ?_
  refine y_getf (v := .int (nI 1)) d_Mo_exact_105 gf_Mo_140 k_model (congrArg (fun q => some (Value.int q)) moThr_0) ?_
  refine z_if_le 113 d_Mo_exact_108 rfl (by omega) (fun q => absurd q (by omega)) (fun hc108 => ?_)
  refine x_iconst (v := nI 0) d_Mo_exact_111 (by decide +kernel) ?_
  refine x_ireturn d_Mo_exact_112 rfl rfl ?_
  exact ⟨rfl, rfl⟩
set_option maxRecDepth 100000 in
set_option maxHeartbeats 1000000 in
theorem c_Mo_exactK {G : xG} {B d : Nat} {S : xS} (hG : xOkG G) {x a b c : Int32} {s N : Nat} (hf : moFind S x 8 = some s) (hN : sF S 186 20 = nI N) (hN6 : N ≤ 6) (hk : moKn N a b c = false) : EX G m_Mo_exact (d + 7) 0 [(0, .ref (B + 186)), (1, .int x), (2, .int a), (3, .int b), (4, .int c)] [] (mk G B S) (xRet G B (some (.int 0)) (moThr S 1)) := by
  have hs := moFind_lt hf
  refine x_aload_n d_Mo_exact_0 rfl ?_
  refine x_iload_n d_Mo_exact_1 rfl ?_
  refine w_callV (As := [_]) d_Mo_exact_2 k_Mo_166 k_model rfl rfl rfl (c_Mo_find hG) ?_
  rw [hf, show cI (some s) = nI s from rfl]
  refine s_istore (lv' := [(0, _), (1, _), (2, _), (3, _), (4, _), (5, _)]) d_Mo_exact_5 (by decide) rfl ?_
  refine x_join 53 (.int (bI (moKn N a b c))) ?_ (fun J7 => ?_)
  · skip
    refine s_istore (lv' := [(0, _), (1, _), (2, _), (3, _), (4, _), (5, _), (6, _)]) d_Mo_exact_53 (by decide) rfl ?_
    refine x_aload_n d_Mo_exact_55 rfl ?_
    refine x_iload d_Mo_exact_56 rfl ?_
    refine z_bif_ne 65 d_Mo_exact_58 rfl (fun q => absurd q (by rw [hk]; decide)) (fun hc58 => ?_)
    refine x_iconst (v := nI 1) d_Mo_exact_61 (by decide +kernel) ?_
    refine x_goto 101 d_Mo_exact_62 rfl ?_
    refine y_puti d_Mo_exact_101 pf_Mo_140 k_model (xBle rfl) rfl rfl rfl ?_
    refine x_aload_n d_Mo_exact_104 rfl ?_
    refine y_getf (v := .int (nI 1)) d_Mo_exact_105 gf_Mo_140 k_model (congrArg (fun q => some (Value.int q)) moThr_0) ?_
    refine z_if_le 113 d_Mo_exact_108 rfl (by omega) (fun q => absurd q (by omega)) (fun hc108 => ?_)
    refine x_iconst (v := nI 0) d_Mo_exact_111 (by decide +kernel) ?_
    refine x_ireturn d_Mo_exact_112 rfl rfl ?_
    exact ⟨rfl, rfl⟩
  · skip
    refine x_iload d_Mo_exact_7 rfl ?_
    refine z_if_lt d_Mo_exact_9 (tgt := 52) rfl (by omega) ?_
    refine x_aload_n d_Mo_exact_12 rfl ?_
    refine x_iload_n d_Mo_exact_13 rfl ?_
    refine w_callV (As := [_]) d_Mo_exact_14 k_Mo_253 k_model rfl rfl rfl (c_Mo_isOrder hG hN hN6) ?_
    refine z_bif_eq 52 d_Mo_exact_17 rfl (fun hc17 => ?_) (fun hc17 => ?_)
    · skip
      skip
      refine x_iconst (v := nI 0) d_Mo_exact_52 (by decide +kernel) ?_
      refine J7 _ ?_
      unfold moKn
      first
        | (rw [hc17]; rfl)
        | (rw [hc17, decide_eq_false hc22, hc30]; rfl)
        | (rw [hc17, decide_eq_true hc22, decide_eq_true hc36]; rfl)
        | (rw [hc17, decide_eq_true hc22, decide_eq_false hc36, hc45]; rfl)
        | (rw [hc17, decide_eq_false hc22, hc30, decide_eq_true hc36]; rfl)
        | (rw [hc17, decide_eq_false hc22, hc30, decide_eq_false hc36, hc45]; rfl)
    · skip
      skip
      refine x_iload_n d_Mo_exact_20 rfl ?_
      refine x_iconst (v := -1) d_Mo_exact_21 (by decide +kernel) ?_
      refine x_icmp_eq 33 d_Mo_exact_22 rfl (fun hc22 => ?_) (fun hc22 => ?_)
      · skip
        skip
        refine x_iload d_Mo_exact_33 rfl ?_
        refine x_iconst (v := -1) d_Mo_exact_35 (by decide +kernel) ?_
        refine x_icmp_eq 48 d_Mo_exact_36 rfl (fun hc36 => ?_) (fun hc36 => ?_)
        · skip
          skip
          refine x_iconst (v := nI 1) d_Mo_exact_48 (by decide +kernel) ?_
          refine x_goto 53 d_Mo_exact_49 rfl ?_
          refine J7 _ ?_
          unfold moKn
          first
            | (rw [hc17]; rfl)
            | (rw [hc17, decide_eq_false hc22, hc30]; rfl)
            | (rw [hc17, decide_eq_true hc22, decide_eq_true hc36]; rfl)
            | (rw [hc17, decide_eq_true hc22, decide_eq_false hc36, hc45]; rfl)
            | (rw [hc17, decide_eq_false hc22, hc30, decide_eq_true hc36]; rfl)
            | (rw [hc17, decide_eq_false hc22, hc30, decide_eq_false hc36, hc45]; rfl)
        · skip
          skip
          refine x_aload_n d_Mo_exact_39 rfl ?_
          refine x_iload d_Mo_exact_40 rfl ?_
          refine w_callV (As := [_]) d_Mo_exact_42 k_Mo_253 k_model rfl rfl rfl (c_Mo_isOrder hG hN hN6) ?_
          refine z_bif_eq 52 d_Mo_exact_45 rfl (fun hc45 => ?_) (fun hc45 => ?_)
          · skip
            skip
            refine x_iconst (v := nI 0) d_Mo_exact_52 (by decide +kernel) ?_
            refine J7 _ ?_
            unfold moKn
            first
              | (rw [hc17]; rfl)
              | (rw [hc17, decide_eq_false hc22, hc30]; rfl)
              | (rw [hc17, decide_eq_true hc22, decide_eq_true hc36]; rfl)
              | (rw [hc17, decide_eq_true hc22, decide_eq_false hc36, hc45]; rfl)
              | (rw [hc17, decide_eq_false hc22, hc30, decide_eq_true hc36]; rfl)
              | (rw [hc17, decide_eq_false hc22, hc30, decide_eq_false hc36, hc45]; rfl)
          · skip
            skip
            refine x_iconst (v := nI 1) d_Mo_exact_48 (by decide +kernel) ?_
            refine x_goto 53 d_Mo_exact_49 rfl ?_
            refine J7 _ ?_
            unfold moKn
            first
              | (rw [hc17]; rfl)
              | (rw [hc17, decide_eq_false hc22, hc30]; rfl)
              | (rw [hc17, decide_eq_true hc22, decide_eq_true hc36]; rfl)
              | (rw [hc17, decide_eq_true hc22, decide_eq_false hc36, hc45]; rfl)
              | (rw [hc17, decide_eq_false hc22, hc30, decide_eq_true hc36]; rfl)
              | (rw [hc17, decide_eq_false hc22, hc30, decide_eq_false hc36, hc45]; rfl)
      · skip
        skip
        refine x_aload_n d_Mo_exact_25 rfl ?_
        refine x_iload_n d_Mo_exact_26 rfl ?_
        refine w_callV (As := [_]) d_Mo_exact_27 k_Mo_253 k_model rfl rfl rfl (c_Mo_isOrder hG hN hN6) ?_
        refine z_bif_eq 52 d_Mo_exact_30 rfl (fun hc30 => ?_) (fun hc30 => ?_)
        · skip
          skip
          refine x_iconst (v := nI 0) d_Mo_exact_52 (by decide +kernel) ?_
          refine J7 _ ?_
          unfold moKn
          first
            | (rw [hc17]; rfl)
            | (rw [hc17, decide_eq_false hc22, hc30]; rfl)
            | (rw [hc17, decide_eq_true hc22, decide_eq_true hc36]; rfl)
            | (rw [hc17, decide_eq_true hc22, decide_eq_false hc36, hc45]; rfl)
            | (rw [hc17, decide_eq_false hc22, hc30, decide_eq_true hc36]; rfl)
            | (rw [hc17, decide_eq_false hc22, hc30, decide_eq_false hc36, hc45]; rfl)
        · skip
          skip
          refine x_iload d_Mo_exact_33 rfl ?_
          refine x_iconst (v := -1) d_Mo_exact_35 (by decide +kernel) ?_
          refine x_icmp_eq 48 d_Mo_exact_36 rfl (fun hc36 => ?_) (fun hc36 => ?_)
          · skip
            skip
            refine x_iconst (v := nI 1) d_Mo_exact_48 (by decide +kernel) ?_
            refine x_goto 53 d_Mo_exact_49 rfl ?_
            refine J7 _ ?_
            unfold moKn
            first
              | (rw [hc17]; rfl)
              | (rw [hc17, decide_eq_false hc22, hc30]; rfl)
              | (rw [hc17, decide_eq_true hc22, decide_eq_true hc36]; rfl)
              | (rw [hc17, decide_eq_true hc22, decide_eq_false hc36, hc45]; rfl)
              | (rw [hc17, decide_eq_false hc22, hc30, decide_eq_true hc36]; rfl)
              | (rw [hc17, decide_eq_false hc22, hc30, decide_eq_false hc36, hc45]; rfl)
          · skip
            skip
            refine x_aload_n d_Mo_exact_39 rfl ?_
            refine x_iload d_Mo_exact_40 rfl ?_
            refine w_callV (As := [_]) d_Mo_exact_42 k_Mo_253 k_model rfl rfl rfl (c_Mo_isOrder hG hN hN6) ?_
            refine z_bif_eq 52 d_Mo_exact_45 rfl (fun hc45 => ?_) (fun hc45 => ?_)
            · skip
              skip
              refine x_iconst (v := nI 0) d_Mo_exact_52 (by decide +kernel) ?_
              refine J7 _ ?_
              unfold moKn
              first
                | (rw [hc17]; rfl)
                | (rw [hc17, decide_eq_false hc22, hc30]; rfl)
                | (rw [hc17, decide_eq_true hc22, decide_eq_true hc36]; rfl)
                | (rw [hc17, decide_eq_true hc22, decide_eq_false hc36, hc45]; rfl)
                | (rw [hc17, decide_eq_false hc22, hc30, decide_eq_true hc36]; rfl)
                | (rw [hc17, decide_eq_false hc22, hc30, decide_eq_false hc36, hc45]; rfl)
            · skip
              skip
              refine x_iconst (v := nI 1) d_Mo_exact_48 (by decide +kernel) ?_
              refine x_goto 53 d_Mo_exact_49 rfl ?_
              refine J7 _ ?_
              unfold moKn
              first
                | (rw [hc17]; rfl)
                | (rw [hc17, decide_eq_false hc22, hc30]; rfl)
                | (rw [hc17, decide_eq_true hc22, decide_eq_true hc36]; rfl)
                | (rw [hc17, decide_eq_true hc22, decide_eq_false hc36, hc45]; rfl)
                | (rw [hc17, decide_eq_false hc22, hc30, decide_eq_true hc36]; rfl)
                | (rw [hc17, decide_eq_false hc22, hc30, decide_eq_false hc36, hc45]; rfl)
set_option maxRecDepth 100000 in
set_option maxHeartbeats 1000000 in
theorem c_Mo_exactU {G : xG} {B d : Nat} {S : xS} (hG : xOkG G) {x a b c : Int32} {s N : Nat} (hf : moFind S x 8 = some s) (hN : sF S 186 20 = nI N) (hN6 : N ≤ 6) {fl : Nat} (hfl : sA S 193 s = nI fl) (hf6 : fl ≤ 6) (hk : moKn N a b c = true) (hC : moExC S s fl (moHO S a b c N) ≠ 0) : EX G m_Mo_exact (d + 7) 0 [(0, .ref (B + 186)), (1, .int x), (2, .int a), (3, .int b), (4, .int c)] [] (mk G B S) (xRet G B (some (.int 0)) (moThr S 2)) := by
  have hs := moFind_lt hf
  refine x_aload_n d_Mo_exact_0 rfl ?_
  refine x_iload_n d_Mo_exact_1 rfl ?_
  refine w_callV (As := [_]) d_Mo_exact_2 k_Mo_166 k_model rfl rfl rfl (c_Mo_find hG) ?_
  rw [hf, show cI (some s) = nI s from rfl]
  refine s_istore (lv' := [(0, _), (1, _), (2, _), (3, _), (4, _), (5, _)]) d_Mo_exact_5 (by decide) rfl ?_
  refine x_join 53 (.int (bI (moKn N a b c))) ?_ (fun J7 => ?_)
  · skip
    refine s_istore (lv' := [(0, _), (1, _), (2, _), (3, _), (4, _), (5, _), (6, _)]) d_Mo_exact_53 (by decide) rfl ?_
    refine x_aload_n d_Mo_exact_55 rfl ?_
    refine x_join 101 (.int (nI (moExC S s fl (moHO S a b c N)))) ?_ (fun J56 => ?_)
    · skip
      refine y_puti d_Mo_exact_101 pf_Mo_140 k_model (xBle rfl) rfl rfl rfl ?_
      refine x_aload_n d_Mo_exact_104 rfl ?_
      refine y_getf (v := .int (nI (moExC S s fl (moHO S a b c N)))) d_Mo_exact_105 gf_Mo_140 k_model (congrArg (fun q => some (Value.int q)) moThr_0) ?_
      refine z_if_le 113 d_Mo_exact_108 rfl (by unfold moExC; split <;> (try split) <;> (try split) <;> omega) (fun hc108 => ?_) (fun hc108 => ?_)
      · skip
        exact absurd hc108 hC
        skip
      · skip
        skip
        refine x_iconst (v := nI 0) d_Mo_exact_111 (by decide +kernel) ?_
        refine x_ireturn d_Mo_exact_112 rfl rfl ?_
        rw [show moExC S s fl (moHO S a b c N) = 2 by
          revert hc108
          unfold moExC
          split
          · intro _; rfl
          · split
            · intro _; rfl
            · split
              · intro _; rfl
              · intro q; omega]
        exact ⟨rfl, rfl⟩
    · skip
      refine x_iload d_Mo_exact_56 rfl ?_
      refine z_bif_ne 65 d_Mo_exact_58 rfl (fun hc58 => ?_) (fun q => absurd q (by rw [hk]; decide))
      refine x_aload_n d_Mo_exact_65 rfl ?_
      refine y_getf d_Mo_exact_66 gf_Mo_23 k_model rfl ?_
      refine x_iload d_Mo_exact_69 rfl ?_
      refine y_zald hG d_Mo_exact_71 k_m_planned _ rfl (by omega) ?_
      refine x_if_ne 96 d_Mo_exact_72 rfl (fun hc72 => ?_) (fun hc72 => ?_)
      · skip
        skip
        refine x_iconst (v := nI 2) d_Mo_exact_96 (by decide +kernel) ?_
        refine x_goto 101 d_Mo_exact_97 rfl ?_
        refine J56 _ ?_
        unfold moExC
        first
          | (rw [if_pos hc72]; done)
          | (rw [if_neg (Classical.not_not.mpr hc72), if_pos hc82]; done)
          | (rw [if_neg (Classical.not_not.mpr hc72), if_neg (show ¬ 0 < fl by omega), if_pos hc93]; done)
          | (rw [if_neg (Classical.not_not.mpr hc72), if_neg (show ¬ 0 < fl by omega), if_neg (fun e => Bool.noConfusion (hc93.symm.trans e))]; done)
      · skip
        skip
        refine x_aload_n d_Mo_exact_75 rfl ?_
        refine y_getf d_Mo_exact_76 gf_Mo_29 k_model rfl ?_
        refine x_iload d_Mo_exact_79 rfl ?_
        refine y_iald hG d_Mo_exact_81 k_m_flawCounts _ rfl (by omega) ?_
        rw [hfl]
        refine z_if_gt 96 d_Mo_exact_82 rfl (by omega) (fun hc82 => ?_) (fun hc82 => ?_)
        · skip
          skip
          refine x_iconst (v := nI 2) d_Mo_exact_96 (by decide +kernel) ?_
          refine x_goto 101 d_Mo_exact_97 rfl ?_
          refine J56 _ ?_
          unfold moExC
          first
            | (rw [if_pos hc72]; done)
            | (rw [if_neg (Classical.not_not.mpr hc72), if_pos hc82]; done)
            | (rw [if_neg (Classical.not_not.mpr hc72), if_neg (show ¬ 0 < fl by omega), if_pos hc93]; done)
            | (rw [if_neg (Classical.not_not.mpr hc72), if_neg (show ¬ 0 < fl by omega), if_neg (fun e => Bool.noConfusion (hc93.symm.trans e))]; done)
        · skip
          skip
          refine x_aload_n d_Mo_exact_85 rfl ?_
          refine x_iload_n d_Mo_exact_86 rfl ?_
          refine x_iload_n d_Mo_exact_87 rfl ?_
          refine x_iload d_Mo_exact_88 rfl ?_
          refine w_callV (As := [_, _, _]) d_Mo_exact_90 k_Mo_256 k_model rfl rfl rfl (c_Mo_hasOpen hG hN hN6) ?_
          refine z_bif_ne 100 d_Mo_exact_93 rfl (fun hc93 => ?_) (fun hc93 => ?_)
          · skip
            skip
            refine x_iconst (v := nI 0) d_Mo_exact_100 (by decide +kernel) ?_
            refine J56 _ ?_
            unfold moExC
            first
              | (rw [if_pos hc72]; done)
              | (rw [if_neg (Classical.not_not.mpr hc72), if_pos hc82]; done)
              | (rw [if_neg (Classical.not_not.mpr hc72), if_neg (show ¬ 0 < fl by omega), if_pos hc93]; done)
              | (rw [if_neg (Classical.not_not.mpr hc72), if_neg (show ¬ 0 < fl by omega), if_neg (fun e => Bool.noConfusion (hc93.symm.trans e))]; done)
          · skip
            skip
            refine x_iconst (v := nI 2) d_Mo_exact_96 (by decide +kernel) ?_
            refine x_goto 101 d_Mo_exact_97 rfl ?_
            refine J56 _ ?_
            unfold moExC
            first
              | (rw [if_pos hc72]; done)
              | (rw [if_neg (Classical.not_not.mpr hc72), if_pos hc82]; done)
              | (rw [if_neg (Classical.not_not.mpr hc72), if_neg (show ¬ 0 < fl by omega), if_pos hc93]; done)
              | (rw [if_neg (Classical.not_not.mpr hc72), if_neg (show ¬ 0 < fl by omega), if_neg (fun e => Bool.noConfusion (hc93.symm.trans e))]; done)
  · skip
    refine x_iload d_Mo_exact_7 rfl ?_
    refine z_if_lt d_Mo_exact_9 (tgt := 52) rfl (by omega) ?_
    refine x_aload_n d_Mo_exact_12 rfl ?_
    refine x_iload_n d_Mo_exact_13 rfl ?_
    refine w_callV (As := [_]) d_Mo_exact_14 k_Mo_253 k_model rfl rfl rfl (c_Mo_isOrder hG hN hN6) ?_
    refine z_bif_eq 52 d_Mo_exact_17 rfl (fun hc17 => ?_) (fun hc17 => ?_)
    · skip
      skip
      refine x_iconst (v := nI 0) d_Mo_exact_52 (by decide +kernel) ?_
      refine J7 _ ?_
      unfold moKn
      first
        | (rw [hc17]; rfl)
        | (rw [hc17, decide_eq_false hc22, hc30]; rfl)
        | (rw [hc17, decide_eq_true hc22, decide_eq_true hc36]; rfl)
        | (rw [hc17, decide_eq_true hc22, decide_eq_false hc36, hc45]; rfl)
        | (rw [hc17, decide_eq_false hc22, hc30, decide_eq_true hc36]; rfl)
        | (rw [hc17, decide_eq_false hc22, hc30, decide_eq_false hc36, hc45]; rfl)
    · skip
      skip
      refine x_iload_n d_Mo_exact_20 rfl ?_
      refine x_iconst (v := -1) d_Mo_exact_21 (by decide +kernel) ?_
      refine x_icmp_eq 33 d_Mo_exact_22 rfl (fun hc22 => ?_) (fun hc22 => ?_)
      · skip
        skip
        refine x_iload d_Mo_exact_33 rfl ?_
        refine x_iconst (v := -1) d_Mo_exact_35 (by decide +kernel) ?_
        refine x_icmp_eq 48 d_Mo_exact_36 rfl (fun hc36 => ?_) (fun hc36 => ?_)
        · skip
          skip
          refine x_iconst (v := nI 1) d_Mo_exact_48 (by decide +kernel) ?_
          refine x_goto 53 d_Mo_exact_49 rfl ?_
          refine J7 _ ?_
          unfold moKn
          first
            | (rw [hc17]; rfl)
            | (rw [hc17, decide_eq_false hc22, hc30]; rfl)
            | (rw [hc17, decide_eq_true hc22, decide_eq_true hc36]; rfl)
            | (rw [hc17, decide_eq_true hc22, decide_eq_false hc36, hc45]; rfl)
            | (rw [hc17, decide_eq_false hc22, hc30, decide_eq_true hc36]; rfl)
            | (rw [hc17, decide_eq_false hc22, hc30, decide_eq_false hc36, hc45]; rfl)
        · skip
          skip
          refine x_aload_n d_Mo_exact_39 rfl ?_
          refine x_iload d_Mo_exact_40 rfl ?_
          refine w_callV (As := [_]) d_Mo_exact_42 k_Mo_253 k_model rfl rfl rfl (c_Mo_isOrder hG hN hN6) ?_
          refine z_bif_eq 52 d_Mo_exact_45 rfl (fun hc45 => ?_) (fun hc45 => ?_)
          · skip
            skip
            refine x_iconst (v := nI 0) d_Mo_exact_52 (by decide +kernel) ?_
            refine J7 _ ?_
            unfold moKn
            first
              | (rw [hc17]; rfl)
              | (rw [hc17, decide_eq_false hc22, hc30]; rfl)
              | (rw [hc17, decide_eq_true hc22, decide_eq_true hc36]; rfl)
              | (rw [hc17, decide_eq_true hc22, decide_eq_false hc36, hc45]; rfl)
              | (rw [hc17, decide_eq_false hc22, hc30, decide_eq_true hc36]; rfl)
              | (rw [hc17, decide_eq_false hc22, hc30, decide_eq_false hc36, hc45]; rfl)
          · skip
            skip
            refine x_iconst (v := nI 1) d_Mo_exact_48 (by decide +kernel) ?_
            refine x_goto 53 d_Mo_exact_49 rfl ?_
            refine J7 _ ?_
            unfold moKn
            first
              | (rw [hc17]; rfl)
              | (rw [hc17, decide_eq_false hc22, hc30]; rfl)
              | (rw [hc17, decide_eq_true hc22, decide_eq_true hc36]; rfl)
              | (rw [hc17, decide_eq_true hc22, decide_eq_false hc36, hc45]; rfl)
              | (rw [hc17, decide_eq_false hc22, hc30, decide_eq_true hc36]; rfl)
              | (rw [hc17, decide_eq_false hc22, hc30, decide_eq_false hc36, hc45]; rfl)
      · skip
        skip
        refine x_aload_n d_Mo_exact_25 rfl ?_
        refine x_iload_n d_Mo_exact_26 rfl ?_
        refine w_callV (As := [_]) d_Mo_exact_27 k_Mo_253 k_model rfl rfl rfl (c_Mo_isOrder hG hN hN6) ?_
        refine z_bif_eq 52 d_Mo_exact_30 rfl (fun hc30 => ?_) (fun hc30 => ?_)
        · skip
          skip
          refine x_iconst (v := nI 0) d_Mo_exact_52 (by decide +kernel) ?_
          refine J7 _ ?_
          unfold moKn
          first
            | (rw [hc17]; rfl)
            | (rw [hc17, decide_eq_false hc22, hc30]; rfl)
            | (rw [hc17, decide_eq_true hc22, decide_eq_true hc36]; rfl)
            | (rw [hc17, decide_eq_true hc22, decide_eq_false hc36, hc45]; rfl)
            | (rw [hc17, decide_eq_false hc22, hc30, decide_eq_true hc36]; rfl)
            | (rw [hc17, decide_eq_false hc22, hc30, decide_eq_false hc36, hc45]; rfl)
        · skip
          skip
          refine x_iload d_Mo_exact_33 rfl ?_
          refine x_iconst (v := -1) d_Mo_exact_35 (by decide +kernel) ?_
          refine x_icmp_eq 48 d_Mo_exact_36 rfl (fun hc36 => ?_) (fun hc36 => ?_)
          · skip
            skip
            refine x_iconst (v := nI 1) d_Mo_exact_48 (by decide +kernel) ?_
            refine x_goto 53 d_Mo_exact_49 rfl ?_
            refine J7 _ ?_
            unfold moKn
            first
              | (rw [hc17]; rfl)
              | (rw [hc17, decide_eq_false hc22, hc30]; rfl)
              | (rw [hc17, decide_eq_true hc22, decide_eq_true hc36]; rfl)
              | (rw [hc17, decide_eq_true hc22, decide_eq_false hc36, hc45]; rfl)
              | (rw [hc17, decide_eq_false hc22, hc30, decide_eq_true hc36]; rfl)
              | (rw [hc17, decide_eq_false hc22, hc30, decide_eq_false hc36, hc45]; rfl)
          · skip
            skip
            refine x_aload_n d_Mo_exact_39 rfl ?_
            refine x_iload d_Mo_exact_40 rfl ?_
            refine w_callV (As := [_]) d_Mo_exact_42 k_Mo_253 k_model rfl rfl rfl (c_Mo_isOrder hG hN hN6) ?_
            refine z_bif_eq 52 d_Mo_exact_45 rfl (fun hc45 => ?_) (fun hc45 => ?_)
            · skip
              skip
              refine x_iconst (v := nI 0) d_Mo_exact_52 (by decide +kernel) ?_
              refine J7 _ ?_
              unfold moKn
              first
                | (rw [hc17]; rfl)
                | (rw [hc17, decide_eq_false hc22, hc30]; rfl)
                | (rw [hc17, decide_eq_true hc22, decide_eq_true hc36]; rfl)
                | (rw [hc17, decide_eq_true hc22, decide_eq_false hc36, hc45]; rfl)
                | (rw [hc17, decide_eq_false hc22, hc30, decide_eq_true hc36]; rfl)
                | (rw [hc17, decide_eq_false hc22, hc30, decide_eq_false hc36, hc45]; rfl)
            · skip
              skip
              refine x_iconst (v := nI 1) d_Mo_exact_48 (by decide +kernel) ?_
              refine x_goto 53 d_Mo_exact_49 rfl ?_
              refine J7 _ ?_
              unfold moKn
              first
                | (rw [hc17]; rfl)
                | (rw [hc17, decide_eq_false hc22, hc30]; rfl)
                | (rw [hc17, decide_eq_true hc22, decide_eq_true hc36]; rfl)
                | (rw [hc17, decide_eq_true hc22, decide_eq_false hc36, hc45]; rfl)
                | (rw [hc17, decide_eq_false hc22, hc30, decide_eq_true hc36]; rfl)
                | (rw [hc17, decide_eq_false hc22, hc30, decide_eq_false hc36, hc45]; rfl)
set_option maxRecDepth 100000 in
set_option maxHeartbeats 1000000 in
theorem c_Mo_exact00 {G : xG} {B d : Nat} {S : xS} (hG : xOkG G) {x : Int32} {s N a : Nat} (hf : moFind S x 8 = some s) (hN : sF S 186 20 = nI N) (hN6 : N ≤ 6) (ha : a < N) {fl : Nat} (hfl : sA S 193 s = nI fl) (hf6 : fl ≤ 6) (hk : moKn N (nI a) (-1) (-1) = true) (hC : moExC S s fl (moHO S (nI a) (-1) (-1) N) = 0) {Z : xS} (hA : (moLi s a none none 2 0 (moThr S 0)).1 = true → sF ((moLi s a none none 2 0 (moThr S 0)).2) 186 36 = nI 1 ∧ moGA s 1 161 (moA0 (moLi s a none none 2 0 (moThr S 0)).2 s) 0 1 Z ∧ moLI Z 1 N) : EX G m_Mo_exact (d + 7) 0 [(0, .ref (B + 186)), (1, .int x), (2, .int (nI a)), (3, .int (-1)), (4, .int (-1))] [] (mk G B S) (xRet G B (some (.int (if (moLi s a none none 2 0 (moThr S 0)).1 = true then nI 1 else 0))) (if (moLi s a none none 2 0 (moThr S 0)).1 = true then moAdF Z s 1 else (moLi s a none none 2 0 (moThr S 0)).2)) := by
  have hs := moFind_lt hf
  refine x_aload_n d_Mo_exact_0 rfl ?_
  refine x_iload_n d_Mo_exact_1 rfl ?_
  refine w_callV (As := [_]) d_Mo_exact_2 k_Mo_166 k_model rfl rfl rfl (c_Mo_find hG) ?_
  rw [hf, show cI (some s) = nI s from rfl]
  refine s_istore (lv' := [(0, _), (1, _), (2, _), (3, _), (4, _), (5, _)]) d_Mo_exact_5 (by decide) rfl ?_
  refine x_join 53 (.int (bI (moKn N (nI a) (-1) (-1)))) ?_ (fun J7 => ?_)
  · skip
    refine s_istore (lv' := [(0, _), (1, _), (2, _), (3, _), (4, _), (5, _), (6, _)]) d_Mo_exact_53 (by decide) rfl ?_
    refine x_aload_n d_Mo_exact_55 rfl ?_
    refine x_join 101 (.int (nI (moExC S s fl (moHO S (nI a) (-1) (-1) N)))) ?_ (fun J56 => ?_)
    · skip
      refine y_puti d_Mo_exact_101 pf_Mo_140 k_model (xBle rfl) rfl rfl rfl ?_
      refine x_aload_n d_Mo_exact_104 rfl ?_
      refine y_getf (v := .int (nI (moExC S s fl (moHO S (nI a) (-1) (-1) N)))) d_Mo_exact_105 gf_Mo_140 k_model (congrArg (fun q => some (Value.int q)) moThr_0) ?_
      refine z_if_le 113 d_Mo_exact_108 rfl (by rw [hC]; decide) (fun hc108 => ?_) (fun q => absurd q (by rw [hC]; decide))
      rw [hC]
      refine x_aload_n d_Mo_exact_113 rfl ?_
      refine x_iload d_Mo_exact_114 rfl ?_
      refine x_iload_n d_Mo_exact_116 rfl ?_
      refine x_iload_n d_Mo_exact_117 rfl ?_
      refine x_iload d_Mo_exact_118 rfl ?_
      refine w_callV (As := [_, _, _, _]) d_Mo_exact_120 k_Mo_260 k_model rfl rfl rfl (c_Mo_isFound00 (S := moThr S 0) hG hs hN6 ha) ?_
      refine z_bif_eq 135 d_Mo_exact_123 rfl (fun hc123 => ?_) (fun hc123 => ?_)
      · skip
        skip
        refine x_iconst (v := nI 0) d_Mo_exact_135 (by decide +kernel) ?_
        refine x_ireturn d_Mo_exact_136 rfl rfl ?_
        first
          | (rw [if_pos hc123, if_pos hc123]; exact ⟨rfl, rfl⟩)
          | (rw [if_neg (fun e => Bool.noConfusion (hc123.symm.trans e)), if_neg (fun e => Bool.noConfusion (hc123.symm.trans e))]; exact ⟨rfl, rfl⟩)
      · skip
        skip
        refine x_aload_n d_Mo_exact_126 rfl ?_
        refine x_iload d_Mo_exact_127 rfl ?_
        refine w_callV (As := [_]) d_Mo_exact_129 k_Mo_244 k_model rfl rfl rfl (c_Mo_adopt hG hs (hA hc123).1 (by decide) hN6 (hA hc123).2.1 (hA hc123).2.2) ?_
        refine x_goto 136 d_Mo_exact_132 rfl ?_
        refine x_ireturn d_Mo_exact_136 rfl rfl ?_
        first
          | (rw [if_pos hc123, if_pos hc123]; exact ⟨rfl, rfl⟩)
          | (rw [if_neg (fun e => Bool.noConfusion (hc123.symm.trans e)), if_neg (fun e => Bool.noConfusion (hc123.symm.trans e))]; exact ⟨rfl, rfl⟩)
    · skip
      refine x_iload d_Mo_exact_56 rfl ?_
      refine z_bif_ne 65 d_Mo_exact_58 rfl (fun hc58 => ?_) (fun q => absurd q (by rw [hk]; decide))
      refine x_aload_n d_Mo_exact_65 rfl ?_
      refine y_getf d_Mo_exact_66 gf_Mo_23 k_model rfl ?_
      refine x_iload d_Mo_exact_69 rfl ?_
      refine y_zald hG d_Mo_exact_71 k_m_planned _ rfl (by omega) ?_
      refine x_if_ne 96 d_Mo_exact_72 rfl (fun hc72 => ?_) (fun hc72 => ?_)
      · skip
        skip
        refine x_iconst (v := nI 2) d_Mo_exact_96 (by decide +kernel) ?_
        refine x_goto 101 d_Mo_exact_97 rfl ?_
        refine J56 _ ?_
        unfold moExC
        first
          | (rw [if_pos hc72]; done)
          | (rw [if_neg (Classical.not_not.mpr hc72), if_pos hc82]; done)
          | (rw [if_neg (Classical.not_not.mpr hc72), if_neg (show ¬ 0 < fl by omega), if_pos hc93]; done)
          | (rw [if_neg (Classical.not_not.mpr hc72), if_neg (show ¬ 0 < fl by omega), if_neg (fun e => Bool.noConfusion (hc93.symm.trans e))]; done)
      · skip
        skip
        refine x_aload_n d_Mo_exact_75 rfl ?_
        refine y_getf d_Mo_exact_76 gf_Mo_29 k_model rfl ?_
        refine x_iload d_Mo_exact_79 rfl ?_
        refine y_iald hG d_Mo_exact_81 k_m_flawCounts _ rfl (by omega) ?_
        rw [hfl]
        refine z_if_gt 96 d_Mo_exact_82 rfl (by omega) (fun hc82 => ?_) (fun hc82 => ?_)
        · skip
          skip
          refine x_iconst (v := nI 2) d_Mo_exact_96 (by decide +kernel) ?_
          refine x_goto 101 d_Mo_exact_97 rfl ?_
          refine J56 _ ?_
          unfold moExC
          first
            | (rw [if_pos hc72]; done)
            | (rw [if_neg (Classical.not_not.mpr hc72), if_pos hc82]; done)
            | (rw [if_neg (Classical.not_not.mpr hc72), if_neg (show ¬ 0 < fl by omega), if_pos hc93]; done)
            | (rw [if_neg (Classical.not_not.mpr hc72), if_neg (show ¬ 0 < fl by omega), if_neg (fun e => Bool.noConfusion (hc93.symm.trans e))]; done)
        · skip
          skip
          refine x_aload_n d_Mo_exact_85 rfl ?_
          refine x_iload_n d_Mo_exact_86 rfl ?_
          refine x_iload_n d_Mo_exact_87 rfl ?_
          refine x_iload d_Mo_exact_88 rfl ?_
          refine w_callV (As := [_, _, _]) d_Mo_exact_90 k_Mo_256 k_model rfl rfl rfl (c_Mo_hasOpen hG hN hN6) ?_
          refine z_bif_ne 100 d_Mo_exact_93 rfl (fun hc93 => ?_) (fun hc93 => ?_)
          · skip
            skip
            refine x_iconst (v := nI 0) d_Mo_exact_100 (by decide +kernel) ?_
            refine J56 _ ?_
            unfold moExC
            first
              | (rw [if_pos hc72]; done)
              | (rw [if_neg (Classical.not_not.mpr hc72), if_pos hc82]; done)
              | (rw [if_neg (Classical.not_not.mpr hc72), if_neg (show ¬ 0 < fl by omega), if_pos hc93]; done)
              | (rw [if_neg (Classical.not_not.mpr hc72), if_neg (show ¬ 0 < fl by omega), if_neg (fun e => Bool.noConfusion (hc93.symm.trans e))]; done)
          · skip
            skip
            refine x_iconst (v := nI 2) d_Mo_exact_96 (by decide +kernel) ?_
            refine x_goto 101 d_Mo_exact_97 rfl ?_
            refine J56 _ ?_
            unfold moExC
            first
              | (rw [if_pos hc72]; done)
              | (rw [if_neg (Classical.not_not.mpr hc72), if_pos hc82]; done)
              | (rw [if_neg (Classical.not_not.mpr hc72), if_neg (show ¬ 0 < fl by omega), if_pos hc93]; done)
              | (rw [if_neg (Classical.not_not.mpr hc72), if_neg (show ¬ 0 < fl by omega), if_neg (fun e => Bool.noConfusion (hc93.symm.trans e))]; done)
  · skip
    refine x_iload d_Mo_exact_7 rfl ?_
    refine z_if_lt d_Mo_exact_9 (tgt := 52) rfl (by omega) ?_
    refine x_aload_n d_Mo_exact_12 rfl ?_
    refine x_iload_n d_Mo_exact_13 rfl ?_
    refine w_callV (As := [_]) d_Mo_exact_14 k_Mo_253 k_model rfl rfl rfl (c_Mo_isOrder hG hN hN6) ?_
    refine z_bif_eq 52 d_Mo_exact_17 rfl (fun hc17 => ?_) (fun hc17 => ?_)
    · skip
      skip
      refine x_iconst (v := nI 0) d_Mo_exact_52 (by decide +kernel) ?_
      refine J7 _ ?_
      unfold moKn
      first
        | (rw [hc17]; rfl)
        | (rw [hc17, decide_eq_false hc22, hc30]; rfl)
        | (rw [hc17, decide_eq_true hc22, decide_eq_true hc36]; rfl)
        | (rw [hc17, decide_eq_true hc22, decide_eq_false hc36, hc45]; rfl)
        | (rw [hc17, decide_eq_false hc22, hc30, decide_eq_true hc36]; rfl)
        | (rw [hc17, decide_eq_false hc22, hc30, decide_eq_false hc36, hc45]; rfl)
    · skip
      skip
      refine x_iload_n d_Mo_exact_20 rfl ?_
      refine x_iconst (v := -1) d_Mo_exact_21 (by decide +kernel) ?_
      refine x_icmp_eq 33 d_Mo_exact_22 rfl (fun hc22 => ?_) (fun q => absurd q (fun q => q rfl))
      refine x_iload d_Mo_exact_33 rfl ?_
      refine x_iconst (v := -1) d_Mo_exact_35 (by decide +kernel) ?_
      refine x_icmp_eq 48 d_Mo_exact_36 rfl (fun hc36 => ?_) (fun q => absurd q (fun q => q rfl))
      refine x_iconst (v := nI 1) d_Mo_exact_48 (by decide +kernel) ?_
      refine x_goto 53 d_Mo_exact_49 rfl ?_
      refine J7 _ ?_
      unfold moKn
      first
        | (rw [hc17]; rfl)
        | (rw [hc17, decide_eq_false hc22, hc30]; rfl)
        | (rw [hc17, decide_eq_true hc22, decide_eq_true hc36]; rfl)
        | (rw [hc17, decide_eq_true hc22, decide_eq_false hc36, hc45]; rfl)
        | (rw [hc17, decide_eq_false hc22, hc30, decide_eq_true hc36]; rfl)
        | (rw [hc17, decide_eq_false hc22, hc30, decide_eq_false hc36, hc45]; rfl)
set_option maxRecDepth 100000 in
set_option maxHeartbeats 1000000 in
theorem c_Mo_exact01 {G : xG} {B d : Nat} {S : xS} (hG : xOkG G) {x : Int32} {s N a c : Nat} (hf : moFind S x 8 = some s) (hN : sF S 186 20 = nI N) (hN6 : N ≤ 6) (ha : a < N) (hcN : c < N) {fl : Nat} (hfl : sA S 193 s = nI fl) (hf6 : fl ≤ 6) (hk : moKn N (nI a) (-1) (nI c) = true) (hC : moExC S s fl (moHO S (nI a) (-1) (nI c) N) = 0) {Z : xS} (hA : (moLi s a none (some c) 2 0 (moThr S 0)).1 = true → sF ((moLi s a none (some c) 2 0 (moThr S 0)).2) 186 36 = nI 2 ∧ moGA s 2 161 (moA0 (moLi s a none (some c) 2 0 (moThr S 0)).2 s) 0 1 Z ∧ moLI Z 2 N) : EX G m_Mo_exact (d + 7) 0 [(0, .ref (B + 186)), (1, .int x), (2, .int (nI a)), (3, .int (-1)), (4, .int (nI c))] [] (mk G B S) (xRet G B (some (.int (if (moLi s a none (some c) 2 0 (moThr S 0)).1 = true then nI 2 else 0))) (if (moLi s a none (some c) 2 0 (moThr S 0)).1 = true then moAdF Z s 2 else (moLi s a none (some c) 2 0 (moThr S 0)).2)) := by
  have hs := moFind_lt hf
  refine x_aload_n d_Mo_exact_0 rfl ?_
  refine x_iload_n d_Mo_exact_1 rfl ?_
  refine w_callV (As := [_]) d_Mo_exact_2 k_Mo_166 k_model rfl rfl rfl (c_Mo_find hG) ?_
  rw [hf, show cI (some s) = nI s from rfl]
  refine s_istore (lv' := [(0, _), (1, _), (2, _), (3, _), (4, _), (5, _)]) d_Mo_exact_5 (by decide) rfl ?_
  refine x_join 53 (.int (bI (moKn N (nI a) (-1) (nI c)))) ?_ (fun J7 => ?_)
  · skip
    refine s_istore (lv' := [(0, _), (1, _), (2, _), (3, _), (4, _), (5, _), (6, _)]) d_Mo_exact_53 (by decide) rfl ?_
    refine x_aload_n d_Mo_exact_55 rfl ?_
    refine x_join 101 (.int (nI (moExC S s fl (moHO S (nI a) (-1) (nI c) N)))) ?_ (fun J56 => ?_)
    · skip
      refine y_puti d_Mo_exact_101 pf_Mo_140 k_model (xBle rfl) rfl rfl rfl ?_
      refine x_aload_n d_Mo_exact_104 rfl ?_
      refine y_getf (v := .int (nI (moExC S s fl (moHO S (nI a) (-1) (nI c) N)))) d_Mo_exact_105 gf_Mo_140 k_model (congrArg (fun q => some (Value.int q)) moThr_0) ?_
      refine z_if_le 113 d_Mo_exact_108 rfl (by rw [hC]; decide) (fun hc108 => ?_) (fun q => absurd q (by rw [hC]; decide))
      rw [hC]
      refine x_aload_n d_Mo_exact_113 rfl ?_
      refine x_iload d_Mo_exact_114 rfl ?_
      refine x_iload_n d_Mo_exact_116 rfl ?_
      refine x_iload_n d_Mo_exact_117 rfl ?_
      refine x_iload d_Mo_exact_118 rfl ?_
      refine w_callV (As := [_, _, _, _]) d_Mo_exact_120 k_Mo_260 k_model rfl rfl rfl (c_Mo_isFound01 (S := moThr S 0) hG hs hN6 ha hcN) ?_
      refine z_bif_eq 135 d_Mo_exact_123 rfl (fun hc123 => ?_) (fun hc123 => ?_)
      · skip
        skip
        refine x_iconst (v := nI 0) d_Mo_exact_135 (by decide +kernel) ?_
        refine x_ireturn d_Mo_exact_136 rfl rfl ?_
        first
          | (rw [if_pos hc123, if_pos hc123]; exact ⟨rfl, rfl⟩)
          | (rw [if_neg (fun e => Bool.noConfusion (hc123.symm.trans e)), if_neg (fun e => Bool.noConfusion (hc123.symm.trans e))]; exact ⟨rfl, rfl⟩)
      · skip
        skip
        refine x_aload_n d_Mo_exact_126 rfl ?_
        refine x_iload d_Mo_exact_127 rfl ?_
        refine w_callV (As := [_]) d_Mo_exact_129 k_Mo_244 k_model rfl rfl rfl (c_Mo_adopt hG hs (hA hc123).1 (by decide) hN6 (hA hc123).2.1 (hA hc123).2.2) ?_
        refine x_goto 136 d_Mo_exact_132 rfl ?_
        refine x_ireturn d_Mo_exact_136 rfl rfl ?_
        first
          | (rw [if_pos hc123, if_pos hc123]; exact ⟨rfl, rfl⟩)
          | (rw [if_neg (fun e => Bool.noConfusion (hc123.symm.trans e)), if_neg (fun e => Bool.noConfusion (hc123.symm.trans e))]; exact ⟨rfl, rfl⟩)
    · skip
      refine x_iload d_Mo_exact_56 rfl ?_
      refine z_bif_ne 65 d_Mo_exact_58 rfl (fun hc58 => ?_) (fun q => absurd q (by rw [hk]; decide))
      refine x_aload_n d_Mo_exact_65 rfl ?_
      refine y_getf d_Mo_exact_66 gf_Mo_23 k_model rfl ?_
      refine x_iload d_Mo_exact_69 rfl ?_
      refine y_zald hG d_Mo_exact_71 k_m_planned _ rfl (by omega) ?_
      refine x_if_ne 96 d_Mo_exact_72 rfl (fun hc72 => ?_) (fun hc72 => ?_)
      · skip
        skip
        refine x_iconst (v := nI 2) d_Mo_exact_96 (by decide +kernel) ?_
        refine x_goto 101 d_Mo_exact_97 rfl ?_
        refine J56 _ ?_
        unfold moExC
        first
          | (rw [if_pos hc72]; done)
          | (rw [if_neg (Classical.not_not.mpr hc72), if_pos hc82]; done)
          | (rw [if_neg (Classical.not_not.mpr hc72), if_neg (show ¬ 0 < fl by omega), if_pos hc93]; done)
          | (rw [if_neg (Classical.not_not.mpr hc72), if_neg (show ¬ 0 < fl by omega), if_neg (fun e => Bool.noConfusion (hc93.symm.trans e))]; done)
      · skip
        skip
        refine x_aload_n d_Mo_exact_75 rfl ?_
        refine y_getf d_Mo_exact_76 gf_Mo_29 k_model rfl ?_
        refine x_iload d_Mo_exact_79 rfl ?_
        refine y_iald hG d_Mo_exact_81 k_m_flawCounts _ rfl (by omega) ?_
        rw [hfl]
        refine z_if_gt 96 d_Mo_exact_82 rfl (by omega) (fun hc82 => ?_) (fun hc82 => ?_)
        · skip
          skip
          refine x_iconst (v := nI 2) d_Mo_exact_96 (by decide +kernel) ?_
          refine x_goto 101 d_Mo_exact_97 rfl ?_
          refine J56 _ ?_
          unfold moExC
          first
            | (rw [if_pos hc72]; done)
            | (rw [if_neg (Classical.not_not.mpr hc72), if_pos hc82]; done)
            | (rw [if_neg (Classical.not_not.mpr hc72), if_neg (show ¬ 0 < fl by omega), if_pos hc93]; done)
            | (rw [if_neg (Classical.not_not.mpr hc72), if_neg (show ¬ 0 < fl by omega), if_neg (fun e => Bool.noConfusion (hc93.symm.trans e))]; done)
        · skip
          skip
          refine x_aload_n d_Mo_exact_85 rfl ?_
          refine x_iload_n d_Mo_exact_86 rfl ?_
          refine x_iload_n d_Mo_exact_87 rfl ?_
          refine x_iload d_Mo_exact_88 rfl ?_
          refine w_callV (As := [_, _, _]) d_Mo_exact_90 k_Mo_256 k_model rfl rfl rfl (c_Mo_hasOpen hG hN hN6) ?_
          refine z_bif_ne 100 d_Mo_exact_93 rfl (fun hc93 => ?_) (fun hc93 => ?_)
          · skip
            skip
            refine x_iconst (v := nI 0) d_Mo_exact_100 (by decide +kernel) ?_
            refine J56 _ ?_
            unfold moExC
            first
              | (rw [if_pos hc72]; done)
              | (rw [if_neg (Classical.not_not.mpr hc72), if_pos hc82]; done)
              | (rw [if_neg (Classical.not_not.mpr hc72), if_neg (show ¬ 0 < fl by omega), if_pos hc93]; done)
              | (rw [if_neg (Classical.not_not.mpr hc72), if_neg (show ¬ 0 < fl by omega), if_neg (fun e => Bool.noConfusion (hc93.symm.trans e))]; done)
          · skip
            skip
            refine x_iconst (v := nI 2) d_Mo_exact_96 (by decide +kernel) ?_
            refine x_goto 101 d_Mo_exact_97 rfl ?_
            refine J56 _ ?_
            unfold moExC
            first
              | (rw [if_pos hc72]; done)
              | (rw [if_neg (Classical.not_not.mpr hc72), if_pos hc82]; done)
              | (rw [if_neg (Classical.not_not.mpr hc72), if_neg (show ¬ 0 < fl by omega), if_pos hc93]; done)
              | (rw [if_neg (Classical.not_not.mpr hc72), if_neg (show ¬ 0 < fl by omega), if_neg (fun e => Bool.noConfusion (hc93.symm.trans e))]; done)
  · skip
    refine x_iload d_Mo_exact_7 rfl ?_
    refine z_if_lt d_Mo_exact_9 (tgt := 52) rfl (by omega) ?_
    refine x_aload_n d_Mo_exact_12 rfl ?_
    refine x_iload_n d_Mo_exact_13 rfl ?_
    refine w_callV (As := [_]) d_Mo_exact_14 k_Mo_253 k_model rfl rfl rfl (c_Mo_isOrder hG hN hN6) ?_
    refine z_bif_eq 52 d_Mo_exact_17 rfl (fun hc17 => ?_) (fun hc17 => ?_)
    · skip
      skip
      refine x_iconst (v := nI 0) d_Mo_exact_52 (by decide +kernel) ?_
      refine J7 _ ?_
      unfold moKn
      first
        | (rw [hc17]; rfl)
        | (rw [hc17, decide_eq_false hc22, hc30]; rfl)
        | (rw [hc17, decide_eq_true hc22, decide_eq_true hc36]; rfl)
        | (rw [hc17, decide_eq_true hc22, decide_eq_false hc36, hc45]; rfl)
        | (rw [hc17, decide_eq_false hc22, hc30, decide_eq_true hc36]; rfl)
        | (rw [hc17, decide_eq_false hc22, hc30, decide_eq_false hc36, hc45]; rfl)
    · skip
      skip
      refine x_iload_n d_Mo_exact_20 rfl ?_
      refine x_iconst (v := -1) d_Mo_exact_21 (by decide +kernel) ?_
      refine x_icmp_eq 33 d_Mo_exact_22 rfl (fun hc22 => ?_) (fun q => absurd q (fun q => q rfl))
      refine x_iload d_Mo_exact_33 rfl ?_
      refine x_iconst (v := -1) d_Mo_exact_35 (by decide +kernel) ?_
      refine x_icmp_eq 48 d_Mo_exact_36 rfl (fun hc36 => ?_) (fun hc36 => ?_)
      · skip
        skip
        refine x_iconst (v := nI 1) d_Mo_exact_48 (by decide +kernel) ?_
        refine x_goto 53 d_Mo_exact_49 rfl ?_
        refine J7 _ ?_
        unfold moKn
        first
          | (rw [hc17]; rfl)
          | (rw [hc17, decide_eq_false hc22, hc30]; rfl)
          | (rw [hc17, decide_eq_true hc22, decide_eq_true hc36]; rfl)
          | (rw [hc17, decide_eq_true hc22, decide_eq_false hc36, hc45]; rfl)
          | (rw [hc17, decide_eq_false hc22, hc30, decide_eq_true hc36]; rfl)
          | (rw [hc17, decide_eq_false hc22, hc30, decide_eq_false hc36, hc45]; rfl)
      · skip
        skip
        refine x_aload_n d_Mo_exact_39 rfl ?_
        refine x_iload d_Mo_exact_40 rfl ?_
        refine w_callV (As := [_]) d_Mo_exact_42 k_Mo_253 k_model rfl rfl rfl (c_Mo_isOrder hG hN hN6) ?_
        refine z_bif_eq 52 d_Mo_exact_45 rfl (fun hc45 => ?_) (fun hc45 => ?_)
        · skip
          skip
          refine x_iconst (v := nI 0) d_Mo_exact_52 (by decide +kernel) ?_
          refine J7 _ ?_
          unfold moKn
          first
            | (rw [hc17]; rfl)
            | (rw [hc17, decide_eq_false hc22, hc30]; rfl)
            | (rw [hc17, decide_eq_true hc22, decide_eq_true hc36]; rfl)
            | (rw [hc17, decide_eq_true hc22, decide_eq_false hc36, hc45]; rfl)
            | (rw [hc17, decide_eq_false hc22, hc30, decide_eq_true hc36]; rfl)
            | (rw [hc17, decide_eq_false hc22, hc30, decide_eq_false hc36, hc45]; rfl)
        · skip
          skip
          refine x_iconst (v := nI 1) d_Mo_exact_48 (by decide +kernel) ?_
          refine x_goto 53 d_Mo_exact_49 rfl ?_
          refine J7 _ ?_
          unfold moKn
          first
            | (rw [hc17]; rfl)
            | (rw [hc17, decide_eq_false hc22, hc30]; rfl)
            | (rw [hc17, decide_eq_true hc22, decide_eq_true hc36]; rfl)
            | (rw [hc17, decide_eq_true hc22, decide_eq_false hc36, hc45]; rfl)
            | (rw [hc17, decide_eq_false hc22, hc30, decide_eq_true hc36]; rfl)
            | (rw [hc17, decide_eq_false hc22, hc30, decide_eq_false hc36, hc45]; rfl)
set_option maxRecDepth 100000 in
set_option maxHeartbeats 1000000 in
theorem c_Mo_exact10 {G : xG} {B d : Nat} {S : xS} (hG : xOkG G) {x : Int32} {s N a b : Nat} (hf : moFind S x 8 = some s) (hN : sF S 186 20 = nI N) (hN6 : N ≤ 6) (ha : a < N) (hbN : b < N) {fl : Nat} (hfl : sA S 193 s = nI fl) (hf6 : fl ≤ 6) (hk : moKn N (nI a) (nI b) (-1) = true) (hC : moExC S s fl (moHO S (nI a) (nI b) (-1) N) = 0) {Z : xS} (hA : (moLi s a (some b) none 2 0 (moThr S 0)).1 = true → sF ((moLi s a (some b) none 2 0 (moThr S 0)).2) 186 36 = nI 2 ∧ moGA s 2 161 (moA0 (moLi s a (some b) none 2 0 (moThr S 0)).2 s) 0 1 Z ∧ moLI Z 2 N) : EX G m_Mo_exact (d + 7) 0 [(0, .ref (B + 186)), (1, .int x), (2, .int (nI a)), (3, .int (nI b)), (4, .int (-1))] [] (mk G B S) (xRet G B (some (.int (if (moLi s a (some b) none 2 0 (moThr S 0)).1 = true then nI 2 else 0))) (if (moLi s a (some b) none 2 0 (moThr S 0)).1 = true then moAdF Z s 2 else (moLi s a (some b) none 2 0 (moThr S 0)).2)) := by
  have hs := moFind_lt hf
  refine x_aload_n d_Mo_exact_0 rfl ?_
  refine x_iload_n d_Mo_exact_1 rfl ?_
  refine w_callV (As := [_]) d_Mo_exact_2 k_Mo_166 k_model rfl rfl rfl (c_Mo_find hG) ?_
  rw [hf, show cI (some s) = nI s from rfl]
  refine s_istore (lv' := [(0, _), (1, _), (2, _), (3, _), (4, _), (5, _)]) d_Mo_exact_5 (by decide) rfl ?_
  refine x_join 53 (.int (bI (moKn N (nI a) (nI b) (-1)))) ?_ (fun J7 => ?_)
  · skip
    refine s_istore (lv' := [(0, _), (1, _), (2, _), (3, _), (4, _), (5, _), (6, _)]) d_Mo_exact_53 (by decide) rfl ?_
    refine x_aload_n d_Mo_exact_55 rfl ?_
    refine x_join 101 (.int (nI (moExC S s fl (moHO S (nI a) (nI b) (-1) N)))) ?_ (fun J56 => ?_)
    · skip
      refine y_puti d_Mo_exact_101 pf_Mo_140 k_model (xBle rfl) rfl rfl rfl ?_
      refine x_aload_n d_Mo_exact_104 rfl ?_
      refine y_getf (v := .int (nI (moExC S s fl (moHO S (nI a) (nI b) (-1) N)))) d_Mo_exact_105 gf_Mo_140 k_model (congrArg (fun q => some (Value.int q)) moThr_0) ?_
      refine z_if_le 113 d_Mo_exact_108 rfl (by rw [hC]; decide) (fun hc108 => ?_) (fun q => absurd q (by rw [hC]; decide))
      rw [hC]
      refine x_aload_n d_Mo_exact_113 rfl ?_
      refine x_iload d_Mo_exact_114 rfl ?_
      refine x_iload_n d_Mo_exact_116 rfl ?_
      refine x_iload_n d_Mo_exact_117 rfl ?_
      refine x_iload d_Mo_exact_118 rfl ?_
      refine w_callV (As := [_, _, _, _]) d_Mo_exact_120 k_Mo_260 k_model rfl rfl rfl (c_Mo_isFound10 (S := moThr S 0) hG hs hN6 ha hbN) ?_
      refine z_bif_eq 135 d_Mo_exact_123 rfl (fun hc123 => ?_) (fun hc123 => ?_)
      · skip
        skip
        refine x_iconst (v := nI 0) d_Mo_exact_135 (by decide +kernel) ?_
        refine x_ireturn d_Mo_exact_136 rfl rfl ?_
        first
          | (rw [if_pos hc123, if_pos hc123]; exact ⟨rfl, rfl⟩)
          | (rw [if_neg (fun e => Bool.noConfusion (hc123.symm.trans e)), if_neg (fun e => Bool.noConfusion (hc123.symm.trans e))]; exact ⟨rfl, rfl⟩)
      · skip
        skip
        refine x_aload_n d_Mo_exact_126 rfl ?_
        refine x_iload d_Mo_exact_127 rfl ?_
        refine w_callV (As := [_]) d_Mo_exact_129 k_Mo_244 k_model rfl rfl rfl (c_Mo_adopt hG hs (hA hc123).1 (by decide) hN6 (hA hc123).2.1 (hA hc123).2.2) ?_
        refine x_goto 136 d_Mo_exact_132 rfl ?_
        refine x_ireturn d_Mo_exact_136 rfl rfl ?_
        first
          | (rw [if_pos hc123, if_pos hc123]; exact ⟨rfl, rfl⟩)
          | (rw [if_neg (fun e => Bool.noConfusion (hc123.symm.trans e)), if_neg (fun e => Bool.noConfusion (hc123.symm.trans e))]; exact ⟨rfl, rfl⟩)
    · skip
      refine x_iload d_Mo_exact_56 rfl ?_
      refine z_bif_ne 65 d_Mo_exact_58 rfl (fun hc58 => ?_) (fun q => absurd q (by rw [hk]; decide))
      refine x_aload_n d_Mo_exact_65 rfl ?_
      refine y_getf d_Mo_exact_66 gf_Mo_23 k_model rfl ?_
      refine x_iload d_Mo_exact_69 rfl ?_
      refine y_zald hG d_Mo_exact_71 k_m_planned _ rfl (by omega) ?_
      refine x_if_ne 96 d_Mo_exact_72 rfl (fun hc72 => ?_) (fun hc72 => ?_)
      · skip
        skip
        refine x_iconst (v := nI 2) d_Mo_exact_96 (by decide +kernel) ?_
        refine x_goto 101 d_Mo_exact_97 rfl ?_
        refine J56 _ ?_
        unfold moExC
        first
          | (rw [if_pos hc72]; done)
          | (rw [if_neg (Classical.not_not.mpr hc72), if_pos hc82]; done)
          | (rw [if_neg (Classical.not_not.mpr hc72), if_neg (show ¬ 0 < fl by omega), if_pos hc93]; done)
          | (rw [if_neg (Classical.not_not.mpr hc72), if_neg (show ¬ 0 < fl by omega), if_neg (fun e => Bool.noConfusion (hc93.symm.trans e))]; done)
      · skip
        skip
        refine x_aload_n d_Mo_exact_75 rfl ?_
        refine y_getf d_Mo_exact_76 gf_Mo_29 k_model rfl ?_
        refine x_iload d_Mo_exact_79 rfl ?_
        refine y_iald hG d_Mo_exact_81 k_m_flawCounts _ rfl (by omega) ?_
        rw [hfl]
        refine z_if_gt 96 d_Mo_exact_82 rfl (by omega) (fun hc82 => ?_) (fun hc82 => ?_)
        · skip
          skip
          refine x_iconst (v := nI 2) d_Mo_exact_96 (by decide +kernel) ?_
          refine x_goto 101 d_Mo_exact_97 rfl ?_
          refine J56 _ ?_
          unfold moExC
          first
            | (rw [if_pos hc72]; done)
            | (rw [if_neg (Classical.not_not.mpr hc72), if_pos hc82]; done)
            | (rw [if_neg (Classical.not_not.mpr hc72), if_neg (show ¬ 0 < fl by omega), if_pos hc93]; done)
            | (rw [if_neg (Classical.not_not.mpr hc72), if_neg (show ¬ 0 < fl by omega), if_neg (fun e => Bool.noConfusion (hc93.symm.trans e))]; done)
        · skip
          skip
          refine x_aload_n d_Mo_exact_85 rfl ?_
          refine x_iload_n d_Mo_exact_86 rfl ?_
          refine x_iload_n d_Mo_exact_87 rfl ?_
          refine x_iload d_Mo_exact_88 rfl ?_
          refine w_callV (As := [_, _, _]) d_Mo_exact_90 k_Mo_256 k_model rfl rfl rfl (c_Mo_hasOpen hG hN hN6) ?_
          refine z_bif_ne 100 d_Mo_exact_93 rfl (fun hc93 => ?_) (fun hc93 => ?_)
          · skip
            skip
            refine x_iconst (v := nI 0) d_Mo_exact_100 (by decide +kernel) ?_
            refine J56 _ ?_
            unfold moExC
            first
              | (rw [if_pos hc72]; done)
              | (rw [if_neg (Classical.not_not.mpr hc72), if_pos hc82]; done)
              | (rw [if_neg (Classical.not_not.mpr hc72), if_neg (show ¬ 0 < fl by omega), if_pos hc93]; done)
              | (rw [if_neg (Classical.not_not.mpr hc72), if_neg (show ¬ 0 < fl by omega), if_neg (fun e => Bool.noConfusion (hc93.symm.trans e))]; done)
          · skip
            skip
            refine x_iconst (v := nI 2) d_Mo_exact_96 (by decide +kernel) ?_
            refine x_goto 101 d_Mo_exact_97 rfl ?_
            refine J56 _ ?_
            unfold moExC
            first
              | (rw [if_pos hc72]; done)
              | (rw [if_neg (Classical.not_not.mpr hc72), if_pos hc82]; done)
              | (rw [if_neg (Classical.not_not.mpr hc72), if_neg (show ¬ 0 < fl by omega), if_pos hc93]; done)
              | (rw [if_neg (Classical.not_not.mpr hc72), if_neg (show ¬ 0 < fl by omega), if_neg (fun e => Bool.noConfusion (hc93.symm.trans e))]; done)
  · skip
    refine x_iload d_Mo_exact_7 rfl ?_
    refine z_if_lt d_Mo_exact_9 (tgt := 52) rfl (by omega) ?_
    refine x_aload_n d_Mo_exact_12 rfl ?_
    refine x_iload_n d_Mo_exact_13 rfl ?_
    refine w_callV (As := [_]) d_Mo_exact_14 k_Mo_253 k_model rfl rfl rfl (c_Mo_isOrder hG hN hN6) ?_
    refine z_bif_eq 52 d_Mo_exact_17 rfl (fun hc17 => ?_) (fun hc17 => ?_)
    · skip
      skip
      refine x_iconst (v := nI 0) d_Mo_exact_52 (by decide +kernel) ?_
      refine J7 _ ?_
      unfold moKn
      first
        | (rw [hc17]; rfl)
        | (rw [hc17, decide_eq_false hc22, hc30]; rfl)
        | (rw [hc17, decide_eq_true hc22, decide_eq_true hc36]; rfl)
        | (rw [hc17, decide_eq_true hc22, decide_eq_false hc36, hc45]; rfl)
        | (rw [hc17, decide_eq_false hc22, hc30, decide_eq_true hc36]; rfl)
        | (rw [hc17, decide_eq_false hc22, hc30, decide_eq_false hc36, hc45]; rfl)
    · skip
      skip
      refine x_iload_n d_Mo_exact_20 rfl ?_
      refine x_iconst (v := -1) d_Mo_exact_21 (by decide +kernel) ?_
      refine x_icmp_eq 33 d_Mo_exact_22 rfl (fun hc22 => ?_) (fun hc22 => ?_)
      · skip
        skip
        refine x_iload d_Mo_exact_33 rfl ?_
        refine x_iconst (v := -1) d_Mo_exact_35 (by decide +kernel) ?_
        refine x_icmp_eq 48 d_Mo_exact_36 rfl (fun hc36 => ?_) (fun q => absurd q (fun q => q rfl))
        refine x_iconst (v := nI 1) d_Mo_exact_48 (by decide +kernel) ?_
        refine x_goto 53 d_Mo_exact_49 rfl ?_
        refine J7 _ ?_
        unfold moKn
        first
          | (rw [hc17]; rfl)
          | (rw [hc17, decide_eq_false hc22, hc30]; rfl)
          | (rw [hc17, decide_eq_true hc22, decide_eq_true hc36]; rfl)
          | (rw [hc17, decide_eq_true hc22, decide_eq_false hc36, hc45]; rfl)
          | (rw [hc17, decide_eq_false hc22, hc30, decide_eq_true hc36]; rfl)
          | (rw [hc17, decide_eq_false hc22, hc30, decide_eq_false hc36, hc45]; rfl)
      · skip
        skip
        refine x_aload_n d_Mo_exact_25 rfl ?_
        refine x_iload_n d_Mo_exact_26 rfl ?_
        refine w_callV (As := [_]) d_Mo_exact_27 k_Mo_253 k_model rfl rfl rfl (c_Mo_isOrder hG hN hN6) ?_
        refine z_bif_eq 52 d_Mo_exact_30 rfl (fun hc30 => ?_) (fun hc30 => ?_)
        · skip
          skip
          refine x_iconst (v := nI 0) d_Mo_exact_52 (by decide +kernel) ?_
          refine J7 _ ?_
          unfold moKn
          first
            | (rw [hc17]; rfl)
            | (rw [hc17, decide_eq_false hc22, hc30]; rfl)
            | (rw [hc17, decide_eq_true hc22, decide_eq_true hc36]; rfl)
            | (rw [hc17, decide_eq_true hc22, decide_eq_false hc36, hc45]; rfl)
            | (rw [hc17, decide_eq_false hc22, hc30, decide_eq_true hc36]; rfl)
            | (rw [hc17, decide_eq_false hc22, hc30, decide_eq_false hc36, hc45]; rfl)
        · skip
          skip
          refine x_iload d_Mo_exact_33 rfl ?_
          refine x_iconst (v := -1) d_Mo_exact_35 (by decide +kernel) ?_
          refine x_icmp_eq 48 d_Mo_exact_36 rfl (fun hc36 => ?_) (fun q => absurd q (fun q => q rfl))
          refine x_iconst (v := nI 1) d_Mo_exact_48 (by decide +kernel) ?_
          refine x_goto 53 d_Mo_exact_49 rfl ?_
          refine J7 _ ?_
          unfold moKn
          first
            | (rw [hc17]; rfl)
            | (rw [hc17, decide_eq_false hc22, hc30]; rfl)
            | (rw [hc17, decide_eq_true hc22, decide_eq_true hc36]; rfl)
            | (rw [hc17, decide_eq_true hc22, decide_eq_false hc36, hc45]; rfl)
            | (rw [hc17, decide_eq_false hc22, hc30, decide_eq_true hc36]; rfl)
            | (rw [hc17, decide_eq_false hc22, hc30, decide_eq_false hc36, hc45]; rfl)
set_option maxRecDepth 100000 in
set_option maxHeartbeats 1000000 in
theorem c_Mo_exact11 {G : xG} {B d : Nat} {S : xS} (hG : xOkG G) {x : Int32} {s N a b c : Nat} (hf : moFind S x 8 = some s) (hN : sF S 186 20 = nI N) (hN6 : N ≤ 6) (ha : a < N) (hbN : b < N) (hcN : c < N) {fl : Nat} (hfl : sA S 193 s = nI fl) (hf6 : fl ≤ 6) (hk : moKn N (nI a) (nI b) (nI c) = true) (hC : moExC S s fl (moHO S (nI a) (nI b) (nI c) N) = 0) {Z : xS} (hA : (moLi s a (some b) (some c) 2 0 (moThr S 0)).1 = true → sF ((moLi s a (some b) (some c) 2 0 (moThr S 0)).2) 186 36 = nI 3 ∧ moGA s 3 161 (moA0 (moLi s a (some b) (some c) 2 0 (moThr S 0)).2 s) 0 1 Z ∧ moLI Z 3 N) : EX G m_Mo_exact (d + 7) 0 [(0, .ref (B + 186)), (1, .int x), (2, .int (nI a)), (3, .int (nI b)), (4, .int (nI c))] [] (mk G B S) (xRet G B (some (.int (if (moLi s a (some b) (some c) 2 0 (moThr S 0)).1 = true then nI 3 else 0))) (if (moLi s a (some b) (some c) 2 0 (moThr S 0)).1 = true then moAdF Z s 3 else (moLi s a (some b) (some c) 2 0 (moThr S 0)).2)) := by
  have hs := moFind_lt hf
  refine x_aload_n d_Mo_exact_0 rfl ?_
  refine x_iload_n d_Mo_exact_1 rfl ?_
  refine w_callV (As := [_]) d_Mo_exact_2 k_Mo_166 k_model rfl rfl rfl (c_Mo_find hG) ?_
  rw [hf, show cI (some s) = nI s from rfl]
  refine s_istore (lv' := [(0, _), (1, _), (2, _), (3, _), (4, _), (5, _)]) d_Mo_exact_5 (by decide) rfl ?_
  refine x_join 53 (.int (bI (moKn N (nI a) (nI b) (nI c)))) ?_ (fun J7 => ?_)
  · skip
    refine s_istore (lv' := [(0, _), (1, _), (2, _), (3, _), (4, _), (5, _), (6, _)]) d_Mo_exact_53 (by decide) rfl ?_
    refine x_aload_n d_Mo_exact_55 rfl ?_
    refine x_join 101 (.int (nI (moExC S s fl (moHO S (nI a) (nI b) (nI c) N)))) ?_ (fun J56 => ?_)
    · skip
      refine y_puti d_Mo_exact_101 pf_Mo_140 k_model (xBle rfl) rfl rfl rfl ?_
      refine x_aload_n d_Mo_exact_104 rfl ?_
      refine y_getf (v := .int (nI (moExC S s fl (moHO S (nI a) (nI b) (nI c) N)))) d_Mo_exact_105 gf_Mo_140 k_model (congrArg (fun q => some (Value.int q)) moThr_0) ?_
      refine z_if_le 113 d_Mo_exact_108 rfl (by rw [hC]; decide) (fun hc108 => ?_) (fun q => absurd q (by rw [hC]; decide))
      rw [hC]
      refine x_aload_n d_Mo_exact_113 rfl ?_
      refine x_iload d_Mo_exact_114 rfl ?_
      refine x_iload_n d_Mo_exact_116 rfl ?_
      refine x_iload_n d_Mo_exact_117 rfl ?_
      refine x_iload d_Mo_exact_118 rfl ?_
      refine w_callV (As := [_, _, _, _]) d_Mo_exact_120 k_Mo_260 k_model rfl rfl rfl (c_Mo_isFound11 (S := moThr S 0) hG hs hN6 ha hbN hcN) ?_
      refine z_bif_eq 135 d_Mo_exact_123 rfl (fun hc123 => ?_) (fun hc123 => ?_)
      · skip
        skip
        refine x_iconst (v := nI 0) d_Mo_exact_135 (by decide +kernel) ?_
        refine x_ireturn d_Mo_exact_136 rfl rfl ?_
        first
          | (rw [if_pos hc123, if_pos hc123]; exact ⟨rfl, rfl⟩)
          | (rw [if_neg (fun e => Bool.noConfusion (hc123.symm.trans e)), if_neg (fun e => Bool.noConfusion (hc123.symm.trans e))]; exact ⟨rfl, rfl⟩)
      · skip
        skip
        refine x_aload_n d_Mo_exact_126 rfl ?_
        refine x_iload d_Mo_exact_127 rfl ?_
        refine w_callV (As := [_]) d_Mo_exact_129 k_Mo_244 k_model rfl rfl rfl (c_Mo_adopt hG hs (hA hc123).1 (by decide) hN6 (hA hc123).2.1 (hA hc123).2.2) ?_
        refine x_goto 136 d_Mo_exact_132 rfl ?_
        refine x_ireturn d_Mo_exact_136 rfl rfl ?_
        first
          | (rw [if_pos hc123, if_pos hc123]; exact ⟨rfl, rfl⟩)
          | (rw [if_neg (fun e => Bool.noConfusion (hc123.symm.trans e)), if_neg (fun e => Bool.noConfusion (hc123.symm.trans e))]; exact ⟨rfl, rfl⟩)
    · skip
      refine x_iload d_Mo_exact_56 rfl ?_
      refine z_bif_ne 65 d_Mo_exact_58 rfl (fun hc58 => ?_) (fun q => absurd q (by rw [hk]; decide))
      refine x_aload_n d_Mo_exact_65 rfl ?_
      refine y_getf d_Mo_exact_66 gf_Mo_23 k_model rfl ?_
      refine x_iload d_Mo_exact_69 rfl ?_
      refine y_zald hG d_Mo_exact_71 k_m_planned _ rfl (by omega) ?_
      refine x_if_ne 96 d_Mo_exact_72 rfl (fun hc72 => ?_) (fun hc72 => ?_)
      · skip
        skip
        refine x_iconst (v := nI 2) d_Mo_exact_96 (by decide +kernel) ?_
        refine x_goto 101 d_Mo_exact_97 rfl ?_
        refine J56 _ ?_
        unfold moExC
        first
          | (rw [if_pos hc72]; done)
          | (rw [if_neg (Classical.not_not.mpr hc72), if_pos hc82]; done)
          | (rw [if_neg (Classical.not_not.mpr hc72), if_neg (show ¬ 0 < fl by omega), if_pos hc93]; done)
          | (rw [if_neg (Classical.not_not.mpr hc72), if_neg (show ¬ 0 < fl by omega), if_neg (fun e => Bool.noConfusion (hc93.symm.trans e))]; done)
      · skip
        skip
        refine x_aload_n d_Mo_exact_75 rfl ?_
        refine y_getf d_Mo_exact_76 gf_Mo_29 k_model rfl ?_
        refine x_iload d_Mo_exact_79 rfl ?_
        refine y_iald hG d_Mo_exact_81 k_m_flawCounts _ rfl (by omega) ?_
        rw [hfl]
        refine z_if_gt 96 d_Mo_exact_82 rfl (by omega) (fun hc82 => ?_) (fun hc82 => ?_)
        · skip
          skip
          refine x_iconst (v := nI 2) d_Mo_exact_96 (by decide +kernel) ?_
          refine x_goto 101 d_Mo_exact_97 rfl ?_
          refine J56 _ ?_
          unfold moExC
          first
            | (rw [if_pos hc72]; done)
            | (rw [if_neg (Classical.not_not.mpr hc72), if_pos hc82]; done)
            | (rw [if_neg (Classical.not_not.mpr hc72), if_neg (show ¬ 0 < fl by omega), if_pos hc93]; done)
            | (rw [if_neg (Classical.not_not.mpr hc72), if_neg (show ¬ 0 < fl by omega), if_neg (fun e => Bool.noConfusion (hc93.symm.trans e))]; done)
        · skip
          skip
          refine x_aload_n d_Mo_exact_85 rfl ?_
          refine x_iload_n d_Mo_exact_86 rfl ?_
          refine x_iload_n d_Mo_exact_87 rfl ?_
          refine x_iload d_Mo_exact_88 rfl ?_
          refine w_callV (As := [_, _, _]) d_Mo_exact_90 k_Mo_256 k_model rfl rfl rfl (c_Mo_hasOpen hG hN hN6) ?_
          refine z_bif_ne 100 d_Mo_exact_93 rfl (fun hc93 => ?_) (fun hc93 => ?_)
          · skip
            skip
            refine x_iconst (v := nI 0) d_Mo_exact_100 (by decide +kernel) ?_
            refine J56 _ ?_
            unfold moExC
            first
              | (rw [if_pos hc72]; done)
              | (rw [if_neg (Classical.not_not.mpr hc72), if_pos hc82]; done)
              | (rw [if_neg (Classical.not_not.mpr hc72), if_neg (show ¬ 0 < fl by omega), if_pos hc93]; done)
              | (rw [if_neg (Classical.not_not.mpr hc72), if_neg (show ¬ 0 < fl by omega), if_neg (fun e => Bool.noConfusion (hc93.symm.trans e))]; done)
          · skip
            skip
            refine x_iconst (v := nI 2) d_Mo_exact_96 (by decide +kernel) ?_
            refine x_goto 101 d_Mo_exact_97 rfl ?_
            refine J56 _ ?_
            unfold moExC
            first
              | (rw [if_pos hc72]; done)
              | (rw [if_neg (Classical.not_not.mpr hc72), if_pos hc82]; done)
              | (rw [if_neg (Classical.not_not.mpr hc72), if_neg (show ¬ 0 < fl by omega), if_pos hc93]; done)
              | (rw [if_neg (Classical.not_not.mpr hc72), if_neg (show ¬ 0 < fl by omega), if_neg (fun e => Bool.noConfusion (hc93.symm.trans e))]; done)
  · skip
    refine x_iload d_Mo_exact_7 rfl ?_
    refine z_if_lt d_Mo_exact_9 (tgt := 52) rfl (by omega) ?_
    refine x_aload_n d_Mo_exact_12 rfl ?_
    refine x_iload_n d_Mo_exact_13 rfl ?_
    refine w_callV (As := [_]) d_Mo_exact_14 k_Mo_253 k_model rfl rfl rfl (c_Mo_isOrder hG hN hN6) ?_
    refine z_bif_eq 52 d_Mo_exact_17 rfl (fun hc17 => ?_) (fun hc17 => ?_)
    · skip
      skip
      refine x_iconst (v := nI 0) d_Mo_exact_52 (by decide +kernel) ?_
      refine J7 _ ?_
      unfold moKn
      first
        | (rw [hc17]; rfl)
        | (rw [hc17, decide_eq_false hc22, hc30]; rfl)
        | (rw [hc17, decide_eq_true hc22, decide_eq_true hc36]; rfl)
        | (rw [hc17, decide_eq_true hc22, decide_eq_false hc36, hc45]; rfl)
        | (rw [hc17, decide_eq_false hc22, hc30, decide_eq_true hc36]; rfl)
        | (rw [hc17, decide_eq_false hc22, hc30, decide_eq_false hc36, hc45]; rfl)
    · skip
      skip
      refine x_iload_n d_Mo_exact_20 rfl ?_
      refine x_iconst (v := -1) d_Mo_exact_21 (by decide +kernel) ?_
      refine x_icmp_eq 33 d_Mo_exact_22 rfl (fun hc22 => ?_) (fun hc22 => ?_)
      · skip
        skip
        refine x_iload d_Mo_exact_33 rfl ?_
        refine x_iconst (v := -1) d_Mo_exact_35 (by decide +kernel) ?_
        refine x_icmp_eq 48 d_Mo_exact_36 rfl (fun hc36 => ?_) (fun hc36 => ?_)
        · skip
          skip
          refine x_iconst (v := nI 1) d_Mo_exact_48 (by decide +kernel) ?_
          refine x_goto 53 d_Mo_exact_49 rfl ?_
          refine J7 _ ?_
          unfold moKn
          first
            | (rw [hc17]; rfl)
            | (rw [hc17, decide_eq_false hc22, hc30]; rfl)
            | (rw [hc17, decide_eq_true hc22, decide_eq_true hc36]; rfl)
            | (rw [hc17, decide_eq_true hc22, decide_eq_false hc36, hc45]; rfl)
            | (rw [hc17, decide_eq_false hc22, hc30, decide_eq_true hc36]; rfl)
            | (rw [hc17, decide_eq_false hc22, hc30, decide_eq_false hc36, hc45]; rfl)
        · skip
          skip
          refine x_aload_n d_Mo_exact_39 rfl ?_
          refine x_iload d_Mo_exact_40 rfl ?_
          refine w_callV (As := [_]) d_Mo_exact_42 k_Mo_253 k_model rfl rfl rfl (c_Mo_isOrder hG hN hN6) ?_
          refine z_bif_eq 52 d_Mo_exact_45 rfl (fun hc45 => ?_) (fun hc45 => ?_)
          · skip
            skip
            refine x_iconst (v := nI 0) d_Mo_exact_52 (by decide +kernel) ?_
            refine J7 _ ?_
            unfold moKn
            first
              | (rw [hc17]; rfl)
              | (rw [hc17, decide_eq_false hc22, hc30]; rfl)
              | (rw [hc17, decide_eq_true hc22, decide_eq_true hc36]; rfl)
              | (rw [hc17, decide_eq_true hc22, decide_eq_false hc36, hc45]; rfl)
              | (rw [hc17, decide_eq_false hc22, hc30, decide_eq_true hc36]; rfl)
              | (rw [hc17, decide_eq_false hc22, hc30, decide_eq_false hc36, hc45]; rfl)
          · skip
            skip
            refine x_iconst (v := nI 1) d_Mo_exact_48 (by decide +kernel) ?_
            refine x_goto 53 d_Mo_exact_49 rfl ?_
            refine J7 _ ?_
            unfold moKn
            first
              | (rw [hc17]; rfl)
              | (rw [hc17, decide_eq_false hc22, hc30]; rfl)
              | (rw [hc17, decide_eq_true hc22, decide_eq_true hc36]; rfl)
              | (rw [hc17, decide_eq_true hc22, decide_eq_false hc36, hc45]; rfl)
              | (rw [hc17, decide_eq_false hc22, hc30, decide_eq_true hc36]; rfl)
              | (rw [hc17, decide_eq_false hc22, hc30, decide_eq_false hc36, hc45]; rfl)
      · skip
        skip
        refine x_aload_n d_Mo_exact_25 rfl ?_
        refine x_iload_n d_Mo_exact_26 rfl ?_
        refine w_callV (As := [_]) d_Mo_exact_27 k_Mo_253 k_model rfl rfl rfl (c_Mo_isOrder hG hN hN6) ?_
        refine z_bif_eq 52 d_Mo_exact_30 rfl (fun hc30 => ?_) (fun hc30 => ?_)
        · skip
          skip
          refine x_iconst (v := nI 0) d_Mo_exact_52 (by decide +kernel) ?_
          refine J7 _ ?_
          unfold moKn
          first
            | (rw [hc17]; rfl)
            | (rw [hc17, decide_eq_false hc22, hc30]; rfl)
            | (rw [hc17, decide_eq_true hc22, decide_eq_true hc36]; rfl)
            | (rw [hc17, decide_eq_true hc22, decide_eq_false hc36, hc45]; rfl)
            | (rw [hc17, decide_eq_false hc22, hc30, decide_eq_true hc36]; rfl)
            | (rw [hc17, decide_eq_false hc22, hc30, decide_eq_false hc36, hc45]; rfl)
        · skip
          skip
          refine x_iload d_Mo_exact_33 rfl ?_
          refine x_iconst (v := -1) d_Mo_exact_35 (by decide +kernel) ?_
          refine x_icmp_eq 48 d_Mo_exact_36 rfl (fun hc36 => ?_) (fun hc36 => ?_)
          · skip
            skip
            refine x_iconst (v := nI 1) d_Mo_exact_48 (by decide +kernel) ?_
            refine x_goto 53 d_Mo_exact_49 rfl ?_
            refine J7 _ ?_
            unfold moKn
            first
              | (rw [hc17]; rfl)
              | (rw [hc17, decide_eq_false hc22, hc30]; rfl)
              | (rw [hc17, decide_eq_true hc22, decide_eq_true hc36]; rfl)
              | (rw [hc17, decide_eq_true hc22, decide_eq_false hc36, hc45]; rfl)
              | (rw [hc17, decide_eq_false hc22, hc30, decide_eq_true hc36]; rfl)
              | (rw [hc17, decide_eq_false hc22, hc30, decide_eq_false hc36, hc45]; rfl)
          · skip
            skip
            refine x_aload_n d_Mo_exact_39 rfl ?_
            refine x_iload d_Mo_exact_40 rfl ?_
            refine w_callV (As := [_]) d_Mo_exact_42 k_Mo_253 k_model rfl rfl rfl (c_Mo_isOrder hG hN hN6) ?_
            refine z_bif_eq 52 d_Mo_exact_45 rfl (fun hc45 => ?_) (fun hc45 => ?_)
            · skip
              skip
              refine x_iconst (v := nI 0) d_Mo_exact_52 (by decide +kernel) ?_
              refine J7 _ ?_
              unfold moKn
              first
                | (rw [hc17]; rfl)
                | (rw [hc17, decide_eq_false hc22, hc30]; rfl)
                | (rw [hc17, decide_eq_true hc22, decide_eq_true hc36]; rfl)
                | (rw [hc17, decide_eq_true hc22, decide_eq_false hc36, hc45]; rfl)
                | (rw [hc17, decide_eq_false hc22, hc30, decide_eq_true hc36]; rfl)
                | (rw [hc17, decide_eq_false hc22, hc30, decide_eq_false hc36, hc45]; rfl)
            · skip
              skip
              refine x_iconst (v := nI 1) d_Mo_exact_48 (by decide +kernel) ?_
              refine x_goto 53 d_Mo_exact_49 rfl ?_
              refine J7 _ ?_
              unfold moKn
              first
                | (rw [hc17]; rfl)
                | (rw [hc17, decide_eq_false hc22, hc30]; rfl)
                | (rw [hc17, decide_eq_true hc22, decide_eq_true hc36]; rfl)
                | (rw [hc17, decide_eq_true hc22, decide_eq_false hc36, hc45]; rfl)
                | (rw [hc17, decide_eq_false hc22, hc30, decide_eq_true hc36]; rfl)
                | (rw [hc17, decide_eq_false hc22, hc30, decide_eq_false hc36, hc45]; rfl)
