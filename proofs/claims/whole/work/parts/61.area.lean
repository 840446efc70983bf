/-! the reference's fit and area -/
def moFitB (S : xS) (w h : Int32) (k : Nat) : Bool := (!decide (sA S 211 k < w) && decide (h ≤ sA S 212 k)) || (!decide (sA S 211 k < h) && !decide (sA S 212 k < w))
def moFtS (b : Option Nat) (f : Bool) (le : Nat → Bool) (k : Nat) : Option Nat := match b with
  | none => if f = true then some k else none
  | some v => if f = true ∧ le v = true then some k else some v
def moFt (S : xS) (w h : Int32) (R : Nat) : Nat → Option Nat
  | 0 => none
  | i + 1 => moFtS (moFt S w h R i) (moFitB S w h (R - i - 1)) (fun b => decide (sA S 211 (R - i - 1) * sA S 212 (R - i - 1) ≤ sA S 211 b * sA S 212 b)) (R - i - 1)
theorem moFt_lt {S : xS} {w h : Int32} {R : Nat} : ∀ {i b : Nat}, i ≤ R → moFt S w h R i = some b → b < R
  | i + 1, b, hi, e => by
    simp only [moFt] at e
    cases q : moFt S w h R i with
    | none =>
      rw [q] at e
      simp only [moFtS] at e
      split at e
      · cases e; omega
      · cases e
    | some v =>
      rw [q] at e
      simp only [moFtS] at e
      split at e
      · cases e; omega
      · cases e; exact moFt_lt (by omega) q
theorem xdecr (a : Nat) : nI a + Int32.ofInt (-1) = nI a - nI 1 := by
  rw [Int32.sub_eq_add_neg]; rfl
set_option maxRecDepth 100000 in
set_option maxHeartbeats 1000000 in
theorem c_Mo_fit {G : xG} {B d : Nat} {S : xS} (hG : xOkG G) {R : Nat} (hR : sF S 186 27 = nI R) (hR10 : R ≤ 10) {w h : Int32} : EX G m_Mo_fit d 0 [(0, .ref (B + 186)), (1, .int w), (2, .int h)] [] (mk G B S) ((xRet G B (some (.int (cI (moFt (moThr S 0) w h R R)))) (moThr S 0))) := by
  refine x_aload_n d_Mo_fit_0 rfl ?_
  refine x_iconst (v := nI 0) d_Mo_fit_1 (by decide +kernel) ?_
  refine y_puti d_Mo_fit_2 pf_Mo_140 k_model (xBle rfl) rfl rfl rfl ?_
  have hR0 : sF (moThr S 0) 186 27 = nI R := (moThr_F (S := S) (v := nI 0) (k := 27) (by decide)).trans hR
  rw [show uF S 186 0 (nI 0) = moThr S 0 from rfl]
  generalize moThr S 0 = T at hR0 ⊢
  refine x_iconst (v := -1) d_Mo_fit_5 (by decide +kernel) ?_
  refine s_istore_n (lv' := [(0, _), (1, _), (2, _), (3, _)]) d_Mo_fit_6 (by decide) rfl ?_
  refine x_aload_n d_Mo_fit_7 rfl ?_
  refine y_getf (v := .int (nI R)) d_Mo_fit_8 gf_Mo_263 k_model (congrArg (fun q => some (Value.int q)) hR0) ?_
  refine x_iconst (v := nI 1) d_Mo_fit_11 (by decide +kernel) ?_
  refine x_isub d_Mo_fit_12 ?_
  refine s_istore (lv' := [(0, _), (1, _), (2, _), (3, _), (4, _)]) d_Mo_fit_13 (by decide) rfl ?_
  have L15 : ∀ i, i ≤ R →  EX G m_Mo_fit d 15 [(0, .ref (B + 186)), (1, .int w), (2, .int h), (3, .int (cI (moFt T w h R i))), (4, .int (nI (R - i) - nI 1))] [] (mk G B T) (xRet G B (some (.int (cI (moFt T w h R R)))) T) := by
    refine x_down (R) ?_ ?_
    · skip
      rw [Nat.sub_self]
      refine x_iload d_Mo_fit_15 rfl ?_
      refine x_if_lt 154 d_Mo_fit_17 rfl (fun hc17 => ?_) (fun q => absurd q (Classical.not_not.mpr (by decide +kernel)))
      refine x_iload_n d_Mo_fit_154 rfl ?_
      refine x_ireturn d_Mo_fit_155 rfl rfl ?_
      exact ⟨rfl, rfl⟩
    · intro i hi ih
      rw [pk_sub (show 1 ≤ R - i by omega)]
      rw [show moFt T w h R (i + 1) = moFtS (moFt T w h R i) (moFitB T w h (R - i - 1)) (fun b => decide (sA T 211 (R - i - 1) * sA T 212 (R - i - 1) ≤ sA T 211 b * sA T 212 b)) (R - i - 1) from rfl] at ih
      refine x_iload d_Mo_fit_15 rfl ?_
      refine z_if_lt d_Mo_fit_17 (tgt := 154) rfl (by omega) ?_
      refine x_join 69 (.int (bI (moFitB T w h (R - i - 1)))) ?_ (fun J20 => ?_)
      · skip
        refine s_istore (lv' := [(0, _), (1, _), (2, _), (3, _), (4, _), (5, _)]) d_Mo_fit_69 (by decide) rfl ?_
        rcases hq : moFt T w h R i with _ | b
        · skip
          rw [hq] at ih
          simp only [moFtS] at ih
          refine x_iload_n d_Mo_fit_71 rfl ?_
          refine x_if_lt 124 d_Mo_fit_72 rfl (fun hc72 => ?_) (fun q => absurd q (Classical.not_not.mpr (by decide +kernel)))
          refine x_iconst (v := nI 1) d_Mo_fit_124 (by decide +kernel) ?_
          refine x_goto 129 d_Mo_fit_125 rfl ?_
          refine s_istore (lv' := [(0, _), (1, _), (2, _), (3, _), (4, _), (5, _), (6, _)]) d_Mo_fit_129 (by decide) rfl ?_
          refine x_iload d_Mo_fit_131 rfl ?_
          refine z_bif_eq 146 d_Mo_fit_133 rfl (fun hc133 => ?_) (fun hc133 => ?_)
          · skip
            rw [if_neg (fun q => Bool.noConfusion (hc133.symm.trans q))] at ih
            refine x_iload_n d_Mo_fit_146 rfl ?_
            refine s_istore_n (lv' := [(0, _), (1, _), (2, _), (3, _), (4, _), (5, _), (6, _)]) d_Mo_fit_147 (by decide) rfl ?_
            refine s_iinc (lv' := [(0, _), (1, _), (2, _), (3, _), (4, _), (5, _), (6, _)]) d_Mo_fit_148 rfl (xdecr _) (by decide) rfl ?_
            refine x_goto 15 d_Mo_fit_151 rfl ?_
            refine x_lv (lv' := [(0, _), (1, _), (2, _), (3, _), (4, _)]) [0, 1, 2, 3, 4] rfl ?_
            exact ih
          · skip
            rw [if_pos hc133] at ih
            refine x_iload d_Mo_fit_136 rfl ?_
            refine z_if_eq 146 d_Mo_fit_138 rfl (by omega) (fun q => absurd q (by omega)) (fun hc138 => ?_)
            refine x_iload d_Mo_fit_141 rfl ?_
            refine x_goto 147 d_Mo_fit_143 rfl ?_
            refine s_istore_n (lv' := [(0, _), (1, _), (2, _), (3, _), (4, _), (5, _), (6, _)]) d_Mo_fit_147 (by decide) rfl ?_
            refine s_iinc (lv' := [(0, _), (1, _), (2, _), (3, _), (4, _), (5, _), (6, _)]) d_Mo_fit_148 rfl (xdecr _) (by decide) rfl ?_
            refine x_goto 15 d_Mo_fit_151 rfl ?_
            refine x_lv (lv' := [(0, _), (1, _), (2, _), (3, _), (4, _)]) [0, 1, 2, 3, 4] rfl ?_
            exact ih
        · skip
          have hb := moFt_lt (Nat.le_of_lt hi) hq
          rw [hq] at ih
          simp only [moFtS] at ih
          rw [show cI (some b) = nI b from rfl]
          refine x_iload_n d_Mo_fit_71 rfl ?_
          refine z_if_lt d_Mo_fit_72 (tgt := 124) rfl (by omega) ?_
          refine x_join 129 (.int (bI (decide (sA T 211 (R - i - 1) * sA T 212 (R - i - 1) ≤ sA T 211 b * sA T 212 b)))) ?_ (fun J75 => ?_)
          · skip
            refine s_istore (lv' := [(0, _), (1, _), (2, _), (3, _), (4, _), (5, _), (6, _)]) d_Mo_fit_129 (by decide) rfl ?_
            refine x_iload d_Mo_fit_131 rfl ?_
            refine z_bif_eq 146 d_Mo_fit_133 rfl (fun hc133 => ?_) (fun hc133 => ?_)
            · skip
              rw [if_neg (fun q => Bool.noConfusion (hc133.symm.trans q.1))] at ih
              refine x_iload_n d_Mo_fit_146 rfl ?_
              refine s_istore_n (lv' := [(0, _), (1, _), (2, _), (3, _), (4, _), (5, _), (6, _)]) d_Mo_fit_147 (by decide) rfl ?_
              refine s_iinc (lv' := [(0, _), (1, _), (2, _), (3, _), (4, _), (5, _), (6, _)]) d_Mo_fit_148 rfl (xdecr _) (by decide) rfl ?_
              refine x_goto 15 d_Mo_fit_151 rfl ?_
              refine x_lv (lv' := [(0, _), (1, _), (2, _), (3, _), (4, _)]) [0, 1, 2, 3, 4] rfl ?_
              exact ih
            · skip
              skip
              refine x_iload d_Mo_fit_136 rfl ?_
              refine z_bif_eq 146 d_Mo_fit_138 rfl (fun hc138 => ?_) (fun hc138 => ?_)
              · skip
                rw [if_neg (fun q => Bool.noConfusion (hc138.symm.trans q.2))] at ih
                refine x_iload_n d_Mo_fit_146 rfl ?_
                refine s_istore_n (lv' := [(0, _), (1, _), (2, _), (3, _), (4, _), (5, _), (6, _)]) d_Mo_fit_147 (by decide) rfl ?_
                refine s_iinc (lv' := [(0, _), (1, _), (2, _), (3, _), (4, _), (5, _), (6, _)]) d_Mo_fit_148 rfl (xdecr _) (by decide) rfl ?_
                refine x_goto 15 d_Mo_fit_151 rfl ?_
                refine x_lv (lv' := [(0, _), (1, _), (2, _), (3, _), (4, _)]) [0, 1, 2, 3, 4] rfl ?_
                exact ih
              · skip
                rw [if_pos ⟨hc133, hc138⟩] at ih
                refine x_iload d_Mo_fit_141 rfl ?_
                refine x_goto 147 d_Mo_fit_143 rfl ?_
                refine s_istore_n (lv' := [(0, _), (1, _), (2, _), (3, _), (4, _), (5, _), (6, _)]) d_Mo_fit_147 (by decide) rfl ?_
                refine s_iinc (lv' := [(0, _), (1, _), (2, _), (3, _), (4, _), (5, _), (6, _)]) d_Mo_fit_148 rfl (xdecr _) (by decide) rfl ?_
                refine x_goto 15 d_Mo_fit_151 rfl ?_
                refine x_lv (lv' := [(0, _), (1, _), (2, _), (3, _), (4, _)]) [0, 1, 2, 3, 4] rfl ?_
                exact ih
          · skip
            refine x_aload_n d_Mo_fit_75 rfl ?_
            refine y_getf d_Mo_fit_76 gf_Mo_83 k_model rfl ?_
            refine x_iload d_Mo_fit_79 rfl ?_
            refine y_iald hG d_Mo_fit_81 k_m_offW _ rfl (by omega) ?_
            refine x_aload_n d_Mo_fit_82 rfl ?_
            refine y_getf d_Mo_fit_83 gf_Mo_86 k_model rfl ?_
            refine x_iload d_Mo_fit_86 rfl ?_
            refine y_iald hG d_Mo_fit_88 k_m_offH _ rfl (by omega) ?_
            refine x_imul d_Mo_fit_89 ?_
            refine x_aload_n d_Mo_fit_90 rfl ?_
            refine y_getf d_Mo_fit_91 gf_Mo_83 k_model rfl ?_
            refine x_iload_n d_Mo_fit_94 rfl ?_
            refine z_if_ge 103 d_Mo_fit_95 rfl (by omega) ?_
            refine x_iload_n d_Mo_fit_103 rfl ?_
            refine y_iald hG d_Mo_fit_104 k_m_offW _ rfl (by omega) ?_
            refine x_aload_n d_Mo_fit_105 rfl ?_
            refine y_getf d_Mo_fit_106 gf_Mo_86 k_model rfl ?_
            refine x_iload_n d_Mo_fit_109 rfl ?_
            refine z_if_ge 118 d_Mo_fit_110 rfl (by omega) ?_
            refine x_iload_n d_Mo_fit_118 rfl ?_
            refine y_iald hG d_Mo_fit_119 k_m_offH _ rfl (by omega) ?_
            refine x_imul d_Mo_fit_120 ?_
            refine x_icmp_gt 128 d_Mo_fit_121 rfl (fun hc121 => ?_) (fun hc121 => ?_)
            · skip
              skip
              refine x_iconst (v := nI 0) d_Mo_fit_128 (by decide +kernel) ?_
              refine J75 _ ?_
              first
                | (rw [decide_eq_true (Int32.not_lt.mp hc121)]; rfl)
                | (rw [decide_eq_false (Int32.not_le.mpr hc121)]; rfl)
            · skip
              skip
              refine x_iconst (v := nI 1) d_Mo_fit_124 (by decide +kernel) ?_
              refine x_goto 129 d_Mo_fit_125 rfl ?_
              refine J75 _ ?_
              first
                | (rw [decide_eq_true (Int32.not_lt.mp hc121)]; rfl)
                | (rw [decide_eq_false (Int32.not_le.mpr hc121)]; rfl)
      · skip
        refine x_aload_n d_Mo_fit_20 rfl ?_
        refine y_getf d_Mo_fit_21 gf_Mo_83 k_model rfl ?_
        refine x_iload d_Mo_fit_24 rfl ?_
        refine y_iald hG d_Mo_fit_26 k_m_offW _ rfl (by omega) ?_
        refine x_iload_n d_Mo_fit_27 rfl ?_
        refine x_icmp_lt 42 d_Mo_fit_28 rfl (fun hc28 => ?_) (fun hc28 => ?_)
        · skip
          skip
          refine x_aload_n d_Mo_fit_42 rfl ?_
          refine y_getf d_Mo_fit_43 gf_Mo_83 k_model rfl ?_
          refine x_iload d_Mo_fit_46 rfl ?_
          refine y_iald hG d_Mo_fit_48 k_m_offW _ rfl (by omega) ?_
          refine x_iload_n d_Mo_fit_49 rfl ?_
          refine x_icmp_lt 68 d_Mo_fit_50 rfl (fun hc50 => ?_) (fun hc50 => ?_)
          · skip
            skip
            refine x_iconst (v := nI 0) d_Mo_fit_68 (by decide +kernel) ?_
            refine J20 _ ?_
            unfold moFitB
            first
              | (rw [decide_eq_false hc28, decide_eq_true hc39]; rfl)
              | (rw [decide_eq_false hc28, decide_eq_false hc39, decide_eq_true hc50]; rfl)
              | (rw [decide_eq_false hc28, decide_eq_false hc39, decide_eq_false hc50, decide_eq_true hc61]; rfl)
              | (rw [decide_eq_false hc28, decide_eq_false hc39, decide_eq_false hc50, decide_eq_false hc61]; rfl)
              | (rw [decide_eq_true hc28, decide_eq_true hc50]; rfl)
              | (rw [decide_eq_true hc28, decide_eq_false hc50, decide_eq_true hc61]; rfl)
              | (rw [decide_eq_true hc28, decide_eq_false hc50, decide_eq_false hc61]; rfl)
          · skip
            skip
            refine x_aload_n d_Mo_fit_53 rfl ?_
            refine y_getf d_Mo_fit_54 gf_Mo_86 k_model rfl ?_
            refine x_iload d_Mo_fit_57 rfl ?_
            refine y_iald hG d_Mo_fit_59 k_m_offH _ rfl (by omega) ?_
            refine x_iload_n d_Mo_fit_60 rfl ?_
            refine x_icmp_lt 68 d_Mo_fit_61 rfl (fun hc61 => ?_) (fun hc61 => ?_)
            · skip
              skip
              refine x_iconst (v := nI 0) d_Mo_fit_68 (by decide +kernel) ?_
              refine J20 _ ?_
              unfold moFitB
              first
                | (rw [decide_eq_false hc28, decide_eq_true hc39]; rfl)
                | (rw [decide_eq_false hc28, decide_eq_false hc39, decide_eq_true hc50]; rfl)
                | (rw [decide_eq_false hc28, decide_eq_false hc39, decide_eq_false hc50, decide_eq_true hc61]; rfl)
                | (rw [decide_eq_false hc28, decide_eq_false hc39, decide_eq_false hc50, decide_eq_false hc61]; rfl)
                | (rw [decide_eq_true hc28, decide_eq_true hc50]; rfl)
                | (rw [decide_eq_true hc28, decide_eq_false hc50, decide_eq_true hc61]; rfl)
                | (rw [decide_eq_true hc28, decide_eq_false hc50, decide_eq_false hc61]; rfl)
            · skip
              skip
              refine x_iconst (v := nI 1) d_Mo_fit_64 (by decide +kernel) ?_
              refine x_goto 69 d_Mo_fit_65 rfl ?_
              refine J20 _ ?_
              unfold moFitB
              first
                | (rw [decide_eq_false hc28, decide_eq_true hc39]; rfl)
                | (rw [decide_eq_false hc28, decide_eq_false hc39, decide_eq_true hc50]; rfl)
                | (rw [decide_eq_false hc28, decide_eq_false hc39, decide_eq_false hc50, decide_eq_true hc61]; rfl)
                | (rw [decide_eq_false hc28, decide_eq_false hc39, decide_eq_false hc50, decide_eq_false hc61]; rfl)
                | (rw [decide_eq_true hc28, decide_eq_true hc50]; rfl)
                | (rw [decide_eq_true hc28, decide_eq_false hc50, decide_eq_true hc61]; rfl)
                | (rw [decide_eq_true hc28, decide_eq_false hc50, decide_eq_false hc61]; rfl)
        · skip
          skip
          refine x_aload_n d_Mo_fit_31 rfl ?_
          refine y_getf d_Mo_fit_32 gf_Mo_86 k_model rfl ?_
          refine x_iload d_Mo_fit_35 rfl ?_
          refine y_iald hG d_Mo_fit_37 k_m_offH _ rfl (by omega) ?_
          refine x_iload_n d_Mo_fit_38 rfl ?_
          refine x_icmp_ge 64 d_Mo_fit_39 rfl (fun hc39 => ?_) (fun hc39 => ?_)
          · skip
            skip
            refine x_iconst (v := nI 1) d_Mo_fit_64 (by decide +kernel) ?_
            refine x_goto 69 d_Mo_fit_65 rfl ?_
            refine J20 _ ?_
            unfold moFitB
            first
              | (rw [decide_eq_false hc28, decide_eq_true hc39]; rfl)
              | (rw [decide_eq_false hc28, decide_eq_false hc39, decide_eq_true hc50]; rfl)
              | (rw [decide_eq_false hc28, decide_eq_false hc39, decide_eq_false hc50, decide_eq_true hc61]; rfl)
              | (rw [decide_eq_false hc28, decide_eq_false hc39, decide_eq_false hc50, decide_eq_false hc61]; rfl)
              | (rw [decide_eq_true hc28, decide_eq_true hc50]; rfl)
              | (rw [decide_eq_true hc28, decide_eq_false hc50, decide_eq_true hc61]; rfl)
              | (rw [decide_eq_true hc28, decide_eq_false hc50, decide_eq_false hc61]; rfl)
          · skip
            skip
            refine x_aload_n d_Mo_fit_42 rfl ?_
            refine y_getf d_Mo_fit_43 gf_Mo_83 k_model rfl ?_
            refine x_iload d_Mo_fit_46 rfl ?_
            refine y_iald hG d_Mo_fit_48 k_m_offW _ rfl (by omega) ?_
            refine x_iload_n d_Mo_fit_49 rfl ?_
            refine x_icmp_lt 68 d_Mo_fit_50 rfl (fun hc50 => ?_) (fun hc50 => ?_)
            · skip
              skip
              refine x_iconst (v := nI 0) d_Mo_fit_68 (by decide +kernel) ?_
              refine J20 _ ?_
              unfold moFitB
              first
                | (rw [decide_eq_false hc28, decide_eq_true hc39]; rfl)
                | (rw [decide_eq_false hc28, decide_eq_false hc39, decide_eq_true hc50]; rfl)
                | (rw [decide_eq_false hc28, decide_eq_false hc39, decide_eq_false hc50, decide_eq_true hc61]; rfl)
                | (rw [decide_eq_false hc28, decide_eq_false hc39, decide_eq_false hc50, decide_eq_false hc61]; rfl)
                | (rw [decide_eq_true hc28, decide_eq_true hc50]; rfl)
                | (rw [decide_eq_true hc28, decide_eq_false hc50, decide_eq_true hc61]; rfl)
                | (rw [decide_eq_true hc28, decide_eq_false hc50, decide_eq_false hc61]; rfl)
            · skip
              skip
              refine x_aload_n d_Mo_fit_53 rfl ?_
              refine y_getf d_Mo_fit_54 gf_Mo_86 k_model rfl ?_
              refine x_iload d_Mo_fit_57 rfl ?_
              refine y_iald hG d_Mo_fit_59 k_m_offH _ rfl (by omega) ?_
              refine x_iload_n d_Mo_fit_60 rfl ?_
              refine x_icmp_lt 68 d_Mo_fit_61 rfl (fun hc61 => ?_) (fun hc61 => ?_)
              · skip
                skip
                refine x_iconst (v := nI 0) d_Mo_fit_68 (by decide +kernel) ?_
                refine J20 _ ?_
                unfold moFitB
                first
                  | (rw [decide_eq_false hc28, decide_eq_true hc39]; rfl)
                  | (rw [decide_eq_false hc28, decide_eq_false hc39, decide_eq_true hc50]; rfl)
                  | (rw [decide_eq_false hc28, decide_eq_false hc39, decide_eq_false hc50, decide_eq_true hc61]; rfl)
                  | (rw [decide_eq_false hc28, decide_eq_false hc39, decide_eq_false hc50, decide_eq_false hc61]; rfl)
                  | (rw [decide_eq_true hc28, decide_eq_true hc50]; rfl)
                  | (rw [decide_eq_true hc28, decide_eq_false hc50, decide_eq_true hc61]; rfl)
                  | (rw [decide_eq_true hc28, decide_eq_false hc50, decide_eq_false hc61]; rfl)
              · skip
                skip
                refine x_iconst (v := nI 1) d_Mo_fit_64 (by decide +kernel) ?_
                refine x_goto 69 d_Mo_fit_65 rfl ?_
                refine J20 _ ?_
                unfold moFitB
                first
                  | (rw [decide_eq_false hc28, decide_eq_true hc39]; rfl)
                  | (rw [decide_eq_false hc28, decide_eq_false hc39, decide_eq_true hc50]; rfl)
                  | (rw [decide_eq_false hc28, decide_eq_false hc39, decide_eq_false hc50, decide_eq_true hc61]; rfl)
                  | (rw [decide_eq_false hc28, decide_eq_false hc39, decide_eq_false hc50, decide_eq_false hc61]; rfl)
                  | (rw [decide_eq_true hc28, decide_eq_true hc50]; rfl)
                  | (rw [decide_eq_true hc28, decide_eq_false hc50, decide_eq_true hc61]; rfl)
                  | (rw [decide_eq_true hc28, decide_eq_false hc50, decide_eq_false hc61]; rfl)
  refine x_lv (lv' := [(0, _), (1, _), (2, _), (3, _), (4, _)]) [0, 1, 2, 3, 4] rfl ?_
  exact L15 0 (Nat.zero_le _)
def moFr (S : xS) : Nat → Int64
  | 0 => 0
  | s + 1 => moFr S s + (if ¬ sA S 187 s = 0 ∧ sA S 191 s = 0 then (sA S 189 s).toInt64 * (sA S 190 s).toInt64 else 0)
def moWi (S : xS) (s : Nat) (a : Int64) : Nat → Int64
  | 0 => a
  | i + 1 => moWi S s a i + (if sA S 204 (160 * s + i) = nI 1 then moAr S (160 * s + i) else 0)
def moWt (S : xS) (nc : Nat → Nat) : Nat → Int64
  | 0 => 0
  | s + 1 => if ¬ sA S 187 s = 0 ∧ ¬ sA S 191 s = 0 then moWi S s (moWt S nc s) (nc s) else moWt S nc s
def moRk (S : xS) : Nat → Int64
  | 0 => 0
  | k + 1 => moRk S k + (sA S 211 k).toInt64 * (sA S 212 k).toInt64
def moArea (S : xS) (R : Nat) (nc : Nat → Nat) (w : Int32) : Int64 := if w = 0 then moFr S 8 else if w = nI 1 then sJ S 186 32 else if w = nI 2 then moRk S R else if w = nI 3 then sJ S 186 33 else if w = nI 4 then sJ S 186 34 else if w = nI 5 then moWt S nc 8 else if w = nI 6 then sJ S 186 35 else 0
set_option maxRecDepth 100000 in
set_option maxHeartbeats 1000000 in
theorem c_Mo_area {G : xG} {B d : Nat} {S : xS} (hG : xOkG G) {R : Nat} {nc : Nat → Nat} (hR : sF S 186 27 = nI R) (hR10 : R ≤ 10) (hcnt : ∀ s, s < 8 → sA S 195 s = nI (nc s) ∧ nc s ≤ 160) {w : Int32} : EX G m_Mo_area d 0 [(0, .ref (B + 186)), (1, .int w)] [] (mk G B S) ((xRet G B (some (.long (moArea (moThr S 0) R nc w))) (moThr S 0))) := by
  refine x_aload_n d_Mo_area_0 rfl ?_
  refine x_iconst (v := nI 0) d_Mo_area_1 (by decide +kernel) ?_
  refine y_puti d_Mo_area_2 pf_Mo_140 k_model (xBle rfl) rfl rfl rfl ?_
  have hR0 : sF (moThr S 0) 186 27 = nI R := (moThr_F (S := S) (v := nI 0) (k := 27) (by decide)).trans hR
  have hcnt0 : ∀ s, s < 8 → sA (moThr S 0) 195 s = nI (nc s) ∧ nc s ≤ 160 := hcnt
  rw [show uF S 186 0 (nI 0) = moThr S 0 from rfl]
  generalize moThr S 0 = T at hR0 hcnt0 ⊢
  refine x_lconst (v := 0) d_Mo_area_5 (by decide +kernel) ?_
  refine s_lstore_n (lv' := [(0, _), (1, _), (2, _)]) d_Mo_area_6 (by decide) rfl ?_
  refine x_lconst (v := 0) d_Mo_area_7 (by decide +kernel) ?_
  refine s_lstore (lv' := [(0, _), (1, _), (2, _), (4, _)]) d_Mo_area_8 (by decide) rfl ?_
  refine x_iconst (v := nI 0) d_Mo_area_10 (by decide +kernel) ?_
  refine s_istore (lv' := [(0, _), (1, _), (2, _), (4, _), (6, _)]) d_Mo_area_11 (by decide) rfl ?_
  have L13 : ∀ i, i ≤ 8 →  EX G m_Mo_area d 13 [(0, .ref (B + 186)), (1, .int w), (2, .long (moFr T i)), (4, .long (moWt T nc i)), (6, .int (nI i))] [] (mk G B T) (xRet G B (some (.long (moArea T R nc w))) T) := by
    refine x_down (8) ?_ ?_
    · skip
      skip
      refine x_iload d_Mo_area_13 rfl ?_
      refine x_bipush (v := nI 8) d_Mo_area_15 (by decide +kernel) ?_
      refine z_icmp_ge 159 d_Mo_area_17 rfl (by omega) (by omega) (fun hc17 => ?_) (fun q => absurd q (by omega))
      refine x_lconst (v := 0) d_Mo_area_159 (by decide +kernel) ?_
      refine s_lstore (lv' := [(0, _), (1, _), (2, _), (4, _), (6, _)]) d_Mo_area_160 (by decide) rfl ?_
      refine x_iconst (v := nI 0) d_Mo_area_162 (by decide +kernel) ?_
      refine s_istore (lv' := [(0, _), (1, _), (2, _), (4, _), (6, _), (8, _)]) d_Mo_area_163 (by decide) rfl ?_
      have L165 : ∀ i, i ≤ R →  EX G m_Mo_area d 165 [(0, .ref (B + 186)), (1, .int w), (2, .long (moFr T 8)), (4, .long (moWt T nc 8)), (6, .long (moRk T i)), (8, .int (nI i))] [] (mk G B T) (xRet G B (some (.long (moArea T R nc w))) T) := by
        refine x_down (R) ?_ ?_
        · skip
          skip
          refine x_iload d_Mo_area_165 rfl ?_
          refine x_aload_n d_Mo_area_167 rfl ?_
          refine y_getf (v := .int (nI R)) d_Mo_area_168 gf_Mo_263 k_model (congrArg (fun q => some (Value.int q)) hR0) ?_
          refine z_icmp_ge 202 d_Mo_area_171 rfl (by omega) (by omega) (fun hc171 => ?_) (fun q => absurd q (by omega))
          refine x_iload_n d_Mo_area_202 rfl ?_
          refine x_if_ne 210 d_Mo_area_203 rfl (fun hc203 => ?_) (fun hc203 => ?_)
          · skip
            skip
            refine x_iload_n d_Mo_area_210 rfl ?_
            refine x_iconst (v := nI 1) d_Mo_area_211 (by decide +kernel) ?_
            refine x_icmp_ne 222 d_Mo_area_212 rfl (fun hc212 => ?_) (fun hc212 => ?_)
            · skip
              skip
              refine x_iload_n d_Mo_area_222 rfl ?_
              refine x_iconst (v := nI 2) d_Mo_area_223 (by decide +kernel) ?_
              refine x_icmp_ne 232 d_Mo_area_224 rfl (fun hc224 => ?_) (fun hc224 => ?_)
              · skip
                skip
                refine x_iload_n d_Mo_area_232 rfl ?_
                refine x_iconst (v := nI 3) d_Mo_area_233 (by decide +kernel) ?_
                refine x_icmp_ne 244 d_Mo_area_234 rfl (fun hc234 => ?_) (fun hc234 => ?_)
                · skip
                  skip
                  refine x_iload_n d_Mo_area_244 rfl ?_
                  refine x_iconst (v := nI 4) d_Mo_area_245 (by decide +kernel) ?_
                  refine x_icmp_ne 256 d_Mo_area_246 rfl (fun hc246 => ?_) (fun hc246 => ?_)
                  · skip
                    skip
                    refine x_iload_n d_Mo_area_256 rfl ?_
                    refine x_iconst (v := nI 5) d_Mo_area_257 (by decide +kernel) ?_
                    refine x_icmp_ne 266 d_Mo_area_258 rfl (fun hc258 => ?_) (fun hc258 => ?_)
                    · skip
                      skip
                      refine x_iload_n d_Mo_area_266 rfl ?_
                      refine x_bipush (v := nI 6) d_Mo_area_267 (by decide +kernel) ?_
                      refine x_icmp_ne 279 d_Mo_area_269 rfl (fun hc269 => ?_) (fun hc269 => ?_)
                      · skip
                        skip
                        refine x_lconst (v := 0) d_Mo_area_279 (by decide +kernel) ?_
                        refine x_lreturn d_Mo_area_280 rfl ?_
                        unfold moArea
                        first
                          | (rw [if_pos hc203]; exact ⟨rfl, rfl⟩)
                          | (rw [if_neg hc203, if_pos hc212]; exact ⟨rfl, rfl⟩)
                          | (rw [if_neg hc203, if_neg hc212, if_pos hc224]; exact ⟨rfl, rfl⟩)
                          | (rw [if_neg hc203, if_neg hc212, if_neg hc224, if_pos hc234]; exact ⟨rfl, rfl⟩)
                          | (rw [if_neg hc203, if_neg hc212, if_neg hc224, if_neg hc234, if_pos hc246]; exact ⟨rfl, rfl⟩)
                          | (rw [if_neg hc203, if_neg hc212, if_neg hc224, if_neg hc234, if_neg hc246, if_pos hc258]; exact ⟨rfl, rfl⟩)
                          | (rw [if_neg hc203, if_neg hc212, if_neg hc224, if_neg hc234, if_neg hc246, if_neg hc258, if_pos hc269]; exact ⟨rfl, rfl⟩)
                          | (rw [if_neg hc203, if_neg hc212, if_neg hc224, if_neg hc234, if_neg hc246, if_neg hc258, if_neg hc269]; exact ⟨rfl, rfl⟩)
                      · skip
                        skip
                        refine x_aload_n d_Mo_area_272 rfl ?_
                        refine y_getf d_Mo_area_273 gf_Mo_158 k_model rfl ?_
                        refine x_goto 280 d_Mo_area_276 rfl ?_
                        refine x_lreturn d_Mo_area_280 rfl ?_
                        unfold moArea
                        first
                          | (rw [if_pos hc203]; exact ⟨rfl, rfl⟩)
                          | (rw [if_neg hc203, if_pos hc212]; exact ⟨rfl, rfl⟩)
                          | (rw [if_neg hc203, if_neg hc212, if_pos hc224]; exact ⟨rfl, rfl⟩)
                          | (rw [if_neg hc203, if_neg hc212, if_neg hc224, if_pos hc234]; exact ⟨rfl, rfl⟩)
                          | (rw [if_neg hc203, if_neg hc212, if_neg hc224, if_neg hc234, if_pos hc246]; exact ⟨rfl, rfl⟩)
                          | (rw [if_neg hc203, if_neg hc212, if_neg hc224, if_neg hc234, if_neg hc246, if_pos hc258]; exact ⟨rfl, rfl⟩)
                          | (rw [if_neg hc203, if_neg hc212, if_neg hc224, if_neg hc234, if_neg hc246, if_neg hc258, if_pos hc269]; exact ⟨rfl, rfl⟩)
                          | (rw [if_neg hc203, if_neg hc212, if_neg hc224, if_neg hc234, if_neg hc246, if_neg hc258, if_neg hc269]; exact ⟨rfl, rfl⟩)
                    · skip
                      skip
                      refine x_lload d_Mo_area_261 rfl ?_
                      refine x_goto 280 d_Mo_area_263 rfl ?_
                      refine x_lreturn d_Mo_area_280 rfl ?_
                      unfold moArea
                      first
                        | (rw [if_pos hc203]; exact ⟨rfl, rfl⟩)
                        | (rw [if_neg hc203, if_pos hc212]; exact ⟨rfl, rfl⟩)
                        | (rw [if_neg hc203, if_neg hc212, if_pos hc224]; exact ⟨rfl, rfl⟩)
                        | (rw [if_neg hc203, if_neg hc212, if_neg hc224, if_pos hc234]; exact ⟨rfl, rfl⟩)
                        | (rw [if_neg hc203, if_neg hc212, if_neg hc224, if_neg hc234, if_pos hc246]; exact ⟨rfl, rfl⟩)
                        | (rw [if_neg hc203, if_neg hc212, if_neg hc224, if_neg hc234, if_neg hc246, if_pos hc258]; exact ⟨rfl, rfl⟩)
                        | (rw [if_neg hc203, if_neg hc212, if_neg hc224, if_neg hc234, if_neg hc246, if_neg hc258, if_pos hc269]; exact ⟨rfl, rfl⟩)
                        | (rw [if_neg hc203, if_neg hc212, if_neg hc224, if_neg hc234, if_neg hc246, if_neg hc258, if_neg hc269]; exact ⟨rfl, rfl⟩)
                  · skip
                    skip
                    refine x_aload_n d_Mo_area_249 rfl ?_
                    refine y_getf d_Mo_area_250 gf_Mo_282 k_model rfl ?_
                    refine x_goto 280 d_Mo_area_253 rfl ?_
                    refine x_lreturn d_Mo_area_280 rfl ?_
                    unfold moArea
                    first
                      | (rw [if_pos hc203]; exact ⟨rfl, rfl⟩)
                      | (rw [if_neg hc203, if_pos hc212]; exact ⟨rfl, rfl⟩)
                      | (rw [if_neg hc203, if_neg hc212, if_pos hc224]; exact ⟨rfl, rfl⟩)
                      | (rw [if_neg hc203, if_neg hc212, if_neg hc224, if_pos hc234]; exact ⟨rfl, rfl⟩)
                      | (rw [if_neg hc203, if_neg hc212, if_neg hc224, if_neg hc234, if_pos hc246]; exact ⟨rfl, rfl⟩)
                      | (rw [if_neg hc203, if_neg hc212, if_neg hc224, if_neg hc234, if_neg hc246, if_pos hc258]; exact ⟨rfl, rfl⟩)
                      | (rw [if_neg hc203, if_neg hc212, if_neg hc224, if_neg hc234, if_neg hc246, if_neg hc258, if_pos hc269]; exact ⟨rfl, rfl⟩)
                      | (rw [if_neg hc203, if_neg hc212, if_neg hc224, if_neg hc234, if_neg hc246, if_neg hc258, if_neg hc269]; exact ⟨rfl, rfl⟩)
                · skip
                  skip
                  refine x_aload_n d_Mo_area_237 rfl ?_
                  refine y_getf d_Mo_area_238 gf_Mo_273 k_model rfl ?_
                  refine x_goto 280 d_Mo_area_241 rfl ?_
                  refine x_lreturn d_Mo_area_280 rfl ?_
                  unfold moArea
                  first
                    | (rw [if_pos hc203]; exact ⟨rfl, rfl⟩)
                    | (rw [if_neg hc203, if_pos hc212]; exact ⟨rfl, rfl⟩)
                    | (rw [if_neg hc203, if_neg hc212, if_pos hc224]; exact ⟨rfl, rfl⟩)
                    | (rw [if_neg hc203, if_neg hc212, if_neg hc224, if_pos hc234]; exact ⟨rfl, rfl⟩)
                    | (rw [if_neg hc203, if_neg hc212, if_neg hc224, if_neg hc234, if_pos hc246]; exact ⟨rfl, rfl⟩)
                    | (rw [if_neg hc203, if_neg hc212, if_neg hc224, if_neg hc234, if_neg hc246, if_pos hc258]; exact ⟨rfl, rfl⟩)
                    | (rw [if_neg hc203, if_neg hc212, if_neg hc224, if_neg hc234, if_neg hc246, if_neg hc258, if_pos hc269]; exact ⟨rfl, rfl⟩)
                    | (rw [if_neg hc203, if_neg hc212, if_neg hc224, if_neg hc234, if_neg hc246, if_neg hc258, if_neg hc269]; exact ⟨rfl, rfl⟩)
              · skip
                skip
                refine x_lload d_Mo_area_227 rfl ?_
                refine x_goto 280 d_Mo_area_229 rfl ?_
                refine x_lreturn d_Mo_area_280 rfl ?_
                unfold moArea
                first
                  | (rw [if_pos hc203]; exact ⟨rfl, rfl⟩)
                  | (rw [if_neg hc203, if_pos hc212]; exact ⟨rfl, rfl⟩)
                  | (rw [if_neg hc203, if_neg hc212, if_pos hc224]; exact ⟨rfl, rfl⟩)
                  | (rw [if_neg hc203, if_neg hc212, if_neg hc224, if_pos hc234]; exact ⟨rfl, rfl⟩)
                  | (rw [if_neg hc203, if_neg hc212, if_neg hc224, if_neg hc234, if_pos hc246]; exact ⟨rfl, rfl⟩)
                  | (rw [if_neg hc203, if_neg hc212, if_neg hc224, if_neg hc234, if_neg hc246, if_pos hc258]; exact ⟨rfl, rfl⟩)
                  | (rw [if_neg hc203, if_neg hc212, if_neg hc224, if_neg hc234, if_neg hc246, if_neg hc258, if_pos hc269]; exact ⟨rfl, rfl⟩)
                  | (rw [if_neg hc203, if_neg hc212, if_neg hc224, if_neg hc234, if_neg hc246, if_neg hc258, if_neg hc269]; exact ⟨rfl, rfl⟩)
            · skip
              skip
              refine x_aload_n d_Mo_area_215 rfl ?_
              refine y_getf d_Mo_area_216 gf_Mo_266 k_model rfl ?_
              refine x_goto 280 d_Mo_area_219 rfl ?_
              refine x_lreturn d_Mo_area_280 rfl ?_
              unfold moArea
              first
                | (rw [if_pos hc203]; exact ⟨rfl, rfl⟩)
                | (rw [if_neg hc203, if_pos hc212]; exact ⟨rfl, rfl⟩)
                | (rw [if_neg hc203, if_neg hc212, if_pos hc224]; exact ⟨rfl, rfl⟩)
                | (rw [if_neg hc203, if_neg hc212, if_neg hc224, if_pos hc234]; exact ⟨rfl, rfl⟩)
                | (rw [if_neg hc203, if_neg hc212, if_neg hc224, if_neg hc234, if_pos hc246]; exact ⟨rfl, rfl⟩)
                | (rw [if_neg hc203, if_neg hc212, if_neg hc224, if_neg hc234, if_neg hc246, if_pos hc258]; exact ⟨rfl, rfl⟩)
                | (rw [if_neg hc203, if_neg hc212, if_neg hc224, if_neg hc234, if_neg hc246, if_neg hc258, if_pos hc269]; exact ⟨rfl, rfl⟩)
                | (rw [if_neg hc203, if_neg hc212, if_neg hc224, if_neg hc234, if_neg hc246, if_neg hc258, if_neg hc269]; exact ⟨rfl, rfl⟩)
          · skip
            skip
            refine x_lload_n d_Mo_area_206 rfl ?_
            refine x_goto 280 d_Mo_area_207 rfl ?_
            refine x_lreturn d_Mo_area_280 rfl ?_
            unfold moArea
            first
              | (rw [if_pos hc203]; exact ⟨rfl, rfl⟩)
              | (rw [if_neg hc203, if_pos hc212]; exact ⟨rfl, rfl⟩)
              | (rw [if_neg hc203, if_neg hc212, if_pos hc224]; exact ⟨rfl, rfl⟩)
              | (rw [if_neg hc203, if_neg hc212, if_neg hc224, if_pos hc234]; exact ⟨rfl, rfl⟩)
              | (rw [if_neg hc203, if_neg hc212, if_neg hc224, if_neg hc234, if_pos hc246]; exact ⟨rfl, rfl⟩)
              | (rw [if_neg hc203, if_neg hc212, if_neg hc224, if_neg hc234, if_neg hc246, if_pos hc258]; exact ⟨rfl, rfl⟩)
              | (rw [if_neg hc203, if_neg hc212, if_neg hc224, if_neg hc234, if_neg hc246, if_neg hc258, if_pos hc269]; exact ⟨rfl, rfl⟩)
              | (rw [if_neg hc203, if_neg hc212, if_neg hc224, if_neg hc234, if_neg hc246, if_neg hc258, if_neg hc269]; exact ⟨rfl, rfl⟩)
        · intro i hi ih
          refine x_iload d_Mo_area_165 rfl ?_
          refine x_aload_n d_Mo_area_167 rfl ?_
          refine y_getf (v := .int (nI R)) d_Mo_area_168 gf_Mo_263 k_model (congrArg (fun q => some (Value.int q)) hR0) ?_
          refine z_icmp_ge 202 d_Mo_area_171 rfl (by omega) (by omega) (fun q => absurd q (by omega)) (fun hc171 => ?_)
          refine x_lload d_Mo_area_174 rfl ?_
          refine x_aload_n d_Mo_area_176 rfl ?_
          refine y_getf d_Mo_area_177 gf_Mo_83 k_model rfl ?_
          refine x_iload d_Mo_area_180 rfl ?_
          refine y_iald hG d_Mo_area_182 k_m_offW _ rfl (by omega) ?_
          refine x_i2l d_Mo_area_183 ?_
          refine x_aload_n d_Mo_area_184 rfl ?_
          refine y_getf d_Mo_area_185 gf_Mo_86 k_model rfl ?_
          refine x_iload d_Mo_area_188 rfl ?_
          refine y_iald hG d_Mo_area_190 k_m_offH _ rfl (by omega) ?_
          refine x_i2l d_Mo_area_191 ?_
          refine x_lmul d_Mo_area_192 ?_
          refine x_ladd d_Mo_area_193 ?_
          refine s_lstore (lv' := [(0, _), (1, _), (2, _), (4, _), (6, _), (8, _)]) d_Mo_area_194 (by decide) rfl ?_
          refine s_iinc (lv' := [(0, _), (1, _), (2, _), (4, _), (6, _), (8, _)]) d_Mo_area_196 rfl (xinc _) (by decide) rfl ?_
          refine x_goto 165 d_Mo_area_199 rfl ?_
          refine x_lv (lv' := [(0, _), (1, _), (2, _), (4, _), (6, _), (8, _)]) [0, 1, 2, 4, 6, 8] rfl ?_
          exact ih
      refine x_lv (lv' := [(0, _), (1, _), (2, _), (4, _), (6, _), (8, _)]) [0, 1, 2, 4, 6, 8] rfl ?_
      exact L165 0 (Nat.zero_le _)
    · intro i hi ih
      refine x_iload d_Mo_area_13 rfl ?_
      refine x_bipush (v := nI 8) d_Mo_area_15 (by decide +kernel) ?_
      refine z_icmp_ge 159 d_Mo_area_17 rfl (by omega) (by omega) (fun q => absurd q (by omega)) (fun hc17 => ?_)
      refine x_lload_n d_Mo_area_20 rfl ?_
      refine x_join 62 (.long (if ¬ sA T 187 i = 0 ∧ sA T 191 i = 0 then (sA T 189 i).toInt64 * (sA T 190 i).toInt64 else 0)) ?_ (fun J21 => ?_)
      · skip
        refine x_ladd d_Mo_area_62 ?_
        refine s_lstore_n (lv' := [(0, _), (1, _), (2, _), (4, _), (6, _)]) d_Mo_area_63 (by decide) rfl ?_
        by_cases hin : ¬ sA T 187 i = 0 ∧ ¬ sA T 191 i = 0
        · skip
          have hnci := (hcnt0 i hi).2
          refine x_iconst (v := nI 0) d_Mo_area_64 (by decide +kernel) ?_
          refine s_istore (lv' := [(0, _), (1, _), (2, _), (4, _), (6, _), (7, _)]) d_Mo_area_65 (by decide) rfl ?_
          have L67 : ∀ k, k ≤ nc i →  EX G m_Mo_area d 67 [(0, .ref (B + 186)), (1, .int w), (2, .long (moFr T (i + 1))), (4, .long (moWi T i (moWt T nc i) k)), (6, .int (nI i)), (7, .int (nI k))] [] (mk G B T) (xRet G B (some (.long (moArea T R nc w))) T) := by
            refine x_down (nc i) ?_ ?_
            · skip
              rw [show moWt T nc (i + 1) = moWi T i (moWt T nc i) (nc i) from if_pos hin] at ih
              refine x_iload d_Mo_area_67 rfl ?_
              refine x_aload_n d_Mo_area_69 rfl ?_
              refine y_getf d_Mo_area_70 gf_Mo_35 k_model rfl ?_
              refine x_iload d_Mo_area_73 rfl ?_
              refine y_iald hG d_Mo_area_75 k_m_nodeCounts _ rfl (by omega) ?_
              rw [(hcnt0 i hi).1]
              refine z_icmp_ge 153 d_Mo_area_76 rfl (by omega) (by omega) (fun hc76 => ?_) (fun q => absurd q (by omega))
              refine s_iinc (lv' := [(0, _), (1, _), (2, _), (4, _), (6, _), (7, _)]) d_Mo_area_153 rfl (xinc _) (by decide) rfl ?_
              refine x_goto 13 d_Mo_area_156 rfl ?_
              refine x_lv (lv' := [(0, _), (1, _), (2, _), (4, _), (6, _)]) [0, 1, 2, 4, 6] rfl ?_
              exact ih
            · intro k hk ihk
              refine x_iload d_Mo_area_67 rfl ?_
              refine x_aload_n d_Mo_area_69 rfl ?_
              refine y_getf d_Mo_area_70 gf_Mo_35 k_model rfl ?_
              refine x_iload d_Mo_area_73 rfl ?_
              refine y_iald hG d_Mo_area_75 k_m_nodeCounts _ rfl (by omega) ?_
              rw [(hcnt0 i hi).1]
              refine z_icmp_ge 153 d_Mo_area_76 rfl (by omega) (by omega) (fun q => absurd q (by omega)) (fun hc76 => ?_)
              refine x_aload_n d_Mo_area_79 rfl ?_
              refine y_getf d_Mo_area_80 gf_Mo_7 k_model rfl ?_
              refine x_iload d_Mo_area_83 rfl ?_
              refine y_zald hG d_Mo_area_85 k_m_there _ rfl (by omega) ?_
              refine x_if_eq 153 d_Mo_area_86 rfl (fun q => absurd q hin.1) (fun hc86 => ?_)
              refine x_aload_n d_Mo_area_89 rfl ?_
              refine y_getf d_Mo_area_90 gf_Mo_23 k_model rfl ?_
              refine x_iload d_Mo_area_93 rfl ?_
              refine y_zald hG d_Mo_area_95 k_m_planned _ rfl (by omega) ?_
              refine x_if_eq 153 d_Mo_area_96 rfl (fun q => absurd q hin.2) (fun hc96 => ?_)
              refine x_sipush (v := nI 160) d_Mo_area_99 (by decide +kernel) ?_
              refine x_iload d_Mo_area_102 rfl ?_
              refine x_imul d_Mo_area_104 ?_
              rw [nI_mul]
              refine x_iload d_Mo_area_105 rfl ?_
              refine x_iadd d_Mo_area_107 ?_
              rw [nI_add]
              refine s_istore (lv' := [(0, _), (1, _), (2, _), (4, _), (6, _), (7, _), (8, _)]) d_Mo_area_108 (by decide) rfl ?_
              refine x_lload d_Mo_area_110 rfl ?_
              refine x_join 144 (.long (if sA T 204 (160 * i + k) = nI 1 then moAr T (160 * i + k) else 0)) ?_ (fun J112 => ?_)
              · skip
                refine x_ladd d_Mo_area_144 ?_
                refine s_lstore (lv' := [(0, _), (1, _), (2, _), (4, _), (6, _), (7, _), (8, _)]) d_Mo_area_145 (by decide) rfl ?_
                refine s_iinc (lv' := [(0, _), (1, _), (2, _), (4, _), (6, _), (7, _), (8, _)]) d_Mo_area_147 rfl (xinc _) (by decide) rfl ?_
                refine x_goto 67 d_Mo_area_150 rfl ?_
                refine x_lv (lv' := [(0, _), (1, _), (2, _), (4, _), (6, _), (7, _)]) [0, 1, 2, 4, 6, 7] rfl ?_
                exact ihk
              · skip
                refine x_aload_n d_Mo_area_112 rfl ?_
                refine y_getf d_Mo_area_113 gf_Mo_62 k_model rfl ?_
                refine x_iload d_Mo_area_116 rfl ?_
                refine y_iald hG d_Mo_area_118 k_m_states _ rfl (by have := (hcnt0 i hi).2; omega) ?_
                refine x_iconst (v := nI 1) d_Mo_area_119 (by decide +kernel) ?_
                refine x_icmp_ne 143 d_Mo_area_120 rfl (fun hc120 => ?_) (fun hc120 => ?_)
                · skip
                  skip
                  refine x_lconst (v := 0) d_Mo_area_143 (by decide +kernel) ?_
                  refine J112 _ ?_
                  first
                    | (rw [if_pos hc120]; rfl)
                    | (rw [if_neg hc120]; done)
                · skip
                  skip
                  refine x_aload_n d_Mo_area_123 rfl ?_
                  refine y_getf d_Mo_area_124 gf_Mo_47 k_model rfl ?_
                  refine x_iload d_Mo_area_127 rfl ?_
                  refine y_iald hG d_Mo_area_129 k_m_ws _ rfl (by have := (hcnt0 i hi).2; omega) ?_
                  refine x_i2l d_Mo_area_130 ?_
                  refine x_aload_n d_Mo_area_131 rfl ?_
                  refine y_getf d_Mo_area_132 gf_Mo_50 k_model rfl ?_
                  refine x_iload d_Mo_area_135 rfl ?_
                  refine y_iald hG d_Mo_area_137 k_m_hs _ rfl (by have := (hcnt0 i hi).2; omega) ?_
                  refine x_i2l d_Mo_area_138 ?_
                  refine x_lmul d_Mo_area_139 ?_
                  refine x_goto 144 d_Mo_area_140 rfl ?_
                  refine J112 _ ?_
                  first
                    | (rw [if_pos hc120]; rfl)
                    | (rw [if_neg hc120]; done)
          refine x_lv (lv' := [(0, _), (1, _), (2, _), (4, _), (6, _), (7, _)]) [0, 1, 2, 4, 6, 7] rfl ?_
          exact L67 0 (Nat.zero_le _)
        · skip
          rw [show moWt T nc (i + 1) = moWt T nc i from if_neg hin] at ih
          refine x_iconst (v := nI 0) d_Mo_area_64 (by decide +kernel) ?_
          refine s_istore (lv' := [(0, _), (1, _), (2, _), (4, _), (6, _), (7, _)]) d_Mo_area_65 (by decide) rfl ?_
          refine x_iload d_Mo_area_67 rfl ?_
          refine x_aload_n d_Mo_area_69 rfl ?_
          refine y_getf d_Mo_area_70 gf_Mo_35 k_model rfl ?_
          refine x_iload d_Mo_area_73 rfl ?_
          refine y_iald hG d_Mo_area_75 k_m_nodeCounts _ rfl (by omega) ?_
          rw [(hcnt0 i hi).1]
          refine z_icmp_ge 153 d_Mo_area_76 rfl (by have := (hcnt0 i hi).2; omega) (by have := (hcnt0 i hi).2; omega) (fun hc76 => ?_) (fun hc76 => ?_)
          · skip
            skip
            refine s_iinc (lv' := [(0, _), (1, _), (2, _), (4, _), (6, _), (7, _)]) d_Mo_area_153 rfl (xinc _) (by decide) rfl ?_
            refine x_goto 13 d_Mo_area_156 rfl ?_
            refine x_lv (lv' := [(0, _), (1, _), (2, _), (4, _), (6, _)]) [0, 1, 2, 4, 6] rfl ?_
            exact ih
          · skip
            skip
            refine x_aload_n d_Mo_area_79 rfl ?_
            refine y_getf d_Mo_area_80 gf_Mo_7 k_model rfl ?_
            refine x_iload d_Mo_area_83 rfl ?_
            refine y_zald hG d_Mo_area_85 k_m_there _ rfl (by omega) ?_
            refine x_if_eq 153 d_Mo_area_86 rfl (fun hc86 => ?_) (fun hc86 => ?_)
            · skip
              skip
              refine s_iinc (lv' := [(0, _), (1, _), (2, _), (4, _), (6, _), (7, _)]) d_Mo_area_153 rfl (xinc _) (by decide) rfl ?_
              refine x_goto 13 d_Mo_area_156 rfl ?_
              refine x_lv (lv' := [(0, _), (1, _), (2, _), (4, _), (6, _)]) [0, 1, 2, 4, 6] rfl ?_
              exact ih
            · skip
              skip
              refine x_aload_n d_Mo_area_89 rfl ?_
              refine y_getf d_Mo_area_90 gf_Mo_23 k_model rfl ?_
              refine x_iload d_Mo_area_93 rfl ?_
              refine y_zald hG d_Mo_area_95 k_m_planned _ rfl (by omega) ?_
              refine x_if_eq 153 d_Mo_area_96 rfl (fun hc96 => ?_) (fun q => absurd q (fun q2 => hin ⟨hc86, q2⟩))
              refine s_iinc (lv' := [(0, _), (1, _), (2, _), (4, _), (6, _), (7, _)]) d_Mo_area_153 rfl (xinc _) (by decide) rfl ?_
              refine x_goto 13 d_Mo_area_156 rfl ?_
              refine x_lv (lv' := [(0, _), (1, _), (2, _), (4, _), (6, _)]) [0, 1, 2, 4, 6] rfl ?_
              exact ih
      · skip
        refine x_aload_n d_Mo_area_21 rfl ?_
        refine y_getf d_Mo_area_22 gf_Mo_7 k_model rfl ?_
        refine x_iload d_Mo_area_25 rfl ?_
        refine y_zald hG d_Mo_area_27 k_m_there _ rfl (by omega) ?_
        refine x_if_eq 61 d_Mo_area_28 rfl (fun hc28 => ?_) (fun hc28 => ?_)
        · skip
          skip
          refine x_lconst (v := 0) d_Mo_area_61 (by decide +kernel) ?_
          refine J21 _ ?_
          first
            | (rw [if_pos ⟨hc28, hc38⟩]; done)
            | (rw [if_neg (fun q => hc38 q.2)]; done)
            | (rw [if_neg (fun q => q.1 hc28)]; done)
        · skip
          skip
          refine x_aload_n d_Mo_area_31 rfl ?_
          refine y_getf d_Mo_area_32 gf_Mo_23 k_model rfl ?_
          refine x_iload d_Mo_area_35 rfl ?_
          refine y_zald hG d_Mo_area_37 k_m_planned _ rfl (by omega) ?_
          refine x_if_ne 61 d_Mo_area_38 rfl (fun hc38 => ?_) (fun hc38 => ?_)
          · skip
            skip
            refine x_lconst (v := 0) d_Mo_area_61 (by decide +kernel) ?_
            refine J21 _ ?_
            first
              | (rw [if_pos ⟨hc28, hc38⟩]; done)
              | (rw [if_neg (fun q => hc38 q.2)]; done)
              | (rw [if_neg (fun q => q.1 hc28)]; done)
          · skip
            skip
            refine x_aload_n d_Mo_area_41 rfl ?_
            refine y_getf d_Mo_area_42 gf_Mo_17 k_model rfl ?_
            refine x_iload d_Mo_area_45 rfl ?_
            refine y_iald hG d_Mo_area_47 k_m_widths _ rfl (by omega) ?_
            refine x_i2l d_Mo_area_48 ?_
            refine x_aload_n d_Mo_area_49 rfl ?_
            refine y_getf d_Mo_area_50 gf_Mo_20 k_model rfl ?_
            refine x_iload d_Mo_area_53 rfl ?_
            refine y_iald hG d_Mo_area_55 k_m_heights _ rfl (by omega) ?_
            refine x_i2l d_Mo_area_56 ?_
            refine x_lmul d_Mo_area_57 ?_
            refine x_goto 62 d_Mo_area_58 rfl ?_
            refine J21 _ ?_
            first
              | (rw [if_pos ⟨hc28, hc38⟩]; done)
              | (rw [if_neg (fun q => hc38 q.2)]; done)
              | (rw [if_neg (fun q => q.1 hc28)]; done)
  refine x_lv (lv' := [(0, _), (1, _), (2, _), (4, _), (6, _)]) [0, 1, 2, 4, 6] rfl ?_
  exact L13 0 (Nat.zero_le _)
