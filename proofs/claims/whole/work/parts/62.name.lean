/-! the reference's exact: its pieces -/
def moN3 (a b c : Int32) (i : Nat) : Int32 := (if a = nI i then nI 1 else nI 0) + (if b = nI i then nI 1 else nI 0) + (if c = nI i then nI 1 else nI 0)
def moHO (S : xS) (a b c : Int32) : Nat → Bool
  | 0 => true
  | i + 1 => moHO S a b c i && !decide (sA S 208 i < moN3 a b c i)
def moCH (S : xS) (c : Int32) (n : Nat) : Nat → Int32
  | 0 => nI 0
  | r + 1 => moCH S c n r + moRH S c (nI r) n
def moSW (S : xS) (n : Nat) : Nat → Int32
  | 0 => nI 0
  | c + 1 => moSW S n c + moCW S (nI c) n n
def moFits (S : xS) (s n : Nat) : Bool := (List.range (moCo S n).toNatClampNeg).all (fun c => decide (moCH S (nI c) n (moRo S (nI c) n).toNatClampNeg ≤ sA S 190 s)) && decide (moSW S n (moCo S n).toNatClampNeg ≤ sA S 189 s)
def moNmB (S : xS) (n o nb : Nat) : Bool := !decide (moCo S n < nI (nb / 8)) && (!decide (moRo S (nI (nb / 8)) n < nI (nb / 2 % 4)) && (decide (nb % 2 ≠ 1) || (!decide (sA S 207 o = 0) && !decide (sA S 205 o = sA S 206 o))))
def moNm (S : xS) (n o nb : Nat) : Bool × xS := if moNmB S n o nb = true then (true, moLay S n o (decide (nb % 2 = 1)) (nI (nb / 8)) (nI (nb / 2 % 4))) else (false, S)
theorem moCo_M {S : xS} : ∀ {n : Nat}, (∀ i, i < n → ∃ c, c ≤ 36 ∧ sA S 218 i = nI c) → ∃ C, C ≤ 37 ∧ moCo S n = nI C
  | 0, _ => ⟨0, by omega, rfl⟩
  | n + 1, h => by
    obtain ⟨C, h1, h2⟩ := moCo_M (S := S) (n := n) (fun i hi => h i (by omega))
    obtain ⟨c, hl, e⟩ := h n (by omega)
    simp only [moCo, h2, e]
    split
    · exact ⟨c + 1, by omega, nI_add _ _⟩
    · exact ⟨C, h1, rfl⟩
theorem moRo_M {S : xS} {c : Int32} : ∀ {n : Nat}, (∀ i, i < n → ∃ r, r ≤ 36 ∧ sA S 219 i = nI r) → ∃ C, C ≤ 37 ∧ moRo S c n = nI C
  | 0, _ => ⟨0, by omega, rfl⟩
  | n + 1, h => by
    obtain ⟨C, h1, h2⟩ := moRo_M (S := S) (c := c) (n := n) (fun i hi => h i (by omega))
    obtain ⟨r, hl, e⟩ := h n (by omega)
    simp only [moRo, h2, e]
    split
    · exact ⟨r + 1, by omega, nI_add _ _⟩
    · exact ⟨C, h1, rfl⟩
/-- what lies in the reference's layout -/
def moLI (S : xS) (n N : Nat) : Prop := ∀ i, i < n → (∃ x, x < N ∧ sA S 215 i = nI x) ∧ (∃ c, c ≤ 36 ∧ sA S 218 i = nI c) ∧ ∃ r, r ≤ 36 ∧ sA S 219 i = nI r
theorem moLI.cols {S : xS} {n N : Nat} (h : moLI S n N) : (moCo S n).toNatClampNeg ≤ 37 ∧ moCo S n = nI (moCo S n).toNatClampNeg := by
  obtain ⟨C, h1, h2⟩ := moCo_M (S := S) (n := n) (fun i hi => (h i hi).2.1)
  rw [h2, nI_clamp (by omega)]
  exact ⟨h1, rfl⟩
theorem moLI.rows {S : xS} {n N : Nat} (h : moLI S n N) (c : Int32) : (moRo S c n).toNatClampNeg ≤ 37 ∧ moRo S c n = nI (moRo S c n).toNatClampNeg := by
  obtain ⟨C, h1, h2⟩ := moRo_M (S := S) (c := c) (n := n) (fun i hi => (h i hi).2.2)
  rw [h2, nI_clamp (by omega)]
  exact ⟨h1, rfl⟩
theorem moLay_A {S : xS} {n o : Nat} {t : Bool} {c r : Int32} : sA (moLay S n o t c r) 215 = va_up (sA S 215) n (nI o) ∧ sA (moLay S n o t c r) 216 = va_up (sA S 216) n (moPw S o t) ∧ sA (moLay S n o t c r) 217 = va_up (sA S 217) n (moPh S o t) ∧ sA (moLay S n o t c r) 218 = va_up (sA S 218) n c ∧ sA (moLay S n o t c r) 219 = va_up (sA S 219) n r ∧ ∀ q, (q < 215 ∨ 220 ≤ q) → sA (moLay S n o t c r) q = sA S q := by
  have e : sA (moLay S n o t c r) = sA (uA (uA (uA (uA (uA S 215 n (nI o)) 216 n (moPw S o t)) 217 n (moPh S o t)) 218 n c) 219 n r) := rfl
  rw [e]
  refine ⟨?_, ?_, ?_, ?_, ?_, fun q hq => ?_⟩
  · rw [sA_uAn _ _ _ (by decide), sA_uAn _ _ _ (by decide), sA_uAn _ _ _ (by decide), sA_uAn _ _ _ (by decide), sA_uA]
  · rw [sA_uAn _ _ _ (by decide), sA_uAn _ _ _ (by decide), sA_uAn _ _ _ (by decide), sA_uA, sA_uAn _ _ _ (by decide)]
  · rw [sA_uAn _ _ _ (by decide), sA_uAn _ _ _ (by decide), sA_uA, sA_uAn _ _ _ (by decide), sA_uAn _ _ _ (by decide)]
  · rw [sA_uAn _ _ _ (by decide), sA_uA, sA_uAn _ _ _ (by decide), sA_uAn _ _ _ (by decide), sA_uAn _ _ _ (by decide)]
  · rw [sA_uA, sA_uAn _ _ _ (by decide), sA_uAn _ _ _ (by decide), sA_uAn _ _ _ (by decide), sA_uAn _ _ _ (by decide)]
  · rw [sA_uAn _ _ _ (by omega), sA_uAn _ _ _ (by omega), sA_uAn _ _ _ (by omega), sA_uAn _ _ _ (by omega), sA_uAn _ _ _ (by omega)]
theorem moLI_lay {S : xS} {n N x c r : Nat} {t : Bool} (q : moLI S n N) (hx : x < N) (hc : c ≤ 36) (hr : r ≤ 36) : moLI (moLay S n x t (nI c) (nI r)) (n + 1) N := by
  intro i hi
  obtain ⟨e1, -, -, e2, e3, -⟩ := moLay_A (S := S) (n := n) (o := x) (t := t) (c := nI c) (r := nI r)
  rw [e1, e2, e3]
  by_cases e : i = n
  · subst e
    rw [va_up_self, va_up_self, va_up_self]
    exact ⟨⟨x, hx, rfl⟩, ⟨c, hc, rfl⟩, r, hr, rfl⟩
  · rw [va_up_ne _ _ e, va_up_ne _ _ e, va_up_ne _ _ e]
    exact q i (by omega)
set_option maxRecDepth 100000 in
set_option maxHeartbeats 1000000 in
theorem c_Mo_hasOpen {G : xG} {B d : Nat} {S : xS} (hG : xOkG G) {N : Nat} (hN : sF S 186 20 = nI N) (hN6 : N ≤ 6) {a b c : Int32} : EX G m_Mo_hasOpen d 0 [(0, .ref (B + 186)), (1, .int a), (2, .int b), (3, .int c)] [] (mk G B S) ((xRet G B (some (.int (bI (moHO S a b c N)))) S)) := by
  refine x_iconst (v := nI 1) d_Mo_hasOpen_0 (by decide +kernel) ?_
  refine s_istore (lv' := [(0, _), (1, _), (2, _), (3, _), (4, _)]) d_Mo_hasOpen_1 (by decide) rfl ?_
  refine x_iconst (v := nI 0) d_Mo_hasOpen_3 (by decide +kernel) ?_
  refine s_istore (lv' := [(0, _), (1, _), (2, _), (3, _), (4, _), (5, _)]) d_Mo_hasOpen_4 (by decide) rfl ?_
  have L6 : ∀ i, i ≤ N →  EX G m_Mo_hasOpen d 6 [(0, .ref (B + 186)), (1, .int a), (2, .int b), (3, .int c), (4, .int (bI (moHO S a b c i))), (5, .int (nI i))] [] (mk G B S) (xRet G B (some (.int (bI (moHO S a b c N)))) S) := by
    refine x_down (N) ?_ ?_
    · skip
      skip
      refine x_iload d_Mo_hasOpen_6 rfl ?_
      refine x_aload_n d_Mo_hasOpen_8 rfl ?_
      refine y_getf (v := .int (nI N)) d_Mo_hasOpen_9 gf_Mo_144 k_model (congrArg (fun q => some (Value.int q)) hN) ?_
      refine z_icmp_ge 82 d_Mo_hasOpen_12 rfl (by omega) (by omega) (fun hc12 => ?_) (fun q => absurd q (by omega))
      refine x_iload d_Mo_hasOpen_82 rfl ?_
      refine x_ireturn d_Mo_hasOpen_84 rfl bI_n ?_
      exact ⟨rfl, rfl⟩
    · intro i hi ih
      refine x_iload d_Mo_hasOpen_6 rfl ?_
      refine x_aload_n d_Mo_hasOpen_8 rfl ?_
      refine y_getf (v := .int (nI N)) d_Mo_hasOpen_9 gf_Mo_144 k_model (congrArg (fun q => some (Value.int q)) hN) ?_
      refine z_icmp_ge 82 d_Mo_hasOpen_12 rfl (by omega) (by omega) (fun q => absurd q (by omega)) (fun hc12 => ?_)
      refine x_join 26 (.int (if a = nI i then nI 1 else nI 0)) ?_ (fun J15 => ?_)
      · skip
        refine x_join 37 (.int (if b = nI i then nI 1 else nI 0)) ?_ (fun J26 => ?_)
        · skip
          refine x_iadd d_Mo_hasOpen_37 ?_
          refine x_join 49 (.int (if c = nI i then nI 1 else nI 0)) ?_ (fun J38 => ?_)
          · skip
            refine x_iadd d_Mo_hasOpen_49 ?_
            refine s_istore (lv' := [(0, _), (1, _), (2, _), (3, _), (4, _), (5, _), (6, _)]) d_Mo_hasOpen_50 (by decide) rfl ?_
            refine x_join 74 (.int (bI (moHO S a b c (i + 1)))) ?_ (fun J52 => ?_)
            · skip
              refine s_istore (lv' := [(0, _), (1, _), (2, _), (3, _), (4, _), (5, _), (6, _)]) d_Mo_hasOpen_74 (by decide) rfl ?_
              refine s_iinc (lv' := [(0, _), (1, _), (2, _), (3, _), (4, _), (5, _), (6, _)]) d_Mo_hasOpen_76 rfl (xinc _) (by decide) rfl ?_
              refine x_goto 6 d_Mo_hasOpen_79 rfl ?_
              refine x_lv (lv' := [(0, _), (1, _), (2, _), (3, _), (4, _), (5, _)]) [0, 1, 2, 3, 4, 5] rfl ?_
              exact ih
            · skip
              refine x_iload d_Mo_hasOpen_52 rfl ?_
              refine z_bif_eq 73 d_Mo_hasOpen_54 rfl (fun hc54 => ?_) (fun hc54 => ?_)
              · skip
                skip
                refine x_iconst (v := nI 0) d_Mo_hasOpen_73 (by decide +kernel) ?_
                refine J52 _ ?_
                simp only [moHO]
                first
                  | (rw [hc54, Bool.false_and]; rfl)
                  | (rw [hc54, decide_eq_true (show sA S 208 i < moN3 a b c i from hc66)]; rfl)
                  | (rw [hc54, decide_eq_false (show ¬ sA S 208 i < moN3 a b c i from hc66)]; rfl)
              · skip
                skip
                refine x_iload d_Mo_hasOpen_57 rfl ?_
                refine x_aload_n d_Mo_hasOpen_59 rfl ?_
                refine y_getf d_Mo_hasOpen_60 gf_Mo_74 k_model rfl ?_
                refine x_iload d_Mo_hasOpen_63 rfl ?_
                refine y_iald hG d_Mo_hasOpen_65 k_m_open _ rfl (by omega) ?_
                refine x_icmp_gt 73 d_Mo_hasOpen_66 rfl (fun hc66 => ?_) (fun hc66 => ?_)
                · skip
                  skip
                  refine x_iconst (v := nI 0) d_Mo_hasOpen_73 (by decide +kernel) ?_
                  refine J52 _ ?_
                  simp only [moHO]
                  first
                    | (rw [hc54, Bool.false_and]; rfl)
                    | (rw [hc54, decide_eq_true (show sA S 208 i < moN3 a b c i from hc66)]; rfl)
                    | (rw [hc54, decide_eq_false (show ¬ sA S 208 i < moN3 a b c i from hc66)]; rfl)
                · skip
                  skip
                  refine x_iconst (v := nI 1) d_Mo_hasOpen_69 (by decide +kernel) ?_
                  refine x_goto 74 d_Mo_hasOpen_70 rfl ?_
                  refine J52 _ ?_
                  simp only [moHO]
                  first
                    | (rw [hc54, Bool.false_and]; rfl)
                    | (rw [hc54, decide_eq_true (show sA S 208 i < moN3 a b c i from hc66)]; rfl)
                    | (rw [hc54, decide_eq_false (show ¬ sA S 208 i < moN3 a b c i from hc66)]; rfl)
          · skip
            refine x_iload_n d_Mo_hasOpen_38 rfl ?_
            refine x_iload d_Mo_hasOpen_39 rfl ?_
            refine x_icmp_ne 48 d_Mo_hasOpen_41 rfl (fun hc41 => ?_) (fun hc41 => ?_)
            · skip
              skip
              refine x_iconst (v := nI 0) d_Mo_hasOpen_48 (by decide +kernel) ?_
              refine J38 _ ?_
              first
                | (rw [if_pos hc41]; done)
                | (rw [if_neg hc41]; done)
            · skip
              skip
              refine x_iconst (v := nI 1) d_Mo_hasOpen_44 (by decide +kernel) ?_
              refine x_goto 49 d_Mo_hasOpen_45 rfl ?_
              refine J38 _ ?_
              first
                | (rw [if_pos hc41]; done)
                | (rw [if_neg hc41]; done)
        · skip
          refine x_iload_n d_Mo_hasOpen_26 rfl ?_
          refine x_iload d_Mo_hasOpen_27 rfl ?_
          refine x_icmp_ne 36 d_Mo_hasOpen_29 rfl (fun hc29 => ?_) (fun hc29 => ?_)
          · skip
            skip
            refine x_iconst (v := nI 0) d_Mo_hasOpen_36 (by decide +kernel) ?_
            refine J26 _ ?_
            first
              | (rw [if_pos hc29]; done)
              | (rw [if_neg hc29]; done)
          · skip
            skip
            refine x_iconst (v := nI 1) d_Mo_hasOpen_32 (by decide +kernel) ?_
            refine x_goto 37 d_Mo_hasOpen_33 rfl ?_
            refine J26 _ ?_
            first
              | (rw [if_pos hc29]; done)
              | (rw [if_neg hc29]; done)
      · skip
        refine x_iload_n d_Mo_hasOpen_15 rfl ?_
        refine x_iload d_Mo_hasOpen_16 rfl ?_
        refine x_icmp_ne 25 d_Mo_hasOpen_18 rfl (fun hc18 => ?_) (fun hc18 => ?_)
        · skip
          skip
          refine x_iconst (v := nI 0) d_Mo_hasOpen_25 (by decide +kernel) ?_
          refine J15 _ ?_
          first
            | (rw [if_pos hc18]; done)
            | (rw [if_neg hc18]; done)
        · skip
          skip
          refine x_iconst (v := nI 1) d_Mo_hasOpen_21 (by decide +kernel) ?_
          refine x_goto 26 d_Mo_hasOpen_22 rfl ?_
          refine J15 _ ?_
          first
            | (rw [if_pos hc18]; done)
            | (rw [if_neg hc18]; done)
  refine x_lv (lv' := [(0, _), (1, _), (2, _), (3, _), (4, _), (5, _)]) [0, 1, 2, 3, 4, 5] rfl ?_
  exact L6 0 (Nat.zero_le _)
set_option maxRecDepth 100000 in
set_option maxHeartbeats 1000000 in
theorem c_Mo_name {G : xG} {B d : Nat} {S : xS} (hG : xOkG G) {n o nb : Nat} (hp : sF S 186 36 = nI n) (hp40 : n < 40) (ho : o < 6) (hnb : nb < 32) : EX G m_Mo_name (d + 2) 0 [(0, .ref (B + 186)), (1, .int (nI o)), (2, .int (nI nb))] [] (mk G B S) (xRet G B (some (.int (bI (moNm S n o nb).1))) (moNm S n o nb).2) := by
  refine x_iload_n d_Mo_name_0 rfl ?_
  refine x_bipush (v := nI 8) d_Mo_name_1 (by decide +kernel) ?_
  refine x_idiv d_Mo_name_3 (by decide +kernel) ?_
  rw [nI_div (by omega) (by decide) (by decide)]
  refine s_istore_n (lv' := [(0, _), (1, _), (2, _), (3, _)]) d_Mo_name_4 (by decide) rfl ?_
  refine x_iload_n d_Mo_name_5 rfl ?_
  refine x_iconst (v := nI 2) d_Mo_name_6 (by decide +kernel) ?_
  refine x_idiv d_Mo_name_7 (by decide +kernel) ?_
  rw [nI_div (by omega) (by decide) (by decide)]
  refine x_iconst (v := nI 4) d_Mo_name_8 (by decide +kernel) ?_
  refine x_irem d_Mo_name_9 (by decide +kernel) ?_
  rw [nI_rem (by omega) (by decide) (by decide)]
  refine s_istore (lv' := [(0, _), (1, _), (2, _), (3, _), (4, _)]) d_Mo_name_10 (by decide) rfl ?_
  refine x_join 24 (.int (bI (decide (nb % 2 = 1)))) ?_ (fun J12 => ?_)
  · skip
    refine s_istore (lv' := [(0, _), (1, _), (2, _), (3, _), (4, _), (5, _)]) d_Mo_name_24 (by decide) rfl ?_
    refine x_iload_n d_Mo_name_26 rfl ?_
    refine x_aload_n d_Mo_name_27 rfl ?_
    refine w_callV (As := []) d_Mo_name_28 k_Mo_180 k_model rfl rfl rfl (c_Mo_columns hG hp (by omega)) ?_
    refine x_icmp_gt 73 d_Mo_name_31 rfl (fun hc31 => ?_) (fun hc31 => ?_)
    · skip
      skip
      refine x_iconst (v := nI 0) d_Mo_name_73 (by decide +kernel) ?_
      refine x_ireturn d_Mo_name_74 rfl (by decide +kernel) ?_
      have hz : moNmB S n o nb = false := by
        unfold moNmB
        first
          | (rw [decide_eq_true hc31]; rfl)
          | (rw [decide_eq_false hc31, decide_eq_true hc41]; rfl)
          | (rw [decide_eq_false hc31, decide_eq_false hc41, decide_eq_false (Classical.not_not.mpr (of_decide_eq_true hc46)), decide_eq_true hc55]; rfl)
          | (rw [decide_eq_false hc31, decide_eq_false hc41, decide_eq_false (Classical.not_not.mpr (of_decide_eq_true hc46)), decide_eq_false hc55, decide_eq_true hc70]; rfl)
      unfold moNm
      rw [if_neg (by rw [hz]; decide)]
      exact ⟨rfl, rfl⟩
    · skip
      skip
      refine x_iload d_Mo_name_34 rfl ?_
      refine x_aload_n d_Mo_name_36 rfl ?_
      refine x_iload_n d_Mo_name_37 rfl ?_
      refine w_callV (As := [_]) d_Mo_name_38 k_Mo_186 k_model rfl rfl rfl (c_Mo_rowsOf hG hp (by omega)) ?_
      refine x_icmp_gt 73 d_Mo_name_41 rfl (fun hc41 => ?_) (fun hc41 => ?_)
      · skip
        skip
        refine x_iconst (v := nI 0) d_Mo_name_73 (by decide +kernel) ?_
        refine x_ireturn d_Mo_name_74 rfl (by decide +kernel) ?_
        have hz : moNmB S n o nb = false := by
          unfold moNmB
          first
            | (rw [decide_eq_true hc31]; rfl)
            | (rw [decide_eq_false hc31, decide_eq_true hc41]; rfl)
            | (rw [decide_eq_false hc31, decide_eq_false hc41, decide_eq_false (Classical.not_not.mpr (of_decide_eq_true hc46)), decide_eq_true hc55]; rfl)
            | (rw [decide_eq_false hc31, decide_eq_false hc41, decide_eq_false (Classical.not_not.mpr (of_decide_eq_true hc46)), decide_eq_false hc55, decide_eq_true hc70]; rfl)
        unfold moNm
        rw [if_neg (by rw [hz]; decide)]
        exact ⟨rfl, rfl⟩
      · skip
        skip
        refine x_iload d_Mo_name_44 rfl ?_
        refine z_bif_eq 75 d_Mo_name_46 rfl (fun hc46 => ?_) (fun hc46 => ?_)
        · skip
          skip
          refine x_aload_n d_Mo_name_75 rfl ?_
          refine x_iload_n d_Mo_name_76 rfl ?_
          refine x_iload d_Mo_name_77 rfl ?_
          refine x_iload_n d_Mo_name_79 rfl ?_
          refine x_iload d_Mo_name_80 rfl ?_
          refine w_callV (As := [_, _, _, _]) d_Mo_name_82 k_Mo_212 k_model rfl rfl rfl (c_Mo_lay hG hp hp40 ho) ?_
          refine x_iconst (v := nI 1) d_Mo_name_85 (by decide +kernel) ?_
          refine x_ireturn d_Mo_name_86 rfl (by decide +kernel) ?_
          have hz : moNmB S n o nb = true := by
            unfold moNmB
            first
              | (rw [decide_eq_false hc31, decide_eq_false hc41, decide_eq_true (show nb % 2 ≠ 1 from of_decide_eq_false hc46)]; rfl)
              | (rw [decide_eq_false hc31, decide_eq_false hc41, decide_eq_false (Classical.not_not.mpr (of_decide_eq_true hc46)), decide_eq_false hc55, decide_eq_false hc70]; rfl)
          unfold moNm
          rw [if_pos hz]
          exact ⟨rfl, rfl⟩
        · skip
          skip
          refine x_aload_n d_Mo_name_49 rfl ?_
          refine y_getf d_Mo_name_50 gf_Mo_71 k_model rfl ?_
          refine x_iload_n d_Mo_name_53 rfl ?_
          refine y_zald hG d_Mo_name_54 k_m_turns _ rfl (by omega) ?_
          refine x_if_eq 73 d_Mo_name_55 rfl (fun hc55 => ?_) (fun hc55 => ?_)
          · skip
            skip
            refine x_iconst (v := nI 0) d_Mo_name_73 (by decide +kernel) ?_
            refine x_ireturn d_Mo_name_74 rfl (by decide +kernel) ?_
            have hz : moNmB S n o nb = false := by
              unfold moNmB
              first
                | (rw [decide_eq_true hc31]; rfl)
                | (rw [decide_eq_false hc31, decide_eq_true hc41]; rfl)
                | (rw [decide_eq_false hc31, decide_eq_false hc41, decide_eq_false (Classical.not_not.mpr (of_decide_eq_true hc46)), decide_eq_true hc55]; rfl)
                | (rw [decide_eq_false hc31, decide_eq_false hc41, decide_eq_false (Classical.not_not.mpr (of_decide_eq_true hc46)), decide_eq_false hc55, decide_eq_true hc70]; rfl)
            unfold moNm
            rw [if_neg (by rw [hz]; decide)]
            exact ⟨rfl, rfl⟩
          · skip
            skip
            refine x_aload_n d_Mo_name_58 rfl ?_
            refine y_getf d_Mo_name_59 gf_Mo_65 k_model rfl ?_
            refine x_iload_n d_Mo_name_62 rfl ?_
            refine y_iald hG d_Mo_name_63 k_m_orderW _ rfl (by omega) ?_
            refine x_aload_n d_Mo_name_64 rfl ?_
            refine y_getf d_Mo_name_65 gf_Mo_68 k_model rfl ?_
            refine x_iload_n d_Mo_name_68 rfl ?_
            refine y_iald hG d_Mo_name_69 k_m_orderH _ rfl (by omega) ?_
            refine x_icmp_ne 75 d_Mo_name_70 rfl (fun hc70 => ?_) (fun hc70 => ?_)
            · skip
              skip
              refine x_aload_n d_Mo_name_75 rfl ?_
              refine x_iload_n d_Mo_name_76 rfl ?_
              refine x_iload d_Mo_name_77 rfl ?_
              refine x_iload_n d_Mo_name_79 rfl ?_
              refine x_iload d_Mo_name_80 rfl ?_
              refine w_callV (As := [_, _, _, _]) d_Mo_name_82 k_Mo_212 k_model rfl rfl rfl (c_Mo_lay hG hp hp40 ho) ?_
              refine x_iconst (v := nI 1) d_Mo_name_85 (by decide +kernel) ?_
              refine x_ireturn d_Mo_name_86 rfl (by decide +kernel) ?_
              have hz : moNmB S n o nb = true := by
                unfold moNmB
                first
                  | (rw [decide_eq_false hc31, decide_eq_false hc41, decide_eq_true (show nb % 2 ≠ 1 from of_decide_eq_false hc46)]; rfl)
                  | (rw [decide_eq_false hc31, decide_eq_false hc41, decide_eq_false (Classical.not_not.mpr (of_decide_eq_true hc46)), decide_eq_false hc55, decide_eq_false hc70]; rfl)
              unfold moNm
              rw [if_pos hz]
              exact ⟨rfl, rfl⟩
            · skip
              skip
              refine x_iconst (v := nI 0) d_Mo_name_73 (by decide +kernel) ?_
              refine x_ireturn d_Mo_name_74 rfl (by decide +kernel) ?_
              have hz : moNmB S n o nb = false := by
                unfold moNmB
                first
                  | (rw [decide_eq_true hc31]; rfl)
                  | (rw [decide_eq_false hc31, decide_eq_true hc41]; rfl)
                  | (rw [decide_eq_false hc31, decide_eq_false hc41, decide_eq_false (Classical.not_not.mpr (of_decide_eq_true hc46)), decide_eq_true hc55]; rfl)
                  | (rw [decide_eq_false hc31, decide_eq_false hc41, decide_eq_false (Classical.not_not.mpr (of_decide_eq_true hc46)), decide_eq_false hc55, decide_eq_true hc70]; rfl)
              unfold moNm
              rw [if_neg (by rw [hz]; decide)]
              exact ⟨rfl, rfl⟩
  · skip
    refine x_iload_n d_Mo_name_12 rfl ?_
    refine x_iconst (v := nI 2) d_Mo_name_13 (by decide +kernel) ?_
    refine x_irem d_Mo_name_14 (by decide +kernel) ?_
    rw [nI_rem (by omega) (by decide) (by decide)]
    refine x_iconst (v := nI 1) d_Mo_name_15 (by decide +kernel) ?_
    refine z_icmp_ne 23 d_Mo_name_16 rfl (by omega) (by omega) (fun hc16 => ?_) (fun hc16 => ?_)
    · skip
      skip
      refine x_iconst (v := nI 0) d_Mo_name_23 (by decide +kernel) ?_
      refine J12 _ ?_
      first
        | (rw [decide_eq_true hc16]; rfl)
        | (rw [decide_eq_false hc16]; rfl)
    · skip
      skip
      refine x_iconst (v := nI 1) d_Mo_name_19 (by decide +kernel) ?_
      refine x_goto 24 d_Mo_name_20 rfl ?_
      refine J12 _ ?_
      first
        | (rw [decide_eq_true hc16]; rfl)
        | (rw [decide_eq_false hc16]; rfl)
set_option maxRecDepth 100000 in
set_option maxHeartbeats 1000000 in
theorem c_Mo_fits {G : xG} {B d : Nat} {S : xS} (hG : xOkG G) {s n N : Nat} (hs : s < 8) (hp : sF S 186 36 = nI n) (hp40 : n ≤ 40) (hL : moLI S n N) : EX G m_Mo_fits (d + 2) 0 [(0, .ref (B + 186)), (1, .int (nI s))] [] (mk G B S) ((xRet G B (some (.int (bI (moFits S s n)))) S)) := by
  obtain ⟨K, hK37, hK⟩ : ∃ K, K ≤ 37 ∧ moCo S n = nI K := ⟨_, hL.cols.1, hL.cols.2⟩
  obtain ⟨k, hk⟩ : ∃ k : Nat → Nat, ∀ c, k c = (moRo S (nI c) n).toNatClampNeg ∧ moRo S (nI c) n = nI (k c) ∧ k c ≤ 37 := ⟨fun c => (moRo S (nI c) n).toNatClampNeg, fun c => ⟨rfl, (hL.rows _).2, (hL.rows _).1⟩⟩
  refine x_iconst (v := nI 0) d_Mo_fits_0 (by decide +kernel) ?_
  refine s_istore_n (lv' := [(0, _), (1, _), (2, _)]) d_Mo_fits_1 (by decide) rfl ?_
  refine x_iconst (v := nI 0) d_Mo_fits_2 (by decide +kernel) ?_
  refine s_istore_n (lv' := [(0, _), (1, _), (2, _), (3, _)]) d_Mo_fits_3 (by decide) rfl ?_
  have L4 : ∀ c, c ≤ K → (∀ j, j < c → moCH S (nI j) n (k j) ≤ sA S 190 s) → EX G m_Mo_fits (d + 2) 4 [(0, .ref (B + 186)), (1, .int (nI s)), (2, .int (moSW S n c)), (3, .int (nI c))] [] (mk G B S) (xRet G B (some (.int (bI (moFits S s n)))) S) := by
    refine x_down (K) ?_ ?_
    · skip
      skip
      intro hpr
      refine x_iload_n d_Mo_fits_4 rfl ?_
      refine x_aload_n d_Mo_fits_5 rfl ?_
      refine w_callV (As := []) d_Mo_fits_6 k_Mo_180 k_model rfl rfl rfl (c_Mo_columns hG hp hp40) ?_
      rw [hK]
      refine z_icmp_ge 73 d_Mo_fits_9 rfl (by omega) (by omega) (fun hc9 => ?_) (fun q => absurd q (by omega))
      refine x_iload_n d_Mo_fits_73 rfl ?_
      refine x_aload_n d_Mo_fits_74 rfl ?_
      refine y_getf d_Mo_fits_75 gf_Mo_17 k_model rfl ?_
      refine x_iload_n d_Mo_fits_78 rfl ?_
      refine y_iald hG d_Mo_fits_79 k_m_widths _ rfl (by omega) ?_
      refine x_icmp_gt 87 d_Mo_fits_80 rfl (fun hc80 => ?_) (fun hc80 => ?_)
      · skip
        skip
        refine x_iconst (v := nI 0) d_Mo_fits_87 (by decide +kernel) ?_
        refine x_ireturn d_Mo_fits_88 rfl (by decide +kernel) ?_
        refine ⟨?_, rfl⟩
        unfold moFits
        rw [hK, nI_clamp (by omega)]
        rw [show (List.range K).all (fun c => decide (moCH S (nI c) n (moRo S (nI c) n).toNatClampNeg ≤ sA S 190 s)) = true by
          rw [List.all_eq_true]
          intro j hj
          exact decide_eq_true (by rw [← (hk j).1]; exact hpr j (List.mem_range.mp hj))]
        first
          | (rw [decide_eq_true (Int32.not_lt.mp hc80)]; rfl)
          | (rw [decide_eq_false (Int32.not_le.mpr hc80)]; rfl)
      · skip
        skip
        refine x_iconst (v := nI 1) d_Mo_fits_83 (by decide +kernel) ?_
        refine x_goto 88 d_Mo_fits_84 rfl ?_
        refine x_ireturn d_Mo_fits_88 rfl (by decide +kernel) ?_
        refine ⟨?_, rfl⟩
        unfold moFits
        rw [hK, nI_clamp (by omega)]
        rw [show (List.range K).all (fun c => decide (moCH S (nI c) n (moRo S (nI c) n).toNatClampNeg ≤ sA S 190 s)) = true by
          rw [List.all_eq_true]
          intro j hj
          exact decide_eq_true (by rw [← (hk j).1]; exact hpr j (List.mem_range.mp hj))]
        first
          | (rw [decide_eq_true (Int32.not_lt.mp hc80)]; rfl)
          | (rw [decide_eq_false (Int32.not_le.mpr hc80)]; rfl)
    · intro c hc ihc
      intro hpr
      have hR := hk c
      refine x_iload_n d_Mo_fits_4 rfl ?_
      refine x_aload_n d_Mo_fits_5 rfl ?_
      refine w_callV (As := []) d_Mo_fits_6 k_Mo_180 k_model rfl rfl rfl (c_Mo_columns hG hp hp40) ?_
      rw [hK]
      refine z_icmp_ge 73 d_Mo_fits_9 rfl (by omega) (by omega) (fun q => absurd q (by omega)) (fun hc9 => ?_)
      refine x_iload_n d_Mo_fits_12 rfl ?_
      refine x_aload_n d_Mo_fits_13 rfl ?_
      refine x_iload_n d_Mo_fits_14 rfl ?_
      refine w_callV (As := [_]) d_Mo_fits_15 k_Mo_183 k_model rfl rfl rfl (c_Mo_columnWidth hG hp hp40) ?_
      refine x_iadd d_Mo_fits_18 ?_
      refine s_istore_n (lv' := [(0, _), (1, _), (2, _), (3, _)]) d_Mo_fits_19 (by decide) rfl ?_
      refine x_iconst (v := nI 0) d_Mo_fits_20 (by decide +kernel) ?_
      refine s_istore (lv' := [(0, _), (1, _), (2, _), (3, _), (4, _)]) d_Mo_fits_21 (by decide) rfl ?_
      refine x_iconst (v := nI 0) d_Mo_fits_23 (by decide +kernel) ?_
      refine s_istore (lv' := [(0, _), (1, _), (2, _), (3, _), (4, _), (5, _)]) d_Mo_fits_24 (by decide) rfl ?_
      have L26 : ∀ r, r ≤ k c →  EX G m_Mo_fits (d + 2) 26 [(0, .ref (B + 186)), (1, .int (nI s)), (2, .int (moSW S n (c + 1))), (3, .int (nI c)), (4, .int (moCH S (nI c) n r)), (5, .int (nI r))] [] (mk G B S) (xRet G B (some (.int (bI (moFits S s n)))) S) := by
        refine x_down (k c) ?_ ?_
        · skip
          skip
          refine x_iload d_Mo_fits_26 rfl ?_
          refine x_aload_n d_Mo_fits_28 rfl ?_
          refine x_iload_n d_Mo_fits_29 rfl ?_
          refine w_callV (As := [_]) d_Mo_fits_30 k_Mo_186 k_model rfl rfl rfl (c_Mo_rowsOf hG hp hp40) ?_
          rw [hR.2.1]
          refine z_icmp_ge 54 d_Mo_fits_33 rfl (by omega) (by omega) (fun hc33 => ?_) (fun q => absurd q (by omega))
          refine x_iload d_Mo_fits_54 rfl ?_
          refine x_aload_n d_Mo_fits_56 rfl ?_
          refine y_getf d_Mo_fits_57 gf_Mo_20 k_model rfl ?_
          refine x_iload_n d_Mo_fits_60 rfl ?_
          refine y_iald hG d_Mo_fits_61 k_m_heights _ rfl (by omega) ?_
          refine x_icmp_le 67 d_Mo_fits_62 rfl (fun hc62 => ?_) (fun hc62 => ?_)
          · skip
            skip
            refine s_iinc (lv' := [(0, _), (1, _), (2, _), (3, _), (4, _), (5, _)]) d_Mo_fits_67 rfl (xinc _) (by decide) rfl ?_
            refine x_goto 4 d_Mo_fits_70 rfl ?_
            refine x_lv (lv' := [(0, _), (1, _), (2, _), (3, _)]) [0, 1, 2, 3] rfl ?_
            exact ihc (lt_s hpr hc62)
          · skip
            skip
            refine x_iconst (v := nI 0) d_Mo_fits_65 (by decide +kernel) ?_
            refine x_ireturn d_Mo_fits_66 rfl (by decide +kernel) ?_
            refine ⟨?_, rfl⟩
            unfold moFits
            rw [hK, nI_clamp (by omega)]
            rw [show (List.range K).all (fun c => decide (moCH S (nI c) n (moRo S (nI c) n).toNatClampNeg ≤ sA S 190 s)) = false by
              rw [List.all_eq_false]
              exact ⟨c, List.mem_range.mpr hc, by rw [← (hk c).1]; simpa using hc62⟩]
            rfl
        · intro r hr ihr
          refine x_iload d_Mo_fits_26 rfl ?_
          refine x_aload_n d_Mo_fits_28 rfl ?_
          refine x_iload_n d_Mo_fits_29 rfl ?_
          refine w_callV (As := [_]) d_Mo_fits_30 k_Mo_186 k_model rfl rfl rfl (c_Mo_rowsOf hG hp hp40) ?_
          rw [hR.2.1]
          refine z_icmp_ge 54 d_Mo_fits_33 rfl (by omega) (by omega) (fun q => absurd q (by omega)) (fun hc33 => ?_)
          refine x_iload d_Mo_fits_36 rfl ?_
          refine x_aload_n d_Mo_fits_38 rfl ?_
          refine x_iload_n d_Mo_fits_39 rfl ?_
          refine x_iload d_Mo_fits_40 rfl ?_
          refine w_callV (As := [_, _]) d_Mo_fits_42 k_Mo_189 k_model rfl rfl rfl (c_Mo_rowHeight hG hp hp40) ?_
          refine x_iadd d_Mo_fits_45 ?_
          refine s_istore (lv' := [(0, _), (1, _), (2, _), (3, _), (4, _), (5, _)]) d_Mo_fits_46 (by decide) rfl ?_
          refine s_iinc (lv' := [(0, _), (1, _), (2, _), (3, _), (4, _), (5, _)]) d_Mo_fits_48 rfl (xinc _) (by decide) rfl ?_
          refine x_goto 26 d_Mo_fits_51 rfl ?_
          refine x_lv (lv' := [(0, _), (1, _), (2, _), (3, _), (4, _), (5, _)]) [0, 1, 2, 3, 4, 5] rfl ?_
          exact ihr
      refine x_lv (lv' := [(0, _), (1, _), (2, _), (3, _), (4, _), (5, _)]) [0, 1, 2, 3, 4, 5] rfl ?_
      exact L26 0 (Nat.zero_le _)
  refine x_lv (lv' := [(0, _), (1, _), (2, _), (3, _)]) [0, 1, 2, 3] rfl ?_
  exact L4 0 (Nat.zero_le _) lt_0
