/-! Trial: S 64: names 3; its row of names 65 -/
def tiAddN (S : xS) (q : Nat) (x : Int32) : xS × Nat := if x = -1 then (S, q) else if 3 ≤ q then (S, q) else (uF (uA S 65 q x) 64 3 (nI (q + 1)), q + 1)
def tiCall (S : xS) (a b c : Int32) : xS × Nat :=
  let p := tiAddN (uF (uA S 65 0 a) 64 3 (nI 1)) 1 b
  tiAddN p.1 p.2 c
theorem tiAddN_ok {S : xS} {q : Nat} {x : Int32} (h : sF S 64 3 = nI q) (hq : q ≤ 3) : sF (tiAddN S q x).1 64 3 = nI (tiAddN S q x).2 ∧ (tiAddN S q x).2 ≤ 3 := by
  unfold tiAddN
  split
  · exact ⟨h, hq⟩
  · split
    · exact ⟨h, hq⟩
    · exact ⟨by show sF (uF _ 64 3 _) 64 3 = _; rw [sF_uF]; exact va_up_self _ _ _, by show q + 1 ≤ 3; omega⟩
def inB (N : Nat) (x : Int32) : Bool := decide (0 ≤ x) && decide (x < nI N)
theorem inB_cases {N : Nat} (hN : N < 2 ^ 31) (x : Int32) : (∃ k, k < N ∧ x = nI k ∧ inB N x = true) ∨ inB N x = false := by
  by_cases h0 : x < 0
  · right
    unfold inB
    rw [decide_eq_false (Int32.not_le.mpr h0), Bool.false_and]
  · obtain ⟨k, hk, rfl⟩ := nI_of h0
    unfold inB
    rw [hasN hk hN]
    by_cases h : k < N
    · left; exact ⟨k, h, rfl, decide_eq_true h⟩
    · right; exact decide_eq_false h
def tiTimes (S : xS) (x : Int32) : Nat → Nat
  | 0 => 0
  | i + 1 => if sA S 65 i = x then tiTimes S x i + 1 else tiTimes S x i
set_option maxRecDepth 100000 in
set_option maxHeartbeats 1000000 in
theorem c_Ti_addName {G : xG} {B d : Nat} {S : xS} (hG : xOkG G) {q : Nat} (hq : sF S 64 3 = nI q) (hq3 : q ≤ 3) {x : Int32} : EX G m_Ti_addName d 0 [(0, .ref (B + 64)), (1, .int x)] [] (mk G B S) (xRet G B none (tiAddN S q x).1) := by
  refine x_iload_n d_Ti_addName_0 rfl ?_
  refine x_iconst (v := -1) d_Ti_addName_1 (by decide +kernel) ?_
  refine x_icmp_eq 33 d_Ti_addName_2 rfl (fun hc2 => ?_) (fun hc2 => ?_)
  · skip
    skip
    refine x_return d_Ti_addName_33 rfl ?_
    unfold tiAddN
    first | (rw [if_pos hc2]; exact ⟨rfl, rfl⟩) | (rw [if_neg hc2, if_pos hc10]; exact ⟨rfl, rfl⟩) | (rw [if_neg hc2, if_neg (by omega)]; exact ⟨rfl, rfl⟩)
  · skip
    skip
    refine x_aload_n d_Ti_addName_5 rfl ?_
    refine y_getf (v := .int (nI q)) d_Ti_addName_6 gf_Ti_23 k_trial (congrArg (fun q => some (Value.int q)) hq) ?_
    refine x_iconst (v := nI 3) d_Ti_addName_9 (by decide +kernel) ?_
    refine z_icmp_ge 33 d_Ti_addName_10 rfl (by omega) (by omega) (fun hc10 => ?_) (fun hc10 => ?_)
    · skip
      skip
      refine x_return d_Ti_addName_33 rfl ?_
      unfold tiAddN
      first | (rw [if_pos hc2]; exact ⟨rfl, rfl⟩) | (rw [if_neg hc2, if_pos hc10]; exact ⟨rfl, rfl⟩) | (rw [if_neg hc2, if_neg (by omega)]; exact ⟨rfl, rfl⟩)
    · skip
      skip
      refine x_aload_n d_Ti_addName_13 rfl ?_
      refine y_getf d_Ti_addName_14 gf_Ti_9 k_trial rfl ?_
      refine x_aload_n d_Ti_addName_17 rfl ?_
      refine y_getf (v := .int (nI q)) d_Ti_addName_18 gf_Ti_23 k_trial (congrArg (fun q => some (Value.int q)) hq) ?_
      refine x_iload_n d_Ti_addName_21 rfl ?_
      refine y_iast hG d_Ti_addName_22 k_named _ rfl (by omega) ?_
      refine x_aload_n d_Ti_addName_23 rfl ?_
      refine x_dup d_Ti_addName_24 rfl ?_
      refine y_getf (v := .int (nI q)) d_Ti_addName_25 gf_Ti_23 k_trial (congrArg (fun q => some (Value.int q)) hq) ?_
      refine x_iconst (v := nI 1) d_Ti_addName_28 (by decide +kernel) ?_
      refine x_iadd d_Ti_addName_29 ?_
      rw [nI_add]
      refine y_puti d_Ti_addName_30 pf_Ti_23 k_trial (xBle rfl) rfl rfl rfl ?_
      refine x_return d_Ti_addName_33 rfl ?_
      unfold tiAddN
      first | (rw [if_pos hc2]; exact ⟨rfl, rfl⟩) | (rw [if_neg hc2, if_pos hc10]; exact ⟨rfl, rfl⟩) | (rw [if_neg hc2, if_neg (by omega)]; exact ⟨rfl, rfl⟩)
set_option maxRecDepth 100000 in
set_option maxHeartbeats 1000000 in
theorem c_Ti_callNames {G : xG} {B d : Nat} {S : xS} (hG : xOkG G) {a b c : Int32} : EX G m_Ti_callNames (d + 1) 0 [(0, .ref (B + 64)), (1, .int a), (2, .int b), (3, .int c)] [] (mk G B S) (xRet G B none (tiCall S a b c).1) := by
  have h1 : sF (uF (uA S 65 0 a) 64 3 (nI 1)) 64 3 = nI 1 := by rw [sF_uF]; exact va_up_self _ _ _
  refine x_aload_n d_Ti_callNames_0 rfl ?_
  refine y_getf d_Ti_callNames_1 gf_Ti_9 k_trial rfl ?_
  refine x_iconst (v := nI 0) d_Ti_callNames_4 (by decide +kernel) ?_
  refine x_iload_n d_Ti_callNames_5 rfl ?_
  refine y_iast hG d_Ti_callNames_6 k_named _ rfl (by omega) ?_
  refine x_aload_n d_Ti_callNames_7 rfl ?_
  refine x_iconst (v := nI 1) d_Ti_callNames_8 (by decide +kernel) ?_
  refine y_puti d_Ti_callNames_9 pf_Ti_23 k_trial (xBle rfl) rfl rfl rfl ?_
  refine x_aload_n d_Ti_callNames_12 rfl ?_
  refine x_iload_n d_Ti_callNames_13 rfl ?_
  refine w_callV (As := [_]) d_Ti_callNames_14 k_Ti_27 k_trial rfl rfl rfl (c_Ti_addName hG h1 (by decide)) ?_
  refine x_aload_n d_Ti_callNames_17 rfl ?_
  refine x_iload_n d_Ti_callNames_18 rfl ?_
  refine w_callV (As := [_]) d_Ti_callNames_19 k_Ti_27 k_trial rfl rfl rfl (c_Ti_addName hG (tiAddN_ok h1 (by decide)).1 (tiAddN_ok h1 (by decide)).2) ?_
  refine x_return d_Ti_callNames_22 rfl ?_
  exact ⟨rfl, rfl⟩
set_option maxRecDepth 100000 in
set_option maxHeartbeats 1000000 in
theorem c_Ti_timesNamed {G : xG} {B d : Nat} {S : xS} (hG : xOkG G) {q : Nat} (hq : sF S 64 3 = nI q) (hq3 : q ≤ 3) {x : Int32} : EX G m_Ti_timesNamed d 0 [(0, .ref (B + 64)), (1, .int x)] [] (mk G B S) ((xRet G B (some (.int (nI (tiTimes S x q)))) S)) := by
  refine x_iconst (v := nI 0) d_Ti_timesNamed_0 (by decide +kernel) ?_
  refine s_istore_n (lv' := [(0, _), (1, _), (2, _)]) d_Ti_timesNamed_1 (by decide) rfl ?_
  refine x_iconst (v := nI 0) d_Ti_timesNamed_2 (by decide +kernel) ?_
  refine s_istore_n (lv' := [(0, _), (1, _), (2, _), (3, _)]) d_Ti_timesNamed_3 (by decide) rfl ?_
  have L4 : ∀ i, i ≤ q →  EX G m_Ti_timesNamed d 4 [(0, .ref (B + 64)), (1, .int x), (2, .int (nI (tiTimes S x i))), (3, .int (nI i))] [] (mk G B S) (xRet G B (some (.int (nI (tiTimes S x q)))) S) := by
    refine x_down (q) ?_ ?_
    · skip
      skip
      refine x_iload_n d_Ti_timesNamed_4 rfl ?_
      refine x_aload_n d_Ti_timesNamed_5 rfl ?_
      refine y_getf (v := .int (nI q)) d_Ti_timesNamed_6 gf_Ti_23 k_trial (congrArg (fun q => some (Value.int q)) hq) ?_
      refine z_icmp_ge 31 d_Ti_timesNamed_9 rfl (by omega) (by omega) (fun hc9 => ?_) (fun q => absurd q (by omega))
      refine x_iload_n d_Ti_timesNamed_31 rfl ?_
      refine x_ireturn d_Ti_timesNamed_32 rfl rfl ?_
      exact ⟨rfl, rfl⟩
    · intro i hi ih
      refine x_iload_n d_Ti_timesNamed_4 rfl ?_
      refine x_aload_n d_Ti_timesNamed_5 rfl ?_
      refine y_getf (v := .int (nI q)) d_Ti_timesNamed_6 gf_Ti_23 k_trial (congrArg (fun q => some (Value.int q)) hq) ?_
      refine z_icmp_ge 31 d_Ti_timesNamed_9 rfl (by omega) (by omega) (fun q => absurd q (by omega)) (fun hc9 => ?_)
      refine x_aload_n d_Ti_timesNamed_12 rfl ?_
      refine y_getf d_Ti_timesNamed_13 gf_Ti_9 k_trial rfl ?_
      refine x_iload_n d_Ti_timesNamed_16 rfl ?_
      refine y_iald hG d_Ti_timesNamed_17 k_named _ rfl (by omega) ?_
      refine x_iload_n d_Ti_timesNamed_18 rfl ?_
      refine x_icmp_ne 25 d_Ti_timesNamed_19 rfl (fun hc19 => ?_) (fun hc19 => ?_)
      · skip
        skip
        refine s_iinc (lv' := [(0, _), (1, _), (2, _), (3, _)]) d_Ti_timesNamed_25 rfl (xinc _) (by decide) rfl ?_
        refine x_goto 4 d_Ti_timesNamed_28 rfl ?_
        refine x_lv (lv' := [(0, _), (1, _), (2, _), (3, _)]) [0, 1, 2, 3] rfl ?_
        simp only [tiTimes, hc19, if_true, if_false] at ih
        exact ih
      · skip
        skip
        refine s_iinc (lv' := [(0, _), (1, _), (2, _), (3, _)]) d_Ti_timesNamed_22 rfl (xinc _) (by decide) rfl ?_
        refine s_iinc (lv' := [(0, _), (1, _), (2, _), (3, _)]) d_Ti_timesNamed_25 rfl (xinc _) (by decide) rfl ?_
        refine x_goto 4 d_Ti_timesNamed_28 rfl ?_
        refine x_lv (lv' := [(0, _), (1, _), (2, _), (3, _)]) [0, 1, 2, 3] rfl ?_
        simp only [tiTimes, hc19, if_true, if_false] at ih
        exact ih
  refine x_lv (lv' := [(0, _), (1, _), (2, _), (3, _)]) [0, 1, 2, 3] rfl ?_
  exact L4 0 (Nat.zero_le _)
set_option maxRecDepth 100000 in
set_option maxHeartbeats 1000000 in
theorem c_Ti_namesAreThere {G : xG} {B d : Nat} {S : xS} (hG : xOkG G) {q : Nat} (hq : sF S 64 3 = nI q) (hq3 : q ≤ 3) {N : Nat} (hN : sF S 2 2 = nI N) (hN6 : N ≤ 6) (hor : ∀ k, k < N → ∃ a, sR S 3 k = some a) : EX G m_Ti_namesAreThere (d + 1) 0 [(0, .ref (B + 64))] [] (mk G B S) ((xRet G B (some (.int (bI ((List.range q).all fun i => inB N (sA S 65 i))))) S)) := by
  refine x_iconst (v := nI 0) d_Ti_namesAreThere_0 (by decide +kernel) ?_
  refine s_istore_n (lv' := [(0, _), (1, _)]) d_Ti_namesAreThere_1 (by decide) rfl ?_
  have L2 : ∀ i, i ≤ q → (∀ j, j < i → inB N (sA S 65 j) = true) → EX G m_Ti_namesAreThere (d + 1) 2 [(0, .ref (B + 64)), (1, .int (nI i))] [] (mk G B S) (xRet G B (some (.int (bI ((List.range q).all fun i => inB N (sA S 65 i))))) S) := by
    refine x_down (q) ?_ ?_
    · skip
      skip
      intro hp
      refine x_iload_n d_Ti_namesAreThere_2 rfl ?_
      refine x_aload_n d_Ti_namesAreThere_3 rfl ?_
      refine y_getf (v := .int (nI q)) d_Ti_namesAreThere_4 gf_Ti_23 k_trial (congrArg (fun q => some (Value.int q)) hq) ?_
      refine z_icmp_ge 34 d_Ti_namesAreThere_7 rfl (by omega) (by omega) (fun hc7 => ?_) (fun q => absurd q (by omega))
      refine x_iconst (v := nI 1) d_Ti_namesAreThere_34 (by decide +kernel) ?_
      refine x_ireturn d_Ti_namesAreThere_35 rfl (by decide +kernel) ?_
      rw [show ((List.range q).all fun i => inB N (sA S 65 i)) = true by
        rw [List.all_eq_true]
        exact fun j hj => hp j (List.mem_range.mp hj)]
      exact ⟨rfl, rfl⟩
    · intro i hi ih
      intro hp
      refine x_iload_n d_Ti_namesAreThere_2 rfl ?_
      refine x_aload_n d_Ti_namesAreThere_3 rfl ?_
      refine y_getf (v := .int (nI q)) d_Ti_namesAreThere_4 gf_Ti_23 k_trial (congrArg (fun q => some (Value.int q)) hq) ?_
      refine z_icmp_ge 34 d_Ti_namesAreThere_7 rfl (by omega) (by omega) (fun q => absurd q (by omega)) (fun hc7 => ?_)
      refine x_aload_n d_Ti_namesAreThere_10 rfl ?_
      refine y_getf d_Ti_namesAreThere_11 gf_Ti_15 k_trial rfl ?_
      refine x_aload_n d_Ti_namesAreThere_14 rfl ?_
      refine y_getf d_Ti_namesAreThere_15 gf_Ti_9 k_trial rfl ?_
      refine x_iload_n d_Ti_namesAreThere_18 rfl ?_
      refine y_iald hG d_Ti_namesAreThere_19 k_named _ rfl (by omega) ?_
      rcases inB_cases (N := N) (by omega) (sA S 65 i) with ⟨k, hk, hx, hz⟩ | hz
      · skip
        obtain ⟨a, ha⟩ := hor k hk
        rw [hx]
        refine w_callV (As := [_]) d_Ti_namesAreThere_20 k_Ti_31 k_book rfl rfl rfl (c_Bk_at hG hN hN6 hk ha) ?_
        refine x_ifnonnull 28 d_Ti_namesAreThere_23 rfl ?_
        refine s_iinc (lv' := [(0, _), (1, _)]) d_Ti_namesAreThere_28 rfl (xinc _) (by decide) rfl ?_
        refine x_goto 2 d_Ti_namesAreThere_31 rfl ?_
        refine x_lv (lv' := [(0, _), (1, _)]) [0, 1] rfl ?_
        exact ih (lt_s hp hz)
      · skip
        refine w_callV (As := [_]) d_Ti_namesAreThere_20 k_Ti_31 k_book rfl rfl rfl (c_Bk_atN hG hN hN6 hz) ?_
        refine x_ifnonnullN d_Ti_namesAreThere_23 ?_
        refine x_iconst (v := nI 0) d_Ti_namesAreThere_26 (by decide +kernel) ?_
        refine x_ireturn d_Ti_namesAreThere_27 rfl (by decide +kernel) ?_
        rw [show ((List.range q).all fun i => inB N (sA S 65 i)) = false by
          rw [List.all_eq_false]
          exact ⟨i, List.mem_range.mpr hi, by simp [hz]⟩]
        exact ⟨rfl, rfl⟩
  refine x_lv (lv' := [(0, _), (1, _)]) [0, 1] rfl ?_
  exact L2 0 (Nat.zero_le _) lt_0
set_option maxRecDepth 100000 in
set_option maxHeartbeats 1000000 in
theorem c_Ti_namesAreOpen {G : xG} {B d : Nat} {S : xS} (hG : xOkG G) {q : Nat} (hq : sF S 64 3 = nI q) (hq3 : q ≤ 3) {N : Nat} (hN : sF S 2 2 = nI N) (hN6 : N ≤ 6) {oa nm : Nat → Nat} {D : Nat → Nat → Int32} (ho : bkOk S B N oa D) (hnm : ∀ i, i < q → sA S 65 i = nI (nm i) ∧ nm i < N) : EX G m_Ti_namesAreOpen (d + 1) 0 [(0, .ref (B + 64))] [] (mk G B S) ((xRet G B (some (.int (bI ((List.range q).all fun i => decide (nI (tiTimes S (sA S 65 i) q) ≤ D (nm i) 3))))) S)) := by
  refine x_iconst (v := nI 0) d_Ti_namesAreOpen_0 (by decide +kernel) ?_
  refine s_istore_n (lv' := [(0, _), (1, _)]) d_Ti_namesAreOpen_1 (by decide) rfl ?_
  have L2 : ∀ i, i ≤ q → (∀ j, j < i → decide (nI (tiTimes S (sA S 65 j) q) ≤ D (nm j) 3) = true) → EX G m_Ti_namesAreOpen (d + 1) 2 [(0, .ref (B + 64)), (1, .int (nI i))] [] (mk G B S) (xRet G B (some (.int (bI ((List.range q).all fun i => decide (nI (tiTimes S (sA S 65 i) q) ≤ D (nm i) 3))))) S) := by
    refine x_down (q) ?_ ?_
    · skip
      skip
      intro hp
      refine x_iload_n d_Ti_namesAreOpen_2 rfl ?_
      refine x_aload_n d_Ti_namesAreOpen_3 rfl ?_
      refine y_getf (v := .int (nI q)) d_Ti_namesAreOpen_4 gf_Ti_23 k_trial (congrArg (fun q => some (Value.int q)) hq) ?_
      refine z_icmp_ge 53 d_Ti_namesAreOpen_7 rfl (by omega) (by omega) (fun hc7 => ?_) (fun q => absurd q (by omega))
      refine x_iconst (v := nI 1) d_Ti_namesAreOpen_53 (by decide +kernel) ?_
      refine x_ireturn d_Ti_namesAreOpen_54 rfl (by decide +kernel) ?_
      rw [show ((List.range q).all fun i => decide (nI (tiTimes S (sA S 65 i) q) ≤ D (nm i) 3)) = true by
        rw [List.all_eq_true]
        exact fun j hj => hp j (List.mem_range.mp hj)]
      exact ⟨rfl, rfl⟩
    · intro i hi ih
      intro hp
      refine x_iload_n d_Ti_namesAreOpen_2 rfl ?_
      refine x_aload_n d_Ti_namesAreOpen_3 rfl ?_
      refine y_getf (v := .int (nI q)) d_Ti_namesAreOpen_4 gf_Ti_23 k_trial (congrArg (fun q => some (Value.int q)) hq) ?_
      refine z_icmp_ge 53 d_Ti_namesAreOpen_7 rfl (by omega) (by omega) (fun q => absurd q (by omega)) (fun hc7 => ?_)
      refine x_aload_n d_Ti_namesAreOpen_10 rfl ?_
      refine y_getf d_Ti_namesAreOpen_11 gf_Ti_15 k_trial rfl ?_
      refine x_aload_n d_Ti_namesAreOpen_14 rfl ?_
      refine y_getf d_Ti_namesAreOpen_15 gf_Ti_9 k_trial rfl ?_
      refine x_iload_n d_Ti_namesAreOpen_18 rfl ?_
      refine y_iald hG d_Ti_namesAreOpen_19 k_named _ rfl (by omega) ?_
      rw [(hnm i hi).1]
      refine w_callV (As := [_]) d_Ti_namesAreOpen_20 k_Ti_31 k_book rfl rfl rfl (c_Bk_at hG hN hN6 (hnm i hi).2 (ho _ (hnm i hi).2).1) ?_
      refine s_astore_n (lv' := [(0, _), (1, _), (2, _)]) d_Ti_namesAreOpen_23 (by decide) rfl ?_
      refine x_aload_n d_Ti_namesAreOpen_24 rfl ?_
      refine x_ifnull d_Ti_namesAreOpen_25 ?_
      refine x_aload_n d_Ti_namesAreOpen_28 rfl ?_
      refine y_getE d_Ti_namesAreOpen_29 gf_Ti_37 (ho _ (hnm i hi).2).2 rfl ?_
      refine x_aload_n d_Ti_namesAreOpen_32 rfl ?_
      refine x_aload_n d_Ti_namesAreOpen_33 rfl ?_
      refine y_getf d_Ti_namesAreOpen_34 gf_Ti_9 k_trial rfl ?_
      refine x_iload_n d_Ti_namesAreOpen_37 rfl ?_
      refine y_iald hG d_Ti_namesAreOpen_38 k_named _ rfl (by omega) ?_
      refine w_callV (As := [_]) d_Ti_namesAreOpen_39 k_Ti_42 k_trial rfl rfl rfl (c_Ti_timesNamed hG hq hq3) ?_
      refine x_icmp_ge 47 d_Ti_namesAreOpen_42 rfl (fun hc42 => ?_) (fun hc42 => ?_)
      · skip
        skip
        refine s_iinc (lv' := [(0, _), (1, _), (2, _)]) d_Ti_namesAreOpen_47 rfl (xinc _) (by decide) rfl ?_
        refine x_goto 2 d_Ti_namesAreOpen_50 rfl ?_
        refine x_lv (lv' := [(0, _), (1, _)]) [0, 1] rfl ?_
        exact ih (lt_s hp (decide_eq_true hc42))
      · skip
        skip
        refine x_iconst (v := nI 0) d_Ti_namesAreOpen_45 (by decide +kernel) ?_
        refine x_ireturn d_Ti_namesAreOpen_46 rfl (by decide +kernel) ?_
        rw [show ((List.range q).all fun i => decide (nI (tiTimes S (sA S 65 i) q) ≤ D (nm i) 3)) = false by
          rw [List.all_eq_false]
          exact ⟨i, List.mem_range.mpr hi, by rw [decide_eq_false hc42]; decide⟩]
        exact ⟨rfl, rfl⟩
  refine x_lv (lv' := [(0, _), (1, _)]) [0, 1] rfl ?_
  exact L2 0 (Nat.zero_le _) lt_0
/-! the search -/
def laFit (S : xS) (b n : Nat) : Bool := (List.range (laCols S n).toNatClampNeg).all (fun j => decide (laCH S (nI j) n (laRows S (nI j) n).toNatClampNeg ≤ sF S b 5)) && decide (laSum S n (fun c => (laRows S (nI c) n).toNatClampNeg) (laCols S n).toNatClampNeg ≤ sF S b 4)
def tiThen (p : Bool × xS) (f : xS → Bool × xS) : Bool × xS := if p.1 = true then p else f p.2
def tiPut (rec : xS → Bool × xS) (b n : Nat) (x w h c r : Int32) (S : xS) : Bool × xS :=
  if laFit (laPut S n x w h c r) b (n + 1) = false then (false, uF (laPut S n x w h c r) 57 5 (nI n)) else
  if (rec (laPut S n x w h c r)).1 = false then (false, uF (rec (laPut S n x w h c r)).2 57 5 (nI n)) else
  rec (laPut S n x w h c r)
def tiTurn (rec : xS → Bool × xS) (b n : Nat) (D : Nat → Int32) (x c r : Int32) (S : xS) : Bool × xS := if D 2 = 0 then (false, S) else tiPut rec b n x (D 1) (D 0) c r S
def tiBoth (rec : xS → Bool × xS) (b n : Nat) (D : Nat → Int32) (x c r : Int32) (S : xS) : Bool × xS := tiThen (tiPut rec b n x (D 0) (D 1) c r S) (tiTurn rec b n D x c r)
def tiRowL (rec : xS → Bool × xS) (b n : Nat) (D : Nat → Int32) (x c : Int32) : Nat → Nat → xS → Bool × xS
  | 0, _, S => (false, S)
  | k + 1, r, S => tiThen (tiBoth rec b n D x c (nI r) S) (tiRowL rec b n D x c k (r + 1))
def tiColL (rec : xS → Bool × xS) (b n : Nat) (D : Nat → Int32) (x : Int32) : Nat → Nat → xS → Bool × xS
  | 0, _, S => (false, S)
  | k + 1, c, S => tiThen (tiRowL rec b n D x (nI c) ((laRows S (nI c) n).toNatClampNeg + 1) 0 S) (tiColL rec b n D x k (c + 1))
/-- k names are left, n panes lie -/
def tiFrom (b : Nat) (D : Nat → Nat → Int32) (nm : Nat → Nat) : Nat → Nat → xS → Bool × xS
  | 0, _, S => (true, S)
  | k + 1, n, S => tiColL (tiFrom b D nm k (n + 1)) b n (D (nm n)) (nI (nm n)) ((laCols S n).toNatClampNeg + 1) 0 S
def tiI (S : xS) (B N q : Nat) (D : Nat → Nat → Int32) (oa nm : Nat → Nat) (n : Nat) (cl rw : Nat → Nat) : Prop :=
  (sF S 57 5 = nI n ∧ n ≤ 3) ∧ (sF S 2 2 = nI N ∧ N ≤ 6 ∧ bkOk S B N oa D) ∧ (sF S 64 3 = nI q ∧ q ≤ 3) ∧ (∀ i, i < q → sA S 65 i = nI (nm i) ∧ nm i < N) ∧ ∀ i, i < n → sA S 58 i = nI (nm i) ∧ sA S 61 i = nI (cl i) ∧ sA S 62 i = nI (rw i) ∧ cl i ≤ i ∧ rw i ≤ i
theorem mx_nI {a b : Nat} (ha : a < 2 ^ 31) (hb : b < 2 ^ 31) : mx (nI a) (nI b) = nI (max a b) := by
  unfold mx
  by_cases h : a < b
  · rw [if_pos ((nI_ltI ha hb).mpr h), Nat.max_eq_right (by omega)]
  · rw [if_neg (fun q => h ((nI_ltI ha hb).mp q)), Nat.max_eq_left (by omega)]
theorem laCols_N {S : xS} {cl : Nat → Nat} : ∀ {n : Nat}, n ≤ 36 → (∀ i, i < n → sA S 61 i = nI (cl i) ∧ cl i ≤ i) → ∃ C, C ≤ n ∧ laCols S n = nI C
  | 0, _, _ => ⟨0, by omega, rfl⟩
  | n + 1, h36, h => by
    obtain ⟨C, h1, h2⟩ := laCols_N (n := n) (by omega) (fun i hi => h i (by omega))
    obtain ⟨e, hl⟩ := h n (by omega)
    refine ⟨max C (cl n + 1), by omega, ?_⟩
    simp only [laCols, h2, e]
    rw [nI_add, mx_nI (by omega) (by omega)]
theorem laRows_N {S : xS} {rw' : Nat → Nat} {c : Int32} : ∀ {n : Nat}, n ≤ 36 → (∀ i, i < n → sA S 62 i = nI (rw' i) ∧ rw' i ≤ i) → ∃ C, C ≤ n ∧ laRows S c n = nI C
  | 0, _, _ => ⟨0, by omega, rfl⟩
  | n + 1, h36, h => by
    obtain ⟨C, h1, h2⟩ := laRows_N (c := c) (n := n) (by omega) (fun i hi => h i (by omega))
    obtain ⟨e, hl⟩ := h n (by omega)
    by_cases hc : sA S 61 n = c
    · refine ⟨max C (rw' n + 1), by omega, ?_⟩
      simp only [laRows, h2, e, hc, if_true]
      rw [nI_add, mx_nI (by omega) (by omega)]
    · exact ⟨C, by omega, by simp only [laRows, h2, hc, if_false]⟩
theorem tiI.cols {S : xS} {B N q : Nat} {D : Nat → Nat → Int32} {oa nm cl rw : Nat → Nat} {n : Nat} (h : tiI S B N q D oa nm n cl rw) : (laCols S n).toNatClampNeg ≤ n ∧ laCols S n = nI (laCols S n).toNatClampNeg := by
  obtain ⟨C, h1, h2⟩ := laCols_N (S := S) (cl := cl) (n := n) (by have := h.1.2; omega) (fun i hi => ⟨(h.2.2.2.2 i hi).2.1, (h.2.2.2.2 i hi).2.2.2.1⟩)
  have := h.1.2
  rw [h2, nI_clamp (by omega)]
  exact ⟨h1, rfl⟩
theorem tiI.rows {S : xS} {B N q : Nat} {D : Nat → Nat → Int32} {oa nm cl rw : Nat → Nat} {n : Nat} (h : tiI S B N q D oa nm n cl rw) (c : Int32) : (laRows S c n).toNatClampNeg ≤ n ∧ laRows S c n = nI (laRows S c n).toNatClampNeg := by
  obtain ⟨C, h1, h2⟩ := laRows_N (S := S) (rw' := rw) (c := c) (n := n) (by have := h.1.2; omega) (fun i hi => ⟨(h.2.2.2.2 i hi).2.2.1, (h.2.2.2.2 i hi).2.2.2.2⟩)
  have := h.1.2
  rw [h2, nI_clamp (by omega)]
  exact ⟨h1, rfl⟩
theorem tiI.put {S : xS} {B N q : Nat} {D : Nat → Nat → Int32} {oa nm cl rw : Nat → Nat} {n c r : Nat} {w h : Int32} (q0 : tiI S B N q D oa nm n cl rw) (hn : n < 3) (hc : c ≤ n) (hr : r ≤ n) : tiI (laPut S n (nI (nm n)) w h (nI c) (nI r)) B N q D oa nm (n + 1) (va_up cl n c) (va_up rw n r) := by
  obtain ⟨⟨a1, a2⟩, ⟨b1, b2, b3⟩, ⟨c1, c2⟩, h4, h5⟩ := q0
  unfold laPut
  refine ⟨⟨by rw [sF_uF]; exact va_up_self _ _ _, by omega⟩, ⟨by rw [sF_uFn _ _ _ (by decide)]; exact b1, b2, b3⟩, ⟨by rw [sF_uFn _ _ _ (by decide)]; exact c1, c2⟩, ?_, ?_⟩
  · intro i hi
    have e : sA (uF (uA (uA (uA (uA (uA S 58 n (nI (nm n))) 59 n w) 60 n h) 61 n (nI c)) 62 n (nI r)) 57 5 (nI (n + 1))) 65 = sA S 65 := by
      show sA (uA (uA (uA (uA (uA S 58 n (nI (nm n))) 59 n w) 60 n h) 61 n (nI c)) 62 n (nI r)) 65 = _
      rw [sA_uAn _ _ _ (by decide), sA_uAn _ _ _ (by decide), sA_uAn _ _ _ (by decide), sA_uAn _ _ _ (by decide), sA_uAn _ _ _ (by decide)]
    rw [e]; exact h4 i hi
  · have e1 : sA (uF (uA (uA (uA (uA (uA S 58 n (nI (nm n))) 59 n w) 60 n h) 61 n (nI c)) 62 n (nI r)) 57 5 (nI (n + 1))) 61 = va_up (sA S 61) n (nI c) := by
      show sA (uA (uA (uA (uA (uA S 58 n (nI (nm n))) 59 n w) 60 n h) 61 n (nI c)) 62 n (nI r)) 61 = _
      rw [sA_uAn _ _ _ (by decide), sA_uA, sA_uAn _ _ _ (by decide), sA_uAn _ _ _ (by decide), sA_uAn _ _ _ (by decide)]
    have e2 : sA (uF (uA (uA (uA (uA (uA S 58 n (nI (nm n))) 59 n w) 60 n h) 61 n (nI c)) 62 n (nI r)) 57 5 (nI (n + 1))) 62 = va_up (sA S 62) n (nI r) := by
      show sA (uA (uA (uA (uA (uA S 58 n (nI (nm n))) 59 n w) 60 n h) 61 n (nI c)) 62 n (nI r)) 62 = _
      rw [sA_uA, sA_uAn _ _ _ (by decide), sA_uAn _ _ _ (by decide), sA_uAn _ _ _ (by decide), sA_uAn _ _ _ (by decide)]
    have e0 : sA (uF (uA (uA (uA (uA (uA S 58 n (nI (nm n))) 59 n w) 60 n h) 61 n (nI c)) 62 n (nI r)) 57 5 (nI (n + 1))) 58 = va_up (sA S 58) n (nI (nm n)) := by
      show sA (uA (uA (uA (uA (uA S 58 n (nI (nm n))) 59 n w) 60 n h) 61 n (nI c)) 62 n (nI r)) 58 = _
      rw [sA_uAn _ _ _ (by decide), sA_uAn _ _ _ (by decide), sA_uAn _ _ _ (by decide), sA_uAn _ _ _ (by decide), sA_uA]
    intro i hi
    rw [e0, e1, e2]
    by_cases hin : i = n
    · subst hin
      simp only [va_up_self]
      exact ⟨trivial, trivial, trivial, hc, hr⟩
    · rw [va_up_ne _ _ hin, va_up_ne _ _ hin, va_up_ne _ _ hin, va_up_ne _ _ hin, va_up_ne _ _ hin]
      exact h5 i (by omega)
theorem tiI.drop {S : xS} {B N q : Nat} {D : Nat → Nat → Int32} {oa nm cl rw : Nat → Nat} {n c r : Nat} (h : tiI S B N q D oa nm (n + 1) (va_up cl n c) (va_up rw n r)) : tiI (uF S 57 5 (nI n)) B N q D oa nm n cl rw := by
  obtain ⟨⟨a1, a2⟩, ⟨b1, b2, b3⟩, ⟨c1, c2⟩, h4, h5⟩ := h
  refine ⟨⟨by rw [sF_uF]; exact va_up_self _ _ _, by omega⟩, ⟨by rw [sF_uFn _ _ _ (by decide)]; exact b1, b2, b3⟩, ⟨by rw [sF_uFn _ _ _ (by decide)]; exact c1, c2⟩, h4, fun i hi => ?_⟩
  have := h5 i (by omega)
  rw [va_up_ne _ _ (by omega), va_up_ne _ _ (by omega)] at this
  exact this
/-- a search that fails leaves what was there; one that finds has laid all names -/
def tiG (B N q : Nat) (D : Nat → Nat → Int32) (oa nm : Nat → Nat) (n : Nat) (cl rw : Nat → Nat) (p : Bool × xS) : Prop := (p.1 = false → tiI p.2 B N q D oa nm n cl rw) ∧ (p.1 = true → ∃ cl' rw', tiI p.2 B N q D oa nm q cl' rw')
theorem tiG.then {B N q : Nat} {D : Nat → Nat → Int32} {oa nm : Nat → Nat} {n : Nat} {cl rw : Nat → Nat} {p : Bool × xS} {f : xS → Bool × xS} (h : tiG B N q D oa nm n cl rw p) (k : ∀ S, tiI S B N q D oa nm n cl rw → tiG B N q D oa nm n cl rw (f S)) : tiG B N q D oa nm n cl rw (tiThen p f) := by
  unfold tiThen
  cases hp : p.1 with
  | true => rw [if_pos rfl]; exact h
  | false => rw [if_neg (by decide)]; exact k _ (h.1 hp)
section TI
variable {B N q : Nat} {D : Nat → Nat → Int32} {oa nm : Nat → Nat} {b : Nat}
theorem tiPut_G {rec : xS → Bool × xS} {n : Nat} {cl rw : Nat → Nat} (hn : n < 3) (hrec : ∀ S cl rw, tiI S B N q D oa nm (n + 1) cl rw → tiG B N q D oa nm (n + 1) cl rw (rec S)) {S : xS} (hS : tiI S B N q D oa nm n cl rw) {w h : Int32} {c r : Nat} (hc : c ≤ n) (hr : r ≤ n) : tiG B N q D oa nm n cl rw (tiPut rec b n (nI (nm n)) w h (nI c) (nI r) S) := by
  unfold tiPut
  have h1 := hS.put (w := w) (h := h) hn hc hr
  generalize laPut S n (nI (nm n)) w h (nI c) (nI r) = S1 at h1
  split
  · exact ⟨fun _ => h1.drop, fun h => by cases h⟩
  · have h2 := hrec S1 _ _ h1
    split
    · rename_i h3
      exact ⟨fun _ => (h2.1 h3).drop, fun h => by cases h⟩
    · rename_i h3
      exact ⟨fun h => absurd h h3, fun h => h2.2 h⟩
theorem tiTurn_G {rec : xS → Bool × xS} {n : Nat} {cl rw : Nat → Nat} (hn : n < 3) (hrec : ∀ S cl rw, tiI S B N q D oa nm (n + 1) cl rw → tiG B N q D oa nm (n + 1) cl rw (rec S)) {S : xS} (hS : tiI S B N q D oa nm n cl rw) {E : Nat → Int32} {c r : Nat} (hc : c ≤ n) (hr : r ≤ n) : tiG B N q D oa nm n cl rw (tiTurn rec b n E (nI (nm n)) (nI c) (nI r) S) := by
  unfold tiTurn
  split
  · exact ⟨fun _ => hS, fun h => by cases h⟩
  · exact tiPut_G hn hrec hS hc hr
theorem tiBoth_G {rec : xS → Bool × xS} {n : Nat} {cl rw : Nat → Nat} (hn : n < 3) (hrec : ∀ S cl rw, tiI S B N q D oa nm (n + 1) cl rw → tiG B N q D oa nm (n + 1) cl rw (rec S)) {S : xS} (hS : tiI S B N q D oa nm n cl rw) {E : Nat → Int32} {c r : Nat} (hc : c ≤ n) (hr : r ≤ n) : tiG B N q D oa nm n cl rw (tiBoth rec b n E (nI (nm n)) (nI c) (nI r) S) :=
  (tiPut_G hn hrec hS hc hr).then fun S' hS' => tiTurn_G hn hrec hS' hc hr
theorem tiRowL_G {rec : xS → Bool × xS} {n : Nat} {cl rw : Nat → Nat} (hn : n < 3) (hrec : ∀ S cl rw, tiI S B N q D oa nm (n + 1) cl rw → tiG B N q D oa nm (n + 1) cl rw (rec S)) {E : Nat → Int32} {c : Nat} (hc : c ≤ n) : ∀ (k r : Nat) (S : xS), r + k ≤ n + 1 → tiI S B N q D oa nm n cl rw → tiG B N q D oa nm n cl rw (tiRowL rec b n E (nI (nm n)) (nI c) k r S)
  | 0, _, S, _, hS => ⟨fun _ => hS, fun h => by cases h⟩
  | k + 1, r, S, hk, hS => (tiBoth_G hn hrec hS hc (by omega)).then fun S' hS' => tiRowL_G hn hrec hc k (r + 1) S' (by omega) hS'
theorem tiColL_G {rec : xS → Bool × xS} {n : Nat} {cl rw : Nat → Nat} (hn : n < 3) (hrec : ∀ S cl rw, tiI S B N q D oa nm (n + 1) cl rw → tiG B N q D oa nm (n + 1) cl rw (rec S)) {E : Nat → Int32} : ∀ (k c : Nat) (S : xS), c + k ≤ n + 1 → tiI S B N q D oa nm n cl rw → tiG B N q D oa nm n cl rw (tiColL rec b n E (nI (nm n)) k c S)
  | 0, _, S, _, hS => ⟨fun _ => hS, fun h => by cases h⟩
  | k + 1, c, S, hk, hS => (tiRowL_G hn hrec (by omega) _ 0 S (by have := (hS.rows (nI c)).1; omega) hS).then fun S' hS' => tiColL_G hn hrec k (c + 1) S' (by omega) hS'
theorem tiFrom_G : ∀ (k n : Nat) (S : xS) (cl rw : Nat → Nat), n + k = q → tiI S B N q D oa nm n cl rw → tiG B N q D oa nm n cl rw (tiFrom b D nm k n S)
  | 0, n, S, cl, rw', e, hS => by
    have e : n = q := e
    subst e
    exact ⟨fun h => (by cases h), fun _ => ⟨cl, rw', hS⟩⟩
  | k + 1, n, S, cl, rw', e, hS => tiColL_G (by have := hS.2.2.1.2; omega) (fun S' cl' rw'' h => tiFrom_G k (n + 1) S' cl' rw'' (by omega) h) _ 0 S (by have := hS.cols.1; omega) hS
theorem tiThen_t {p : Bool × xS} {f : xS → Bool × xS} (h : p.1 = true) : tiThen p f = p := if_pos h
theorem tiThen_f {p : Bool × xS} {f : xS → Bool × xS} (h : p.1 = false) : tiThen p f = f p.2 := if_neg (by rw [h]; decide)
theorem tiThen_a {p : Bool × xS} {f g : xS → Bool × xS} : tiThen (tiThen p f) g = tiThen p (fun S => tiThen (f S) g) := by
  cases h : p.1 with
  | true => rw [tiThen_t h, tiThen_t h, tiThen_t h]
  | false => rw [tiThen_f h, tiThen_f h]
end TI
set_option maxRecDepth 100000 in
set_option maxHeartbeats 1000000 in
theorem c_Ti_placeAt0 {G : xG} {B d : Nat} {S : xS} (hG : xOkG G) {N q n b : Nat} {D : Nat → Nat → Int32} {oa nm cl rw : Nat → Nat} (hb : isGlass b) (hS : tiI S B N q D oa nm n cl rw) (hn : n < q) {rec : xS → Bool × xS} (hrG : ∀ S cl rw, tiI S B N q D oa nm (n + 1) cl rw → tiG B N q D oa nm (n + 1) cl rw (rec S)) (hrC : ∀ S cl rw, tiI S B N q D oa nm (n + 1) cl rw → EX G m_Ti_placeFrom (d + 4) 0 [(0, .ref (B + 64)), (1, .ref (B + b)), (2, .int (nI (n + 1)))] [] (mk G B S) (xRet G B (some (.int (bI (rec S).1))) (rec S).2)) {c r : Nat} (hc : c ≤ n) (hr : r ≤ n) : EX G m_Ti_placeAt (d + 5) 0 [(0, .ref (B + 64)), (1, .ref (B + b)), (2, .int (nI n)), (3, .int (nI c)), (4, .int (nI r)), (5, .int (nI 0))] [] (mk G B S) (xRet G B (some (.int (bI (tiPut rec b n (nI (nm n)) (D (nm n) 0) (D (nm n) 1) (nI c) (nI r) S).1))) (tiPut rec b n (nI (nm n)) (D (nm n) 0) (D (nm n) 1) (nI c) (nI r) S).2) := by
  have hSz := hS.1.1
  have hN := hS.2.1.1
  have hN6 := hS.2.1.2.1
  have hO := hS.2.1.2.2
  have hq3 := hS.2.2.1.2
  have hNm := hS.2.2.2.1
  refine x_aload_n d_Ti_placeAt_0 rfl ?_
  refine y_getf d_Ti_placeAt_1 gf_Ti_15 k_trial rfl ?_
  refine x_aload_n d_Ti_placeAt_4 rfl ?_
  refine y_getf d_Ti_placeAt_5 gf_Ti_9 k_trial rfl ?_
  refine x_iload_n d_Ti_placeAt_8 rfl ?_
  refine y_iald hG d_Ti_placeAt_9 k_named n rfl (by omega) ?_
  rw [(hNm n hn).1]
  refine w_callV (As := [_]) d_Ti_placeAt_10 k_Ti_31 k_book rfl rfl rfl (c_Bk_at hG hN hN6 (hNm n hn).2 (hO _ (hNm n hn).2).1) ?_
  refine s_astore (lv' := [(0, _), (1, _), (2, _), (3, _), (4, _), (5, _), (6, _)]) d_Ti_placeAt_13 (by decide) rfl ?_
  refine x_aload d_Ti_placeAt_15 rfl ?_
  refine x_ifnull d_Ti_placeAt_17 ?_
  refine x_iload d_Ti_placeAt_20 rfl ?_
  refine z_if_eq 35 d_Ti_placeAt_22 rfl (by omega) (fun hc22 => ?_) (fun q => absurd q (by omega))
  refine x_aload_n d_Ti_placeAt_35 rfl ?_
  refine y_getf d_Ti_placeAt_36 gf_Ti_19 k_trial rfl ?_
  refine x_aload_n d_Ti_placeAt_39 rfl ?_
  refine y_getf d_Ti_placeAt_40 gf_Ti_9 k_trial rfl ?_
  refine x_iload_n d_Ti_placeAt_43 rfl ?_
  refine y_iald hG d_Ti_placeAt_44 k_named n rfl (by omega) ?_
  rw [(hNm n hn).1]
  refine x_iload d_Ti_placeAt_45 rfl ?_
  refine z_if_eq 58 d_Ti_placeAt_47 rfl (by omega) (fun hc47 => ?_) (fun q => absurd q (by omega))
  refine x_aload d_Ti_placeAt_58 rfl ?_
  refine y_getE d_Ti_placeAt_60 gf_Ti_73 (hO _ (hNm n hn).2).2 rfl ?_
  refine x_iload d_Ti_placeAt_63 rfl ?_
  refine z_if_eq 76 d_Ti_placeAt_65 rfl (by omega) (fun hc65 => ?_) (fun q => absurd q (by omega))
  refine x_aload d_Ti_placeAt_76 rfl ?_
  refine y_getE d_Ti_placeAt_78 gf_Ti_70 (hO _ (hNm n hn).2).2 rfl ?_
  refine x_iload_n d_Ti_placeAt_81 rfl ?_
  refine x_iload d_Ti_placeAt_82 rfl ?_
  refine w_callV (As := [_, _, _, _, _]) d_Ti_placeAt_84 k_Ti_76 k_lay rfl rfl rfl (c_La_put hG hSz (by omega)) ?_
  have h1 := hS.put (w := (D (nm n) 0)) (h := (D (nm n) 1)) (by omega) hc hr
  refine x_aload_n d_Ti_placeAt_87 rfl ?_
  refine y_getf d_Ti_placeAt_88 gf_Ti_19 k_trial rfl ?_
  refine x_aload_n d_Ti_placeAt_91 rfl ?_
  refine w_callV (As := [_]) d_Ti_placeAt_92 k_Ti_80 k_lay rfl rfl rfl (c_La_fitsOn hG h1.1.1 (by omega) hb (m := fun cc => (laRows (laPut S n (nI (nm n)) (D (nm n) 0) (D (nm n) 1) (nI c) (nI r)) (nI cc) (n + 1)).toNatClampNeg) h1.cols.2 (by have := h1.cols.1; omega) (fun cc _ => ⟨(h1.rows (nI cc)).2, by have := (h1.rows (nI cc)).1; omega⟩)) ?_
  refine z_bif_eq 111 d_Ti_placeAt_95 rfl (fun hc95 => ?_) (fun hc95 => ?_)
  · skip
    have f95 : laFit (laPut S n (nI (nm n)) (D (nm n) 0) (D (nm n) 1) (nI c) (nI r)) b (n + 1) = _ := hc95
    have hD := h1.1.1
    refine x_aload_n d_Ti_placeAt_111 rfl ?_
    refine y_getf d_Ti_placeAt_112 gf_Ti_19 k_trial rfl ?_
    refine w_callV (As := []) d_Ti_placeAt_115 k_Ti_84 k_lay rfl rfl rfl (c_La_dropLast hG hD (by omega)) ?_
    refine x_iconst (v := nI 0) d_Ti_placeAt_118 (by decide +kernel) ?_
    refine x_ireturn d_Ti_placeAt_119 rfl (by decide +kernel) ?_
    unfold tiPut
    first | (rw [if_pos f95]; exact ⟨rfl, rfl⟩) | (rw [if_neg (by rw [f95]; decide), if_pos hc106]; exact ⟨rfl, rfl⟩)
  · skip
    have f95 : laFit (laPut S n (nI (nm n)) (D (nm n) 0) (D (nm n) 1) (nI c) (nI r)) b (n + 1) = _ := hc95
    
    refine x_aload_n d_Ti_placeAt_98 rfl ?_
    refine x_aload_n d_Ti_placeAt_99 rfl ?_
    refine x_iload_n d_Ti_placeAt_100 rfl ?_
    refine x_iconst (v := nI 1) d_Ti_placeAt_101 (by decide +kernel) ?_
    refine x_iadd d_Ti_placeAt_102 ?_
    rw [nI_add]
    refine w_callV (As := [_, _]) d_Ti_placeAt_103 k_Ti_51 k_trial rfl rfl rfl (hrC _ _ _ h1) ?_
    refine z_bif_eq 111 d_Ti_placeAt_106 rfl (fun hc106 => ?_) (fun hc106 => ?_)
    · skip
      have hD := ((hrG _ _ _ h1).1 hc106).1.1
      refine x_aload_n d_Ti_placeAt_111 rfl ?_
      refine y_getf d_Ti_placeAt_112 gf_Ti_19 k_trial rfl ?_
      refine w_callV (As := []) d_Ti_placeAt_115 k_Ti_84 k_lay rfl rfl rfl (c_La_dropLast hG hD (by omega)) ?_
      refine x_iconst (v := nI 0) d_Ti_placeAt_118 (by decide +kernel) ?_
      refine x_ireturn d_Ti_placeAt_119 rfl (by decide +kernel) ?_
      unfold tiPut
      first | (rw [if_pos f95]; exact ⟨rfl, rfl⟩) | (rw [if_neg (by rw [f95]; decide), if_pos hc106]; exact ⟨rfl, rfl⟩)
    · skip
      skip
      refine x_iconst (v := nI 1) d_Ti_placeAt_109 (by decide +kernel) ?_
      refine x_ireturn d_Ti_placeAt_110 rfl (by decide +kernel) ?_
      unfold tiPut
      rw [if_neg (by rw [f95]; decide), if_neg (by rw [hc106]; decide), hc106]
      exact ⟨rfl, rfl⟩
set_option maxRecDepth 100000 in
set_option maxHeartbeats 1000000 in
theorem c_Ti_placeAt1 {G : xG} {B d : Nat} {S : xS} (hG : xOkG G) {N q n b : Nat} {D : Nat → Nat → Int32} {oa nm cl rw : Nat → Nat} (hb : isGlass b) (hS : tiI S B N q D oa nm n cl rw) (hn : n < q) {rec : xS → Bool × xS} (hrG : ∀ S cl rw, tiI S B N q D oa nm (n + 1) cl rw → tiG B N q D oa nm (n + 1) cl rw (rec S)) (hrC : ∀ S cl rw, tiI S B N q D oa nm (n + 1) cl rw → EX G m_Ti_placeFrom (d + 4) 0 [(0, .ref (B + 64)), (1, .ref (B + b)), (2, .int (nI (n + 1)))] [] (mk G B S) (xRet G B (some (.int (bI (rec S).1))) (rec S).2)) {c r : Nat} (hc : c ≤ n) (hr : r ≤ n) : EX G m_Ti_placeAt (d + 5) 0 [(0, .ref (B + 64)), (1, .ref (B + b)), (2, .int (nI n)), (3, .int (nI c)), (4, .int (nI r)), (5, .int (nI 1))] [] (mk G B S) (xRet G B (some (.int (bI (tiTurn rec b n (D (nm n)) (nI (nm n)) (nI c) (nI r) S).1))) (tiTurn rec b n (D (nm n)) (nI (nm n)) (nI c) (nI r) S).2) := by
  have hSz := hS.1.1
  have hN := hS.2.1.1
  have hN6 := hS.2.1.2.1
  have hO := hS.2.1.2.2
  have hq3 := hS.2.2.1.2
  have hNm := hS.2.2.2.1
  refine x_aload_n d_Ti_placeAt_0 rfl ?_
  refine y_getf d_Ti_placeAt_1 gf_Ti_15 k_trial rfl ?_
  refine x_aload_n d_Ti_placeAt_4 rfl ?_
  refine y_getf d_Ti_placeAt_5 gf_Ti_9 k_trial rfl ?_
  refine x_iload_n d_Ti_placeAt_8 rfl ?_
  refine y_iald hG d_Ti_placeAt_9 k_named n rfl (by omega) ?_
  rw [(hNm n hn).1]
  refine w_callV (As := [_]) d_Ti_placeAt_10 k_Ti_31 k_book rfl rfl rfl (c_Bk_at hG hN hN6 (hNm n hn).2 (hO _ (hNm n hn).2).1) ?_
  refine s_astore (lv' := [(0, _), (1, _), (2, _), (3, _), (4, _), (5, _), (6, _)]) d_Ti_placeAt_13 (by decide) rfl ?_
  refine x_aload d_Ti_placeAt_15 rfl ?_
  refine x_ifnull d_Ti_placeAt_17 ?_
  refine x_iload d_Ti_placeAt_20 rfl ?_
  refine z_if_eq 35 d_Ti_placeAt_22 rfl (by omega) (fun q => absurd q (by omega)) (fun hc22 => ?_)
  refine x_aload d_Ti_placeAt_25 rfl ?_
  refine y_getE d_Ti_placeAt_27 gf_Ti_66 (hO _ (hNm n hn).2).2 rfl ?_
  refine x_if_ne 35 d_Ti_placeAt_30 rfl (fun hc30 => ?_) (fun hc30 => ?_)
  · skip
    skip
    refine x_aload_n d_Ti_placeAt_35 rfl ?_
    refine y_getf d_Ti_placeAt_36 gf_Ti_19 k_trial rfl ?_
    refine x_aload_n d_Ti_placeAt_39 rfl ?_
    refine y_getf d_Ti_placeAt_40 gf_Ti_9 k_trial rfl ?_
    refine x_iload_n d_Ti_placeAt_43 rfl ?_
    refine y_iald hG d_Ti_placeAt_44 k_named n rfl (by omega) ?_
    rw [(hNm n hn).1]
    refine x_iload d_Ti_placeAt_45 rfl ?_
    refine z_if_eq 58 d_Ti_placeAt_47 rfl (by omega) (fun q => absurd q (by omega)) (fun hc47 => ?_)
    refine x_aload d_Ti_placeAt_50 rfl ?_
    refine y_getE d_Ti_placeAt_52 gf_Ti_70 (hO _ (hNm n hn).2).2 rfl ?_
    refine x_goto 63 d_Ti_placeAt_55 rfl ?_
    refine x_iload d_Ti_placeAt_63 rfl ?_
    refine z_if_eq 76 d_Ti_placeAt_65 rfl (by omega) (fun q => absurd q (by omega)) (fun hc65 => ?_)
    refine x_aload d_Ti_placeAt_68 rfl ?_
    refine y_getE d_Ti_placeAt_70 gf_Ti_73 (hO _ (hNm n hn).2).2 rfl ?_
    refine x_goto 81 d_Ti_placeAt_73 rfl ?_
    refine x_iload_n d_Ti_placeAt_81 rfl ?_
    refine x_iload d_Ti_placeAt_82 rfl ?_
    refine w_callV (As := [_, _, _, _, _]) d_Ti_placeAt_84 k_Ti_76 k_lay rfl rfl rfl (c_La_put hG hSz (by omega)) ?_
    have h1 := hS.put (w := (D (nm n) 1)) (h := (D (nm n) 0)) (by omega) hc hr
    refine x_aload_n d_Ti_placeAt_87 rfl ?_
    refine y_getf d_Ti_placeAt_88 gf_Ti_19 k_trial rfl ?_
    refine x_aload_n d_Ti_placeAt_91 rfl ?_
    refine w_callV (As := [_]) d_Ti_placeAt_92 k_Ti_80 k_lay rfl rfl rfl (c_La_fitsOn hG h1.1.1 (by omega) hb (m := fun cc => (laRows (laPut S n (nI (nm n)) (D (nm n) 1) (D (nm n) 0) (nI c) (nI r)) (nI cc) (n + 1)).toNatClampNeg) h1.cols.2 (by have := h1.cols.1; omega) (fun cc _ => ⟨(h1.rows (nI cc)).2, by have := (h1.rows (nI cc)).1; omega⟩)) ?_
    refine z_bif_eq 111 d_Ti_placeAt_95 rfl (fun hc95 => ?_) (fun hc95 => ?_)
    · skip
      have f95 : laFit (laPut S n (nI (nm n)) (D (nm n) 1) (D (nm n) 0) (nI c) (nI r)) b (n + 1) = _ := hc95
      have hD := h1.1.1
      refine x_aload_n d_Ti_placeAt_111 rfl ?_
      refine y_getf d_Ti_placeAt_112 gf_Ti_19 k_trial rfl ?_
      refine w_callV (As := []) d_Ti_placeAt_115 k_Ti_84 k_lay rfl rfl rfl (c_La_dropLast hG hD (by omega)) ?_
      refine x_iconst (v := nI 0) d_Ti_placeAt_118 (by decide +kernel) ?_
      refine x_ireturn d_Ti_placeAt_119 rfl (by decide +kernel) ?_
      unfold tiTurn; rw [if_neg hc30]
      unfold tiPut
      first | (rw [if_pos f95]; exact ⟨rfl, rfl⟩) | (rw [if_neg (by rw [f95]; decide), if_pos hc106]; exact ⟨rfl, rfl⟩)
    · skip
      have f95 : laFit (laPut S n (nI (nm n)) (D (nm n) 1) (D (nm n) 0) (nI c) (nI r)) b (n + 1) = _ := hc95
      
      refine x_aload_n d_Ti_placeAt_98 rfl ?_
      refine x_aload_n d_Ti_placeAt_99 rfl ?_
      refine x_iload_n d_Ti_placeAt_100 rfl ?_
      refine x_iconst (v := nI 1) d_Ti_placeAt_101 (by decide +kernel) ?_
      refine x_iadd d_Ti_placeAt_102 ?_
      rw [nI_add]
      refine w_callV (As := [_, _]) d_Ti_placeAt_103 k_Ti_51 k_trial rfl rfl rfl (hrC _ _ _ h1) ?_
      refine z_bif_eq 111 d_Ti_placeAt_106 rfl (fun hc106 => ?_) (fun hc106 => ?_)
      · skip
        have hD := ((hrG _ _ _ h1).1 hc106).1.1
        refine x_aload_n d_Ti_placeAt_111 rfl ?_
        refine y_getf d_Ti_placeAt_112 gf_Ti_19 k_trial rfl ?_
        refine w_callV (As := []) d_Ti_placeAt_115 k_Ti_84 k_lay rfl rfl rfl (c_La_dropLast hG hD (by omega)) ?_
        refine x_iconst (v := nI 0) d_Ti_placeAt_118 (by decide +kernel) ?_
        refine x_ireturn d_Ti_placeAt_119 rfl (by decide +kernel) ?_
        unfold tiTurn; rw [if_neg hc30]
        unfold tiPut
        first | (rw [if_pos f95]; exact ⟨rfl, rfl⟩) | (rw [if_neg (by rw [f95]; decide), if_pos hc106]; exact ⟨rfl, rfl⟩)
      · skip
        skip
        refine x_iconst (v := nI 1) d_Ti_placeAt_109 (by decide +kernel) ?_
        refine x_ireturn d_Ti_placeAt_110 rfl (by decide +kernel) ?_
        unfold tiTurn; rw [if_neg hc30]
        unfold tiPut
        rw [if_neg (by rw [f95]; decide), if_neg (by rw [hc106]; decide), hc106]
        exact ⟨rfl, rfl⟩
  · skip
    skip
    refine x_iconst (v := nI 0) d_Ti_placeAt_33 (by decide +kernel) ?_
    refine x_ireturn d_Ti_placeAt_34 rfl (by decide +kernel) ?_
    unfold tiTurn
    rw [if_pos hc30]
    exact ⟨rfl, rfl⟩
set_option maxRecDepth 100000 in
set_option maxHeartbeats 1000000 in
theorem c_Ti_placeFromS {G : xG} {B d : Nat} {S : xS} (hG : xOkG G) {N q n b : Nat} {D : Nat → Nat → Int32} {oa nm cl rw : Nat → Nat} (hb : isGlass b) (hS : tiI S B N q D oa nm n cl rw) (hn : n < q) {rec : xS → Bool × xS} (hrG : ∀ S cl rw, tiI S B N q D oa nm (n + 1) cl rw → tiG B N q D oa nm (n + 1) cl rw (rec S)) (hrC : ∀ S cl rw, tiI S B N q D oa nm (n + 1) cl rw → EX G m_Ti_placeFrom (d + 4) 0 [(0, .ref (B + 64)), (1, .ref (B + b)), (2, .int (nI (n + 1)))] [] (mk G B S) (xRet G B (some (.int (bI (rec S).1))) (rec S).2)) : EX G m_Ti_placeFrom (d + 6) 0 [(0, .ref (B + 64)), (1, .ref (B + b)), (2, .int (nI n))] [] (mk G B S) ((xRet G B (some (.int (bI (tiColL rec b n (D (nm n)) (nI (nm n)) ((laCols S n).toNatClampNeg + 1) 0 S).1))) (tiColL rec b n (D (nm n)) (nI (nm n)) ((laCols S n).toNatClampNeg + 1) 0 S).2)) := by
  have hSz := hS.1.1
  have hq3 := hS.2.2.1.2
  have hC := hS.cols.2
  have hCn := hS.cols.1
  generalize (laCols S n).toNatClampNeg = C at hC hCn ⊢
  refine x_iload_n d_Ti_placeFrom_0 rfl ?_
  refine x_aload_n d_Ti_placeFrom_1 rfl ?_
  refine y_getf (v := .int (nI q)) d_Ti_placeFrom_2 gf_Ti_23 k_trial (congrArg (fun q => some (Value.int q)) hS.2.2.1.1) ?_
  refine z_icmp_lt 10 d_Ti_placeFrom_5 rfl (by omega) (by omega) (fun hc5 => ?_) (fun q => absurd q (by omega))
  refine x_aload_n d_Ti_placeFrom_10 rfl ?_
  refine y_getf d_Ti_placeFrom_11 gf_Ti_19 k_trial rfl ?_
  refine w_callV (As := []) d_Ti_placeFrom_14 k_Ti_55 k_lay rfl rfl rfl (c_La_columns hG hSz (by omega)) ?_
  rw [hC]
  refine s_istore_n (lv' := [(0, _), (1, _), (2, _), (3, _)]) d_Ti_placeFrom_17 (by decide) rfl ?_
  refine x_iconst (v := nI 0) d_Ti_placeFrom_18 (by decide +kernel) ?_
  refine s_istore (lv' := [(0, _), (1, _), (2, _), (3, _), (4, _)]) d_Ti_placeFrom_19 (by decide) rfl ?_
  have L21 : ∀ c, c ≤ C + 1 → ∀ S, tiI S B N q D oa nm n cl rw → EX G m_Ti_placeFrom (d + 6) 21 [(0, .ref (B + 64)), (1, .ref (B + b)), (2, .int (nI n)), (3, .int (nI C)), (4, .int (nI c))] [] (mk G B S) (xRet G B (some (.int (bI (tiColL rec b n (D (nm n)) (nI (nm n)) (C + 1 - c) c S).1))) (tiColL rec b n (D (nm n)) (nI (nm n)) (C + 1 - c) c S).2) := by
    refine x_down (C + 1) ?_ ?_
    · skip
      rw [Nat.sub_self]
      intro S hS
      refine x_iload d_Ti_placeFrom_21 rfl ?_
      refine x_iload_n d_Ti_placeFrom_23 rfl ?_
      refine z_icmp_gt 90 d_Ti_placeFrom_24 rfl (by omega) (by omega) (fun hc24 => ?_) (fun q => absurd q (by omega))
      refine x_iconst (v := nI 0) d_Ti_placeFrom_90 (by decide +kernel) ?_
      refine x_ireturn d_Ti_placeFrom_91 rfl (by decide +kernel) ?_
      exact ⟨rfl, rfl⟩
    · intro c hc ihc
      intro S hS
      rw [show C + 1 - (c + 1) = C - c by omega] at ihc
      rw [show C + 1 - c = C - c + 1 by omega]
      generalize C - c = K at ihc ⊢
      have hR := (hS.rows (nI c)).2
      have hRn := (hS.rows (nI c)).1
      simp only [tiColL]
      generalize (laRows S (nI c) n).toNatClampNeg = R at hR hRn ⊢
      refine x_iload d_Ti_placeFrom_21 rfl ?_
      refine x_iload_n d_Ti_placeFrom_23 rfl ?_
      refine z_icmp_gt 90 d_Ti_placeFrom_24 rfl (by omega) (by omega) (fun q => absurd q (by omega)) (fun hc24 => ?_)
      refine x_aload_n d_Ti_placeFrom_27 rfl ?_
      refine y_getf d_Ti_placeFrom_28 gf_Ti_19 k_trial rfl ?_
      refine x_iload d_Ti_placeFrom_31 rfl ?_
      refine w_callV (As := [_]) d_Ti_placeFrom_33 k_Ti_59 k_lay rfl rfl rfl (c_La_rowsIn hG hS.1.1 (by omega)) ?_
      rw [hR]
      refine s_istore (lv' := [(0, _), (1, _), (2, _), (3, _), (4, _), (5, _)]) d_Ti_placeFrom_36 (by decide) rfl ?_
      refine x_iconst (v := nI 0) d_Ti_placeFrom_38 (by decide +kernel) ?_
      refine s_istore (lv' := [(0, _), (1, _), (2, _), (3, _), (4, _), (5, _), (6, _)]) d_Ti_placeFrom_39 (by decide) rfl ?_
      have L41 : ∀ r, r ≤ R + 1 → ∀ S, tiI S B N q D oa nm n cl rw → EX G m_Ti_placeFrom (d + 6) 41 [(0, .ref (B + 64)), (1, .ref (B + b)), (2, .int (nI n)), (3, .int (nI C)), (4, .int (nI c)), (5, .int (nI R)), (6, .int (nI r))] [] (mk G B S) (xRet G B (some (.int (bI (tiThen (tiRowL rec b n (D (nm n)) (nI (nm n)) (nI c) (R + 1 - r) r S) (tiColL rec b n (D (nm n)) (nI (nm n)) K (c + 1))).1))) (tiThen (tiRowL rec b n (D (nm n)) (nI (nm n)) (nI c) (R + 1 - r) r S) (tiColL rec b n (D (nm n)) (nI (nm n)) K (c + 1))).2) := by
        refine x_down (R + 1) ?_ ?_
        · skip
          rw [Nat.sub_self]
          simp only [tiRowL]
          intro S hS
          refine x_iload d_Ti_placeFrom_41 rfl ?_
          refine x_iload d_Ti_placeFrom_43 rfl ?_
          refine z_icmp_gt 84 d_Ti_placeFrom_45 rfl (by omega) (by omega) (fun hc45 => ?_) (fun q => absurd q (by omega))
          refine s_iinc (lv' := [(0, _), (1, _), (2, _), (3, _), (4, _), (5, _), (6, _)]) d_Ti_placeFrom_84 rfl (xinc _) (by decide) rfl ?_
          refine x_goto 21 d_Ti_placeFrom_87 rfl ?_
          refine x_lv (lv' := [(0, _), (1, _), (2, _), (3, _), (4, _)]) [0, 1, 2, 3, 4] rfl ?_
          exact ihc _ hS
        · intro r hr ihr
          intro S hS
          rw [show R + 1 - (r + 1) = R - r by omega] at ihr
          rw [show R + 1 - r = R - r + 1 by omega]
          generalize R - r = K2 at ihr ⊢
          simp only [tiRowL]
          rw [tiThen_a]
          unfold tiBoth
          rw [tiThen_a]
          refine x_iload d_Ti_placeFrom_41 rfl ?_
          refine x_iload d_Ti_placeFrom_43 rfl ?_
          refine z_icmp_gt 84 d_Ti_placeFrom_45 rfl (by omega) (by omega) (fun q => absurd q (by omega)) (fun hc45 => ?_)
          refine x_aload_n d_Ti_placeFrom_48 rfl ?_
          refine x_aload_n d_Ti_placeFrom_49 rfl ?_
          refine x_iload_n d_Ti_placeFrom_50 rfl ?_
          refine x_iload d_Ti_placeFrom_51 rfl ?_
          refine x_iload d_Ti_placeFrom_53 rfl ?_
          refine x_iconst (v := nI 0) d_Ti_placeFrom_55 (by decide +kernel) ?_
          refine w_callV (As := [_, _, _, _, _]) d_Ti_placeFrom_56 k_Ti_62 k_trial rfl rfl rfl (c_Ti_placeAt0 hG hb hS hn hrG hrC (by omega) (by omega)) ?_
          refine z_bif_ne 76 d_Ti_placeFrom_59 rfl (fun hc59 => ?_) (fun hc59 => ?_)
          · skip
            rw [tiThen_t hc59]
            refine x_iconst (v := nI 1) d_Ti_placeFrom_76 (by decide +kernel) ?_
            refine x_ireturn d_Ti_placeFrom_77 rfl (by decide +kernel) ?_
            first | (rw [hc73]; exact ⟨rfl, rfl⟩) | (rw [hc59]; exact ⟨rfl, rfl⟩)
          · skip
            have hS1 := (tiPut_G (b := b) (w := D (nm n) 0) (h := D (nm n) 1) (c := c) (r := r) (by omega) hrG hS (by omega) (by omega)).1 hc59
            rw [tiThen_f hc59]
            refine x_aload_n d_Ti_placeFrom_62 rfl ?_
            refine x_aload_n d_Ti_placeFrom_63 rfl ?_
            refine x_iload_n d_Ti_placeFrom_64 rfl ?_
            refine x_iload d_Ti_placeFrom_65 rfl ?_
            refine x_iload d_Ti_placeFrom_67 rfl ?_
            refine x_iconst (v := nI 1) d_Ti_placeFrom_69 (by decide +kernel) ?_
            refine w_callV (As := [_, _, _, _, _]) d_Ti_placeFrom_70 k_Ti_62 k_trial rfl rfl rfl (c_Ti_placeAt1 hG hb hS1 hn hrG hrC (by omega) (by omega)) ?_
            refine z_bif_eq 78 d_Ti_placeFrom_73 rfl (fun hc73 => ?_) (fun hc73 => ?_)
            · skip
              have hS2 := (tiTurn_G (b := b) (E := D (nm n)) (c := c) (r := r) (by omega) hrG hS1 (by omega) (by omega)).1 hc73
              rw [tiThen_f hc73]
              refine s_iinc (lv' := [(0, _), (1, _), (2, _), (3, _), (4, _), (5, _), (6, _)]) d_Ti_placeFrom_78 rfl (xinc _) (by decide) rfl ?_
              refine x_goto 41 d_Ti_placeFrom_81 rfl ?_
              refine x_lv (lv' := [(0, _), (1, _), (2, _), (3, _), (4, _), (5, _), (6, _)]) [0, 1, 2, 3, 4, 5, 6] rfl ?_
              exact ihr _ hS2
            · skip
              rw [tiThen_t hc73]
              refine x_iconst (v := nI 1) d_Ti_placeFrom_76 (by decide +kernel) ?_
              refine x_ireturn d_Ti_placeFrom_77 rfl (by decide +kernel) ?_
              first | (rw [hc73]; exact ⟨rfl, rfl⟩) | (rw [hc59]; exact ⟨rfl, rfl⟩)
      refine x_lv (lv' := [(0, _), (1, _), (2, _), (3, _), (4, _), (5, _), (6, _)]) [0, 1, 2, 3, 4, 5, 6] rfl ?_
      exact L41 0 (Nat.zero_le _) S hS
  refine x_lv (lv' := [(0, _), (1, _), (2, _), (3, _), (4, _)]) [0, 1, 2, 3, 4] rfl ?_
  exact L21 0 (Nat.zero_le _) S hS
set_option maxRecDepth 100000 in
set_option maxHeartbeats 1000000 in
theorem c_Ti_placeFrom0 {G : xG} {B d : Nat} {S : xS} (hG : xOkG G) {N q b : Nat} {D : Nat → Nat → Int32} {oa nm cl rw : Nat → Nat} (hS : tiI S B N q D oa nm q cl rw) : EX G m_Ti_placeFrom d 0 [(0, .ref (B + 64)), (1, .ref (B + b)), (2, .int (nI q))] [] (mk G B S) (xRet G B (some (.int (bI true))) S) := by
  have hq3 := hS.2.2.1.2
  refine x_iload_n d_Ti_placeFrom_0 rfl ?_
  refine x_aload_n d_Ti_placeFrom_1 rfl ?_
  refine y_getf (v := .int (nI q)) d_Ti_placeFrom_2 gf_Ti_23 k_trial (congrArg (fun q => some (Value.int q)) hS.2.2.1.1) ?_
  refine z_icmp_lt 10 d_Ti_placeFrom_5 rfl (by omega) (by omega) (fun q => absurd q (by omega)) (fun hc5 => ?_)
  refine x_iconst (v := nI 1) d_Ti_placeFrom_8 (by decide +kernel) ?_
  refine x_ireturn d_Ti_placeFrom_9 rfl (by decide +kernel) ?_
  exact ⟨rfl, rfl⟩
theorem c_Ti_placeFrom {G : xG} {B : Nat} (hG : xOkG G) {N q b : Nat} {D : Nat → Nat → Int32} {oa nm : Nat → Nat} (hb : isGlass b) : ∀ (k n d : Nat) (S : xS) (cl rw : Nat → Nat), n + k = q → tiI S B N q D oa nm n cl rw → EX G m_Ti_placeFrom (d + 2 * k + 4) 0 [(0, .ref (B + 64)), (1, .ref (B + b)), (2, .int (nI n))] [] (mk G B S) (xRet G B (some (.int (bI (tiFrom b D nm k n S).1))) (tiFrom b D nm k n S).2)
  | 0, n, d, S, cl, rw', e, hS => by
    have e : n = q := e
    subst e
    exact c_Ti_placeFrom0 hG hS
  | k + 1, n, d, S, cl, rw', e, hS => by
    rw [show d + 2 * (k + 1) + 4 = d + 2 * k + 6 by omega]
    exact c_Ti_placeFromS hG hb hS (by omega) (fun S' cl' rw'' h => tiFrom_G k (n + 1) S' cl' rw'' (by omega) h) (fun S' cl' rw'' h => c_Ti_placeFrom hG hb k (n + 1) d S' cl' rw'' (by omega) h)
set_option maxRecDepth 100000 in
set_option maxHeartbeats 1000000 in
theorem c_Ti_fill {G : xG} {B d : Nat} {S : xS} (hG : xOkG G) {N q b : Nat} {D : Nat → Nat → Int32} {oa nm cl rw : Nat → Nat} (hb : isGlass b) (hS : tiI (uF S 57 5 (nI 0)) B N q D oa nm 0 cl rw) : EX G m_Ti_fill (d + 11) 0 [(0, .ref (B + 64)), (1, .ref (B + b))] [] (mk G B S) (xRet G B none (tiFrom b D nm q 0 (uF S 57 5 (nI 0))).2) := by
  have hP := c_Ti_placeFrom hG hb q 0 (d + (6 - 2 * q)) _ _ _ (by omega) hS
  rw [show d + (6 - 2 * q) + 2 * q + 4 = d + 10 by have := hS.2.2.1.2; omega] at hP
  refine x_aload_n d_Ti_fill_0 rfl ?_
  refine y_getf d_Ti_fill_1 gf_Ti_19 k_trial rfl ?_
  refine w_callV (As := []) d_Ti_fill_4 k_Ti_46 k_lay rfl rfl rfl (c_La_clear hG) ?_
  refine x_aload_n d_Ti_fill_7 rfl ?_
  refine x_aload_n d_Ti_fill_8 rfl ?_
  refine x_iconst (v := nI 0) d_Ti_fill_9 (by decide +kernel) ?_
  refine w_callV (As := [_, _]) d_Ti_fill_10 k_Ti_51 k_trial rfl rfl rfl hP ?_
  refine x_pop d_Ti_fill_13 rfl ?_
  refine x_return d_Ti_fill_14 rfl ?_
  exact ⟨rfl, rfl⟩
