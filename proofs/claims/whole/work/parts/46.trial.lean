/-! Trial: S 64: names 3; its row of names 65 -/
def tiAddN (S : xS) (q : Nat) (x : Int32) : xS × Nat := if x = -1 then (S, q) else if 3 ≤ q then (S, q) else (uF (uA S 65 q x) 64 3 (nI (q + 1)), q + 1)
def tiCall (S : xS) (a b c : Int32) : xS × Nat :=
  let p := tiAddN (uF (uA S 65 0 a) 64 3 (nI 1)) 1 b
  tiAddN p.1 p.2 c
theorem tiAddN_ok {S : xS} {q : Nat} {x : Int32} (h : sF S 64 3 = nI q) (hq : q ≤ 3) : sF (tiAddN S q x).1 64 3 = nI (tiAddN S q x).2 ∧ (tiAddN S q x).2 ≤ 3 := by
  unfold tiAddN
  split
  · exact ⟨h, hq⟩
  · split
    · exact ⟨h, hq⟩
    · exact ⟨by show sF (uF _ 64 3 _) 64 3 = _; rw [sF_uF]; exact va_up_self _ _ _, by show q + 1 ≤ 3; omega⟩
def inB (N : Nat) (x : Int32) : Bool := decide (0 ≤ x) && decide (x < nI N)
theorem inB_cases {N : Nat} (hN : N < 2 ^ 31) (x : Int32) : (∃ k, k < N ∧ x = nI k ∧ inB N x = true) ∨ inB N x = false := by
  by_cases h0 : x < 0
  · right
    unfold inB
    rw [decide_eq_false (Int32.not_le.mpr h0), Bool.false_and]
  · obtain ⟨k, hk, rfl⟩ := nI_of h0
    unfold inB
    rw [hasN hk hN]
    by_cases h : k < N
    · left; exact ⟨k, h, rfl, decide_eq_true h⟩
    · right; exact decide_eq_false h
def tiTimes (S : xS) (x : Int32) : Nat → Nat
  | 0 => 0
  | i + 1 => if sA S 65 i = x then tiTimes S x i + 1 else tiTimes S x i
set_option maxRecDepth 100000 in
set_option maxHeartbeats 1000000 in
theorem c_Ti_addName {G : xG} {B d : Nat} {S : xS} (hG : xOkG G) {q : Nat} (hq : sF S 64 3 = nI q) (hq3 : q ≤ 3) {x : Int32} : EX G m_Ti_addName d 0 [(0, .ref (B + 64)), (1, .int x)] [] (mk G B S) (xRet G B none (tiAddN S q x).1) := by
  refine x_iload_n d_Ti_addName_0 rfl ?_
  refine x_iconst (v := -1) d_Ti_addName_1 (by decide +kernel) ?_
  refine x_icmp_eq 33 d_Ti_addName_2 rfl (fun hc2 => ?_) (fun hc2 => ?_)
  · skip
    skip
    refine x_return d_Ti_addName_33 rfl ?_
    unfold tiAddN
    first | (rw [if_pos hc2]; exact ⟨rfl, rfl⟩) | (rw [if_neg hc2, if_pos hc10]; exact ⟨rfl, rfl⟩) | (rw [if_neg hc2, if_neg (by omega)]; exact ⟨rfl, rfl⟩)
  · skip
    skip
    refine x_aload_n d_Ti_addName_5 rfl ?_
    refine y_getf (v := .int (nI q)) d_Ti_addName_6 gf_Ti_23 k_trial (congrArg (fun q => some (Value.int q)) hq) ?_
    refine x_iconst (v := nI 3) d_Ti_addName_9 (by decide +kernel) ?_
    refine z_icmp_ge 33 d_Ti_addName_10 rfl (by omega) (by omega) (fun hc10 => ?_) (fun hc10 => ?_)
    · skip
      skip
      refine x_return d_Ti_addName_33 rfl ?_
      unfold tiAddN
      first | (rw [if_pos hc2]; exact ⟨rfl, rfl⟩) | (rw [if_neg hc2, if_pos hc10]; exact ⟨rfl, rfl⟩) | (rw [if_neg hc2, if_neg (by omega)]; exact ⟨rfl, rfl⟩)
    · skip
      skip
      refine x_aload_n d_Ti_addName_13 rfl ?_
      refine y_getf d_Ti_addName_14 gf_Ti_9 k_trial rfl ?_
      refine x_aload_n d_Ti_addName_17 rfl ?_
      refine y_getf (v := .int (nI q)) d_Ti_addName_18 gf_Ti_23 k_trial (congrArg (fun q => some (Value.int q)) hq) ?_
      refine x_iload_n d_Ti_addName_21 rfl ?_
      refine y_iast hG d_Ti_addName_22 k_named _ rfl (by omega) ?_
      refine x_aload_n d_Ti_addName_23 rfl ?_
      refine x_dup d_Ti_addName_24 rfl ?_
      refine y_getf (v := .int (nI q)) d_Ti_addName_25 gf_Ti_23 k_trial (congrArg (fun q => some (Value.int q)) hq) ?_
      refine x_iconst (v := nI 1) d_Ti_addName_28 (by decide +kernel) ?_
      refine x_iadd d_Ti_addName_29 ?_
      rw [nI_add]
      refine y_puti d_Ti_addName_30 pf_Ti_23 k_trial (xBle rfl) rfl rfl rfl ?_
      refine x_return d_Ti_addName_33 rfl ?_
      unfold tiAddN
      first | (rw [if_pos hc2]; exact ⟨rfl, rfl⟩) | (rw [if_neg hc2, if_pos hc10]; exact ⟨rfl, rfl⟩) | (rw [if_neg hc2, if_neg (by omega)]; exact ⟨rfl, rfl⟩)
set_option maxRecDepth 100000 in
set_option maxHeartbeats 1000000 in
theorem c_Ti_callNames {G : xG} {B d : Nat} {S : xS} (hG : xOkG G) {a b c : Int32} : EX G m_Ti_callNames (d + 1) 0 [(0, .ref (B + 64)), (1, .int a), (2, .int b), (3, .int c)] [] (mk G B S) (xRet G B none (tiCall S a b c).1) := by
  have h1 : sF (uF (uA S 65 0 a) 64 3 (nI 1)) 64 3 = nI 1 := by rw [sF_uF]; exact va_up_self _ _ _
  refine x_aload_n d_Ti_callNames_0 rfl ?_
  refine y_getf d_Ti_callNames_1 gf_Ti_9 k_trial rfl ?_
  refine x_iconst (v := nI 0) d_Ti_callNames_4 (by decide +kernel) ?_
  refine x_iload_n d_Ti_callNames_5 rfl ?_
  refine y_iast hG d_Ti_callNames_6 k_named _ rfl (by omega) ?_
  refine x_aload_n d_Ti_callNames_7 rfl ?_
  refine x_iconst (v := nI 1) d_Ti_callNames_8 (by decide +kernel) ?_
  refine y_puti d_Ti_callNames_9 pf_Ti_23 k_trial (xBle rfl) rfl rfl rfl ?_
  refine x_aload_n d_Ti_callNames_12 rfl ?_
  refine x_iload_n d_Ti_callNames_13 rfl ?_
  refine w_callV (As := [_]) d_Ti_callNames_14 k_Ti_27 k_trial rfl rfl rfl (c_Ti_addName hG h1 (by decide)) ?_
  refine x_aload_n d_Ti_callNames_17 rfl ?_
  refine x_iload_n d_Ti_callNames_18 rfl ?_
  refine w_callV (As := [_]) d_Ti_callNames_19 k_Ti_27 k_trial rfl rfl rfl (c_Ti_addName hG (tiAddN_ok h1 (by decide)).1 (tiAddN_ok h1 (by decide)).2) ?_
  refine x_return d_Ti_callNames_22 rfl ?_
  exact ⟨rfl, rfl⟩
set_option maxRecDepth 100000 in
set_option maxHeartbeats 1000000 in
theorem c_Ti_timesNamed {G : xG} {B d : Nat} {S : xS} (hG : xOkG G) {q : Nat} (hq : sF S 64 3 = nI q) (hq3 : q ≤ 3) {x : Int32} : EX G m_Ti_timesNamed d 0 [(0, .ref (B + 64)), (1, .int x)] [] (mk G B S) ((xRet G B (some (.int (nI (tiTimes S x q)))) S)) := by
  refine x_iconst (v := nI 0) d_Ti_timesNamed_0 (by decide +kernel) ?_
  refine s_istore_n (lv' := [(0, _), (1, _), (2, _)]) d_Ti_timesNamed_1 (by decide) rfl ?_
  refine x_iconst (v := nI 0) d_Ti_timesNamed_2 (by decide +kernel) ?_
  refine s_istore_n (lv' := [(0, _), (1, _), (2, _), (3, _)]) d_Ti_timesNamed_3 (by decide) rfl ?_
  have L4 : ∀ i, i ≤ q →  EX G m_Ti_timesNamed d 4 [(0, .ref (B + 64)), (1, .int x), (2, .int (nI (tiTimes S x i))), (3, .int (nI i))] [] (mk G B S) (xRet G B (some (.int (nI (tiTimes S x q)))) S) := by
    refine x_down q ?_ ?_
    · skip
      skip
      refine x_iload_n d_Ti_timesNamed_4 rfl ?_
      refine x_aload_n d_Ti_timesNamed_5 rfl ?_
      refine y_getf (v := .int (nI q)) d_Ti_timesNamed_6 gf_Ti_23 k_trial (congrArg (fun q => some (Value.int q)) hq) ?_
      refine z_icmp_ge 31 d_Ti_timesNamed_9 rfl (by omega) (by omega) (fun hc9 => ?_) (fun q => absurd q (by omega))
      refine x_iload_n d_Ti_timesNamed_31 rfl ?_
      refine x_ireturn d_Ti_timesNamed_32 rfl rfl ?_
      exact ⟨rfl, rfl⟩
    · intro i hi ih
      refine x_iload_n d_Ti_timesNamed_4 rfl ?_
      refine x_aload_n d_Ti_timesNamed_5 rfl ?_
      refine y_getf (v := .int (nI q)) d_Ti_timesNamed_6 gf_Ti_23 k_trial (congrArg (fun q => some (Value.int q)) hq) ?_
      refine z_icmp_ge 31 d_Ti_timesNamed_9 rfl (by omega) (by omega) (fun q => absurd q (by omega)) (fun hc9 => ?_)
      refine x_aload_n d_Ti_timesNamed_12 rfl ?_
      refine y_getf d_Ti_timesNamed_13 gf_Ti_9 k_trial rfl ?_
      refine x_iload_n d_Ti_timesNamed_16 rfl ?_
      refine y_iald hG d_Ti_timesNamed_17 k_named _ rfl (by omega) ?_
      refine x_iload_n d_Ti_timesNamed_18 rfl ?_
      refine x_icmp_ne 25 d_Ti_timesNamed_19 rfl (fun hc19 => ?_) (fun hc19 => ?_)
      · skip
        skip
        refine s_iinc (lv' := [(0, _), (1, _), (2, _), (3, _)]) d_Ti_timesNamed_25 rfl (xinc _) (by decide) rfl ?_
        refine x_goto 4 d_Ti_timesNamed_28 rfl ?_
        refine x_lv (lv' := [(0, _), (1, _), (2, _), (3, _)]) [0, 1, 2, 3] rfl ?_
        simp only [tiTimes, hc19, if_true, if_false] at ih
        exact ih
      · skip
        skip
        refine s_iinc (lv' := [(0, _), (1, _), (2, _), (3, _)]) d_Ti_timesNamed_22 rfl (xinc _) (by decide) rfl ?_
        refine s_iinc (lv' := [(0, _), (1, _), (2, _), (3, _)]) d_Ti_timesNamed_25 rfl (xinc _) (by decide) rfl ?_
        refine x_goto 4 d_Ti_timesNamed_28 rfl ?_
        refine x_lv (lv' := [(0, _), (1, _), (2, _), (3, _)]) [0, 1, 2, 3] rfl ?_
        simp only [tiTimes, hc19, if_true, if_false] at ih
        exact ih
  refine x_lv (lv' := [(0, _), (1, _), (2, _), (3, _)]) [0, 1, 2, 3] rfl ?_
  exact L4 0 (Nat.zero_le _)
set_option maxRecDepth 100000 in
set_option maxHeartbeats 1000000 in
theorem c_Ti_namesAreThere {G : xG} {B d : Nat} {S : xS} (hG : xOkG G) {q : Nat} (hq : sF S 64 3 = nI q) (hq3 : q ≤ 3) {N : Nat} (hN : sF S 2 2 = nI N) (hN6 : N ≤ 6) (hor : ∀ k, k < N → ∃ a, sR S 3 k = some a) : EX G m_Ti_namesAreThere (d + 1) 0 [(0, .ref (B + 64))] [] (mk G B S) ((xRet G B (some (.int (bI ((List.range q).all fun i => inB N (sA S 65 i))))) S)) := by
  refine x_iconst (v := nI 0) d_Ti_namesAreThere_0 (by decide +kernel) ?_
  refine s_istore_n (lv' := [(0, _), (1, _)]) d_Ti_namesAreThere_1 (by decide) rfl ?_
  have L2 : ∀ i, i ≤ q → (∀ j, j < i → inB N (sA S 65 j) = true) → EX G m_Ti_namesAreThere (d + 1) 2 [(0, .ref (B + 64)), (1, .int (nI i))] [] (mk G B S) (xRet G B (some (.int (bI ((List.range q).all fun i => inB N (sA S 65 i))))) S) := by
    refine x_down q ?_ ?_
    · skip
      skip
      intro hp
      refine x_iload_n d_Ti_namesAreThere_2 rfl ?_
      refine x_aload_n d_Ti_namesAreThere_3 rfl ?_
      refine y_getf (v := .int (nI q)) d_Ti_namesAreThere_4 gf_Ti_23 k_trial (congrArg (fun q => some (Value.int q)) hq) ?_
      refine z_icmp_ge 34 d_Ti_namesAreThere_7 rfl (by omega) (by omega) (fun hc7 => ?_) (fun q => absurd q (by omega))
      refine x_iconst (v := nI 1) d_Ti_namesAreThere_34 (by decide +kernel) ?_
      refine x_ireturn d_Ti_namesAreThere_35 rfl (by decide +kernel) ?_
      rw [show ((List.range q).all fun i => inB N (sA S 65 i)) = true by
        rw [List.all_eq_true]
        exact fun j hj => hp j (List.mem_range.mp hj)]
      exact ⟨rfl, rfl⟩
    · intro i hi ih
      intro hp
      refine x_iload_n d_Ti_namesAreThere_2 rfl ?_
      refine x_aload_n d_Ti_namesAreThere_3 rfl ?_
      refine y_getf (v := .int (nI q)) d_Ti_namesAreThere_4 gf_Ti_23 k_trial (congrArg (fun q => some (Value.int q)) hq) ?_
      refine z_icmp_ge 34 d_Ti_namesAreThere_7 rfl (by omega) (by omega) (fun q => absurd q (by omega)) (fun hc7 => ?_)
      refine x_aload_n d_Ti_namesAreThere_10 rfl ?_
      refine y_getf d_Ti_namesAreThere_11 gf_Ti_15 k_trial rfl ?_
      refine x_aload_n d_Ti_namesAreThere_14 rfl ?_
      refine y_getf d_Ti_namesAreThere_15 gf_Ti_9 k_trial rfl ?_
      refine x_iload_n d_Ti_namesAreThere_18 rfl ?_
      refine y_iald hG d_Ti_namesAreThere_19 k_named _ rfl (by omega) ?_
      rcases inB_cases (N := N) (by omega) (sA S 65 i) with ⟨k, hk, hx, hz⟩ | hz
      · skip
        obtain ⟨a, ha⟩ := hor k hk
        rw [hx]
        refine w_callV (As := [_]) d_Ti_namesAreThere_20 k_Ti_31 k_book rfl rfl rfl (c_Bk_at hG hN hN6 hk ha) ?_
        refine x_ifnonnull 28 d_Ti_namesAreThere_23 rfl ?_
        refine s_iinc (lv' := [(0, _), (1, _)]) d_Ti_namesAreThere_28 rfl (xinc _) (by decide) rfl ?_
        refine x_goto 2 d_Ti_namesAreThere_31 rfl ?_
        refine x_lv (lv' := [(0, _), (1, _)]) [0, 1] rfl ?_
        exact ih (lt_s hp hz)
      · skip
        refine w_callV (As := [_]) d_Ti_namesAreThere_20 k_Ti_31 k_book rfl rfl rfl (c_Bk_atN hG hN hN6 hz) ?_
        refine x_ifnonnullN d_Ti_namesAreThere_23 ?_
        refine x_iconst (v := nI 0) d_Ti_namesAreThere_26 (by decide +kernel) ?_
        refine x_ireturn d_Ti_namesAreThere_27 rfl (by decide +kernel) ?_
        rw [show ((List.range q).all fun i => inB N (sA S 65 i)) = false by
          rw [List.all_eq_false]
          exact ⟨i, List.mem_range.mpr hi, by simp [hz]⟩]
        exact ⟨rfl, rfl⟩
  refine x_lv (lv' := [(0, _), (1, _)]) [0, 1] rfl ?_
  exact L2 0 (Nat.zero_le _) lt_0
set_option maxRecDepth 100000 in
set_option maxHeartbeats 1000000 in
theorem c_Ti_namesAreOpen {G : xG} {B d : Nat} {S : xS} (hG : xOkG G) {q : Nat} (hq : sF S 64 3 = nI q) (hq3 : q ≤ 3) {N : Nat} (hN : sF S 2 2 = nI N) (hN6 : N ≤ 6) {oa nm : Nat → Nat} {D : Nat → Nat → Int32} (ho : bkOk S B N oa D) (hnm : ∀ i, i < q → sA S 65 i = nI (nm i) ∧ nm i < N) : EX G m_Ti_namesAreOpen (d + 1) 0 [(0, .ref (B + 64))] [] (mk G B S) ((xRet G B (some (.int (bI ((List.range q).all fun i => decide (nI (tiTimes S (sA S 65 i) q) ≤ D (nm i) 3))))) S)) := by
  refine x_iconst (v := nI 0) d_Ti_namesAreOpen_0 (by decide +kernel) ?_
  refine s_istore_n (lv' := [(0, _), (1, _)]) d_Ti_namesAreOpen_1 (by decide) rfl ?_
  have L2 : ∀ i, i ≤ q → (∀ j, j < i → decide (nI (tiTimes S (sA S 65 j) q) ≤ D (nm j) 3) = true) → EX G m_Ti_namesAreOpen (d + 1) 2 [(0, .ref (B + 64)), (1, .int (nI i))] [] (mk G B S) (xRet G B (some (.int (bI ((List.range q).all fun i => decide (nI (tiTimes S (sA S 65 i) q) ≤ D (nm i) 3))))) S) := by
    refine x_down q ?_ ?_
    · skip
      skip
      intro hp
      refine x_iload_n d_Ti_namesAreOpen_2 rfl ?_
      refine x_aload_n d_Ti_namesAreOpen_3 rfl ?_
      refine y_getf (v := .int (nI q)) d_Ti_namesAreOpen_4 gf_Ti_23 k_trial (congrArg (fun q => some (Value.int q)) hq) ?_
      refine z_icmp_ge 53 d_Ti_namesAreOpen_7 rfl (by omega) (by omega) (fun hc7 => ?_) (fun q => absurd q (by omega))
      refine x_iconst (v := nI 1) d_Ti_namesAreOpen_53 (by decide +kernel) ?_
      refine x_ireturn d_Ti_namesAreOpen_54 rfl (by decide +kernel) ?_
      rw [show ((List.range q).all fun i => decide (nI (tiTimes S (sA S 65 i) q) ≤ D (nm i) 3)) = true by
        rw [List.all_eq_true]
        exact fun j hj => hp j (List.mem_range.mp hj)]
      exact ⟨rfl, rfl⟩
    · intro i hi ih
      intro hp
      refine x_iload_n d_Ti_namesAreOpen_2 rfl ?_
      refine x_aload_n d_Ti_namesAreOpen_3 rfl ?_
      refine y_getf (v := .int (nI q)) d_Ti_namesAreOpen_4 gf_Ti_23 k_trial (congrArg (fun q => some (Value.int q)) hq) ?_
      refine z_icmp_ge 53 d_Ti_namesAreOpen_7 rfl (by omega) (by omega) (fun q => absurd q (by omega)) (fun hc7 => ?_)
      refine x_aload_n d_Ti_namesAreOpen_10 rfl ?_
      refine y_getf d_Ti_namesAreOpen_11 gf_Ti_15 k_trial rfl ?_
      refine x_aload_n d_Ti_namesAreOpen_14 rfl ?_
      refine y_getf d_Ti_namesAreOpen_15 gf_Ti_9 k_trial rfl ?_
      refine x_iload_n d_Ti_namesAreOpen_18 rfl ?_
      refine y_iald hG d_Ti_namesAreOpen_19 k_named _ rfl (by omega) ?_
      rw [(hnm i hi).1]
      refine w_callV (As := [_]) d_Ti_namesAreOpen_20 k_Ti_31 k_book rfl rfl rfl (c_Bk_at hG hN hN6 (hnm i hi).2 (ho _ (hnm i hi).2).1) ?_
      refine s_astore_n (lv' := [(0, _), (1, _), (2, _)]) d_Ti_namesAreOpen_23 (by decide) rfl ?_
      refine x_aload_n d_Ti_namesAreOpen_24 rfl ?_
      refine x_ifnull d_Ti_namesAreOpen_25 ?_
      refine x_aload_n d_Ti_namesAreOpen_28 rfl ?_
      refine y_getE d_Ti_namesAreOpen_29 gf_Ti_37 (ho _ (hnm i hi).2).2 rfl ?_
      refine x_aload_n d_Ti_namesAreOpen_32 rfl ?_
      refine x_aload_n d_Ti_namesAreOpen_33 rfl ?_
      refine y_getf d_Ti_namesAreOpen_34 gf_Ti_9 k_trial rfl ?_
      refine x_iload_n d_Ti_namesAreOpen_37 rfl ?_
      refine y_iald hG d_Ti_namesAreOpen_38 k_named _ rfl (by omega) ?_
      refine w_callV (As := [_]) d_Ti_namesAreOpen_39 k_Ti_42 k_trial rfl rfl rfl (c_Ti_timesNamed hG hq hq3) ?_
      refine x_icmp_ge 47 d_Ti_namesAreOpen_42 rfl (fun hc42 => ?_) (fun hc42 => ?_)
      · skip
        skip
        refine s_iinc (lv' := [(0, _), (1, _), (2, _)]) d_Ti_namesAreOpen_47 rfl (xinc _) (by decide) rfl ?_
        refine x_goto 2 d_Ti_namesAreOpen_50 rfl ?_
        refine x_lv (lv' := [(0, _), (1, _)]) [0, 1] rfl ?_
        exact ih (lt_s hp (decide_eq_true hc42))
      · skip
        skip
        refine x_iconst (v := nI 0) d_Ti_namesAreOpen_45 (by decide +kernel) ?_
        refine x_ireturn d_Ti_namesAreOpen_46 rfl (by decide +kernel) ?_
        rw [show ((List.range q).all fun i => decide (nI (tiTimes S (sA S 65 i) q) ≤ D (nm i) 3)) = false by
          rw [List.all_eq_false]
          exact ⟨i, List.mem_range.mpr hi, by rw [decide_eq_false hc42]; decide⟩]
        exact ⟨rfl, rfl⟩
  refine x_lv (lv' := [(0, _), (1, _)]) [0, 1] rfl ?_
  exact L2 0 (Nat.zero_le _) lt_0
/-! the search -/
def laFit (S : xS) (b n : Nat) : Bool := (List.range (laCols S n).toNatClampNeg).all (fun j => decide (laCH S (nI j) n (laRows S (nI j) n).toNatClampNeg ≤ sF S b 5)) && decide (laSum S n (fun c => (laRows S (nI c) n).toNatClampNeg) (laCols S n).toNatClampNeg ≤ sF S b 4)
def tiThen (p : Bool × xS) (f : xS → Bool × xS) : Bool × xS := if p.1 = true then p else f p.2
def tiTry (rec : xS → Bool × xS) (b n : Nat) (D : Nat → Int32) (x c r : Int32) (t : Bool) (S : xS) : Bool × xS :=
  if t = true ∧ D 2 = 0 then (false, S) else
  if laFit (laPut S n x (if t = true then D 1 else D 0) (if t = true then D 0 else D 1) c r) b (n + 1) = false then (false, uF (laPut S n x (if t = true then D 1 else D 0) (if t = true then D 0 else D 1) c r) 57 5 (nI n)) else
  if (rec (laPut S n x (if t = true then D 1 else D 0) (if t = true then D 0 else D 1) c r)).1 = false then (false, uF (rec (laPut S n x (if t = true then D 1 else D 0) (if t = true then D 0 else D 1) c r)).2 57 5 (nI n)) else
  (true, (rec (laPut S n x (if t = true then D 1 else D 0) (if t = true then D 0 else D 1) c r)).2)
def tiBoth (rec : xS → Bool × xS) (b n : Nat) (D : Nat → Int32) (x c r : Int32) (S : xS) : Bool × xS := tiThen (tiTry rec b n D x c r false S) (tiTry rec b n D x c r true)
def tiRowL (rec : xS → Bool × xS) (b n : Nat) (D : Nat → Int32) (x c : Int32) : Nat → Nat → xS → Bool × xS
  | 0, _, S => (false, S)
  | k + 1, r, S => tiThen (tiBoth rec b n D x c (nI r) S) (tiRowL rec b n D x c k (r + 1))
def tiColL (rec : xS → Bool × xS) (b n : Nat) (D : Nat → Int32) (x : Int32) : Nat → Nat → xS → Bool × xS
  | 0, _, S => (false, S)
  | k + 1, c, S => tiThen (tiRowL rec b n D x (nI c) ((laRows S (nI c) n).toNatClampNeg + 1) 0 S) (tiColL rec b n D x k (c + 1))
/-- k names are left, n panes lie -/
def tiFrom (b : Nat) (D : Nat → Nat → Int32) (nm : Nat → Nat) : Nat → Nat → xS → Bool × xS
  | 0, _, S => (true, S)
  | k + 1, n, S => tiColL (tiFrom b D nm k (n + 1)) b n (D (nm n)) (nI (nm n)) ((laCols S n).toNatClampNeg + 1) 0 S
def tiI (S : xS) (B N q : Nat) (D : Nat → Nat → Int32) (oa nm : Nat → Nat) (n : Nat) (cl rw : Nat → Nat) : Prop :=
  (sF S 57 5 = nI n ∧ n ≤ 3) ∧ (sF S 2 2 = nI N ∧ N ≤ 6 ∧ bkOk S B N oa D) ∧ (sF S 64 3 = nI q ∧ q ≤ 3) ∧ (∀ i, i < q → sA S 65 i = nI (nm i) ∧ nm i < N) ∧ ∀ i, i < n → sA S 61 i = nI (cl i) ∧ sA S 62 i = nI (rw i) ∧ cl i ≤ 60 ∧ rw i ≤ 60
theorem mx_nI {a b : Nat} (ha : a < 2 ^ 31) (hb : b < 2 ^ 31) : mx (nI a) (nI b) = nI (max a b) := by
  unfold mx
  by_cases h : a < b
  · rw [if_pos ((nI_ltI ha hb).mpr h), Nat.max_eq_right (by omega)]
  · rw [if_neg (fun q => h ((nI_ltI ha hb).mp q)), Nat.max_eq_left (by omega)]
theorem laCols_N {S : xS} {cl : Nat → Nat} : ∀ {n : Nat}, (∀ i, i < n → sA S 61 i = nI (cl i) ∧ cl i ≤ 60) → ∃ C, C ≤ 61 ∧ laCols S n = nI C
  | 0, _ => ⟨0, by omega, rfl⟩
  | n + 1, h => by
    obtain ⟨C, h1, h2⟩ := laCols_N (n := n) (fun i hi => h i (by omega))
    obtain ⟨e, hl⟩ := h n (by omega)
    refine ⟨max C (cl n + 1), by omega, ?_⟩
    simp only [laCols, h2, e]
    rw [nI_add, mx_nI (by omega) (by omega)]
theorem laRows_N {S : xS} {rw' : Nat → Nat} {c : Int32} : ∀ {n : Nat}, (∀ i, i < n → sA S 62 i = nI (rw' i) ∧ rw' i ≤ 60) → ∃ C, C ≤ 61 ∧ laRows S c n = nI C
  | 0, _ => ⟨0, by omega, rfl⟩
  | n + 1, h => by
    obtain ⟨C, h1, h2⟩ := laRows_N (n := n) (fun i hi => h i (by omega))
    obtain ⟨e, hl⟩ := h n (by omega)
    by_cases hc : sA S 61 n = c
    · refine ⟨max C (rw' n + 1), by omega, ?_⟩
      simp only [laRows, h2, e, hc, if_true]
      rw [nI_add, mx_nI (by omega) (by omega)]
    · exact ⟨C, h1, by simp only [laRows, h2, hc, if_false]⟩
theorem tiI.cols {S : xS} {B N q : Nat} {D : Nat → Nat → Int32} {oa nm cl rw : Nat → Nat} {n : Nat} (h : tiI S B N q D oa nm n cl rw) : (laCols S n).toNatClampNeg ≤ 61 ∧ laCols S n = nI (laCols S n).toNatClampNeg := by
  obtain ⟨C, h1, h2⟩ := laCols_N (S := S) (cl := cl) (n := n) (fun i hi => ⟨(h.2.2.2.2 i hi).1, (h.2.2.2.2 i hi).2.2.1⟩)
  rw [h2, nI_clamp (by omega)]
  exact ⟨h1, rfl⟩
theorem tiI.rows {S : xS} {B N q : Nat} {D : Nat → Nat → Int32} {oa nm cl rw : Nat → Nat} {n : Nat} (h : tiI S B N q D oa nm n cl rw) (c : Int32) : (laRows S c n).toNatClampNeg ≤ 61 ∧ laRows S c n = nI (laRows S c n).toNatClampNeg := by
  obtain ⟨C, h1, h2⟩ := laRows_N (S := S) (rw' := rw) (c := c) (n := n) (fun i hi => ⟨(h.2.2.2.2 i hi).2.1, (h.2.2.2.2 i hi).2.2.2⟩)
  rw [h2, nI_clamp (by omega)]
  exact ⟨h1, rfl⟩
theorem tiI.put {S : xS} {B N q : Nat} {D : Nat → Nat → Int32} {oa nm cl rw : Nat → Nat} {n c r : Nat} {x w h : Int32} (q0 : tiI S B N q D oa nm n cl rw) (hn : n < 3) (hc : c ≤ 60) (hr : r ≤ 60) : tiI (laPut S n x w h (nI c) (nI r)) B N q D oa nm (n + 1) (va_up cl n c) (va_up rw n r) := by
  obtain ⟨⟨a1, a2⟩, ⟨b1, b2, b3⟩, ⟨c1, c2⟩, h4, h5⟩ := q0
  unfold laPut
  refine ⟨⟨by rw [sF_uF]; exact va_up_self _ _ _, by omega⟩, ⟨by rw [sF_uFn _ _ _ (by decide)]; exact b1, b2, b3⟩, ⟨by rw [sF_uFn _ _ _ (by decide)]; exact c1, c2⟩, ?_, ?_⟩
  · intro i hi
    have e : sA (uF (uA (uA (uA (uA (uA S 58 n x) 59 n w) 60 n h) 61 n (nI c)) 62 n (nI r)) 57 5 (nI (n + 1))) 65 = sA S 65 := by
      show sA (uA (uA (uA (uA (uA S 58 n x) 59 n w) 60 n h) 61 n (nI c)) 62 n (nI r)) 65 = _
      rw [sA_uAn _ _ _ (by decide), sA_uAn _ _ _ (by decide), sA_uAn _ _ _ (by decide), sA_uAn _ _ _ (by decide), sA_uAn _ _ _ (by decide)]
    rw [e]; exact h4 i hi
  · have e1 : sA (uF (uA (uA (uA (uA (uA S 58 n x) 59 n w) 60 n h) 61 n (nI c)) 62 n (nI r)) 57 5 (nI (n + 1))) 61 = va_up (sA S 61) n (nI c) := by
      show sA (uA (uA (uA (uA (uA S 58 n x) 59 n w) 60 n h) 61 n (nI c)) 62 n (nI r)) 61 = _
      rw [sA_uAn _ _ _ (by decide), sA_uA, sA_uAn _ _ _ (by decide), sA_uAn _ _ _ (by decide), sA_uAn _ _ _ (by decide)]
    have e2 : sA (uF (uA (uA (uA (uA (uA S 58 n x) 59 n w) 60 n h) 61 n (nI c)) 62 n (nI r)) 57 5 (nI (n + 1))) 62 = va_up (sA S 62) n (nI r) := by
      show sA (uA (uA (uA (uA (uA S 58 n x) 59 n w) 60 n h) 61 n (nI c)) 62 n (nI r)) 62 = _
      rw [sA_uA, sA_uAn _ _ _ (by decide), sA_uAn _ _ _ (by decide), sA_uAn _ _ _ (by decide), sA_uAn _ _ _ (by decide)]
    intro i hi
    rw [e1, e2]
    by_cases hin : i = n
    · subst hin
      simp only [va_up_self]
      exact ⟨trivial, trivial, hc, hr⟩
    · rw [va_up_ne _ _ hin, va_up_ne _ _ hin, va_up_ne _ _ hin, va_up_ne _ _ hin]
      exact h5 i (by omega)
theorem tiI.drop {S : xS} {B N q : Nat} {D : Nat → Nat → Int32} {oa nm cl rw : Nat → Nat} {n c r : Nat} (h : tiI S B N q D oa nm (n + 1) (va_up cl n c) (va_up rw n r)) : tiI (uF S 57 5 (nI n)) B N q D oa nm n cl rw := by
  obtain ⟨⟨a1, a2⟩, ⟨b1, b2, b3⟩, ⟨c1, c2⟩, h4, h5⟩ := h
  refine ⟨⟨by rw [sF_uF]; exact va_up_self _ _ _, by omega⟩, ⟨by rw [sF_uFn _ _ _ (by decide)]; exact b1, b2, b3⟩, ⟨by rw [sF_uFn _ _ _ (by decide)]; exact c1, c2⟩, h4, fun i hi => ?_⟩
  have := h5 i (by omega)
  rw [va_up_ne _ _ (by omega), va_up_ne _ _ (by omega)] at this
  exact this
/-- a search that fails leaves what was there; one that finds has laid all names -/
def tiG (B N q : Nat) (D : Nat → Nat → Int32) (oa nm : Nat → Nat) (n : Nat) (cl rw : Nat → Nat) (p : Bool × xS) : Prop := (p.1 = false → tiI p.2 B N q D oa nm n cl rw) ∧ (p.1 = true → ∃ cl' rw', tiI p.2 B N q D oa nm q cl' rw')
theorem tiG.then {B N q : Nat} {D : Nat → Nat → Int32} {oa nm : Nat → Nat} {n : Nat} {cl rw : Nat → Nat} {p : Bool × xS} {f : xS → Bool × xS} (h : tiG B N q D oa nm n cl rw p) (k : ∀ S, tiI S B N q D oa nm n cl rw → tiG B N q D oa nm n cl rw (f S)) : tiG B N q D oa nm n cl rw (tiThen p f) := by
  unfold tiThen
  cases hp : p.1 with
  | true => rw [if_pos rfl]; exact h
  | false => rw [if_neg (by decide)]; exact k _ (h.1 hp)
section TI
variable {B N q : Nat} {D : Nat → Nat → Int32} {oa nm : Nat → Nat} {b : Nat}
theorem tiTry_G {rec : xS → Bool × xS} {n : Nat} {cl rw : Nat → Nat} (hn : n < 3) (hrec : ∀ S cl rw, tiI S B N q D oa nm (n + 1) cl rw → tiG B N q D oa nm (n + 1) cl rw (rec S)) {S : xS} (hS : tiI S B N q D oa nm n cl rw) {E : Nat → Int32} {x : Int32} {c r : Nat} (hc : c ≤ 60) (hr : r ≤ 60) {t : Bool} : tiG B N q D oa nm n cl rw (tiTry rec b n E x (nI c) (nI r) t S) := by
  unfold tiTry
  split
  · exact ⟨fun _ => hS, fun h => by cases h⟩
  · have h1 := hS.put (x := x) (w := if t = true then E 1 else E 0) (h := if t = true then E 0 else E 1) hn hc hr
    generalize laPut S n x (if t = true then E 1 else E 0) (if t = true then E 0 else E 1) (nI c) (nI r) = S1 at h1
    split
    · exact ⟨fun _ => h1.drop, fun h => by cases h⟩
    · have h2 := hrec S1 _ _ h1
      split
      · rename_i h3
        exact ⟨fun _ => (h2.1 h3).drop, fun h => by cases h⟩
      · rename_i h3
        have h3 : (rec S1).1 = true := by revert h3; cases (rec S1).1 <;> simp
        exact ⟨fun h => by cases h, fun _ => h2.2 h3⟩
theorem tiBoth_G {rec : xS → Bool × xS} {n : Nat} {cl rw : Nat → Nat} (hn : n < 3) (hrec : ∀ S cl rw, tiI S B N q D oa nm (n + 1) cl rw → tiG B N q D oa nm (n + 1) cl rw (rec S)) {S : xS} (hS : tiI S B N q D oa nm n cl rw) {E : Nat → Int32} {x : Int32} {c r : Nat} (hc : c ≤ 60) (hr : r ≤ 60) : tiG B N q D oa nm n cl rw (tiBoth rec b n E x (nI c) (nI r) S) :=
  (tiTry_G hn hrec hS hc hr).then fun S' hS' => tiTry_G hn hrec hS' hc hr
end TI
