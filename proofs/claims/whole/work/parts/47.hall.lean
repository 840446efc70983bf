/-! GlassHall: outcomes that return or throw -/
def xRm (G : xG) (B : Nat) (S : xS) : Prop := B + 231 ≤ sN S ∧ sN S + 1 ≤ gC G ∧ sL S + 6 ≤ gS G
abbrev xO : Type := Option Value ⊕ Nat
def xThw (G : xG) (B : Nat) (S : xS) (ci : Nat) : xR → xH → Prop := fun r h => r = .inr (sN S) ∧ h = mk G B (uN S 6 (.inr (ci, [])))
def xDo (G : xG) (B : Nat) (p : xO × xS) : xR → xH → Prop := fun r h => (∃ v, p.1 = .inl v ∧ r = .inl v ∧ h = mk G B p.2) ∨ ∃ ci, p.1 = .inr ci ∧ r = .inr (sN p.2) ∧ h = mk G B (uN p.2 6 (.inr (ci, [])))
theorem xDo.ret {G : xG} {B : Nat} {p : xO × xS} {v : Option Value} {S : xS} (h : p = (.inl v, S)) : xDo G B p (.inl v) (mk G B S) := by subst h; exact Or.inl ⟨v, rfl, rfl, rfl⟩
theorem xDo.thr {G : xG} {B : Nat} {p : xO × xS} {ci : Nat} {S : xS} (h : p = (.inr ci, S)) : xDo G B p (.inr (sN S)) (mk G B (uN S 6 (.inr (ci, [])))) := by subst h; exact Or.inr ⟨ci, rfl, rfl, rfl⟩
section YT
variable {G : xG} {M M' : xM} {d pc : Nat} {lv : List (Nat × Value)} {st : List Value} {Q : xR → xH → Prop} {B : Nat} {S S' : xS} {index n ci o : Nat} {As : List Value} {f : (Nat → Int32) → (Nat → Int64) → List Value}
theorem y_throw {ik ic ce : Nat} (hG : xOkG G) (d0 : decode M.2.1 pc = .ok (.new ik, 3)) (d3 : decode M.2.1 (pc + 3) = .ok (.dup, 1)) (d4 : decode M.2.1 (pc + 4) = .ok (.invokespecial ic, 3)) (d7 : decode M.2.1 (pc + 7) = .ok (.athrow, 1)) (hk : xTn M.1.cls ik ic ce) (hno : M.2.2.2.2 = []) (hr : xRm G B S) (hW : Nat.ble (st.map fun v => v.category).sum 64 = true) (hq : Q (.inr (sN S)) (mk G B (uN S 6 (.inr (ce, []))))) : EX G M d pc lv st (mk G B S) Q :=
  x_throw d0 d3 d4 d7 hk hno hG.2 hr.2.1 hr.2.2 (xBle hW) (by rw [mk_new hr.1]; exact hq)
theorem w_callT {ce : Nat} (hd : decode M.2.1 pc = .ok (.invokevirtual index, 3)) (hk : xLkV M.1.cls index M' n ci) (ho : kO G B o ci f) (hAs : As.length = n) (hlen : Nat.ble (lg_sl (.ref (B + o) :: As)).length M'.2.2.1 = true) (hW : Nat.ble ((st.map fun v => v.category).sum + (M'.2.2.1 + 11)) 64 = true)
    (hK : EX G M' d 0 (lv_args 0 (.ref (B + o) :: As)) [] (mk G B S) (xThw G B S' ce)) (hno : M.2.2.2.2 = []) (hq : Q (.inr (sN S')) (mk G B (uN S' 6 (.inr (ce, []))))) : EX G M (d + 1) pc lv (As.reverse ++ .ref (B + o) :: st) (mk G B S) Q :=
  x_callV hd hk (by rw [mk_at ho.1, ho.2]) hAs (xBle hlen) (xBle hW) hK (fun w h' q => by obtain ⟨e1, -⟩ := q; cases e1) (fun a h' q => by obtain ⟨e1, e2⟩ := q; cases e1; subst e2; exact xThr.out hno hq)
end YT
/-! a switch -/
theorem nI_toInt' {k : Nat} (h : k < 2 ^ 31) : (nI k).toInt = (k : Int) := by
  have := nI_toInt h
  exact this
theorem sw3 (w : Int32) : w = nI 0 ∨ w = nI 1 ∨ w = nI 2 ∨ (w.toInt < 0 ∨ 2 < w.toInt) := by
  by_cases h0 : w < 0
  · iterate 3 right
    left
    exact Int32.lt_iff_toInt_lt.mp h0
  · obtain ⟨k, hk, rfl⟩ := nI_of h0
    by_cases h : 2 < k
    · iterate 4 right
      rw [nI_toInt' hk]; omega
    · have : k = 0 ∨ k = 1 ∨ k = 2 := by omega
      rcases this with rfl | rfl | rfl
      · left; exact rfl
      · right; left; exact rfl
      · right; right; left; exact rfl
theorem sw4 (w : Int32) : w = nI 0 ∨ w = nI 1 ∨ w = nI 2 ∨ w = nI 3 ∨ (w.toInt < 0 ∨ 3 < w.toInt) := by
  by_cases h0 : w < 0
  · iterate 4 right
    left
    exact Int32.lt_iff_toInt_lt.mp h0
  · obtain ⟨k, hk, rfl⟩ := nI_of h0
    by_cases h : 3 < k
    · iterate 5 right
      rw [nI_toInt' hk]; omega
    · have : k = 0 ∨ k = 1 ∨ k = 2 ∨ k = 3 := by omega
      rcases this with rfl | rfl | rfl | rfl
      · left; exact rfl
      · right; left; exact rfl
      · right; right; left; exact rfl
      · right; right; right; left; exact rfl
theorem sw5 (w : Int32) : w = nI 0 ∨ w = nI 1 ∨ w = nI 2 ∨ w = nI 3 ∨ w = nI 4 ∨ (w.toInt < 0 ∨ 4 < w.toInt) := by
  by_cases h0 : w < 0
  · iterate 5 right
    left
    exact Int32.lt_iff_toInt_lt.mp h0
  · obtain ⟨k, hk, rfl⟩ := nI_of h0
    by_cases h : 4 < k
    · iterate 6 right
      rw [nI_toInt' hk]; omega
    · have : k = 0 ∨ k = 1 ∨ k = 2 ∨ k = 3 ∨ k = 4 := by omega
      rcases this with rfl | rfl | rfl | rfl | rfl
      · left; exact rfl
      · right; left; exact rfl
      · right; right; left; exact rfl
      · right; right; right; left; exact rfl
      · right; right; right; right; left; exact rfl
theorem sw7 (w : Int32) : w = nI 0 ∨ w = nI 1 ∨ w = nI 2 ∨ w = nI 3 ∨ w = nI 4 ∨ w = nI 5 ∨ w = nI 6 ∨ (w.toInt < 0 ∨ 6 < w.toInt) := by
  by_cases h0 : w < 0
  · iterate 7 right
    left
    exact Int32.lt_iff_toInt_lt.mp h0
  · obtain ⟨k, hk, rfl⟩ := nI_of h0
    by_cases h : 6 < k
    · iterate 8 right
      rw [nI_toInt' hk]; omega
    · have : k = 0 ∨ k = 1 ∨ k = 2 ∨ k = 3 ∨ k = 4 ∨ k = 5 ∨ k = 6 := by omega
      rcases this with rfl | rfl | rfl | rfl | rfl | rfl | rfl
      · left; exact rfl
      · right; left; exact rfl
      · right; right; left; exact rfl
      · right; right; right; left; exact rfl
      · right; right; right; right; left; exact rfl
      · right; right; right; right; right; left; exact rfl
      · right; right; right; right; right; right; left; exact rfl
/-! sheets -/
def thB (S : xS) (j : Nat) : Bool := !decide (sF S (66 + 15 * j) 2 = 0)
def idB (S : xS) (x : Int32) (j : Nat) : Bool := thB S j && decide (sF S (66 + 15 * j) 3 = x)
def slOk (S : xS) (B : Nat) : Prop := ∀ j, j < 8 → sR S 1 j = some (B + (66 + 15 * j))
def haLen (n : Int32) : Bool := decide (nI 1 ≤ n) && decide (n ≤ nI 6000)
def haLies (x l w : Int32) : Bool := decide (0 ≤ x) && decide (x ≤ w - l)
theorem fstN_at {p : Nat → Bool} {n i j : Nat} (hf : fstN p n = some j) (hi : i < n) (h : p i = true) (hb : ∀ k, k < i → p k = false) : i = j := Option.some.inj ((fstN_some h hb hi).symm.trans hf)
theorem fstN_no {p : Nat → Bool} {n i : Nat} (hf : fstN p n = none) (hi : i < n) : p i = false := by
  cases h : p i with
  | false => rfl
  | true =>
    exfalso
    have key : ∀ n, i < n → ∃ j, fstN p n = some j := by
      intro n
      induction n with
      | zero => intro h; omega
      | succ n ih =>
        intro hn
        by_cases hin : i < n
        · obtain ⟨j, hj⟩ := ih hin
          exact ⟨j, by simp only [fstN, hj]⟩
        · have : i = n := by omega
          subst this
          cases hq : fstN p i with
          | some j => exact ⟨j, by simp only [fstN, hq]⟩
          | none => exact ⟨i, by simp only [fstN, hq, h, if_true]⟩
    obtain ⟨j, hj⟩ := key n hi
    rw [hf] at hj; cases hj
theorem fstN_noT {p : Nat → Bool} {n j : Nat} (hf : fstN p n = some j) (h : ∀ k, k < n → p k = false) : False := by
  have := fstN_spec hf
  rw [h j this.1] at this
  exact absurd this.2.1 (by decide)
set_option maxRecDepth 100000 in
set_option maxHeartbeats 1000000 in
theorem c_Ha_isLength {G : xG} {B d : Nat} {S : xS} (hG : xOkG G) {n : Int32} : EX G m_Ha_isLength d 0 [(0, .int n)] [] (mk G B S) (xRet G B (some (.int (bI (haLen n)))) S) := by
  refine x_iload_n d_Ha_isLength_0 rfl ?_
  refine x_iconst (v := nI 1) d_Ha_isLength_1 (by decide +kernel) ?_
  refine x_icmp_lt 16 d_Ha_isLength_2 rfl (fun hc2 => ?_) (fun hc2 => ?_)
  · skip
    skip
    refine x_iconst (v := nI 0) d_Ha_isLength_16 (by decide +kernel) ?_
    refine x_ireturn d_Ha_isLength_17 rfl (by decide +kernel) ?_
    refine ⟨?_, rfl⟩
    unfold haLen
    first
      | (rw [decide_eq_false (Int32.not_le.mpr hc2), Bool.false_and]; rfl)
      | (rw [decide_eq_false (Int32.not_le.mpr hc9), Bool.and_false]; rfl)
      | (rw [decide_eq_true (Int32.not_lt.mp hc2), decide_eq_true (Int32.not_lt.mp hc9)]; rfl)
  · skip
    skip
    refine x_iload_n d_Ha_isLength_5 rfl ?_
    refine x_sipush (v := nI 6000) d_Ha_isLength_6 (by decide +kernel) ?_
    refine x_icmp_gt 16 d_Ha_isLength_9 rfl (fun hc9 => ?_) (fun hc9 => ?_)
    · skip
      skip
      refine x_iconst (v := nI 0) d_Ha_isLength_16 (by decide +kernel) ?_
      refine x_ireturn d_Ha_isLength_17 rfl (by decide +kernel) ?_
      refine ⟨?_, rfl⟩
      unfold haLen
      first
        | (rw [decide_eq_false (Int32.not_le.mpr hc2), Bool.false_and]; rfl)
        | (rw [decide_eq_false (Int32.not_le.mpr hc9), Bool.and_false]; rfl)
        | (rw [decide_eq_true (Int32.not_lt.mp hc2), decide_eq_true (Int32.not_lt.mp hc9)]; rfl)
    · skip
      skip
      refine x_iconst (v := nI 1) d_Ha_isLength_12 (by decide +kernel) ?_
      refine x_goto 17 d_Ha_isLength_13 rfl ?_
      refine x_ireturn d_Ha_isLength_17 rfl (by decide +kernel) ?_
      refine ⟨?_, rfl⟩
      unfold haLen
      first
        | (rw [decide_eq_false (Int32.not_le.mpr hc2), Bool.false_and]; rfl)
        | (rw [decide_eq_false (Int32.not_le.mpr hc9), Bool.and_false]; rfl)
        | (rw [decide_eq_true (Int32.not_lt.mp hc2), decide_eq_true (Int32.not_lt.mp hc9)]; rfl)
set_option maxRecDepth 100000 in
set_option maxHeartbeats 1000000 in
theorem c_Ha_liesIn {G : xG} {B d : Nat} {S : xS} (hG : xOkG G) {x l w : Int32} : EX G m_Ha_liesIn d 0 [(0, .int x), (1, .int l), (2, .int w)] [] (mk G B S) (xRet G B (some (.int (bI (haLies x l w)))) S) := by
  refine x_iload_n d_Ha_liesIn_0 rfl ?_
  refine x_if_lt 15 d_Ha_liesIn_1 rfl (fun hc1 => ?_) (fun hc1 => ?_)
  · skip
    skip
    refine x_iconst (v := nI 0) d_Ha_liesIn_15 (by decide +kernel) ?_
    refine x_ireturn d_Ha_liesIn_16 rfl (by decide +kernel) ?_
    refine ⟨?_, rfl⟩
    unfold haLies
    first
      | (rw [decide_eq_false (Int32.not_le.mpr hc1), Bool.false_and]; rfl)
      | (rw [decide_eq_false (Int32.not_le.mpr hc8), Bool.and_false]; rfl)
      | (rw [decide_eq_true (Int32.not_lt.mp hc1), decide_eq_true (Int32.not_lt.mp hc8)]; rfl)
  · skip
    skip
    refine x_iload_n d_Ha_liesIn_4 rfl ?_
    refine x_iload_n d_Ha_liesIn_5 rfl ?_
    refine x_iload_n d_Ha_liesIn_6 rfl ?_
    refine x_isub d_Ha_liesIn_7 ?_
    refine x_icmp_gt 15 d_Ha_liesIn_8 rfl (fun hc8 => ?_) (fun hc8 => ?_)
    · skip
      skip
      refine x_iconst (v := nI 0) d_Ha_liesIn_15 (by decide +kernel) ?_
      refine x_ireturn d_Ha_liesIn_16 rfl (by decide +kernel) ?_
      refine ⟨?_, rfl⟩
      unfold haLies
      first
        | (rw [decide_eq_false (Int32.not_le.mpr hc1), Bool.false_and]; rfl)
        | (rw [decide_eq_false (Int32.not_le.mpr hc8), Bool.and_false]; rfl)
        | (rw [decide_eq_true (Int32.not_lt.mp hc1), decide_eq_true (Int32.not_lt.mp hc8)]; rfl)
    · skip
      skip
      refine x_iconst (v := nI 1) d_Ha_liesIn_11 (by decide +kernel) ?_
      refine x_goto 16 d_Ha_liesIn_12 rfl ?_
      refine x_ireturn d_Ha_liesIn_16 rfl (by decide +kernel) ?_
      refine ⟨?_, rfl⟩
      unfold haLies
      first
        | (rw [decide_eq_false (Int32.not_le.mpr hc1), Bool.false_and]; rfl)
        | (rw [decide_eq_false (Int32.not_le.mpr hc8), Bool.and_false]; rfl)
        | (rw [decide_eq_true (Int32.not_lt.mp hc1), decide_eq_true (Int32.not_lt.mp hc8)]; rfl)
set_option maxRecDepth 100000 in
set_option maxHeartbeats 1000000 in
theorem c_Ha_findFreeSlot {G : xG} {B d : Nat} {S : xS} (hG : xOkG G) (hsl : slOk S B) {j : Nat} (hf : fstN (fun j => !thB S j) 8 = some j) : EX G m_Ha_findFreeSlot d 0 [(0, .ref (B + 0))] [] (mk G B S) ((xRet G B (some (.ref (B + (66 + 15 * j)))) S)) := by
  refine x_aload_n d_Ha_findFreeSlot_0 rfl ?_
  refine y_getf d_Ha_findFreeSlot_1 gf_Ha_11 k_hall rfl ?_
  refine s_astore_n (lv' := [(0, _), (1, _)]) d_Ha_findFreeSlot_4 (by decide) rfl ?_
  refine x_aload_n d_Ha_findFreeSlot_5 rfl ?_
  refine y_alenR hG d_Ha_findFreeSlot_6 k_slots rfl ?_
  refine s_istore_n (lv' := [(0, _), (1, _), (2, _)]) d_Ha_findFreeSlot_7 (by decide) rfl ?_
  refine x_iconst (v := nI 0) d_Ha_findFreeSlot_8 (by decide +kernel) ?_
  refine s_istore_n (lv' := [(0, _), (1, _), (2, _), (3, _)]) d_Ha_findFreeSlot_9 (by decide) rfl ?_
  have L10 : ∀ i, i ≤ 8 → (∀ k, k < i → (fun j => !thB S j) k = false) → EX G m_Ha_findFreeSlot d 10 [(0, .ref (B + 0)), (1, .ref (B + 1)), (2, .int (nI 8)), (3, .int (nI i))] [] (mk G B S) (xRet G B (some (.ref (B + (66 + 15 * j)))) S) := by
    refine x_down (8) ?_ ?_
    · skip
      skip
      intro hp
      refine x_iload_n d_Ha_findFreeSlot_10 rfl ?_
      refine x_iload_n d_Ha_findFreeSlot_11 rfl ?_
      refine z_icmp_ge 37 d_Ha_findFreeSlot_12 rfl (by omega) (by omega) (fun hc12 => ?_) (fun q => absurd q (by omega))
      refine x_null d_Ha_findFreeSlot_37 ?_
      refine x_areturnN d_Ha_findFreeSlot_38 rfl ?_
      exact (fstN_noT hf hp).elim
    · intro i hi ih
      intro hp
      refine x_iload_n d_Ha_findFreeSlot_10 rfl ?_
      refine x_iload_n d_Ha_findFreeSlot_11 rfl ?_
      refine z_icmp_ge 37 d_Ha_findFreeSlot_12 rfl (by omega) (by omega) (fun q => absurd q (by omega)) (fun hc12 => ?_)
      refine x_aload_n d_Ha_findFreeSlot_15 rfl ?_
      refine x_iload_n d_Ha_findFreeSlot_16 rfl ?_
      refine y_aald hG d_Ha_findFreeSlot_17 k_slots rfl _ rfl (by omega) ?_
      rw [hsl i hi]
      refine s_astore (lv' := [(0, _), (1, _), (2, _), (3, _), (4, _)]) d_Ha_findFreeSlot_18 (by decide) rfl ?_
      refine x_aload d_Ha_findFreeSlot_20 rfl ?_
      refine y_getf d_Ha_findFreeSlot_22 gf_Ha_267 (k_sheet hi) rfl ?_
      refine x_if_ne 31 d_Ha_findFreeSlot_25 rfl (fun hc25 => ?_) (fun hc25 => ?_)
      · skip
        skip
        refine s_iinc (lv' := [(0, _), (1, _), (2, _), (3, _), (4, _)]) d_Ha_findFreeSlot_31 rfl (xinc _) (by decide) rfl ?_
        refine x_goto 10 d_Ha_findFreeSlot_34 rfl ?_
        refine x_lv (lv' := [(0, _), (1, _), (2, _), (3, _)]) [0, 1, 2, 3] rfl ?_
        exact ih (lt_s hp (by simp [thB, hc25]))
      · skip
        skip
        refine x_aload d_Ha_findFreeSlot_28 rfl ?_
        refine x_areturn d_Ha_findFreeSlot_30 rfl ?_
        have e := fstN_at hf hi (by simp [thB, hc25]) hp
        subst e
        exact ⟨rfl, rfl⟩
  refine x_lv (lv' := [(0, _), (1, _), (2, _), (3, _)]) [0, 1, 2, 3] rfl ?_
  exact L10 0 (Nat.zero_le _) lt_0
set_option maxRecDepth 100000 in
set_option maxHeartbeats 1000000 in
theorem c_Ha_findFreeSlotN {G : xG} {B d : Nat} {S : xS} (hG : xOkG G) (hsl : slOk S B) (hf : fstN (fun j => !thB S j) 8 = none) : EX G m_Ha_findFreeSlot d 0 [(0, .ref (B + 0))] [] (mk G B S) ((xRet G B (some .null) S)) := by
  refine x_aload_n d_Ha_findFreeSlot_0 rfl ?_
  refine y_getf d_Ha_findFreeSlot_1 gf_Ha_11 k_hall rfl ?_
  refine s_astore_n (lv' := [(0, _), (1, _)]) d_Ha_findFreeSlot_4 (by decide) rfl ?_
  refine x_aload_n d_Ha_findFreeSlot_5 rfl ?_
  refine y_alenR hG d_Ha_findFreeSlot_6 k_slots rfl ?_
  refine s_istore_n (lv' := [(0, _), (1, _), (2, _)]) d_Ha_findFreeSlot_7 (by decide) rfl ?_
  refine x_iconst (v := nI 0) d_Ha_findFreeSlot_8 (by decide +kernel) ?_
  refine s_istore_n (lv' := [(0, _), (1, _), (2, _), (3, _)]) d_Ha_findFreeSlot_9 (by decide) rfl ?_
  have L10 : ∀ i, i ≤ 8 → (∀ k, k < i → (fun j => !thB S j) k = false) → EX G m_Ha_findFreeSlot d 10 [(0, .ref (B + 0)), (1, .ref (B + 1)), (2, .int (nI 8)), (3, .int (nI i))] [] (mk G B S) (xRet G B (some .null) S) := by
    refine x_down (8) ?_ ?_
    · skip
      skip
      intro hp
      refine x_iload_n d_Ha_findFreeSlot_10 rfl ?_
      refine x_iload_n d_Ha_findFreeSlot_11 rfl ?_
      refine z_icmp_ge 37 d_Ha_findFreeSlot_12 rfl (by omega) (by omega) (fun hc12 => ?_) (fun q => absurd q (by omega))
      refine x_null d_Ha_findFreeSlot_37 ?_
      refine x_areturnN d_Ha_findFreeSlot_38 rfl ?_
      exact ⟨rfl, rfl⟩
    · intro i hi ih
      intro hp
      refine x_iload_n d_Ha_findFreeSlot_10 rfl ?_
      refine x_iload_n d_Ha_findFreeSlot_11 rfl ?_
      refine z_icmp_ge 37 d_Ha_findFreeSlot_12 rfl (by omega) (by omega) (fun q => absurd q (by omega)) (fun hc12 => ?_)
      refine x_aload_n d_Ha_findFreeSlot_15 rfl ?_
      refine x_iload_n d_Ha_findFreeSlot_16 rfl ?_
      refine y_aald hG d_Ha_findFreeSlot_17 k_slots rfl _ rfl (by omega) ?_
      rw [hsl i hi]
      refine s_astore (lv' := [(0, _), (1, _), (2, _), (3, _), (4, _)]) d_Ha_findFreeSlot_18 (by decide) rfl ?_
      refine x_aload d_Ha_findFreeSlot_20 rfl ?_
      refine y_getf d_Ha_findFreeSlot_22 gf_Ha_267 (k_sheet hi) rfl ?_
      refine x_if_ne 31 d_Ha_findFreeSlot_25 rfl (fun hc25 => ?_) (fun hc25 => ?_)
      · skip
        skip
        refine s_iinc (lv' := [(0, _), (1, _), (2, _), (3, _), (4, _)]) d_Ha_findFreeSlot_31 rfl (xinc _) (by decide) rfl ?_
        refine x_goto 10 d_Ha_findFreeSlot_34 rfl ?_
        refine x_lv (lv' := [(0, _), (1, _), (2, _), (3, _)]) [0, 1, 2, 3] rfl ?_
        exact ih (lt_s hp (by simp [thB, hc25]))
      · skip
        skip
        refine x_aload d_Ha_findFreeSlot_28 rfl ?_
        refine x_areturn d_Ha_findFreeSlot_30 rfl ?_
        exact absurd (fstN_no hf hi) (by simp [thB, hc25])
  refine x_lv (lv' := [(0, _), (1, _), (2, _), (3, _)]) [0, 1, 2, 3] rfl ?_
  exact L10 0 (Nat.zero_le _) lt_0
set_option maxRecDepth 100000 in
set_option maxHeartbeats 1000000 in
theorem c_Ha_findSheet {G : xG} {B d : Nat} {S : xS} (hG : xOkG G) (hsl : slOk S B) {x : Int32} {j : Nat} (hf : fstN (idB S x) 8 = some j) : EX G m_Ha_findSheet d 0 [(0, .ref (B + 0)), (1, .int x)] [] (mk G B S) ((xRet G B (some (.ref (B + (66 + 15 * j)))) S)) := by
  refine x_aload_n d_Ha_findSheet_0 rfl ?_
  refine y_getf d_Ha_findSheet_1 gf_Ha_11 k_hall rfl ?_
  refine s_astore_n (lv' := [(0, _), (1, _), (2, _)]) d_Ha_findSheet_4 (by decide) rfl ?_
  refine x_aload_n d_Ha_findSheet_5 rfl ?_
  refine y_alenR hG d_Ha_findSheet_6 k_slots rfl ?_
  refine s_istore_n (lv' := [(0, _), (1, _), (2, _), (3, _)]) d_Ha_findSheet_7 (by decide) rfl ?_
  refine x_iconst (v := nI 0) d_Ha_findSheet_8 (by decide +kernel) ?_
  refine s_istore (lv' := [(0, _), (1, _), (2, _), (3, _), (4, _)]) d_Ha_findSheet_9 (by decide) rfl ?_
  have L11 : ∀ i, i ≤ 8 → (∀ k, k < i → (idB S x) k = false) → EX G m_Ha_findSheet d 11 [(0, .ref (B + 0)), (1, .int x), (2, .ref (B + 1)), (3, .int (nI 8)), (4, .int (nI i))] [] (mk G B S) (xRet G B (some (.ref (B + (66 + 15 * j)))) S) := by
    refine x_down (8) ?_ ?_
    · skip
      skip
      intro hp
      refine x_iload d_Ha_findSheet_11 rfl ?_
      refine x_iload_n d_Ha_findSheet_13 rfl ?_
      refine z_icmp_ge 49 d_Ha_findSheet_14 rfl (by omega) (by omega) (fun hc14 => ?_) (fun q => absurd q (by omega))
      exact (fstN_noT hf hp).elim
    · intro i hi ih
      intro hp
      refine x_iload d_Ha_findSheet_11 rfl ?_
      refine x_iload_n d_Ha_findSheet_13 rfl ?_
      refine z_icmp_ge 49 d_Ha_findSheet_14 rfl (by omega) (by omega) (fun q => absurd q (by omega)) (fun hc14 => ?_)
      refine x_aload_n d_Ha_findSheet_17 rfl ?_
      refine x_iload d_Ha_findSheet_18 rfl ?_
      refine y_aald hG d_Ha_findSheet_20 k_slots rfl _ rfl (by omega) ?_
      rw [hsl i hi]
      refine s_astore (lv' := [(0, _), (1, _), (2, _), (3, _), (4, _), (5, _)]) d_Ha_findSheet_21 (by decide) rfl ?_
      refine x_aload d_Ha_findSheet_23 rfl ?_
      refine y_getf d_Ha_findSheet_25 gf_Ha_267 (k_sheet hi) rfl ?_
      refine x_if_eq 43 d_Ha_findSheet_28 rfl (fun hc28 => ?_) (fun hc28 => ?_)
      · skip
        skip
        refine s_iinc (lv' := [(0, _), (1, _), (2, _), (3, _), (4, _), (5, _)]) d_Ha_findSheet_43 rfl (xinc _) (by decide) rfl ?_
        refine x_goto 11 d_Ha_findSheet_46 rfl ?_
        refine x_lv (lv' := [(0, _), (1, _), (2, _), (3, _), (4, _)]) [0, 1, 2, 3, 4] rfl ?_
        exact ih (lt_s hp (by first | simp [idB, thB, hc37] | simp [idB, thB, hc28]))
      · skip
        skip
        refine x_aload d_Ha_findSheet_31 rfl ?_
        refine y_getf d_Ha_findSheet_33 gf_Ha_271 (k_sheet hi) rfl ?_
        refine x_iload_n d_Ha_findSheet_36 rfl ?_
        refine x_icmp_ne 43 d_Ha_findSheet_37 rfl (fun hc37 => ?_) (fun hc37 => ?_)
        · skip
          skip
          refine s_iinc (lv' := [(0, _), (1, _), (2, _), (3, _), (4, _), (5, _)]) d_Ha_findSheet_43 rfl (xinc _) (by decide) rfl ?_
          refine x_goto 11 d_Ha_findSheet_46 rfl ?_
          refine x_lv (lv' := [(0, _), (1, _), (2, _), (3, _), (4, _)]) [0, 1, 2, 3, 4] rfl ?_
          exact ih (lt_s hp (by first | simp [idB, thB, hc37] | simp [idB, thB, hc28]))
        · skip
          skip
          refine x_aload d_Ha_findSheet_40 rfl ?_
          refine x_areturn d_Ha_findSheet_42 rfl ?_
          have e := fstN_at hf hi (by simp [idB, thB, hc28, hc37]) hp
          subst e
          exact ⟨rfl, rfl⟩
  refine x_lv (lv' := [(0, _), (1, _), (2, _), (3, _), (4, _)]) [0, 1, 2, 3, 4] rfl ?_
  exact L11 0 (Nat.zero_le _) lt_0
set_option maxRecDepth 100000 in
set_option maxHeartbeats 1000000 in
theorem c_Ha_findSheetT {G : xG} {B d : Nat} {S : xS} (hG : xOkG G) (hsl : slOk S B) {x : Int32} (hrm : xRm G B S) (hf : fstN (idB S x) 8 = none) : EX G m_Ha_findSheet d 0 [(0, .ref (B + 0)), (1, .int x)] [] (mk G B S) ((xThw G B S 11)) := by
  refine x_aload_n d_Ha_findSheet_0 rfl ?_
  refine y_getf d_Ha_findSheet_1 gf_Ha_11 k_hall rfl ?_
  refine s_astore_n (lv' := [(0, _), (1, _), (2, _)]) d_Ha_findSheet_4 (by decide) rfl ?_
  refine x_aload_n d_Ha_findSheet_5 rfl ?_
  refine y_alenR hG d_Ha_findSheet_6 k_slots rfl ?_
  refine s_istore_n (lv' := [(0, _), (1, _), (2, _), (3, _)]) d_Ha_findSheet_7 (by decide) rfl ?_
  refine x_iconst (v := nI 0) d_Ha_findSheet_8 (by decide +kernel) ?_
  refine s_istore (lv' := [(0, _), (1, _), (2, _), (3, _), (4, _)]) d_Ha_findSheet_9 (by decide) rfl ?_
  have L11 : ∀ i, i ≤ 8 → (∀ k, k < i → (idB S x) k = false) → EX G m_Ha_findSheet d 11 [(0, .ref (B + 0)), (1, .int x), (2, .ref (B + 1)), (3, .int (nI 8)), (4, .int (nI i))] [] (mk G B S) (xThw G B S 11) := by
    refine x_down (8) ?_ ?_
    · skip
      skip
      intro hp
      refine x_iload d_Ha_findSheet_11 rfl ?_
      refine x_iload_n d_Ha_findSheet_13 rfl ?_
      refine z_icmp_ge 49 d_Ha_findSheet_14 rfl (by omega) (by omega) (fun hc14 => ?_) (fun q => absurd q (by omega))
      refine y_throw hG d_Ha_findSheet_49 d_Ha_findSheet_52 d_Ha_findSheet_53 d_Ha_findSheet_56 (te_Nse nw_Ha_147 k_Ha_149) rfl hrm rfl ?_
      exact ⟨rfl, rfl⟩
    · intro i hi ih
      intro hp
      refine x_iload d_Ha_findSheet_11 rfl ?_
      refine x_iload_n d_Ha_findSheet_13 rfl ?_
      refine z_icmp_ge 49 d_Ha_findSheet_14 rfl (by omega) (by omega) (fun q => absurd q (by omega)) (fun hc14 => ?_)
      refine x_aload_n d_Ha_findSheet_17 rfl ?_
      refine x_iload d_Ha_findSheet_18 rfl ?_
      refine y_aald hG d_Ha_findSheet_20 k_slots rfl _ rfl (by omega) ?_
      rw [hsl i hi]
      refine s_astore (lv' := [(0, _), (1, _), (2, _), (3, _), (4, _), (5, _)]) d_Ha_findSheet_21 (by decide) rfl ?_
      refine x_aload d_Ha_findSheet_23 rfl ?_
      refine y_getf d_Ha_findSheet_25 gf_Ha_267 (k_sheet hi) rfl ?_
      refine x_if_eq 43 d_Ha_findSheet_28 rfl (fun hc28 => ?_) (fun hc28 => ?_)
      · skip
        skip
        refine s_iinc (lv' := [(0, _), (1, _), (2, _), (3, _), (4, _), (5, _)]) d_Ha_findSheet_43 rfl (xinc _) (by decide) rfl ?_
        refine x_goto 11 d_Ha_findSheet_46 rfl ?_
        refine x_lv (lv' := [(0, _), (1, _), (2, _), (3, _), (4, _)]) [0, 1, 2, 3, 4] rfl ?_
        exact ih (lt_s hp (by first | simp [idB, thB, hc37] | simp [idB, thB, hc28]))
      · skip
        skip
        refine x_aload d_Ha_findSheet_31 rfl ?_
        refine y_getf d_Ha_findSheet_33 gf_Ha_271 (k_sheet hi) rfl ?_
        refine x_iload_n d_Ha_findSheet_36 rfl ?_
        refine x_icmp_ne 43 d_Ha_findSheet_37 rfl (fun hc37 => ?_) (fun hc37 => ?_)
        · skip
          skip
          refine s_iinc (lv' := [(0, _), (1, _), (2, _), (3, _), (4, _), (5, _)]) d_Ha_findSheet_43 rfl (xinc _) (by decide) rfl ?_
          refine x_goto 11 d_Ha_findSheet_46 rfl ?_
          refine x_lv (lv' := [(0, _), (1, _), (2, _), (3, _), (4, _)]) [0, 1, 2, 3, 4] rfl ?_
          exact ih (lt_s hp (by first | simp [idB, thB, hc37] | simp [idB, thB, hc28]))
        · skip
          skip
          refine x_aload d_Ha_findSheet_40 rfl ?_
          refine x_areturn d_Ha_findSheet_42 rfl ?_
          exact absurd (fstN_no hf hi) (by simp [idB, thB, hc28, hc37])
  refine x_lv (lv' := [(0, _), (1, _), (2, _), (3, _), (4, _)]) [0, 1, 2, 3, 4] rfl ?_
  exact L11 0 (Nat.zero_le _) lt_0
theorem fsL {p : Nat → Bool} {n j : Nat} (hf : fstN p n = some j) : j < n := (fstN_spec hf).1
set_option maxRecDepth 100000 in
set_option maxHeartbeats 1000000 in
theorem c_Ha_findPlanned {G : xG} {B d : Nat} {S : xS} (hG : xOkG G) (hsl : slOk S B) {x : Int32} {j : Nat} (hf : fstN (idB S x) 8 = some j) {n : Nat} (hn : sF S (72 + 15 * j) 8 = nI n) (h145 : n ≤ 145) (h0 : 0 < n) : EX G m_Ha_findPlanned (d + 1) 0 [(0, .ref (B + 0)), (1, .int x)] [] (mk G B S) (xRet G B (some (.ref (B + (66 + 15 * j)))) S) := by
  refine x_aload_n d_Ha_findPlanned_0 rfl ?_
  refine x_iload_n d_Ha_findPlanned_1 rfl ?_
  refine w_callV (As := [_]) d_Ha_findPlanned_2 k_Ha_89 k_hall rfl rfl rfl (c_Ha_findSheet hG hsl hf) ?_
  refine s_astore_n (lv' := [(0, _), (1, _), (2, _)]) d_Ha_findPlanned_5 (by decide) rfl ?_
  refine x_aload_n d_Ha_findPlanned_6 rfl ?_
  refine y_getf d_Ha_findPlanned_7 gf_Ha_104 (k_sheet (fsL hf)) rfl ?_
  refine w_callV (As := []) d_Ha_findPlanned_10 k_Ha_108 (k_tree (trS (fsL hf))) rfl rfl rfl (c_Tr_isGrown hG (trS (fsL hf)) hn h145) ?_
  refine z_bif_ne 24 d_Ha_findPlanned_13 rfl (fun hc13 => ?_) (fun q => absurd q (by simp [h0]))
  refine x_aload_n d_Ha_findPlanned_24 rfl ?_
  refine x_areturn d_Ha_findPlanned_25 rfl ?_
  exact ⟨rfl, rfl⟩
set_option maxRecDepth 100000 in
set_option maxHeartbeats 1000000 in
theorem c_Ha_findPlannedU {G : xG} {B d : Nat} {S : xS} (hG : xOkG G) (hsl : slOk S B) (hrm : xRm G B S) {x : Int32} {j : Nat} (hf : fstN (idB S x) 8 = some j) {n : Nat} (hn : sF S (72 + 15 * j) 8 = nI n) (h145 : n ≤ 145) (h0 : n = 0) : EX G m_Ha_findPlanned (d + 1) 0 [(0, .ref (B + 0)), (1, .int x)] [] (mk G B S) (xThw G B S 13) := by
  refine x_aload_n d_Ha_findPlanned_0 rfl ?_
  refine x_iload_n d_Ha_findPlanned_1 rfl ?_
  refine w_callV (As := [_]) d_Ha_findPlanned_2 k_Ha_89 k_hall rfl rfl rfl (c_Ha_findSheet hG hsl hf) ?_
  refine s_astore_n (lv' := [(0, _), (1, _), (2, _)]) d_Ha_findPlanned_5 (by decide) rfl ?_
  refine x_aload_n d_Ha_findPlanned_6 rfl ?_
  refine y_getf d_Ha_findPlanned_7 gf_Ha_104 (k_sheet (fsL hf)) rfl ?_
  refine w_callV (As := []) d_Ha_findPlanned_10 k_Ha_108 (k_tree (trS (fsL hf))) rfl rfl rfl (c_Tr_isGrown hG (trS (fsL hf)) hn h145) ?_
  refine z_bif_ne 24 d_Ha_findPlanned_13 rfl (fun q => absurd q (by simp [h0])) (fun hc13 => ?_)
  refine y_throw hG d_Ha_findPlanned_16 d_Ha_findPlanned_19 d_Ha_findPlanned_20 d_Ha_findPlanned_23 (te_Ise nw_Ha_64 k_Ha_66) rfl hrm rfl ?_
  exact ⟨rfl, rfl⟩
set_option maxRecDepth 100000 in
set_option maxHeartbeats 1000000 in
theorem c_Ha_findPlannedT {G : xG} {B d : Nat} {S : xS} (hG : xOkG G) (hsl : slOk S B) (hrm : xRm G B S) {x : Int32} (hf : fstN (idB S x) 8 = none) : EX G m_Ha_findPlanned (d + 1) 0 [(0, .ref (B + 0)), (1, .int x)] [] (mk G B S) (xThw G B S 11) := by
  refine x_aload_n d_Ha_findPlanned_0 rfl ?_
  refine x_iload_n d_Ha_findPlanned_1 rfl ?_
  refine w_callT (As := [_]) d_Ha_findPlanned_2 k_Ha_89 k_hall rfl rfl rfl (c_Ha_findSheetT hG hsl hrm hf) rfl ?_
  exact ⟨rfl, rfl⟩
set_option maxRecDepth 100000 in
set_option maxHeartbeats 1000000 in
theorem c_Ha_findOffcut {G : xG} {B d : Nat} {S : xS} (hG : xOkG G) {R : Nat} (hR : sF S 5 1 = nI R) (hR10 : R ≤ 10) {g : Nat → Nat} (hrk : rkOk S B g) {k : Nat} (hk : k < R) : EX G m_Ha_findOffcut (d + 1) 0 [(0, .ref (B + 0)), (1, .int (nI k))] [] (mk G B S) (xRet G B (some (.ref (B + g k))) S) := by
  refine x_aload_n d_Ha_findOffcut_0 rfl ?_
  refine y_getf d_Ha_findOffcut_1 gf_Ha_25 k_hall rfl ?_
  refine x_iload_n d_Ha_findOffcut_4 rfl ?_
  refine w_callV (As := [_]) d_Ha_findOffcut_5 k_Ha_274 k_rack rfl rfl rfl (c_Rk_has hG hR hR10) ?_
  rw [hasN (by omega) (by omega)]
  refine z_bif_ne 19 d_Ha_findOffcut_8 rfl (fun hc8 => ?_) (fun q => absurd q (by simp [hk]))
  refine x_aload_n d_Ha_findOffcut_19 rfl ?_
  refine y_getf d_Ha_findOffcut_20 gf_Ha_25 k_hall rfl ?_
  refine y_getf d_Ha_findOffcut_23 gf_Ha_275 k_rack rfl ?_
  refine x_iload_n d_Ha_findOffcut_26 rfl ?_
  refine y_aald hG d_Ha_findOffcut_27 k_rows rfl _ rfl (by omega) ?_
  rw [(hrk k (by omega)).1]
  refine x_areturn d_Ha_findOffcut_28 rfl ?_
  exact ⟨rfl, rfl⟩
set_option maxRecDepth 100000 in
set_option maxHeartbeats 1000000 in
theorem c_Ha_findOffcutT {G : xG} {B d : Nat} {S : xS} (hG : xOkG G) {R : Nat} (hR : sF S 5 1 = nI R) (hR10 : R ≤ 10) {g : Nat → Nat} (hrk : rkOk S B g) (hrm : xRm G B S) {k : Int32} (hk : inB R k = false) : EX G m_Ha_findOffcut (d + 1) 0 [(0, .ref (B + 0)), (1, .int k)] [] (mk G B S) (xThw G B S 11) := by
  refine x_aload_n d_Ha_findOffcut_0 rfl ?_
  refine y_getf d_Ha_findOffcut_1 gf_Ha_25 k_hall rfl ?_
  refine x_iload_n d_Ha_findOffcut_4 rfl ?_
  refine w_callV (As := [_]) d_Ha_findOffcut_5 k_Ha_274 k_rack rfl rfl rfl (c_Rk_has hG hR hR10) ?_
  refine z_bif_ne 19 d_Ha_findOffcut_8 rfl (fun q => absurd q (by rw [show (decide (0 ≤ k) && decide (k < nI R)) = false from hk]; decide)) (fun hc8 => ?_)
  refine y_throw hG d_Ha_findOffcut_11 d_Ha_findOffcut_14 d_Ha_findOffcut_15 d_Ha_findOffcut_18 (te_Nse nw_Ha_147 k_Ha_149) rfl hrm rfl ?_
  exact ⟨rfl, rfl⟩
def haIn (S : xS) (j : Nat) : xS := uF (uF (uF S (66 + 15 * j) 2 (nI 1)) (66 + 15 * j) 3 (sF S 0 6)) 0 6 (sF S 0 6 + nI 1)
set_option maxRecDepth 100000 in
set_option maxHeartbeats 1000000 in
theorem c_Ha_bringIn {G : xG} {B d : Nat} {S : xS} (hG : xOkG G) {j : Nat} (hj : j < 8) : EX G m_Ha_bringIn d 0 [(0, .ref (B + 0)), (1, .ref (B + (66 + 15 * j)))] [] (mk G B S) (xRet G B (some (.int (sF S 0 6))) (haIn S j)) := by
  refine x_aload_n d_Ha_bringIn_0 rfl ?_
  refine x_iconst (v := nI 1) d_Ha_bringIn_1 (by decide +kernel) ?_
  refine y_puti d_Ha_bringIn_2 pf_Ha_267 (k_sheet hj) (xBle rfl) (by decide +kernel) rfl rfl ?_
  refine x_aload_n d_Ha_bringIn_5 rfl ?_
  refine x_aload_n d_Ha_bringIn_6 rfl ?_
  refine y_getf d_Ha_bringIn_7 gf_Ha_264 k_hall rfl ?_
  rw [sF_uFn _ _ _ (by omega)]
  refine y_puti d_Ha_bringIn_10 pf_Ha_271 (k_sheet hj) (xBle rfl) rfl rfl rfl ?_
  refine x_aload_n d_Ha_bringIn_13 rfl ?_
  refine x_dup d_Ha_bringIn_14 rfl ?_
  refine y_getf d_Ha_bringIn_15 gf_Ha_264 k_hall rfl ?_
  rw [sF_uFn _ _ _ (by omega), sF_uFn _ _ _ (by omega)]
  refine x_iconst (v := nI 1) d_Ha_bringIn_18 (by decide +kernel) ?_
  refine x_iadd d_Ha_bringIn_19 ?_
  refine y_puti d_Ha_bringIn_20 pf_Ha_264 k_hall (xBle rfl) rfl rfl rfl ?_
  refine x_aload_n d_Ha_bringIn_23 rfl ?_
  refine y_getf d_Ha_bringIn_24 gf_Ha_271 (k_sheet hj) rfl ?_
  rw [sF_uFn _ _ _ (by omega), sF_uF, va_up_self]
  refine x_ireturn d_Ha_bringIn_27 rfl rfl ?_
  exact ⟨rfl, rfl⟩
/-! moves between the counts of the orders, one after another -/
def bkD (D : Nat → Nat → Int32) (x i j : Nat) : Nat → Nat → Int32 := va_up D x (va_up (va_up (D x) i (D x i - nI 1)) j (D x j + nI 1))
theorem bkMove_ok {S : xS} {B N : Nat} {oa : Nat → Nat} {D : Nat → Nat → Int32} (ho : bkOk S B N oa D) (hinj : ∀ a b, a < N → b < N → oa a = oa b → a = b) {x : Nat} (hx : x < N) (i j : Nat) : bkOk (bkMove S (oa x) (D x) i j) B N oa (bkD D x i j) := by
  intro k hk
  refine ⟨(ho k hk).1, (ho k hk).2.1, ?_⟩
  unfold bkMove bkD
  by_cases e : k = x
  · subst e
    rw [sE_uE, va_up_self]
  · rw [sE_uEn _ _ (fun q => e (hinj _ _ hk hx q)), va_up_ne _ _ e]
    exact (ho k hk).2.2
def bkSeq (S : xS) (oa : Nat → Nat) (D : Nat → Nat → Int32) (f : Nat → Option Nat) (i j : Nat) : Nat → xS × (Nat → Nat → Int32)
  | 0 => (S, D)
  | k + 1 => match f k with
    | none => bkSeq S oa D f i j k
    | some x => (bkMove (bkSeq S oa D f i j k).1 (oa x) ((bkSeq S oa D f i j k).2 x) i j, bkD (bkSeq S oa D f i j k).2 x i j)
def cntN (f : Nat → Option Nat) : Nat → Nat
  | 0 => 0
  | k + 1 => match f k with
    | none => cntN f k
    | some _ => cntN f k + 1
theorem cntN_le {f : Nat → Option Nat} : ∀ k, cntN f k ≤ k
  | 0 => Nat.le_refl _
  | k + 1 => by
    have := cntN_le (f := f) k
    simp only [cntN]
    split <;> omega
theorem bkSeq_n {S : xS} {oa : Nat → Nat} {D : Nat → Nat → Int32} {f : Nat → Option Nat} {i j k : Nat} (h : f k = none) : bkSeq S oa D f i j (k + 1) = bkSeq S oa D f i j k := by simp only [bkSeq, h]
theorem bkSeq_s {S : xS} {oa : Nat → Nat} {D : Nat → Nat → Int32} {f : Nat → Option Nat} {i j k x : Nat} (h : f k = some x) : bkSeq S oa D f i j (k + 1) = (bkMove (bkSeq S oa D f i j k).1 (oa x) ((bkSeq S oa D f i j k).2 x) i j, bkD (bkSeq S oa D f i j k).2 x i j) := by simp only [bkSeq, h]
/-- only the orders' cells have moved -/
def sEq (S S' : xS) : Prop := sF S' = sF S ∧ sA S' = sA S ∧ sJ S' = sJ S ∧ sR S' = sR S ∧ sN S' = sN S ∧ sL S' = sL S
theorem bkSeq_ok {S : xS} {B N : Nat} {oa : Nat → Nat} {D : Nat → Nat → Int32} {f : Nat → Option Nat} {i j : Nat} (ho : bkOk S B N oa D) (hinj : ∀ a b, a < N → b < N → oa a = oa b → a = b) : ∀ k, (∀ q x, q < k → f q = some x → x < N) → bkOk (bkSeq S oa D f i j k).1 B N oa (bkSeq S oa D f i j k).2 ∧ sEq S (bkSeq S oa D f i j k).1
  | 0, _ => ⟨ho, rfl, rfl, rfl, rfl, rfl, rfl⟩
  | k + 1, h => by
    have ih := bkSeq_ok (f := f) (i := i) (j := j) ho hinj k (fun q x hq => h q x (by omega))
    cases hf : f k with
    | none => rw [bkSeq_n hf]; exact ih
    | some x => rw [bkSeq_s hf]; exact ⟨bkMove_ok ih.1 hinj (h k x (by omega) hf) i j, ih.2⟩
/-! the panes of a part of a tree -/
def paF (S : xS) (b f : Nat) (k : Nat) : Option Nat := if sA S (b + 1) (f + k) = nI 2 then some (sA S (b + 6) (f + k)).toNatClampNeg else none
set_option maxRecDepth 100000 in
set_option maxHeartbeats 1000000 in
theorem c_Ha_reopenPanes {G : xG} {B d : Nat} {S : xS} (hG : xOkG G) {b n f : Nat} (hb : isTree b) (hn : sF S b 8 = nI n) (h145 : n ≤ 145) (hf : f ≤ n) {N : Nat} (hN : sF S 2 2 = nI N) (hN6 : N ≤ 6) {oa : Nat → Nat} {D : Nat → Nat → Int32} (ho : bkOk S B N oa D) (hinj : ∀ a b, a < N → b < N → oa a = oa b → a = b) (hmk : ∀ q, q < n → sA S (b + 1) q = nI 2 → ∃ x, x < N ∧ sA S (b + 6) q = nI x) : EX G m_Ha_reopenPanes (d + 2) 0 [(0, .ref (B + 0)), (1, .ref (B + b)), (2, .int (nI f))] [] (mk G B S) ((xRet G B (some (.int (nI (cntN (paF S b f) ((trE S b (n - f) f 1) - f))))) (bkSeq S oa D (paF S b f) 4 3 ((trE S b (n - f) f 1) - f)).1)) := by
  have hE := trE_ge (S := S) (b := b) (n - f) f 1
  refine x_aload_n d_Ha_reopenPanes_0 rfl ?_
  refine x_iload_n d_Ha_reopenPanes_1 rfl ?_
  refine w_callV (As := [_]) d_Ha_reopenPanes_2 k_Ha_315 (k_tree hb) rfl rfl rfl (c_Tr_endOf hG hb hn h145 hf) ?_
  refine s_istore_n (lv' := [(0, _), (1, _), (2, _), (3, _)]) d_Ha_reopenPanes_5 (by decide) rfl ?_
  refine x_iconst (v := nI 0) d_Ha_reopenPanes_6 (by decide +kernel) ?_
  refine s_istore (lv' := [(0, _), (1, _), (2, _), (3, _), (4, _)]) d_Ha_reopenPanes_7 (by decide) rfl ?_
  refine x_iload_n d_Ha_reopenPanes_9 rfl ?_
  refine s_istore (lv' := [(0, _), (1, _), (2, _), (3, _), (4, _), (5, _)]) d_Ha_reopenPanes_10 (by decide) rfl ?_
  have L12 : ∀ i, i ≤ ((trE S b (n - f) f 1) - f) →  EX G m_Ha_reopenPanes (d + 2) 12 [(0, .ref (B + 0)), (1, .ref (B + b)), (2, .int (nI f)), (3, .int (nI (trE S b (n - f) f 1))), (4, .int (nI (cntN (paF S b f) i))), (5, .int (nI (f + i)))] [] (mk G B (bkSeq S oa D (paF S b f) 4 3 i).1) (xRet G B (some (.int (nI (cntN (paF S b f) ((trE S b (n - f) f 1) - f))))) (bkSeq S oa D (paF S b f) 4 3 ((trE S b (n - f) f 1) - f)).1) := by
    refine x_down (((trE S b (n - f) f 1) - f)) ?_ ?_
    · skip
      skip
      refine x_iload d_Ha_reopenPanes_12 rfl ?_
      refine x_iload_n d_Ha_reopenPanes_14 rfl ?_
      refine z_icmp_ge 52 d_Ha_reopenPanes_15 rfl (by omega) (by omega) (fun hc15 => ?_) (fun q => absurd q (by omega))
      refine x_iload d_Ha_reopenPanes_52 rfl ?_
      refine x_ireturn d_Ha_reopenPanes_54 rfl rfl ?_
      exact ⟨rfl, rfl⟩
    · intro i hi ih
      have hseq := bkSeq_ok (f := paF S b f) (i := 4) (j := 3) ho hinj i (fun q x hq h => by
        unfold paF at h
        split at h
        · rename_i h2
          obtain ⟨y, hy, e⟩ := hmk (f + q) (by omega) h2
          rw [e, nI_clamp (by omega)] at h
          cases h; exact hy
        · cases h)
      have hA : sA (bkSeq S oa D (paF S b f) 4 3 i).1 = sA S := hseq.2.2.1
      have hFF : sF (bkSeq S oa D (paF S b f) 4 3 i).1 = sF S := hseq.2.1
      refine x_iload d_Ha_reopenPanes_12 rfl ?_
      refine x_iload_n d_Ha_reopenPanes_14 rfl ?_
      refine z_icmp_ge 52 d_Ha_reopenPanes_15 rfl (by omega) (by omega) (fun q => absurd q (by omega)) (fun hc15 => ?_)
      refine x_aload_n d_Ha_reopenPanes_18 rfl ?_
      refine y_getf d_Ha_reopenPanes_19 gf_Ha_290 (k_tree hb) rfl ?_
      refine x_iload d_Ha_reopenPanes_22 rfl ?_
      refine y_iald hG d_Ha_reopenPanes_24 (k_trA1 hb) _ rfl (by omega) ?_
      rw [hA]
      refine x_iconst (v := nI 2) d_Ha_reopenPanes_25 (by decide +kernel) ?_
      refine x_icmp_ne 46 d_Ha_reopenPanes_26 rfl (fun hc26 => ?_) (fun hc26 => ?_)
      · skip
        have hpf : paF S b f i = none := if_neg hc26
        rw [bkSeq_n hpf, show cntN (paF S b f) (i + 1) = cntN (paF S b f) i by simp only [cntN, hpf]] at ih
        refine s_iinc (lv' := [(0, _), (1, _), (2, _), (3, _), (4, _), (5, _)]) d_Ha_reopenPanes_46 rfl (xinc _) (by decide) rfl ?_
        refine x_goto 12 d_Ha_reopenPanes_49 rfl ?_
        refine x_lv (lv' := [(0, _), (1, _), (2, _), (3, _), (4, _), (5, _)]) [0, 1, 2, 3, 4, 5] rfl ?_
        exact ih
      · skip
        have hpf2 := hc26
        obtain ⟨x, hx, ex⟩ := hmk (f + i) (by omega) hpf2
        have hpf : paF S b f i = some x := by unfold paF; rw [if_pos hpf2, ex, nI_clamp (by omega)]
        rw [bkSeq_s hpf, show cntN (paF S b f) (i + 1) = cntN (paF S b f) i + 1 by simp only [cntN, hpf]] at ih
        refine x_aload_n d_Ha_reopenPanes_29 rfl ?_
        refine y_getf d_Ha_reopenPanes_30 gf_Ha_18 k_hall rfl ?_
        refine x_aload_n d_Ha_reopenPanes_33 rfl ?_
        refine y_getf d_Ha_reopenPanes_34 gf_Ha_293 (k_tree hb) rfl ?_
        refine x_iload d_Ha_reopenPanes_37 rfl ?_
        refine y_iald hG d_Ha_reopenPanes_39 (k_trA6 hb) _ rfl (by omega) ?_
        rw [hA, ex]
        refine w_callV (As := [_]) d_Ha_reopenPanes_40 k_Ha_319 k_book rfl rfl rfl (c_Bk_reopen hG (by rw [hFF]; exact hN) hN6 hseq.1 hx) ?_
        refine s_iinc (lv' := [(0, _), (1, _), (2, _), (3, _), (4, _), (5, _)]) d_Ha_reopenPanes_43 rfl (xinc _) (by decide) rfl ?_
        refine s_iinc (lv' := [(0, _), (1, _), (2, _), (3, _), (4, _), (5, _)]) d_Ha_reopenPanes_46 rfl (xinc _) (by decide) rfl ?_
        refine x_goto 12 d_Ha_reopenPanes_49 rfl ?_
        refine x_lv (lv' := [(0, _), (1, _), (2, _), (3, _), (4, _), (5, _)]) [0, 1, 2, 3, 4, 5] rfl ?_
        exact ih
  refine x_lv (lv' := [(0, _), (1, _), (2, _), (3, _), (4, _), (5, _)]) [0, 1, 2, 3, 4, 5] rfl ?_
  exact L12 0 (Nat.zero_le _)
/-! a sheet that is empty goes -/
def haClr (S : xS) (j n : Nat) : xS := if fstN (trWaits S (72 + 15 * j)) n = none then uF (uF S (72 + 15 * j) 8 (nI 0)) (66 + 15 * j) 2 (nI 0) else S
set_option maxRecDepth 100000 in
set_option maxHeartbeats 1000000 in
theorem c_Ha_clearAwayIfEmpty {G : xG} {B d : Nat} {S : xS} (hG : xOkG G) {j n : Nat} (hj : j < 8) (hn : sF S (72 + 15 * j) 8 = nI n) (h145 : n ≤ 145) : EX G m_Ha_clearAwayIfEmpty (d + 1) 0 [(0, .ref (B + 0)), (1, .ref (B + (66 + 15 * j)))] [] (mk G B S) (xRet G B none (haClr S j n)) := by
  refine x_aload_n d_Ha_clearAwayIfEmpty_0 rfl ?_
  refine y_getf d_Ha_clearAwayIfEmpty_1 gf_Ha_104 (k_sheet hj) rfl ?_
  refine w_callV (As := []) d_Ha_clearAwayIfEmpty_4 k_Ha_168 (k_tree (trS hj)) rfl rfl rfl (c_Tr_firstWaiting hG (trS hj) hn h145) ?_
  refine x_iconst (v := -1) d_Ha_clearAwayIfEmpty_7 (by decide +kernel) ?_
  refine x_icmp_ne 23 d_Ha_clearAwayIfEmpty_8 rfl (fun hc8 => ?_) (fun hc8 => ?_)
  · skip
    skip
    refine x_return d_Ha_clearAwayIfEmpty_23 rfl ?_
    have hz : cI (fstN (trWaits S (72 + 15 * j)) n) = -1 ↔ _ := cI_m1 (fun q hq => by have := (fstN_spec hq).1; omega)
    unfold haClr
    first
      | (rw [if_neg (fun q => hc8 (hz.mpr q))]; exact ⟨rfl, rfl⟩)
      | (rw [if_pos (hz.mp hc8)]; exact ⟨rfl, rfl⟩)
      | (rw [if_pos (hz.mp (Classical.not_not.mp hc8))]; exact ⟨rfl, rfl⟩)
  · skip
    skip
    refine x_aload_n d_Ha_clearAwayIfEmpty_11 rfl ?_
    refine y_getf d_Ha_clearAwayIfEmpty_12 gf_Ha_104 (k_sheet hj) rfl ?_
    refine w_callV (As := []) d_Ha_clearAwayIfEmpty_15 k_Ha_204 (k_tree (trS hj)) rfl rfl rfl (c_Tr_clear hG (trS hj)) ?_
    refine x_aload_n d_Ha_clearAwayIfEmpty_18 rfl ?_
    refine x_iconst (v := nI 0) d_Ha_clearAwayIfEmpty_19 (by decide +kernel) ?_
    refine y_puti d_Ha_clearAwayIfEmpty_20 pf_Ha_267 (k_sheet hj) (xBle rfl) (by decide +kernel) rfl rfl ?_
    refine x_return d_Ha_clearAwayIfEmpty_23 rfl ?_
    have hz : cI (fstN (trWaits S (72 + 15 * j)) n) = -1 ↔ _ := cI_m1 (fun q hq => by have := (fstN_spec hq).1; omega)
    unfold haClr
    first
      | (rw [if_neg (fun q => hc8 (hz.mpr q))]; exact ⟨rfl, rfl⟩)
      | (rw [if_pos (hz.mp hc8)]; exact ⟨rfl, rfl⟩)
      | (rw [if_pos (hz.mp (Classical.not_not.mp hc8))]; exact ⟨rfl, rfl⟩)
/-! sums over the sheets -/
def haUn (S : xS) (tn : Nat → Nat) : Nat → Int64
  | 0 => 0
  | j + 1 => if thB S j = true ∧ tn j = 0 then haUn S tn j + glSurf S (67 + 15 * j) else haUn S tn j
def haWa (S : xS) (tn : Nat → Nat) : Nat → Int64
  | 0 => 0
  | j + 1 => haWa S tn j + trWait S (72 + 15 * j) (tn j)
def haCo (S : xS) (tn : Nat → Nat) (p : Bool) : Nat → Nat
  | 0 => 0
  | j + 1 => if thB S j = true ∧ (p = true → 0 < tn j) then haCo S tn p j + 1 else haCo S tn p j
theorem thB_f {S : xS} {j : Nat} (h : sF S (66 + 15 * j) 2 = 0) : thB S j = false := by simp [thB, h]
theorem thB_t {S : xS} {j : Nat} (h : ¬ sF S (66 + 15 * j) 2 = 0) : thB S j = true := by simp [thB, h]
theorem haCo_le {S : xS} {tn : Nat → Nat} {p : Bool} : ∀ j, haCo S tn p j ≤ j
  | 0 => Nat.le_refl _
  | j + 1 => by
    have := haCo_le (S := S) (tn := tn) (p := p) j
    simp only [haCo]
    split <;> omega
set_option maxRecDepth 100000 in
set_option maxHeartbeats 1000000 in
theorem c_Ha_unplannedArea {G : xG} {B d : Nat} {S : xS} (hG : xOkG G) (hsl : slOk S B) {tn : Nat → Nat} (htn : ∀ j, j < 8 → sF S (72 + 15 * j) 8 = nI (tn j) ∧ tn j ≤ 145) : EX G m_Ha_unplannedArea (d + 1) 0 [(0, .ref (B + 0))] [] (mk G B S) ((xRet G B (some (.long (haUn S tn 8))) S)) := by
  refine x_lconst (v := 0) d_Ha_unplannedArea_0 (by decide +kernel) ?_
  refine s_lstore_n (lv' := [(0, _), (1, _)]) d_Ha_unplannedArea_1 (by decide) rfl ?_
  refine x_aload_n d_Ha_unplannedArea_2 rfl ?_
  refine y_getf d_Ha_unplannedArea_3 gf_Ha_11 k_hall rfl ?_
  refine s_astore_n (lv' := [(0, _), (1, _), (3, _)]) d_Ha_unplannedArea_6 (by decide) rfl ?_
  refine x_aload_n d_Ha_unplannedArea_7 rfl ?_
  refine y_alenR hG d_Ha_unplannedArea_8 k_slots rfl ?_
  refine s_istore (lv' := [(0, _), (1, _), (3, _), (4, _)]) d_Ha_unplannedArea_9 (by decide) rfl ?_
  refine x_iconst (v := nI 0) d_Ha_unplannedArea_11 (by decide +kernel) ?_
  refine s_istore (lv' := [(0, _), (1, _), (3, _), (4, _), (5, _)]) d_Ha_unplannedArea_12 (by decide) rfl ?_
  have L14 : ∀ i, i ≤ 8 →  EX G m_Ha_unplannedArea (d + 1) 14 [(0, .ref (B + 0)), (1, .long (haUn S tn i)), (3, .ref (B + 1)), (4, .int (nI 8)), (5, .int (nI i))] [] (mk G B S) (xRet G B (some (.long (haUn S tn 8))) S) := by
    refine x_down (8) ?_ ?_
    · skip
      skip
      refine x_iload d_Ha_unplannedArea_14 rfl ?_
      refine x_iload d_Ha_unplannedArea_16 rfl ?_
      refine z_icmp_ge 63 d_Ha_unplannedArea_18 rfl (by omega) (by omega) (fun hc18 => ?_) (fun q => absurd q (by omega))
      refine x_lload_n d_Ha_unplannedArea_63 rfl ?_
      refine x_lreturn d_Ha_unplannedArea_64 rfl ?_
      exact ⟨rfl, rfl⟩
    · intro i hi ih
      refine x_iload d_Ha_unplannedArea_14 rfl ?_
      refine x_iload d_Ha_unplannedArea_16 rfl ?_
      refine z_icmp_ge 63 d_Ha_unplannedArea_18 rfl (by omega) (by omega) (fun q => absurd q (by omega)) (fun hc18 => ?_)
      refine x_aload_n d_Ha_unplannedArea_21 rfl ?_
      refine x_iload d_Ha_unplannedArea_22 rfl ?_
      refine y_aald hG d_Ha_unplannedArea_24 k_slots rfl _ rfl (by omega) ?_
      rw [hsl i hi]
      refine s_astore (lv' := [(0, _), (1, _), (3, _), (4, _), (5, _), (6, _)]) d_Ha_unplannedArea_25 (by decide) rfl ?_
      refine x_aload d_Ha_unplannedArea_27 rfl ?_
      refine y_getf d_Ha_unplannedArea_29 gf_Ha_267 (k_sheet hi) rfl ?_
      refine x_if_eq 57 d_Ha_unplannedArea_32 rfl (fun hc32 => ?_) (fun hc32 => ?_)
      · skip
        simp only [haUn, thB_f hc32, false_and, if_false, Bool.false_eq_true] at ih
        refine s_iinc (lv' := [(0, _), (1, _), (3, _), (4, _), (5, _), (6, _)]) d_Ha_unplannedArea_57 rfl (xinc _) (by decide) rfl ?_
        refine x_goto 14 d_Ha_unplannedArea_60 rfl ?_
        refine x_lv (lv' := [(0, _), (1, _), (3, _), (4, _), (5, _)]) [0, 1, 3, 4, 5] rfl ?_
        exact ih
      · skip
        skip
        refine x_aload d_Ha_unplannedArea_35 rfl ?_
        refine y_getf d_Ha_unplannedArea_37 gf_Ha_104 (k_sheet hi) rfl ?_
        refine w_callV (As := []) d_Ha_unplannedArea_40 k_Ha_108 (k_tree (trS hi)) rfl rfl rfl (c_Tr_isGrown hG (trS hi) (htn i hi).1 (htn i hi).2) ?_
        refine z_bif_ne 57 d_Ha_unplannedArea_43 rfl (fun hc43 => ?_) (fun hc43 => ?_)
        · skip
          have q0 : ¬ tn i = 0 := by simpa [Nat.pos_iff_ne_zero] using hc43
          simp only [haUn, q0, and_false, if_false] at ih
          refine s_iinc (lv' := [(0, _), (1, _), (3, _), (4, _), (5, _), (6, _)]) d_Ha_unplannedArea_57 rfl (xinc _) (by decide) rfl ?_
          refine x_goto 14 d_Ha_unplannedArea_60 rfl ?_
          refine x_lv (lv' := [(0, _), (1, _), (3, _), (4, _), (5, _)]) [0, 1, 3, 4, 5] rfl ?_
          exact ih
        · skip
          have q0 : tn i = 0 := by simpa using hc43
          simp only [haUn, thB_t hc32, q0, and_self, if_true] at ih
          refine x_lload_n d_Ha_unplannedArea_46 rfl ?_
          refine x_aload d_Ha_unplannedArea_47 rfl ?_
          refine y_getf d_Ha_unplannedArea_49 gf_Ha_67 (k_sheet hi) rfl ?_
          refine w_callV (As := []) d_Ha_unplannedArea_52 k_Ha_81 (k_glass (glS hi)) rfl rfl rfl (c_Gl_surface hG (glS hi)) ?_
          refine x_ladd d_Ha_unplannedArea_55 ?_
          refine s_lstore_n (lv' := [(0, _), (1, _), (3, _), (4, _), (5, _), (6, _)]) d_Ha_unplannedArea_56 (by decide) rfl ?_
          refine s_iinc (lv' := [(0, _), (1, _), (3, _), (4, _), (5, _), (6, _)]) d_Ha_unplannedArea_57 rfl (xinc _) (by decide) rfl ?_
          refine x_goto 14 d_Ha_unplannedArea_60 rfl ?_
          refine x_lv (lv' := [(0, _), (1, _), (3, _), (4, _), (5, _)]) [0, 1, 3, 4, 5] rfl ?_
          exact ih
  refine x_lv (lv' := [(0, _), (1, _), (3, _), (4, _), (5, _)]) [0, 1, 3, 4, 5] rfl ?_
  exact L14 0 (Nat.zero_le _)
set_option maxRecDepth 100000 in
set_option maxHeartbeats 1000000 in
theorem c_Ha_waitingArea {G : xG} {B d : Nat} {S : xS} (hG : xOkG G) (hsl : slOk S B) {tn : Nat → Nat} (htn : ∀ j, j < 8 → sF S (72 + 15 * j) 8 = nI (tn j) ∧ tn j ≤ 145) : EX G m_Ha_waitingArea (d + 2) 0 [(0, .ref (B + 0))] [] (mk G B S) ((xRet G B (some (.long (haWa S tn 8))) S)) := by
  refine x_lconst (v := 0) d_Ha_waitingArea_0 (by decide +kernel) ?_
  refine s_lstore_n (lv' := [(0, _), (1, _)]) d_Ha_waitingArea_1 (by decide) rfl ?_
  refine x_aload_n d_Ha_waitingArea_2 rfl ?_
  refine y_getf d_Ha_waitingArea_3 gf_Ha_11 k_hall rfl ?_
  refine s_astore_n (lv' := [(0, _), (1, _), (3, _)]) d_Ha_waitingArea_6 (by decide) rfl ?_
  refine x_aload_n d_Ha_waitingArea_7 rfl ?_
  refine y_alenR hG d_Ha_waitingArea_8 k_slots rfl ?_
  refine s_istore (lv' := [(0, _), (1, _), (3, _), (4, _)]) d_Ha_waitingArea_9 (by decide) rfl ?_
  refine x_iconst (v := nI 0) d_Ha_waitingArea_11 (by decide +kernel) ?_
  refine s_istore (lv' := [(0, _), (1, _), (3, _), (4, _), (5, _)]) d_Ha_waitingArea_12 (by decide) rfl ?_
  have L14 : ∀ i, i ≤ 8 →  EX G m_Ha_waitingArea (d + 2) 14 [(0, .ref (B + 0)), (1, .long (haWa S tn i)), (3, .ref (B + 1)), (4, .int (nI 8)), (5, .int (nI i))] [] (mk G B S) (xRet G B (some (.long (haWa S tn 8))) S) := by
    refine x_down (8) ?_ ?_
    · skip
      skip
      refine x_iload d_Ha_waitingArea_14 rfl ?_
      refine x_iload d_Ha_waitingArea_16 rfl ?_
      refine z_icmp_ge 44 d_Ha_waitingArea_18 rfl (by omega) (by omega) (fun hc18 => ?_) (fun q => absurd q (by omega))
      refine x_lload_n d_Ha_waitingArea_44 rfl ?_
      refine x_lreturn d_Ha_waitingArea_45 rfl ?_
      exact ⟨rfl, rfl⟩
    · intro i hi ih
      refine x_iload d_Ha_waitingArea_14 rfl ?_
      refine x_iload d_Ha_waitingArea_16 rfl ?_
      refine z_icmp_ge 44 d_Ha_waitingArea_18 rfl (by omega) (by omega) (fun q => absurd q (by omega)) (fun hc18 => ?_)
      refine x_aload_n d_Ha_waitingArea_21 rfl ?_
      refine x_iload d_Ha_waitingArea_22 rfl ?_
      refine y_aald hG d_Ha_waitingArea_24 k_slots rfl _ rfl (by omega) ?_
      rw [hsl i hi]
      refine s_astore (lv' := [(0, _), (1, _), (3, _), (4, _), (5, _), (6, _)]) d_Ha_waitingArea_25 (by decide) rfl ?_
      refine x_lload_n d_Ha_waitingArea_27 rfl ?_
      refine x_aload d_Ha_waitingArea_28 rfl ?_
      refine y_getf d_Ha_waitingArea_30 gf_Ha_104 (k_sheet hi) rfl ?_
      refine w_callV (As := []) d_Ha_waitingArea_33 k_Ha_322 (k_tree (trS hi)) rfl rfl rfl (c_Tr_waitingSurface hG (trS hi) (htn i hi).1 (htn i hi).2) ?_
      refine x_ladd d_Ha_waitingArea_36 ?_
      refine s_lstore_n (lv' := [(0, _), (1, _), (3, _), (4, _), (5, _), (6, _)]) d_Ha_waitingArea_37 (by decide) rfl ?_
      refine s_iinc (lv' := [(0, _), (1, _), (3, _), (4, _), (5, _), (6, _)]) d_Ha_waitingArea_38 rfl (xinc _) (by decide) rfl ?_
      refine x_goto 14 d_Ha_waitingArea_41 rfl ?_
      refine x_lv (lv' := [(0, _), (1, _), (3, _), (4, _), (5, _)]) [0, 1, 3, 4, 5] rfl ?_
      exact ih
  refine x_lv (lv' := [(0, _), (1, _), (3, _), (4, _), (5, _)]) [0, 1, 3, 4, 5] rfl ?_
  exact L14 0 (Nat.zero_le _)
set_option maxRecDepth 100000 in
set_option maxHeartbeats 1000000 in
theorem c_Ha_countSheets {G : xG} {B d : Nat} {S : xS} (hG : xOkG G) (hsl : slOk S B) {p : Bool} {tn : Nat → Nat} (htn : ∀ j, j < 8 → sF S (72 + 15 * j) 8 = nI (tn j) ∧ tn j ≤ 145) : EX G m_Ha_countSheets (d + 1) 0 [(0, .ref (B + 0)), (1, .int (bI p))] [] (mk G B S) ((xRet G B (some (.int (nI (haCo S tn p 8)))) S)) := by
  refine x_iconst (v := nI 0) d_Ha_countSheets_0 (by decide +kernel) ?_
  refine s_istore_n (lv' := [(0, _), (1, _), (2, _)]) d_Ha_countSheets_1 (by decide) rfl ?_
  refine x_aload_n d_Ha_countSheets_2 rfl ?_
  refine y_getf d_Ha_countSheets_3 gf_Ha_11 k_hall rfl ?_
  refine s_astore_n (lv' := [(0, _), (1, _), (2, _), (3, _)]) d_Ha_countSheets_6 (by decide) rfl ?_
  refine x_aload_n d_Ha_countSheets_7 rfl ?_
  refine y_alenR hG d_Ha_countSheets_8 k_slots rfl ?_
  refine s_istore (lv' := [(0, _), (1, _), (2, _), (3, _), (4, _)]) d_Ha_countSheets_9 (by decide) rfl ?_
  refine x_iconst (v := nI 0) d_Ha_countSheets_11 (by decide +kernel) ?_
  refine s_istore (lv' := [(0, _), (1, _), (2, _), (3, _), (4, _), (5, _)]) d_Ha_countSheets_12 (by decide) rfl ?_
  have L14 : ∀ i, i ≤ 8 →  EX G m_Ha_countSheets (d + 1) 14 [(0, .ref (B + 0)), (1, .int (bI p)), (2, .int (nI (haCo S tn p i))), (3, .ref (B + 1)), (4, .int (nI 8)), (5, .int (nI i))] [] (mk G B S) (xRet G B (some (.int (nI (haCo S tn p 8)))) S) := by
    refine x_down (8) ?_ ?_
    · skip
      skip
      refine x_iload d_Ha_countSheets_14 rfl ?_
      refine x_iload d_Ha_countSheets_16 rfl ?_
      refine z_icmp_ge 59 d_Ha_countSheets_18 rfl (by omega) (by omega) (fun hc18 => ?_) (fun q => absurd q (by omega))
      refine x_iload_n d_Ha_countSheets_59 rfl ?_
      refine x_ireturn d_Ha_countSheets_60 rfl rfl ?_
      exact ⟨rfl, rfl⟩
    · intro i hi ih
      refine x_iload d_Ha_countSheets_14 rfl ?_
      refine x_iload d_Ha_countSheets_16 rfl ?_
      refine z_icmp_ge 59 d_Ha_countSheets_18 rfl (by omega) (by omega) (fun q => absurd q (by omega)) (fun hc18 => ?_)
      refine x_aload_n d_Ha_countSheets_21 rfl ?_
      refine x_iload d_Ha_countSheets_22 rfl ?_
      refine y_aald hG d_Ha_countSheets_24 k_slots rfl _ rfl (by omega) ?_
      rw [hsl i hi]
      refine s_astore (lv' := [(0, _), (1, _), (2, _), (3, _), (4, _), (5, _), (6, _)]) d_Ha_countSheets_25 (by decide) rfl ?_
      refine x_aload d_Ha_countSheets_27 rfl ?_
      refine y_getf d_Ha_countSheets_29 gf_Ha_267 (k_sheet hi) rfl ?_
      refine x_if_eq 53 d_Ha_countSheets_32 rfl (fun hc32 => ?_) (fun hc32 => ?_)
      · skip
        rw [show haCo S tn p (i + 1) = haCo S tn p i from if_neg (fun h => by rw [thB_f hc32] at h; cases h.1)] at ih
        refine s_iinc (lv' := [(0, _), (1, _), (2, _), (3, _), (4, _), (5, _), (6, _)]) d_Ha_countSheets_53 rfl (xinc _) (by decide) rfl ?_
        refine x_goto 14 d_Ha_countSheets_56 rfl ?_
        refine x_lv (lv' := [(0, _), (1, _), (2, _), (3, _), (4, _), (5, _)]) [0, 1, 2, 3, 4, 5] rfl ?_
        exact ih
      · skip
        skip
        refine x_iload_n d_Ha_countSheets_35 rfl ?_
        refine z_bif_eq 50 d_Ha_countSheets_36 rfl (fun hc36 => ?_) (fun hc36 => ?_)
        · skip
          rw [show haCo S tn p (i + 1) = haCo S tn p i + 1 from if_pos ⟨thB_t hc32, fun h => absurd h (by rw [hc36]; decide)⟩] at ih
          refine s_iinc (lv' := [(0, _), (1, _), (2, _), (3, _), (4, _), (5, _), (6, _)]) d_Ha_countSheets_50 rfl (xinc _) (by decide) rfl ?_
          refine s_iinc (lv' := [(0, _), (1, _), (2, _), (3, _), (4, _), (5, _), (6, _)]) d_Ha_countSheets_53 rfl (xinc _) (by decide) rfl ?_
          refine x_goto 14 d_Ha_countSheets_56 rfl ?_
          refine x_lv (lv' := [(0, _), (1, _), (2, _), (3, _), (4, _), (5, _)]) [0, 1, 2, 3, 4, 5] rfl ?_
          exact ih
        · skip
          skip
          refine x_aload d_Ha_countSheets_39 rfl ?_
          refine y_getf d_Ha_countSheets_41 gf_Ha_104 (k_sheet hi) rfl ?_
          refine w_callV (As := []) d_Ha_countSheets_44 k_Ha_108 (k_tree (trS hi)) rfl rfl rfl (c_Tr_isGrown hG (trS hi) (htn i hi).1 (htn i hi).2) ?_
          refine z_bif_eq 53 d_Ha_countSheets_47 rfl (fun hc47 => ?_) (fun hc47 => ?_)
          · skip
            have q0 : tn i = 0 := by simpa using hc47
            rw [show haCo S tn p (i + 1) = haCo S tn p i from if_neg (fun h => by have := h.2 hc36; omega)] at ih
            refine s_iinc (lv' := [(0, _), (1, _), (2, _), (3, _), (4, _), (5, _), (6, _)]) d_Ha_countSheets_53 rfl (xinc _) (by decide) rfl ?_
            refine x_goto 14 d_Ha_countSheets_56 rfl ?_
            refine x_lv (lv' := [(0, _), (1, _), (2, _), (3, _), (4, _), (5, _)]) [0, 1, 2, 3, 4, 5] rfl ?_
            exact ih
          · skip
            have q0 : 0 < tn i := by simpa using hc47
            rw [show haCo S tn p (i + 1) = haCo S tn p i + 1 from if_pos ⟨thB_t hc32, fun _ => q0⟩] at ih
            refine s_iinc (lv' := [(0, _), (1, _), (2, _), (3, _), (4, _), (5, _), (6, _)]) d_Ha_countSheets_50 rfl (xinc _) (by decide) rfl ?_
            refine s_iinc (lv' := [(0, _), (1, _), (2, _), (3, _), (4, _), (5, _), (6, _)]) d_Ha_countSheets_53 rfl (xinc _) (by decide) rfl ?_
            refine x_goto 14 d_Ha_countSheets_56 rfl ?_
            refine x_lv (lv' := [(0, _), (1, _), (2, _), (3, _), (4, _), (5, _)]) [0, 1, 2, 3, 4, 5] rfl ?_
            exact ih
  refine x_lv (lv' := [(0, _), (1, _), (2, _), (3, _), (4, _), (5, _)]) [0, 1, 2, 3, 4, 5] rfl ?_
  exact L14 0 (Nat.zero_le _)
/-! what comes off: a pane is done, a rest goes to the rack or to waste -/
def haBig (S : xS) (j i : Nat) : Bool := decide (nI 300 ≤ sA S (72 + 15 * j + 4) i) && decide (nI 300 ≤ sA S (72 + 15 * j + 5) i)
def haAway (S : xS) (g : Nat → Nat) (R j m i : Nat) : xS := if haBig S j i = true ∧ R < 10 then rkAdd S g R (67 + 15 * j) m (sA S (72 + 15 * j + 2) i) (sA S (72 + 15 * j + 3) i) (sA S (72 + 15 * j + 4) i) (sA S (72 + 15 * j + 5) i) else uJ S 0 9 (sJ S 0 9 + trSurf S (72 + 15 * j) i)
def haSt (S : xS) (j i : Nat) : xS := uA S (72 + 15 * j + 8) i (if trCut S (72 + 15 * j) i = true then nI 1 else nI 2)
def haDone (S : xS) (oa : Nat → Nat) (D : Nat → Nat → Int32) (j i : Nat) : xS := uJ (bkMove S (oa (sA S (72 + 15 * j + 6) i).toNatClampNeg) (D (sA S (72 + 15 * j + 6) i).toNatClampNeg) 4 5) 0 8 (sJ S 0 8 + trSurf S (72 + 15 * j) i)
def haLet (S : xS) (oa : Nat → Nat) (D : Nat → Nat → Int32) (g : Nat → Nat) (R j m i : Nat) : xS :=
  if sA S (72 + 15 * j + 1) i = nI 2 then haDone (haSt S j i) oa D j i else if sA S (72 + 15 * j + 1) i = nI 3 then haAway (haSt S j i) g R j m i else haSt S j i
def rkIn (g : Nat → Nat) : Prop := ∀ k, k < 10 → g k + 5 ≤ 57
set_option maxRecDepth 100000 in
set_option maxHeartbeats 1000000 in
theorem c_Ha_putAway {G : xG} {B d : Nat} {S : xS} (hG : xOkG G) {j i : Nat} (hj : j < 8) (hi : i < 145) {R : Nat} (hR : sF S 5 1 = nI R) (hR10 : R ≤ 10) {g : Nat → Nat} (hrk : rkOk S B g) (hgi : rkIn g) {m : Nat} (hm : sF S (67 + 15 * j) 6 = nI m) (hm6 : m ≤ 6) : EX G m_Ha_putAway (d + 3) 0 [(0, .ref (B + 0)), (1, .ref (B + (66 + 15 * j))), (2, .int (nI i))] [] (mk G B S) (xRet G B none (haAway S g R j m i)) := by
  refine x_aload_n d_Ha_putAway_0 rfl ?_
  refine y_getf d_Ha_putAway_1 gf_Ha_104 (k_sheet hj) rfl ?_
  refine s_astore_n (lv' := [(0, _), (1, _), (2, _), (3, _)]) d_Ha_putAway_4 (by decide) rfl ?_
  refine x_join 34 (.int (bI (haBig S j i))) ?_ (fun J5 => ?_)
  · skip
    refine s_istore (lv' := [(0, _), (1, _), (2, _), (3, _), (4, _)]) d_Ha_putAway_34 (by decide) rfl ?_
    refine x_iload d_Ha_putAway_36 rfl ?_
    refine z_bif_eq 91 d_Ha_putAway_38 rfl (fun hc38 => ?_) (fun hc38 => ?_)
    · skip
      skip
      refine x_aload_n d_Ha_putAway_91 rfl ?_
      refine x_dup d_Ha_putAway_92 rfl ?_
      refine y_getf d_Ha_putAway_93 gf_Ha_253 k_hall rfl ?_
      refine x_aload_n d_Ha_putAway_96 rfl ?_
      refine x_iload_n d_Ha_putAway_97 rfl ?_
      refine w_callV (As := [_]) d_Ha_putAway_98 k_Ha_193 (k_tree (trS hj)) rfl rfl rfl (c_Tr_surface hG (trS hj) hi) ?_
      refine x_ladd d_Ha_putAway_101 ?_
      refine y_putl d_Ha_putAway_102 pf_Ha_253 k_hall (xBle rfl) rfl ?_
      refine x_return d_Ha_putAway_105 rfl ?_
      unfold haAway
      first
        | (rw [if_pos ⟨hc38, hc50⟩]; exact ⟨rfl, rfl⟩)
        | (rw [if_neg (fun q => absurd q.2 (Nat.not_lt.mpr hc50))]; exact ⟨rfl, rfl⟩)
        | (rw [if_neg (fun q => Bool.noConfusion (hc38.symm.trans q.1))]; exact ⟨rfl, rfl⟩)
    · skip
      skip
      refine x_aload_n d_Ha_putAway_41 rfl ?_
      refine y_getf d_Ha_putAway_42 gf_Ha_25 k_hall rfl ?_
      refine y_getf (v := .int (nI R)) d_Ha_putAway_45 gf_Ha_263 k_rack (congrArg (fun q => some (Value.int q)) hR) ?_
      refine x_bipush (v := nI 10) d_Ha_putAway_48 (by decide +kernel) ?_
      refine z_icmp_ge 91 d_Ha_putAway_50 rfl (by omega) (by omega) (fun hc50 => ?_) (fun hc50 => ?_)
      · skip
        skip
        refine x_aload_n d_Ha_putAway_91 rfl ?_
        refine x_dup d_Ha_putAway_92 rfl ?_
        refine y_getf d_Ha_putAway_93 gf_Ha_253 k_hall rfl ?_
        refine x_aload_n d_Ha_putAway_96 rfl ?_
        refine x_iload_n d_Ha_putAway_97 rfl ?_
        refine w_callV (As := [_]) d_Ha_putAway_98 k_Ha_193 (k_tree (trS hj)) rfl rfl rfl (c_Tr_surface hG (trS hj) hi) ?_
        refine x_ladd d_Ha_putAway_101 ?_
        refine y_putl d_Ha_putAway_102 pf_Ha_253 k_hall (xBle rfl) rfl ?_
        refine x_return d_Ha_putAway_105 rfl ?_
        unfold haAway
        first
          | (rw [if_pos ⟨hc38, hc50⟩]; exact ⟨rfl, rfl⟩)
          | (rw [if_neg (fun q => absurd q.2 (Nat.not_lt.mpr hc50))]; exact ⟨rfl, rfl⟩)
          | (rw [if_neg (fun q => Bool.noConfusion (hc38.symm.trans q.1))]; exact ⟨rfl, rfl⟩)
      · skip
        skip
        refine x_aload_n d_Ha_putAway_53 rfl ?_
        refine y_getf d_Ha_putAway_54 gf_Ha_25 k_hall rfl ?_
        refine x_aload_n d_Ha_putAway_57 rfl ?_
        refine y_getf d_Ha_putAway_58 gf_Ha_67 (k_sheet hj) rfl ?_
        refine x_aload_n d_Ha_putAway_61 rfl ?_
        refine y_getf d_Ha_putAway_62 gf_Ha_306 (k_tree (trS hj)) rfl ?_
        refine x_iload_n d_Ha_putAway_65 rfl ?_
        refine y_iald hG d_Ha_putAway_66 (k_trA2 (trS hj)) _ rfl (by omega) ?_
        refine x_aload_n d_Ha_putAway_67 rfl ?_
        refine y_getf d_Ha_putAway_68 gf_Ha_309 (k_tree (trS hj)) rfl ?_
        refine x_iload_n d_Ha_putAway_71 rfl ?_
        refine y_iald hG d_Ha_putAway_72 (k_trA3 (trS hj)) _ rfl (by omega) ?_
        refine x_aload_n d_Ha_putAway_73 rfl ?_
        refine y_getf d_Ha_putAway_74 gf_Ha_302 (k_tree (trS hj)) rfl ?_
        refine x_iload_n d_Ha_putAway_77 rfl ?_
        refine y_iald hG d_Ha_putAway_78 (k_trA4 (trS hj)) _ rfl (by omega) ?_
        refine x_aload_n d_Ha_putAway_79 rfl ?_
        refine y_getf d_Ha_putAway_80 gf_Ha_304 (k_tree (trS hj)) rfl ?_
        refine x_iload_n d_Ha_putAway_83 rfl ?_
        refine y_iald hG d_Ha_putAway_84 (k_trA5 (trS hj)) _ rfl (by omega) ?_
        refine w_callV (As := [_, _, _, _, _]) d_Ha_putAway_85 k_Ha_312 k_rack rfl rfl rfl (c_Rk_addPart hG hR (by omega) hrk (glS hj) (Or.inr (by have := hgi R (by omega); omega)) hm hm6) ?_
        refine x_goto 105 d_Ha_putAway_88 rfl ?_
        refine x_return d_Ha_putAway_105 rfl ?_
        unfold haAway
        first
          | (rw [if_pos ⟨hc38, hc50⟩]; exact ⟨rfl, rfl⟩)
          | (rw [if_neg (fun q => absurd q.2 (Nat.not_lt.mpr hc50))]; exact ⟨rfl, rfl⟩)
          | (rw [if_neg (fun q => Bool.noConfusion (hc38.symm.trans q.1))]; exact ⟨rfl, rfl⟩)
  · skip
    refine x_aload_n d_Ha_putAway_5 rfl ?_
    refine y_getf d_Ha_putAway_6 gf_Ha_302 (k_tree (trS hj)) rfl ?_
    refine x_iload_n d_Ha_putAway_9 rfl ?_
    refine y_iald hG d_Ha_putAway_10 (k_trA4 (trS hj)) _ rfl (by omega) ?_
    refine x_sipush (v := nI 300) d_Ha_putAway_11 (by decide +kernel) ?_
    refine x_icmp_lt 33 d_Ha_putAway_14 rfl (fun hc14 => ?_) (fun hc14 => ?_)
    · skip
      skip
      refine x_iconst (v := nI 0) d_Ha_putAway_33 (by decide +kernel) ?_
      refine J5 _ ?_
      unfold haBig
      first
        | (rw [decide_eq_false (Int32.not_le.mpr hc14), Bool.false_and]; rfl)
        | (rw [decide_eq_false (Int32.not_le.mpr hc26), Bool.and_false]; rfl)
        | (rw [decide_eq_true (Int32.not_lt.mp hc14), decide_eq_true (Int32.not_lt.mp hc26)]; rfl)
    · skip
      skip
      refine x_aload_n d_Ha_putAway_17 rfl ?_
      refine y_getf d_Ha_putAway_18 gf_Ha_304 (k_tree (trS hj)) rfl ?_
      refine x_iload_n d_Ha_putAway_21 rfl ?_
      refine y_iald hG d_Ha_putAway_22 (k_trA5 (trS hj)) _ rfl (by omega) ?_
      refine x_sipush (v := nI 300) d_Ha_putAway_23 (by decide +kernel) ?_
      refine x_icmp_lt 33 d_Ha_putAway_26 rfl (fun hc26 => ?_) (fun hc26 => ?_)
      · skip
        skip
        refine x_iconst (v := nI 0) d_Ha_putAway_33 (by decide +kernel) ?_
        refine J5 _ ?_
        unfold haBig
        first
          | (rw [decide_eq_false (Int32.not_le.mpr hc14), Bool.false_and]; rfl)
          | (rw [decide_eq_false (Int32.not_le.mpr hc26), Bool.and_false]; rfl)
          | (rw [decide_eq_true (Int32.not_lt.mp hc14), decide_eq_true (Int32.not_lt.mp hc26)]; rfl)
      · skip
        skip
        refine x_iconst (v := nI 1) d_Ha_putAway_29 (by decide +kernel) ?_
        refine x_goto 34 d_Ha_putAway_30 rfl ?_
        refine J5 _ ?_
        unfold haBig
        first
          | (rw [decide_eq_false (Int32.not_le.mpr hc14), Bool.false_and]; rfl)
          | (rw [decide_eq_false (Int32.not_le.mpr hc26), Bool.and_false]; rfl)
          | (rw [decide_eq_true (Int32.not_lt.mp hc14), decide_eq_true (Int32.not_lt.mp hc26)]; rfl)
theorem haSt_A {S : xS} {j i t : Nat} (ht : t ≠ 72 + 15 * j + 8) : sA (haSt S j i) t = sA S t := sA_uAn _ _ _ ht
set_option maxRecDepth 100000 in
set_option maxHeartbeats 1000000 in
theorem c_Ha_letWaitN {G : xG} {B d : Nat} {S : xS} (hG : xOkG G) {j n : Nat} {i : Int32} (hj : j < 8) (hn : sF S (72 + 15 * j) 8 = nI n) (h145 : n ≤ 145) (hi : inB n i = false) : EX G m_Ha_letWait (d + 1) 0 [(0, .ref (B + 0)), (1, .ref (B + (66 + 15 * j))), (2, .int i)] [] (mk G B S) (xRet G B none S) := by
  refine x_aload_n d_Ha_letWait_0 rfl ?_
  refine y_getf d_Ha_letWait_1 gf_Ha_104 (k_sheet hj) rfl ?_
  refine s_astore_n (lv' := [(0, _), (1, _), (2, _), (3, _)]) d_Ha_letWait_4 (by decide) rfl ?_
  refine x_aload_n d_Ha_letWait_5 rfl ?_
  refine x_iload_n d_Ha_letWait_6 rfl ?_
  refine w_callV (As := [_]) d_Ha_letWait_7 k_Ha_157 (k_tree (trS hj)) rfl rfl rfl (c_Tr_has hG (trS hj) hn h145) ?_
  refine z_bif_ne 14 d_Ha_letWait_10 rfl (fun q => absurd q (by rw [show (decide (0 ≤ i) && decide (i < nI n)) = false from hi]; decide)) (fun hc10 => ?_)
  refine x_return d_Ha_letWait_13 rfl ?_
  exact ⟨rfl, rfl⟩
set_option maxRecDepth 100000 in
set_option maxHeartbeats 1000000 in
theorem c_Ha_letWait {G : xG} {B d : Nat} {S : xS} (hG : xOkG G) {j n i : Nat} (hj : j < 8) (hn : sF S (72 + 15 * j) 8 = nI n) (h145 : n ≤ 145) (hi : i < n) {R : Nat} (hR : sF S 5 1 = nI R) (hR10 : R ≤ 10) {g : Nat → Nat} (hrk : rkOk S B g) (hgi : rkIn g) {m : Nat} (hm : sF S (67 + 15 * j) 6 = nI m) (hm6 : m ≤ 6) {N : Nat} (hN : sF S 2 2 = nI N) (hN6 : N ≤ 6) {oa : Nat → Nat} {D : Nat → Nat → Int32} (ho : bkOk S B N oa D) (hmk : sA S (72 + 15 * j + 1) i = nI 2 → ∃ x, x < N ∧ sA S (72 + 15 * j + 6) i = nI x) : EX G m_Ha_letWait (d + 4) 0 [(0, .ref (B + 0)), (1, .ref (B + (66 + 15 * j))), (2, .int (nI i))] [] (mk G B S) (xRet G B none (haLet S oa D g R j m i)) := by
  refine x_aload_n d_Ha_letWait_0 rfl ?_
  refine y_getf d_Ha_letWait_1 gf_Ha_104 (k_sheet hj) rfl ?_
  refine s_astore_n (lv' := [(0, _), (1, _), (2, _), (3, _)]) d_Ha_letWait_4 (by decide) rfl ?_
  refine x_aload_n d_Ha_letWait_5 rfl ?_
  refine x_iload_n d_Ha_letWait_6 rfl ?_
  refine w_callV (As := [_]) d_Ha_letWait_7 k_Ha_157 (k_tree (trS hj)) rfl rfl rfl (c_Tr_has hG (trS hj) hn h145) ?_
  rw [hasN (by omega) (by omega)]
  refine z_bif_ne 14 d_Ha_letWait_10 rfl (fun hc10 => ?_) (fun q => absurd q (by simp [hi]))
  refine x_aload_n d_Ha_letWait_14 rfl ?_
  refine y_getf d_Ha_letWait_15 gf_Ha_175 (k_tree (trS hj)) rfl ?_
  refine x_iload_n d_Ha_letWait_18 rfl ?_
  refine x_join 32 (.int (if trCut S (72 + 15 * j) i = true then nI 1 else nI 2)) ?_ (fun J19 => ?_)
  · skip
    refine y_iast hG d_Ha_letWait_32 (k_trA8 (trS hj)) _ rfl (by omega) ?_
    refine x_aload_n d_Ha_letWait_33 rfl ?_
    refine y_getf d_Ha_letWait_34 gf_Ha_290 (k_tree (trS hj)) rfl ?_
    refine x_iload_n d_Ha_letWait_37 rfl ?_
    refine y_iald hG d_Ha_letWait_38 (k_trA1 (trS hj)) _ rfl (by omega) ?_
    rw [show sA (uA S (72 + 15 * j + 8) i (if trCut S (72 + 15 * j) i = true then nI 1 else nI 2)) (72 + 15 * j + 1) = sA S (72 + 15 * j + 1) from haSt_A (by omega)]
    refine x_iconst (v := nI 2) d_Ha_letWait_39 (by decide +kernel) ?_
    refine x_icmp_ne 73 d_Ha_letWait_40 rfl (fun hc40 => ?_) (fun hc40 => ?_)
    · skip
      skip
      refine x_aload_n d_Ha_letWait_73 rfl ?_
      refine y_getf d_Ha_letWait_74 gf_Ha_290 (k_tree (trS hj)) rfl ?_
      refine x_iload_n d_Ha_letWait_77 rfl ?_
      refine y_iald hG d_Ha_letWait_78 (k_trA1 (trS hj)) _ rfl (by omega) ?_
      rw [show sA (uA S (72 + 15 * j + 8) i (if trCut S (72 + 15 * j) i = true then nI 1 else nI 2)) (72 + 15 * j + 1) = sA S (72 + 15 * j + 1) from haSt_A (by omega)]
      refine x_iconst (v := nI 3) d_Ha_letWait_79 (by decide +kernel) ?_
      refine x_icmp_ne 89 d_Ha_letWait_80 rfl (fun hc80 => ?_) (fun hc80 => ?_)
      · skip
        skip
        refine x_return d_Ha_letWait_89 rfl ?_
        unfold haLet
        first
          | (rw [if_pos hc40]; unfold haDone; rw [haSt_A (by omega), ex, nI_clamp (by omega)]; exact ⟨rfl, rfl⟩)
          | (rw [if_neg hc40, if_pos hc80]; exact ⟨rfl, rfl⟩)
          | (rw [if_neg hc40, if_neg hc80]; exact ⟨rfl, rfl⟩)
      · skip
        skip
        refine x_aload_n d_Ha_letWait_83 rfl ?_
        refine x_aload_n d_Ha_letWait_84 rfl ?_
        refine x_iload_n d_Ha_letWait_85 rfl ?_
        refine w_callV (As := [_, _]) d_Ha_letWait_86 k_Ha_299 k_hall rfl rfl rfl (c_Ha_putAway (S := haSt S j i) (i := i) hG hj (by omega) hR hR10 hrk hgi hm hm6) ?_
        refine x_return d_Ha_letWait_89 rfl ?_
        unfold haLet
        first
          | (rw [if_pos hc40]; unfold haDone; rw [haSt_A (by omega), ex, nI_clamp (by omega)]; exact ⟨rfl, rfl⟩)
          | (rw [if_neg hc40, if_pos hc80]; exact ⟨rfl, rfl⟩)
          | (rw [if_neg hc40, if_neg hc80]; exact ⟨rfl, rfl⟩)
    · skip
      obtain ⟨x, hx, ex⟩ := hmk hc40
      refine x_aload_n d_Ha_letWait_43 rfl ?_
      refine y_getf d_Ha_letWait_44 gf_Ha_18 k_hall rfl ?_
      refine x_aload_n d_Ha_letWait_47 rfl ?_
      refine y_getf d_Ha_letWait_48 gf_Ha_293 (k_tree (trS hj)) rfl ?_
      refine x_iload_n d_Ha_letWait_51 rfl ?_
      refine y_iald hG d_Ha_letWait_52 (k_trA6 (trS hj)) _ rfl (by omega) ?_
      rw [show sA (uA S (72 + 15 * j + 8) i (if trCut S (72 + 15 * j) i = true then nI 1 else nI 2)) (72 + 15 * j + 6) = sA S (72 + 15 * j + 6) from haSt_A (by omega), ex]
      refine w_callV (As := [_]) d_Ha_letWait_53 k_Ha_296 k_book rfl rfl rfl (c_Bk_finish (S := haSt S j i) hG hN hN6 ho hx) ?_
      refine x_aload_n d_Ha_letWait_56 rfl ?_
      refine x_dup d_Ha_letWait_57 rfl ?_
      refine y_getf d_Ha_letWait_58 gf_Ha_249 k_hall rfl ?_
      refine x_aload_n d_Ha_letWait_61 rfl ?_
      refine x_iload_n d_Ha_letWait_62 rfl ?_
      refine w_callV (As := [_]) d_Ha_letWait_63 k_Ha_193 (k_tree (trS hj)) rfl rfl rfl (c_Tr_surface hG (trS hj) (by omega)) ?_
      refine x_ladd d_Ha_letWait_66 ?_
      refine y_putl d_Ha_letWait_67 pf_Ha_249 k_hall (xBle rfl) rfl ?_
      refine x_goto 89 d_Ha_letWait_70 rfl ?_
      refine x_return d_Ha_letWait_89 rfl ?_
      unfold haLet
      first
        | (rw [if_pos hc40]; unfold haDone; rw [haSt_A (by omega), ex, nI_clamp (by omega)]; exact ⟨rfl, rfl⟩)
        | (rw [if_neg hc40, if_pos hc80]; exact ⟨rfl, rfl⟩)
        | (rw [if_neg hc40, if_neg hc80]; exact ⟨rfl, rfl⟩)
  · skip
    refine x_aload_n d_Ha_letWait_19 rfl ?_
    refine x_iload_n d_Ha_letWait_20 rfl ?_
    refine w_callV (As := [_]) d_Ha_letWait_21 k_Ha_172 (k_tree (trS hj)) rfl rfl rfl (c_Tr_isCut hG (trS hj) (by omega)) ?_
    refine z_bif_eq 31 d_Ha_letWait_24 rfl (fun hc24 => ?_) (fun hc24 => ?_)
    · skip
      skip
      refine x_iconst (v := nI 2) d_Ha_letWait_31 (by decide +kernel) ?_
      refine J19 _ ?_
      rw [hc24]; rfl
    · skip
      skip
      refine x_iconst (v := nI 1) d_Ha_letWait_27 (by decide +kernel) ?_
      refine x_goto 32 d_Ha_letWait_28 rfl ?_
      refine J19 _ ?_
      rw [hc24]; rfl
/-! a layout taken up -/
def haAd (S : xS) (oa : Nat → Nat) (D : Nat → Nat → Int32) (j m K : Nat) (k : Nat → Nat) : xS := if m = 0 then S else (bkSeq (tGrow S (72 + 15 * j) m K k (sF S (67 + 15 * j) 4) (sF S (67 + 15 * j) 5)).1 oa D (fun i => some (sA S 58 i).toNatClampNeg) 3 4 m).1
theorem bkOk_K {S S' : xS} {B N b : Nat} {oa : Nat → Nat} {D : Nat → Nat → Int32} (h : sK b (b + 9) S S') (hb : 72 ≤ b) (ho : bkOk S B N oa D) : bkOk S' B N oa D := fun k hk => ⟨by rw [(h.1 3 (by omega)).2.2.2]; exact (ho k hk).1, (ho k hk).2.1, by rw [h.2.1]; exact (ho k hk).2.2⟩
set_option maxRecDepth 100000 in
set_option maxHeartbeats 1000000 in
theorem c_Ha_adoptLayout {G : xG} {B d : Nat} {S : xS} (hG : xOkG G) {j m K : Nat} {k : Nat → Nat} (hj : j < 8) (hm : sF S 57 5 = nI m) (h36 : m ≤ 36) (hK : laCols S m = nI K) (hK2 : K < 2 ^ 31) (hk : ∀ c, c < K → laRows S (nI c) m = nI (k c) ∧ k c < 2 ^ 31) {N : Nat} (hN : sF S 2 2 = nI N) (hN6 : N ≤ 6) {oa : Nat → Nat} {D : Nat → Nat → Int32} (ho : bkOk S B N oa D) (hinj : ∀ a b, a < N → b < N → oa a = oa b → a = b) (hof : ∀ i, i < m → ∃ x, x < N ∧ sA S 58 i = nI x) : EX G m_Ha_adoptLayout (d + 6) 0 [(0, .ref (B + 0)), (1, .ref (B + (66 + 15 * j)))] [] (mk G B S) ((xRet G B (some (.int (nI m))) (haAd S oa D j m K k))) := by
  have hg := tGrow_ok (S := S) (b := 72 + 15 * j) (m := m) (K := K) (k := k) (w := sF S (67 + 15 * j) 4) (h := sF S (67 + 15 * j) 5)
  have hbk : bkOk (tGrow S (72 + 15 * j) m K k (sF S (67 + 15 * j) 4) (sF S (67 + 15 * j) 5)).1 B N oa D := bkOk_K hg.1 (by omega) ho
  have HSQ : ∀ i, i ≤ m → bkOk (bkSeq (tGrow S (72 + 15 * j) m K k (sF S (67 + 15 * j) 4) (sF S (67 + 15 * j) 5)).1 oa D (fun i => some (sA S 58 i).toNatClampNeg) 3 4 i).1 B N oa (bkSeq (tGrow S (72 + 15 * j) m K k (sF S (67 + 15 * j) 4) (sF S (67 + 15 * j) 5)).1 oa D (fun i => some (sA S 58 i).toNatClampNeg) 3 4 i).2 ∧ sF (bkSeq (tGrow S (72 + 15 * j) m K k (sF S (67 + 15 * j) 4) (sF S (67 + 15 * j) 5)).1 oa D (fun i => some (sA S 58 i).toNatClampNeg) 3 4 i).1 57 5 = nI m ∧ sA (bkSeq (tGrow S (72 + 15 * j) m K k (sF S (67 + 15 * j) 4) (sF S (67 + 15 * j) 5)).1 oa D (fun i => some (sA S 58 i).toNatClampNeg) 3 4 i).1 58 = sA S 58 ∧ sF (bkSeq (tGrow S (72 + 15 * j) m K k (sF S (67 + 15 * j) 4) (sF S (67 + 15 * j) 5)).1 oa D (fun i => some (sA S 58 i).toNatClampNeg) 3 4 i).1 2 2 = nI N := fun i hi => by
    have h1 := bkSeq_ok (f := fun i => some (sA S 58 i).toNatClampNeg) (i := 3) (j := 4) hbk hinj i (fun q x hq h => by
      obtain ⟨y, hy, e⟩ := hof q (by omega)
      have h : some _ = some x := h
      rw [e, nI_clamp (by omega)] at h
      cases h; exact hy)
    refine ⟨h1.1, ?_, ?_, ?_⟩
    · rw [h1.2.1, (hg.1.1 57 (by omega)).1]; exact hm
    · rw [h1.2.2.1, (hg.1.1 58 (by omega)).2.1]
    · rw [h1.2.1, (hg.1.1 2 (by omega)).1]; exact hN
  refine x_aload_n d_Ha_adoptLayout_0 rfl ?_
  refine y_getf d_Ha_adoptLayout_1 gf_Ha_32 k_hall rfl ?_
  refine y_getf (v := .int (nI m)) d_Ha_adoptLayout_4 gf_Ha_279 k_lay (congrArg (fun q => some (Value.int q)) hm) ?_
  refine z_if_ne 12 d_Ha_adoptLayout_7 rfl (by omega) (fun hc7 => ?_) (fun hc7 => ?_)
  · skip
    skip
    refine x_aload_n d_Ha_adoptLayout_12 rfl ?_
    refine y_getf d_Ha_adoptLayout_13 gf_Ha_104 (k_sheet hj) rfl ?_
    refine x_aload_n d_Ha_adoptLayout_16 rfl ?_
    refine y_getf d_Ha_adoptLayout_17 gf_Ha_32 k_hall rfl ?_
    refine x_aload_n d_Ha_adoptLayout_20 rfl ?_
    refine y_getf d_Ha_adoptLayout_21 gf_Ha_67 (k_sheet hj) rfl ?_
    refine y_getf d_Ha_adoptLayout_24 gf_Ha_93 (k_glass (glS hj)) rfl ?_
    refine x_aload_n d_Ha_adoptLayout_27 rfl ?_
    refine y_getf d_Ha_adoptLayout_28 gf_Ha_67 (k_sheet hj) rfl ?_
    refine y_getf d_Ha_adoptLayout_31 gf_Ha_101 (k_glass (glS hj)) rfl ?_
    refine w_callV (As := [_, _, _]) d_Ha_adoptLayout_34 k_Ha_280 (k_tree (trS hj)) rfl rfl rfl (c_Tr_grow hG (trS hj) hm h36 hK hK2 hk) ?_
    refine x_iconst (v := nI 0) d_Ha_adoptLayout_37 (by decide +kernel) ?_
    refine s_istore_n (lv' := [(0, _), (1, _), (2, _)]) d_Ha_adoptLayout_38 (by decide) rfl ?_
    have L39 : ∀ i, i ≤ m →  EX G m_Ha_adoptLayout (d + 6) 39 [(0, .ref (B + 0)), (1, .ref (B + (66 + 15 * j))), (2, .int (nI i))] [] (mk G B (bkSeq (tGrow S (72 + 15 * j) m K k (sF S (67 + 15 * j) 4) (sF S (67 + 15 * j) 5)).1 oa D (fun i => some (sA S 58 i).toNatClampNeg) 3 4 i).1) (xRet G B (some (.int (nI m))) (haAd S oa D j m K k)) := by
      refine x_down (m) ?_ ?_
      · skip
        have hsq := HSQ m (Nat.le_refl _)
        refine x_iload_n d_Ha_adoptLayout_39 rfl ?_
        refine x_aload_n d_Ha_adoptLayout_40 rfl ?_
        refine y_getf d_Ha_adoptLayout_41 gf_Ha_32 k_hall rfl ?_
        refine y_getf (v := .int (nI m)) d_Ha_adoptLayout_44 gf_Ha_279 k_lay (congrArg (fun q => some (Value.int q)) hsq.2.1) ?_
        refine z_icmp_ge 72 d_Ha_adoptLayout_47 rfl (by omega) (by omega) (fun hc47 => ?_) (fun q => absurd q (by omega))
        refine x_aload_n d_Ha_adoptLayout_72 rfl ?_
        refine y_getf d_Ha_adoptLayout_73 gf_Ha_32 k_hall rfl ?_
        refine y_getf (v := .int (nI m)) d_Ha_adoptLayout_76 gf_Ha_279 k_lay (congrArg (fun q => some (Value.int q)) hsq.2.1) ?_
        refine x_ireturn d_Ha_adoptLayout_79 rfl rfl ?_
        refine ⟨rfl, ?_⟩
        unfold haAd
        rw [if_neg hc7]
      · intro i hi ih
        have hsq := HSQ i (by omega)
        obtain ⟨x, hx, ex⟩ := hof i hi
        rw [bkSeq_s (x := x) (by show some _ = _; rw [ex, nI_clamp (by omega)])] at ih
        refine x_iload_n d_Ha_adoptLayout_39 rfl ?_
        refine x_aload_n d_Ha_adoptLayout_40 rfl ?_
        refine y_getf d_Ha_adoptLayout_41 gf_Ha_32 k_hall rfl ?_
        refine y_getf (v := .int (nI m)) d_Ha_adoptLayout_44 gf_Ha_279 k_lay (congrArg (fun q => some (Value.int q)) hsq.2.1) ?_
        refine z_icmp_ge 72 d_Ha_adoptLayout_47 rfl (by omega) (by omega) (fun q => absurd q (by omega)) (fun hc47 => ?_)
        refine x_aload_n d_Ha_adoptLayout_50 rfl ?_
        refine y_getf d_Ha_adoptLayout_51 gf_Ha_18 k_hall rfl ?_
        refine x_aload_n d_Ha_adoptLayout_54 rfl ?_
        refine y_getf d_Ha_adoptLayout_55 gf_Ha_32 k_hall rfl ?_
        refine y_getf d_Ha_adoptLayout_58 gf_Ha_284 k_lay rfl ?_
        refine x_iload_n d_Ha_adoptLayout_61 rfl ?_
        refine y_iald hG d_Ha_adoptLayout_62 k_lay0 _ rfl (by omega) ?_
        rw [hsq.2.2.1, ex]
        refine w_callV (As := [_]) d_Ha_adoptLayout_63 k_Ha_287 k_book rfl rfl rfl (c_Bk_takeUp hG hsq.2.2.2 hN6 hsq.1 hx) ?_
        refine s_iinc (lv' := [(0, _), (1, _), (2, _)]) d_Ha_adoptLayout_66 rfl (xinc _) (by decide) rfl ?_
        refine x_goto 39 d_Ha_adoptLayout_69 rfl ?_
        refine x_lv (lv' := [(0, _), (1, _), (2, _)]) [0, 1, 2] rfl ?_
        exact ih
    refine x_lv (lv' := [(0, _), (1, _), (2, _)]) [0, 1, 2] rfl ?_
    exact L39 0 (Nat.zero_le _)
  · skip
    skip
    refine x_iconst (v := nI 0) d_Ha_adoptLayout_10 (by decide +kernel) ?_
    refine x_ireturn d_Ha_adoptLayout_11 rfl rfl ?_
    subst hc7
    exact ⟨rfl, rfl⟩
