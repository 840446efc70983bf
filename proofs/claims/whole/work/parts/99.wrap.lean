/-! the law's wrappers: the class's answer is laid into out, its exception is told by a number -/
def cdOf (l : List Nat) (ce : Nat) : Nat := l.findIdx (fun z => Nat.beq z ce) + 1
def lwV (p : xO × xS) (l : List Nat) : Int32 × xS := match p.1 with
  | .inl (some (.int v)) => (nI 0, uJ p.2 230 0 v.toInt64)
  | .inl _ => (nI 0, p.2)
  | .inr ce => (nI (cdOf l ce), uN p.2 6 (.inr (ce, [])))
theorem lwV_ok {p : xO × xS} {l : List Nat} {u : Int32} (h : p.1 = .inl (some (.int u))) : lwV p l = (nI 0, uJ p.2 230 0 u.toInt64) := by
  unfold lwV; rw [h]
theorem lwV_thr {p : xO × xS} {l : List Nat} {ce : Nat} (h : p.1 = .inr ce) : lwV p l = (nI (cdOf l ce), uN p.2 6 (.inr (ce, []))) := by
  unfold lwV; rw [h]
section WC
variable {G : xG} {B : Nat} {M M' : xM} {d pc index n ci o : Nat} {lv : List (Nat × Value)} {st As : List Value} {S : xS} {Q : xR → xH → Prop} {f : (Nat → Int32) → (Nat → Int64) → List Value}
theorem w_callC {p : xO × xS} (hd : decode M.2.1 pc = .ok (.invokevirtual index, 3)) (hk : xLkV M.1.cls index M' n ci) (ho : kO G B o ci f) (hAs : As.length = n) (hlen : Nat.ble (lg_sl (.ref (B + o) :: As)).length M'.2.2.1 = true) (hW : Nat.ble ((st.map fun v => v.category).sum + (M'.2.2.1 + 11)) 64 = true)
    (hK : EX G M' d 0 (lv_args 0 (.ref (B + o) :: As)) [] (mk G B S) (xDo G B p)) (kr : ∀ v, p.1 = .inl v → EX G M (d + 1) (pc + 3) lv (v.toList ++ st) (mk G B p.2) Q) (kt : ∀ ce, p.1 = .inr ce → xThr G M (d + 1) pc lv (mk G B (uN p.2 6 (.inr (ce, [])))) Q (sN p.2)) : EX G M (d + 1) pc lv (As.reverse ++ .ref (B + o) :: st) (mk G B S) Q :=
  x_callV hd hk (by rw [mk_at ho.1, ho.2]) hAs (xBle hlen) (xBle hW) hK (fun w h' q => by
    rcases q with ⟨v, e1, e2, e3⟩ | ⟨ce, e1, e2, e3⟩
    · cases e2; subst e3; exact kr _ e1
    · cases e2) (fun a h' q => by
    rcases q with ⟨v, e1, e2, e3⟩ | ⟨ce, e1, e2, e3⟩
    · cases e2
    · cases e2; subst e3; exact kt _ e1)
theorem xThr.at {p : xO × xS} {ce tgt : Nat} {X : String} {T0 : u_T} {N : Nat} (hX : X ∈ xEx) (hcl : xcl[ce]? = some (X, T0, N)) (hsn : B + 231 ≤ sN p.2) (hc : xCat M.1.cls pc X M.2.2.2.2 tgt) (k : EX G M d tgt lv [.ref (sN p.2)] (mk G B (uN p.2 6 (.inr (ce, [])))) Q) : xThr G M d pc lv (mk G B (uN p.2 6 (.inr (ce, [])))) Q (sN p.2) :=
  xThr.row hX hcl (by rw [mk_dyn hsn]; exact va_up_self _ _ _) hc k
end WC
theorem cw_Lw_13 : .classLink RLw 13 RIae ∈ xWS := xIn 341 (by decide +kernel) (by decide +kernel)
theorem cw_Lw_15 : .classLink RLw 15 RIse ∈ xWS := xIn 342 (by decide +kernel) (by decide +kernel)
theorem cw_Lw_21 : .classLink RLw 21 RNse ∈ xWS := xIn 444 (by decide +kernel) (by decide +kernel)
theorem cw_Lw_39 : .classLink RLw 39 RIoo ∈ xWS := xIn 702 (by decide +kernel) (by decide +kernel)
set_option maxRecDepth 100000 in
theorem c_Lw_sheet {G : xG} {B d : Nat} {S : xS} (hG : xOkG G) {p0 : Int32} {p1 : Int32} {p : xO × xS} (hsn : B + 231 ≤ sN p.2) (hK : EX G m_Ha_sheet d 0 [(0, .ref (B + 0)), (1, .int p0), (2, .int p1)] [] (mk G B S) (xDo G B p)) (hp : (∃ v, p.1 = .inl (some (.int v))) ∨ p.1 = .inr 12 ∨ p.1 = .inr 13) : EX G m_Lw_sheet (d + 1) 0 [(0, .ref (B + 0)), (1, .int p0), (2, .int p1), (3, .ref (B + 230))] [] (mk G B S) (moRet G B (lwV p [12, 13])) := by
  refine x_aload_n d_Lw_sheet_0 rfl ?_
  refine x_iconst (v := nI 0) d_Lw_sheet_1 (by decide +kernel) ?_
  refine x_aload_n d_Lw_sheet_2 rfl ?_
  refine x_iload_n d_Lw_sheet_3 rfl ?_
  refine x_iload_n d_Lw_sheet_4 rfl ?_
  refine w_callC (As := [_, _]) d_Lw_sheet_5 k_Lw_7 k_hall rfl rfl rfl hK (fun v e => ?_) (fun ce e => ?_)
  · rcases hp with ⟨u, hu⟩ | hu | hu
    · rw [e] at hu
      cases hu
      rw [lwV_ok e]
      refine x_i2l d_Lw_sheet_8 ?_
      refine y_last hG d_Lw_sheet_9 k_out 0 rfl (by decide) ?_
      refine x_goto 21 d_Lw_sheet_10 rfl ?_
      refine x_iconst (v := nI 0) d_Lw_sheet_21 (by decide +kernel) ?_
      exact x_ireturn d_Lw_sheet_22 rfl rfl ⟨rfl, rfl⟩
    · rw [e] at hu; cases hu
    · rw [e] at hu; cases hu
  · rcases hp with ⟨u, hu⟩ | hu | hu
    · rw [e] at hu; cases hu
    · rw [e] at hu
      cases hu
      rw [lwV_thr e]
      refine xThr.at (ce := 12) (X := RIae) (by simp [xEx]) rfl hsn (show xCat RLw 5 RIae [(0, 10, 13, 13), (0, 10, 17, 15)] 13 from ⟨⟨by decide, by decide, by decide⟩, Or.inl ⟨cw_Lw_13, rfl⟩⟩) ?_
      refine x_astore d_Lw_sheet_13 (by decide) ?_
      refine x_iconst (v := nI 1) d_Lw_sheet_15 (by decide +kernel) ?_
      exact x_ireturn d_Lw_sheet_16 rfl rfl ⟨rfl, rfl⟩
    · rw [e] at hu
      cases hu
      rw [lwV_thr e]
      refine xThr.at (ce := 13) (X := RIse) (by simp [xEx]) rfl hsn (show xCat RLw 5 RIse [(0, 10, 13, 13), (0, 10, 17, 15)] 17 from ⟨⟨by decide, by decide, by decide⟩, Or.inr ⟨RIae, cw_Lw_13, by simp [xEx], by decide +kernel, ⟨⟨by decide, by decide, by decide⟩, Or.inl ⟨cw_Lw_15, rfl⟩⟩⟩⟩) ?_
      refine x_astore d_Lw_sheet_17 (by decide) ?_
      refine x_iconst (v := nI 2) d_Lw_sheet_19 (by decide +kernel) ?_
      exact x_ireturn d_Lw_sheet_20 rfl rfl ⟨rfl, rfl⟩
set_option maxRecDepth 100000 in
theorem c_Lw_flaw {G : xG} {B d : Nat} {S : xS} (hG : xOkG G) {p0 : Int32} {p1 : Int32} {p2 : Int32} {p3 : Int32} {p4 : Int32} {p : xO × xS} (hsn : B + 231 ≤ sN p.2) (hK : EX G m_Ha_flaw d 0 [(0, .ref (B + 0)), (1, .int p0), (2, .int p1), (3, .int p2), (4, .int p3), (5, .int p4)] [] (mk G B S) (xDo G B p)) (hp : (∃ v, p.1 = .inl (some (.int v))) ∨ p.1 = .inr 11 ∨ p.1 = .inr 12 ∨ p.1 = .inr 13) : EX G m_Lw_flaw (d + 1) 0 [(0, .ref (B + 0)), (1, .int p0), (2, .int p1), (3, .int p2), (4, .int p3), (5, .int p4), (6, .ref (B + 230))] [] (mk G B S) (moRet G B (lwV p [11, 12, 13])) := by
  refine x_aload d_Lw_flaw_0 rfl ?_
  refine x_iconst (v := nI 0) d_Lw_flaw_2 (by decide +kernel) ?_
  refine x_aload_n d_Lw_flaw_3 rfl ?_
  refine x_iload_n d_Lw_flaw_4 rfl ?_
  refine x_iload_n d_Lw_flaw_5 rfl ?_
  refine x_iload_n d_Lw_flaw_6 rfl ?_
  refine x_iload d_Lw_flaw_7 rfl ?_
  refine x_iload d_Lw_flaw_9 rfl ?_
  refine w_callC (As := [_, _, _, _, _]) d_Lw_flaw_11 k_Lw_17 k_hall rfl rfl rfl hK (fun v e => ?_) (fun ce e => ?_)
  · rcases hp with ⟨u, hu⟩ | hu | hu | hu
    · rw [e] at hu
      cases hu
      rw [lwV_ok e]
      refine x_i2l d_Lw_flaw_14 ?_
      refine y_last hG d_Lw_flaw_15 k_out 0 rfl (by decide) ?_
      refine x_goto 31 d_Lw_flaw_16 rfl ?_
      refine x_iconst (v := nI 0) d_Lw_flaw_31 (by decide +kernel) ?_
      exact x_ireturn d_Lw_flaw_32 rfl rfl ⟨rfl, rfl⟩
    · rw [e] at hu; cases hu
    · rw [e] at hu; cases hu
    · rw [e] at hu; cases hu
  · rcases hp with ⟨u, hu⟩ | hu | hu | hu
    · rw [e] at hu; cases hu
    · rw [e] at hu
      cases hu
      rw [lwV_thr e]
      refine xThr.at (ce := 11) (X := RNse) (by simp [xEx]) rfl hsn (show xCat RLw 11 RNse [(0, 16, 19, 21), (0, 16, 23, 13), (0, 16, 27, 15)] 19 from ⟨⟨by decide, by decide, by decide⟩, Or.inl ⟨cw_Lw_21, rfl⟩⟩) ?_
      refine x_astore d_Lw_flaw_19 (by decide) ?_
      refine x_iconst (v := nI 1) d_Lw_flaw_21 (by decide +kernel) ?_
      exact x_ireturn d_Lw_flaw_22 rfl rfl ⟨rfl, rfl⟩
    · rw [e] at hu
      cases hu
      rw [lwV_thr e]
      refine xThr.at (ce := 12) (X := RIae) (by simp [xEx]) rfl hsn (show xCat RLw 11 RIae [(0, 16, 19, 21), (0, 16, 23, 13), (0, 16, 27, 15)] 23 from ⟨⟨by decide, by decide, by decide⟩, Or.inr ⟨RNse, cw_Lw_21, by simp [xEx], by decide +kernel, ⟨⟨by decide, by decide, by decide⟩, Or.inl ⟨cw_Lw_13, rfl⟩⟩⟩⟩) ?_
      refine x_astore d_Lw_flaw_23 (by decide) ?_
      refine x_iconst (v := nI 2) d_Lw_flaw_25 (by decide +kernel) ?_
      exact x_ireturn d_Lw_flaw_26 rfl rfl ⟨rfl, rfl⟩
    · rw [e] at hu
      cases hu
      rw [lwV_thr e]
      refine xThr.at (ce := 13) (X := RIse) (by simp [xEx]) rfl hsn (show xCat RLw 11 RIse [(0, 16, 19, 21), (0, 16, 23, 13), (0, 16, 27, 15)] 27 from ⟨⟨by decide, by decide, by decide⟩, Or.inr ⟨RNse, cw_Lw_21, by simp [xEx], by decide +kernel, ⟨⟨by decide, by decide, by decide⟩, Or.inr ⟨RIae, cw_Lw_13, by simp [xEx], by decide +kernel, ⟨⟨by decide, by decide, by decide⟩, Or.inl ⟨cw_Lw_15, rfl⟩⟩⟩⟩⟩⟩) ?_
      refine x_astore d_Lw_flaw_27 (by decide) ?_
      refine x_iconst (v := nI 3) d_Lw_flaw_29 (by decide +kernel) ?_
      exact x_ireturn d_Lw_flaw_30 rfl rfl ⟨rfl, rfl⟩
set_option maxRecDepth 100000 in
theorem c_Lw_order {G : xG} {B d : Nat} {S : xS} (hG : xOkG G) {p0 : Int32} {p1 : Int32} {p2 : Bool} {p3 : Int32} {p : xO × xS} (hsn : B + 231 ≤ sN p.2) (hK : EX G m_Ha_order d 0 [(0, .ref (B + 0)), (1, .int p0), (2, .int p1), (3, .int (bI p2)), (4, .int p3)] [] (mk G B S) (xDo G B p)) (hp : (∃ v, p.1 = .inl (some (.int v))) ∨ p.1 = .inr 12 ∨ p.1 = .inr 13) : EX G m_Lw_order (d + 1) 0 [(0, .ref (B + 0)), (1, .int p0), (2, .int p1), (3, .int (bI p2)), (4, .int p3), (5, .ref (B + 230))] [] (mk G B S) (moRet G B (lwV p [12, 13])) := by
  refine x_aload d_Lw_order_0 rfl ?_
  refine x_iconst (v := nI 0) d_Lw_order_2 (by decide +kernel) ?_
  refine x_aload_n d_Lw_order_3 rfl ?_
  refine x_iload_n d_Lw_order_4 rfl ?_
  refine x_iload_n d_Lw_order_5 rfl ?_
  refine x_iload_n d_Lw_order_6 rfl ?_
  refine x_iload d_Lw_order_7 rfl ?_
  refine w_callC (As := [_, _, _, _]) d_Lw_order_9 k_Lw_23 k_hall rfl rfl rfl hK (fun v e => ?_) (fun ce e => ?_)
  · rcases hp with ⟨u, hu⟩ | hu | hu
    · rw [e] at hu
      cases hu
      rw [lwV_ok e]
      refine x_i2l d_Lw_order_12 ?_
      refine y_last hG d_Lw_order_13 k_out 0 rfl (by decide) ?_
      refine x_goto 25 d_Lw_order_14 rfl ?_
      refine x_iconst (v := nI 0) d_Lw_order_25 (by decide +kernel) ?_
      exact x_ireturn d_Lw_order_26 rfl rfl ⟨rfl, rfl⟩
    · rw [e] at hu; cases hu
    · rw [e] at hu; cases hu
  · rcases hp with ⟨u, hu⟩ | hu | hu
    · rw [e] at hu; cases hu
    · rw [e] at hu
      cases hu
      rw [lwV_thr e]
      refine xThr.at (ce := 12) (X := RIae) (by simp [xEx]) rfl hsn (show xCat RLw 9 RIae [(0, 14, 17, 13), (0, 14, 21, 15)] 17 from ⟨⟨by decide, by decide, by decide⟩, Or.inl ⟨cw_Lw_13, rfl⟩⟩) ?_
      refine x_astore d_Lw_order_17 (by decide) ?_
      refine x_iconst (v := nI 1) d_Lw_order_19 (by decide +kernel) ?_
      exact x_ireturn d_Lw_order_20 rfl rfl ⟨rfl, rfl⟩
    · rw [e] at hu
      cases hu
      rw [lwV_thr e]
      refine xThr.at (ce := 13) (X := RIse) (by simp [xEx]) rfl hsn (show xCat RLw 9 RIse [(0, 14, 17, 13), (0, 14, 21, 15)] 21 from ⟨⟨by decide, by decide, by decide⟩, Or.inr ⟨RIae, cw_Lw_13, by simp [xEx], by decide +kernel, ⟨⟨by decide, by decide, by decide⟩, Or.inl ⟨cw_Lw_15, rfl⟩⟩⟩⟩) ?_
      refine x_astore d_Lw_order_21 (by decide) ?_
      refine x_iconst (v := nI 2) d_Lw_order_23 (by decide +kernel) ?_
      exact x_ireturn d_Lw_order_24 rfl rfl ⟨rfl, rfl⟩
set_option maxRecDepth 100000 in
theorem c_Lw_plan {G : xG} {B d : Nat} {S : xS} (hG : xOkG G) {p0 : Int32} {p : xO × xS} (hsn : B + 231 ≤ sN p.2) (hK : EX G m_Ha_plan d 0 [(0, .ref (B + 0)), (1, .int p0)] [] (mk G B S) (xDo G B p)) (hp : (∃ v, p.1 = .inl (some (.int v))) ∨ p.1 = .inr 11 ∨ p.1 = .inr 13) : EX G m_Lw_plan (d + 1) 0 [(0, .ref (B + 0)), (1, .int p0), (2, .ref (B + 230))] [] (mk G B S) (moRet G B (lwV p [11, 13])) := by
  refine x_aload_n d_Lw_plan_0 rfl ?_
  refine x_iconst (v := nI 0) d_Lw_plan_1 (by decide +kernel) ?_
  refine x_aload_n d_Lw_plan_2 rfl ?_
  refine x_iload_n d_Lw_plan_3 rfl ?_
  refine w_callC (As := [_]) d_Lw_plan_4 k_Lw_27 k_hall rfl rfl rfl hK (fun v e => ?_) (fun ce e => ?_)
  · rcases hp with ⟨u, hu⟩ | hu | hu
    · rw [e] at hu
      cases hu
      rw [lwV_ok e]
      refine x_i2l d_Lw_plan_7 ?_
      refine y_last hG d_Lw_plan_8 k_out 0 rfl (by decide) ?_
      refine x_goto 18 d_Lw_plan_9 rfl ?_
      refine x_iconst (v := nI 0) d_Lw_plan_18 (by decide +kernel) ?_
      exact x_ireturn d_Lw_plan_19 rfl rfl ⟨rfl, rfl⟩
    · rw [e] at hu; cases hu
    · rw [e] at hu; cases hu
  · rcases hp with ⟨u, hu⟩ | hu | hu
    · rw [e] at hu; cases hu
    · rw [e] at hu
      cases hu
      rw [lwV_thr e]
      refine xThr.at (ce := 11) (X := RNse) (by simp [xEx]) rfl hsn (show xCat RLw 4 RNse [(0, 9, 12, 21), (0, 9, 15, 15)] 12 from ⟨⟨by decide, by decide, by decide⟩, Or.inl ⟨cw_Lw_21, rfl⟩⟩) ?_
      refine x_astore_n d_Lw_plan_12 (by decide) ?_
      refine x_iconst (v := nI 1) d_Lw_plan_13 (by decide +kernel) ?_
      exact x_ireturn d_Lw_plan_14 rfl rfl ⟨rfl, rfl⟩
    · rw [e] at hu
      cases hu
      rw [lwV_thr e]
      refine xThr.at (ce := 13) (X := RIse) (by simp [xEx]) rfl hsn (show xCat RLw 4 RIse [(0, 9, 12, 21), (0, 9, 15, 15)] 15 from ⟨⟨by decide, by decide, by decide⟩, Or.inr ⟨RNse, cw_Lw_21, by simp [xEx], by decide +kernel, ⟨⟨by decide, by decide, by decide⟩, Or.inl ⟨cw_Lw_15, rfl⟩⟩⟩⟩) ?_
      refine x_astore_n d_Lw_plan_15 (by decide) ?_
      refine x_iconst (v := nI 2) d_Lw_plan_16 (by decide +kernel) ?_
      exact x_ireturn d_Lw_plan_17 rfl rfl ⟨rfl, rfl⟩
set_option maxRecDepth 100000 in
theorem c_Lw_exact {G : xG} {B d : Nat} {S : xS} (hG : xOkG G) {p0 : Int32} {p1 : Int32} {p2 : Int32} {p3 : Int32} {p : xO × xS} (hsn : B + 231 ≤ sN p.2) (hK : EX G m_Ha_exact d 0 [(0, .ref (B + 0)), (1, .int p0), (2, .int p1), (3, .int p2), (4, .int p3)] [] (mk G B S) (xDo G B p)) (hp : (∃ v, p.1 = .inl (some (.int v))) ∨ p.1 = .inr 11 ∨ p.1 = .inr 13) : EX G m_Lw_exact (d + 1) 0 [(0, .ref (B + 0)), (1, .int p0), (2, .int p1), (3, .int p2), (4, .int p3), (5, .ref (B + 230))] [] (mk G B S) (moRet G B (lwV p [11, 13])) := by
  refine x_aload d_Lw_exact_0 rfl ?_
  refine x_iconst (v := nI 0) d_Lw_exact_2 (by decide +kernel) ?_
  refine x_aload_n d_Lw_exact_3 rfl ?_
  refine x_iload_n d_Lw_exact_4 rfl ?_
  refine x_iload_n d_Lw_exact_5 rfl ?_
  refine x_iload_n d_Lw_exact_6 rfl ?_
  refine x_iload d_Lw_exact_7 rfl ?_
  refine w_callC (As := [_, _, _, _]) d_Lw_exact_9 k_Lw_31 k_hall rfl rfl rfl hK (fun v e => ?_) (fun ce e => ?_)
  · rcases hp with ⟨u, hu⟩ | hu | hu
    · rw [e] at hu
      cases hu
      rw [lwV_ok e]
      refine x_i2l d_Lw_exact_12 ?_
      refine y_last hG d_Lw_exact_13 k_out 0 rfl (by decide) ?_
      refine x_goto 25 d_Lw_exact_14 rfl ?_
      refine x_iconst (v := nI 0) d_Lw_exact_25 (by decide +kernel) ?_
      exact x_ireturn d_Lw_exact_26 rfl rfl ⟨rfl, rfl⟩
    · rw [e] at hu; cases hu
    · rw [e] at hu; cases hu
  · rcases hp with ⟨u, hu⟩ | hu | hu
    · rw [e] at hu; cases hu
    · rw [e] at hu
      cases hu
      rw [lwV_thr e]
      refine xThr.at (ce := 11) (X := RNse) (by simp [xEx]) rfl hsn (show xCat RLw 9 RNse [(0, 14, 17, 21), (0, 14, 21, 15)] 17 from ⟨⟨by decide, by decide, by decide⟩, Or.inl ⟨cw_Lw_21, rfl⟩⟩) ?_
      refine x_astore d_Lw_exact_17 (by decide) ?_
      refine x_iconst (v := nI 1) d_Lw_exact_19 (by decide +kernel) ?_
      exact x_ireturn d_Lw_exact_20 rfl rfl ⟨rfl, rfl⟩
    · rw [e] at hu
      cases hu
      rw [lwV_thr e]
      refine xThr.at (ce := 13) (X := RIse) (by simp [xEx]) rfl hsn (show xCat RLw 9 RIse [(0, 14, 17, 21), (0, 14, 21, 15)] 21 from ⟨⟨by decide, by decide, by decide⟩, Or.inr ⟨RNse, cw_Lw_21, by simp [xEx], by decide +kernel, ⟨⟨by decide, by decide, by decide⟩, Or.inl ⟨cw_Lw_15, rfl⟩⟩⟩⟩) ?_
      refine x_astore d_Lw_exact_21 (by decide) ?_
      refine x_iconst (v := nI 2) d_Lw_exact_23 (by decide +kernel) ?_
      exact x_ireturn d_Lw_exact_24 rfl rfl ⟨rfl, rfl⟩
set_option maxRecDepth 100000 in
theorem c_Lw_node {G : xG} {B d : Nat} {S : xS} (hG : xOkG G) {p0 : Int32} {p1 : Int32} {p2 : Int32} {p : xO × xS} (hsn : B + 231 ≤ sN p.2) (hK : EX G m_Ha_node d 0 [(0, .ref (B + 0)), (1, .int p0), (2, .int p1), (3, .int p2)] [] (mk G B S) (xDo G B p)) (hp : (∃ v, p.1 = .inl (some (.int v))) ∨ p.1 = .inr 11 ∨ p.1 = .inr 13 ∨ p.1 = .inr 14 ∨ p.1 = .inr 12) : EX G m_Lw_node (d + 1) 0 [(0, .ref (B + 0)), (1, .int p0), (2, .int p1), (3, .int p2), (4, .ref (B + 230))] [] (mk G B S) (moRet G B (lwV p [11, 13, 14, 12])) := by
  refine x_aload d_Lw_node_0 rfl ?_
  refine x_iconst (v := nI 0) d_Lw_node_2 (by decide +kernel) ?_
  refine x_aload_n d_Lw_node_3 rfl ?_
  refine x_iload_n d_Lw_node_4 rfl ?_
  refine x_iload_n d_Lw_node_5 rfl ?_
  refine x_iload_n d_Lw_node_6 rfl ?_
  refine w_callC (As := [_, _, _]) d_Lw_node_7 k_Lw_35 k_hall rfl rfl rfl hK (fun v e => ?_) (fun ce e => ?_)
  · rcases hp with ⟨u, hu⟩ | hu | hu | hu | hu
    · rw [e] at hu
      cases hu
      rw [lwV_ok e]
      refine x_i2l d_Lw_node_10 ?_
      refine y_last hG d_Lw_node_11 k_out 0 rfl (by decide) ?_
      refine x_goto 31 d_Lw_node_12 rfl ?_
      refine x_iconst (v := nI 0) d_Lw_node_31 (by decide +kernel) ?_
      exact x_ireturn d_Lw_node_32 rfl rfl ⟨rfl, rfl⟩
    · rw [e] at hu; cases hu
    · rw [e] at hu; cases hu
    · rw [e] at hu; cases hu
    · rw [e] at hu; cases hu
  · rcases hp with ⟨u, hu⟩ | hu | hu | hu | hu
    · rw [e] at hu; cases hu
    · rw [e] at hu
      cases hu
      rw [lwV_thr e]
      refine xThr.at (ce := 11) (X := RNse) (by simp [xEx]) rfl hsn (show xCat RLw 7 RNse [(0, 12, 15, 21), (0, 12, 19, 15), (0, 12, 23, 39), (0, 12, 27, 13)] 15 from ⟨⟨by decide, by decide, by decide⟩, Or.inl ⟨cw_Lw_21, rfl⟩⟩) ?_
      refine x_astore d_Lw_node_15 (by decide) ?_
      refine x_iconst (v := nI 1) d_Lw_node_17 (by decide +kernel) ?_
      exact x_ireturn d_Lw_node_18 rfl rfl ⟨rfl, rfl⟩
    · rw [e] at hu
      cases hu
      rw [lwV_thr e]
      refine xThr.at (ce := 13) (X := RIse) (by simp [xEx]) rfl hsn (show xCat RLw 7 RIse [(0, 12, 15, 21), (0, 12, 19, 15), (0, 12, 23, 39), (0, 12, 27, 13)] 19 from ⟨⟨by decide, by decide, by decide⟩, Or.inr ⟨RNse, cw_Lw_21, by simp [xEx], by decide +kernel, ⟨⟨by decide, by decide, by decide⟩, Or.inl ⟨cw_Lw_15, rfl⟩⟩⟩⟩) ?_
      refine x_astore d_Lw_node_19 (by decide) ?_
      refine x_iconst (v := nI 2) d_Lw_node_21 (by decide +kernel) ?_
      exact x_ireturn d_Lw_node_22 rfl rfl ⟨rfl, rfl⟩
    · rw [e] at hu
      cases hu
      rw [lwV_thr e]
      refine xThr.at (ce := 14) (X := RIoo) (by simp [xEx]) rfl hsn (show xCat RLw 7 RIoo [(0, 12, 15, 21), (0, 12, 19, 15), (0, 12, 23, 39), (0, 12, 27, 13)] 23 from ⟨⟨by decide, by decide, by decide⟩, Or.inr ⟨RNse, cw_Lw_21, by simp [xEx], by decide +kernel, ⟨⟨by decide, by decide, by decide⟩, Or.inr ⟨RIse, cw_Lw_15, by simp [xEx], by decide +kernel, ⟨⟨by decide, by decide, by decide⟩, Or.inl ⟨cw_Lw_39, rfl⟩⟩⟩⟩⟩⟩) ?_
      refine x_astore d_Lw_node_23 (by decide) ?_
      refine x_iconst (v := nI 3) d_Lw_node_25 (by decide +kernel) ?_
      exact x_ireturn d_Lw_node_26 rfl rfl ⟨rfl, rfl⟩
    · rw [e] at hu
      cases hu
      rw [lwV_thr e]
      refine xThr.at (ce := 12) (X := RIae) (by simp [xEx]) rfl hsn (show xCat RLw 7 RIae [(0, 12, 15, 21), (0, 12, 19, 15), (0, 12, 23, 39), (0, 12, 27, 13)] 27 from ⟨⟨by decide, by decide, by decide⟩, Or.inr ⟨RNse, cw_Lw_21, by simp [xEx], by decide +kernel, ⟨⟨by decide, by decide, by decide⟩, Or.inr ⟨RIse, cw_Lw_15, by simp [xEx], by decide +kernel, ⟨⟨by decide, by decide, by decide⟩, Or.inr ⟨RIoo, cw_Lw_39, by simp [xEx], by decide +kernel, ⟨⟨by decide, by decide, by decide⟩, Or.inl ⟨cw_Lw_13, rfl⟩⟩⟩⟩⟩⟩⟩⟩) ?_
      refine x_astore d_Lw_node_27 (by decide) ?_
      refine x_iconst (v := nI 4) d_Lw_node_29 (by decide +kernel) ?_
      exact x_ireturn d_Lw_node_30 rfl rfl ⟨rfl, rfl⟩
set_option maxRecDepth 100000 in
theorem c_Lw_nodes {G : xG} {B d : Nat} {S : xS} (hG : xOkG G) {p0 : Int32} {p : xO × xS} (hsn : B + 231 ≤ sN p.2) (hK : EX G m_Ha_nodes d 0 [(0, .ref (B + 0)), (1, .int p0)] [] (mk G B S) (xDo G B p)) (hp : (∃ v, p.1 = .inl (some (.int v))) ∨ p.1 = .inr 11 ∨ p.1 = .inr 13) : EX G m_Lw_nodes (d + 1) 0 [(0, .ref (B + 0)), (1, .int p0), (2, .ref (B + 230))] [] (mk G B S) (moRet G B (lwV p [11, 13])) := by
  refine x_aload_n d_Lw_nodes_0 rfl ?_
  refine x_iconst (v := nI 0) d_Lw_nodes_1 (by decide +kernel) ?_
  refine x_aload_n d_Lw_nodes_2 rfl ?_
  refine x_iload_n d_Lw_nodes_3 rfl ?_
  refine w_callC (As := [_]) d_Lw_nodes_4 k_Lw_41 k_hall rfl rfl rfl hK (fun v e => ?_) (fun ce e => ?_)
  · rcases hp with ⟨u, hu⟩ | hu | hu
    · rw [e] at hu
      cases hu
      rw [lwV_ok e]
      refine x_i2l d_Lw_nodes_7 ?_
      refine y_last hG d_Lw_nodes_8 k_out 0 rfl (by decide) ?_
      refine x_goto 18 d_Lw_nodes_9 rfl ?_
      refine x_iconst (v := nI 0) d_Lw_nodes_18 (by decide +kernel) ?_
      exact x_ireturn d_Lw_nodes_19 rfl rfl ⟨rfl, rfl⟩
    · rw [e] at hu; cases hu
    · rw [e] at hu; cases hu
  · rcases hp with ⟨u, hu⟩ | hu | hu
    · rw [e] at hu; cases hu
    · rw [e] at hu
      cases hu
      rw [lwV_thr e]
      refine xThr.at (ce := 11) (X := RNse) (by simp [xEx]) rfl hsn (show xCat RLw 4 RNse [(0, 9, 12, 21), (0, 9, 15, 15)] 12 from ⟨⟨by decide, by decide, by decide⟩, Or.inl ⟨cw_Lw_21, rfl⟩⟩) ?_
      refine x_astore_n d_Lw_nodes_12 (by decide) ?_
      refine x_iconst (v := nI 1) d_Lw_nodes_13 (by decide +kernel) ?_
      exact x_ireturn d_Lw_nodes_14 rfl rfl ⟨rfl, rfl⟩
    · rw [e] at hu
      cases hu
      rw [lwV_thr e]
      refine xThr.at (ce := 13) (X := RIse) (by simp [xEx]) rfl hsn (show xCat RLw 4 RIse [(0, 9, 12, 21), (0, 9, 15, 15)] 15 from ⟨⟨by decide, by decide, by decide⟩, Or.inr ⟨RNse, cw_Lw_21, by simp [xEx], by decide +kernel, ⟨⟨by decide, by decide, by decide⟩, Or.inl ⟨cw_Lw_15, rfl⟩⟩⟩⟩) ?_
      refine x_astore_n d_Lw_nodes_15 (by decide) ?_
      refine x_iconst (v := nI 2) d_Lw_nodes_16 (by decide +kernel) ?_
      exact x_ireturn d_Lw_nodes_17 rfl rfl ⟨rfl, rfl⟩
set_option maxRecDepth 100000 in
theorem c_Lw_score {G : xG} {B d : Nat} {S : xS} (hG : xOkG G) {p0 : Int32} {p : xO × xS} (hsn : B + 231 ≤ sN p.2) (hK : EX G m_Ha_score d 0 [(0, .ref (B + 0)), (1, .int p0)] [] (mk G B S) (xDo G B p)) (hp : (∃ v, p.1 = .inl (some (.int v))) ∨ p.1 = .inr 11 ∨ p.1 = .inr 13) : EX G m_Lw_score (d + 1) 0 [(0, .ref (B + 0)), (1, .int p0), (2, .ref (B + 230))] [] (mk G B S) (moRet G B (lwV p [11, 13])) := by
  refine x_aload_n d_Lw_score_0 rfl ?_
  refine x_iconst (v := nI 0) d_Lw_score_1 (by decide +kernel) ?_
  refine x_aload_n d_Lw_score_2 rfl ?_
  refine x_iload_n d_Lw_score_3 rfl ?_
  refine w_callC (As := [_]) d_Lw_score_4 k_Lw_44 k_hall rfl rfl rfl hK (fun v e => ?_) (fun ce e => ?_)
  · rcases hp with ⟨u, hu⟩ | hu | hu
    · rw [e] at hu
      cases hu
      rw [lwV_ok e]
      refine x_i2l d_Lw_score_7 ?_
      refine y_last hG d_Lw_score_8 k_out 0 rfl (by decide) ?_
      refine x_goto 18 d_Lw_score_9 rfl ?_
      refine x_iconst (v := nI 0) d_Lw_score_18 (by decide +kernel) ?_
      exact x_ireturn d_Lw_score_19 rfl rfl ⟨rfl, rfl⟩
    · rw [e] at hu; cases hu
    · rw [e] at hu; cases hu
  · rcases hp with ⟨u, hu⟩ | hu | hu
    · rw [e] at hu; cases hu
    · rw [e] at hu
      cases hu
      rw [lwV_thr e]
      refine xThr.at (ce := 11) (X := RNse) (by simp [xEx]) rfl hsn (show xCat RLw 4 RNse [(0, 9, 12, 21), (0, 9, 15, 15)] 12 from ⟨⟨by decide, by decide, by decide⟩, Or.inl ⟨cw_Lw_21, rfl⟩⟩) ?_
      refine x_astore_n d_Lw_score_12 (by decide) ?_
      refine x_iconst (v := nI 1) d_Lw_score_13 (by decide +kernel) ?_
      exact x_ireturn d_Lw_score_14 rfl rfl ⟨rfl, rfl⟩
    · rw [e] at hu
      cases hu
      rw [lwV_thr e]
      refine xThr.at (ce := 13) (X := RIse) (by simp [xEx]) rfl hsn (show xCat RLw 4 RIse [(0, 9, 12, 21), (0, 9, 15, 15)] 15 from ⟨⟨by decide, by decide, by decide⟩, Or.inr ⟨RNse, cw_Lw_21, by simp [xEx], by decide +kernel, ⟨⟨by decide, by decide, by decide⟩, Or.inl ⟨cw_Lw_15, rfl⟩⟩⟩⟩) ?_
      refine x_astore_n d_Lw_score_15 (by decide) ?_
      refine x_iconst (v := nI 2) d_Lw_score_16 (by decide +kernel) ?_
      exact x_ireturn d_Lw_score_17 rfl rfl ⟨rfl, rfl⟩
set_option maxRecDepth 100000 in
theorem c_Lw_broke {G : xG} {B d : Nat} {S : xS} (hG : xOkG G) {p0 : Int32} {p1 : Int32} {p : xO × xS} (hsn : B + 231 ≤ sN p.2) (hK : EX G m_Ha_broke d 0 [(0, .ref (B + 0)), (1, .int p0), (2, .int p1)] [] (mk G B S) (xDo G B p)) (hp : (∃ v, p.1 = .inl (some (.int v))) ∨ p.1 = .inr 11 ∨ p.1 = .inr 13 ∨ p.1 = .inr 14) : EX G m_Lw_broke (d + 1) 0 [(0, .ref (B + 0)), (1, .int p0), (2, .int p1), (3, .ref (B + 230))] [] (mk G B S) (moRet G B (lwV p [11, 13, 14])) := by
  refine x_aload_n d_Lw_broke_0 rfl ?_
  refine x_iconst (v := nI 0) d_Lw_broke_1 (by decide +kernel) ?_
  refine x_aload_n d_Lw_broke_2 rfl ?_
  refine x_iload_n d_Lw_broke_3 rfl ?_
  refine x_iload_n d_Lw_broke_4 rfl ?_
  refine w_callC (As := [_, _]) d_Lw_broke_5 k_Lw_47 k_hall rfl rfl rfl hK (fun v e => ?_) (fun ce e => ?_)
  · rcases hp with ⟨u, hu⟩ | hu | hu | hu
    · rw [e] at hu
      cases hu
      rw [lwV_ok e]
      refine x_i2l d_Lw_broke_8 ?_
      refine y_last hG d_Lw_broke_9 k_out 0 rfl (by decide) ?_
      refine x_goto 25 d_Lw_broke_10 rfl ?_
      refine x_iconst (v := nI 0) d_Lw_broke_25 (by decide +kernel) ?_
      exact x_ireturn d_Lw_broke_26 rfl rfl ⟨rfl, rfl⟩
    · rw [e] at hu; cases hu
    · rw [e] at hu; cases hu
    · rw [e] at hu; cases hu
  · rcases hp with ⟨u, hu⟩ | hu | hu | hu
    · rw [e] at hu; cases hu
    · rw [e] at hu
      cases hu
      rw [lwV_thr e]
      refine xThr.at (ce := 11) (X := RNse) (by simp [xEx]) rfl hsn (show xCat RLw 5 RNse [(0, 10, 13, 21), (0, 10, 17, 15), (0, 10, 21, 39)] 13 from ⟨⟨by decide, by decide, by decide⟩, Or.inl ⟨cw_Lw_21, rfl⟩⟩) ?_
      refine x_astore d_Lw_broke_13 (by decide) ?_
      refine x_iconst (v := nI 1) d_Lw_broke_15 (by decide +kernel) ?_
      exact x_ireturn d_Lw_broke_16 rfl rfl ⟨rfl, rfl⟩
    · rw [e] at hu
      cases hu
      rw [lwV_thr e]
      refine xThr.at (ce := 13) (X := RIse) (by simp [xEx]) rfl hsn (show xCat RLw 5 RIse [(0, 10, 13, 21), (0, 10, 17, 15), (0, 10, 21, 39)] 17 from ⟨⟨by decide, by decide, by decide⟩, Or.inr ⟨RNse, cw_Lw_21, by simp [xEx], by decide +kernel, ⟨⟨by decide, by decide, by decide⟩, Or.inl ⟨cw_Lw_15, rfl⟩⟩⟩⟩) ?_
      refine x_astore d_Lw_broke_17 (by decide) ?_
      refine x_iconst (v := nI 2) d_Lw_broke_19 (by decide +kernel) ?_
      exact x_ireturn d_Lw_broke_20 rfl rfl ⟨rfl, rfl⟩
    · rw [e] at hu
      cases hu
      rw [lwV_thr e]
      refine xThr.at (ce := 14) (X := RIoo) (by simp [xEx]) rfl hsn (show xCat RLw 5 RIoo [(0, 10, 13, 21), (0, 10, 17, 15), (0, 10, 21, 39)] 21 from ⟨⟨by decide, by decide, by decide⟩, Or.inr ⟨RNse, cw_Lw_21, by simp [xEx], by decide +kernel, ⟨⟨by decide, by decide, by decide⟩, Or.inr ⟨RIse, cw_Lw_15, by simp [xEx], by decide +kernel, ⟨⟨by decide, by decide, by decide⟩, Or.inl ⟨cw_Lw_39, rfl⟩⟩⟩⟩⟩⟩) ?_
      refine x_astore d_Lw_broke_21 (by decide) ?_
      refine x_iconst (v := nI 3) d_Lw_broke_23 (by decide +kernel) ?_
      exact x_ireturn d_Lw_broke_24 rfl rfl ⟨rfl, rfl⟩
set_option maxRecDepth 100000 in
theorem c_Lw_cancel {G : xG} {B d : Nat} {S : xS} (hG : xOkG G) {p0 : Int32} {p : xO × xS} (hsn : B + 231 ≤ sN p.2) (hK : EX G m_Ha_cancel d 0 [(0, .ref (B + 0)), (1, .int p0)] [] (mk G B S) (xDo G B p)) (hp : (∃ v, p.1 = .inl (some (.int v))) ∨ p.1 = .inr 11 ∨ p.1 = .inr 13) : EX G m_Lw_cancel (d + 1) 0 [(0, .ref (B + 0)), (1, .int p0), (2, .ref (B + 230))] [] (mk G B S) (moRet G B (lwV p [11, 13])) := by
  refine x_aload_n d_Lw_cancel_0 rfl ?_
  refine x_iconst (v := nI 0) d_Lw_cancel_1 (by decide +kernel) ?_
  refine x_aload_n d_Lw_cancel_2 rfl ?_
  refine x_iload_n d_Lw_cancel_3 rfl ?_
  refine w_callC (As := [_]) d_Lw_cancel_4 k_Lw_50 k_hall rfl rfl rfl hK (fun v e => ?_) (fun ce e => ?_)
  · rcases hp with ⟨u, hu⟩ | hu | hu
    · rw [e] at hu
      cases hu
      rw [lwV_ok e]
      refine x_i2l d_Lw_cancel_7 ?_
      refine y_last hG d_Lw_cancel_8 k_out 0 rfl (by decide) ?_
      refine x_goto 18 d_Lw_cancel_9 rfl ?_
      refine x_iconst (v := nI 0) d_Lw_cancel_18 (by decide +kernel) ?_
      exact x_ireturn d_Lw_cancel_19 rfl rfl ⟨rfl, rfl⟩
    · rw [e] at hu; cases hu
    · rw [e] at hu; cases hu
  · rcases hp with ⟨u, hu⟩ | hu | hu
    · rw [e] at hu; cases hu
    · rw [e] at hu
      cases hu
      rw [lwV_thr e]
      refine xThr.at (ce := 11) (X := RNse) (by simp [xEx]) rfl hsn (show xCat RLw 4 RNse [(0, 9, 12, 21), (0, 9, 15, 15)] 12 from ⟨⟨by decide, by decide, by decide⟩, Or.inl ⟨cw_Lw_21, rfl⟩⟩) ?_
      refine x_astore_n d_Lw_cancel_12 (by decide) ?_
      refine x_iconst (v := nI 1) d_Lw_cancel_13 (by decide +kernel) ?_
      exact x_ireturn d_Lw_cancel_14 rfl rfl ⟨rfl, rfl⟩
    · rw [e] at hu
      cases hu
      rw [lwV_thr e]
      refine xThr.at (ce := 13) (X := RIse) (by simp [xEx]) rfl hsn (show xCat RLw 4 RIse [(0, 9, 12, 21), (0, 9, 15, 15)] 15 from ⟨⟨by decide, by decide, by decide⟩, Or.inr ⟨RNse, cw_Lw_21, by simp [xEx], by decide +kernel, ⟨⟨by decide, by decide, by decide⟩, Or.inl ⟨cw_Lw_15, rfl⟩⟩⟩⟩) ?_
      refine x_astore_n d_Lw_cancel_15 (by decide) ?_
      refine x_iconst (v := nI 2) d_Lw_cancel_16 (by decide +kernel) ?_
      exact x_ireturn d_Lw_cancel_17 rfl rfl ⟨rfl, rfl⟩
set_option maxRecDepth 100000 in
theorem c_Lw_use {G : xG} {B d : Nat} {S : xS} (hG : xOkG G) {p0 : Int32} {p : xO × xS} (hsn : B + 231 ≤ sN p.2) (hK : EX G m_Ha_use d 0 [(0, .ref (B + 0)), (1, .int p0)] [] (mk G B S) (xDo G B p)) (hp : (∃ v, p.1 = .inl (some (.int v))) ∨ p.1 = .inr 11 ∨ p.1 = .inr 13) : EX G m_Lw_use (d + 1) 0 [(0, .ref (B + 0)), (1, .int p0), (2, .ref (B + 230))] [] (mk G B S) (moRet G B (lwV p [11, 13])) := by
  refine x_aload_n d_Lw_use_0 rfl ?_
  refine x_iconst (v := nI 0) d_Lw_use_1 (by decide +kernel) ?_
  refine x_aload_n d_Lw_use_2 rfl ?_
  refine x_iload_n d_Lw_use_3 rfl ?_
  refine w_callC (As := [_]) d_Lw_use_4 k_Lw_53 k_hall rfl rfl rfl hK (fun v e => ?_) (fun ce e => ?_)
  · rcases hp with ⟨u, hu⟩ | hu | hu
    · rw [e] at hu
      cases hu
      rw [lwV_ok e]
      refine x_i2l d_Lw_use_7 ?_
      refine y_last hG d_Lw_use_8 k_out 0 rfl (by decide) ?_
      refine x_goto 18 d_Lw_use_9 rfl ?_
      refine x_iconst (v := nI 0) d_Lw_use_18 (by decide +kernel) ?_
      exact x_ireturn d_Lw_use_19 rfl rfl ⟨rfl, rfl⟩
    · rw [e] at hu; cases hu
    · rw [e] at hu; cases hu
  · rcases hp with ⟨u, hu⟩ | hu | hu
    · rw [e] at hu; cases hu
    · rw [e] at hu
      cases hu
      rw [lwV_thr e]
      refine xThr.at (ce := 11) (X := RNse) (by simp [xEx]) rfl hsn (show xCat RLw 4 RNse [(0, 9, 12, 21), (0, 9, 15, 15)] 12 from ⟨⟨by decide, by decide, by decide⟩, Or.inl ⟨cw_Lw_21, rfl⟩⟩) ?_
      refine x_astore_n d_Lw_use_12 (by decide) ?_
      refine x_iconst (v := nI 1) d_Lw_use_13 (by decide +kernel) ?_
      exact x_ireturn d_Lw_use_14 rfl rfl ⟨rfl, rfl⟩
    · rw [e] at hu
      cases hu
      rw [lwV_thr e]
      refine xThr.at (ce := 13) (X := RIse) (by simp [xEx]) rfl hsn (show xCat RLw 4 RIse [(0, 9, 12, 21), (0, 9, 15, 15)] 15 from ⟨⟨by decide, by decide, by decide⟩, Or.inr ⟨RNse, cw_Lw_21, by simp [xEx], by decide +kernel, ⟨⟨by decide, by decide, by decide⟩, Or.inl ⟨cw_Lw_15, rfl⟩⟩⟩⟩) ?_
      refine x_astore_n d_Lw_use_15 (by decide) ?_
      refine x_iconst (v := nI 2) d_Lw_use_16 (by decide +kernel) ?_
      exact x_ireturn d_Lw_use_17 rfl rfl ⟨rfl, rfl⟩
set_option maxRecDepth 100000 in
theorem c_Lw_rack {G : xG} {B d : Nat} {S : xS} (hG : xOkG G) {p0 : Int32} {p1 : Int32} {p : xO × xS} (hsn : B + 231 ≤ sN p.2) (hK : EX G m_Ha_rack d 0 [(0, .ref (B + 0)), (1, .int p0), (2, .int p1)] [] (mk G B S) (xDo G B p)) (hp : (∃ v, p.1 = .inl (some (.int v))) ∨ p.1 = .inr 11 ∨ p.1 = .inr 12) : EX G m_Lw_rack (d + 1) 0 [(0, .ref (B + 0)), (1, .int p0), (2, .int p1), (3, .ref (B + 230))] [] (mk G B S) (moRet G B (lwV p [11, 12])) := by
  refine x_aload_n d_Lw_rack_0 rfl ?_
  refine x_iconst (v := nI 0) d_Lw_rack_1 (by decide +kernel) ?_
  refine x_aload_n d_Lw_rack_2 rfl ?_
  refine x_iload_n d_Lw_rack_3 rfl ?_
  refine x_iload_n d_Lw_rack_4 rfl ?_
  refine w_callC (As := [_, _]) d_Lw_rack_5 k_Lw_56 k_hall rfl rfl rfl hK (fun v e => ?_) (fun ce e => ?_)
  · rcases hp with ⟨u, hu⟩ | hu | hu
    · rw [e] at hu
      cases hu
      rw [lwV_ok e]
      refine x_i2l d_Lw_rack_8 ?_
      refine y_last hG d_Lw_rack_9 k_out 0 rfl (by decide) ?_
      refine x_goto 21 d_Lw_rack_10 rfl ?_
      refine x_iconst (v := nI 0) d_Lw_rack_21 (by decide +kernel) ?_
      exact x_ireturn d_Lw_rack_22 rfl rfl ⟨rfl, rfl⟩
    · rw [e] at hu; cases hu
    · rw [e] at hu; cases hu
  · rcases hp with ⟨u, hu⟩ | hu | hu
    · rw [e] at hu; cases hu
    · rw [e] at hu
      cases hu
      rw [lwV_thr e]
      refine xThr.at (ce := 11) (X := RNse) (by simp [xEx]) rfl hsn (show xCat RLw 5 RNse [(0, 10, 13, 21), (0, 10, 17, 13)] 13 from ⟨⟨by decide, by decide, by decide⟩, Or.inl ⟨cw_Lw_21, rfl⟩⟩) ?_
      refine x_astore d_Lw_rack_13 (by decide) ?_
      refine x_iconst (v := nI 1) d_Lw_rack_15 (by decide +kernel) ?_
      exact x_ireturn d_Lw_rack_16 rfl rfl ⟨rfl, rfl⟩
    · rw [e] at hu
      cases hu
      rw [lwV_thr e]
      refine xThr.at (ce := 12) (X := RIae) (by simp [xEx]) rfl hsn (show xCat RLw 5 RIae [(0, 10, 13, 21), (0, 10, 17, 13)] 17 from ⟨⟨by decide, by decide, by decide⟩, Or.inr ⟨RNse, cw_Lw_21, by simp [xEx], by decide +kernel, ⟨⟨by decide, by decide, by decide⟩, Or.inl ⟨cw_Lw_13, rfl⟩⟩⟩⟩) ?_
      refine x_astore d_Lw_rack_17 (by decide) ?_
      refine x_iconst (v := nI 2) d_Lw_rack_19 (by decide +kernel) ?_
      exact x_ireturn d_Lw_rack_20 rfl rfl ⟨rfl, rfl⟩
set_option maxRecDepth 100000 in
theorem c_Lw_flawed {G : xG} {B d : Nat} {S : xS} (hG : xOkG G) {p0 : Int32} {p1 : Int32} {p2 : Int32} {p : xO × xS} (hsn : B + 231 ≤ sN p.2) (hK : EX G m_Ha_flawed d 0 [(0, .ref (B + 0)), (1, .int p0), (2, .int p1), (3, .int p2)] [] (mk G B S) (xDo G B p)) (hp : (∃ v, p.1 = .inl (some (.int v))) ∨ p.1 = .inr 11 ∨ p.1 = .inr 14 ∨ p.1 = .inr 12) : EX G m_Lw_flawed (d + 1) 0 [(0, .ref (B + 0)), (1, .int p0), (2, .int p1), (3, .int p2), (4, .ref (B + 230))] [] (mk G B S) (moRet G B (lwV p [11, 14, 12])) := by
  refine x_aload d_Lw_flawed_0 rfl ?_
  refine x_iconst (v := nI 0) d_Lw_flawed_2 (by decide +kernel) ?_
  refine x_aload_n d_Lw_flawed_3 rfl ?_
  refine x_iload_n d_Lw_flawed_4 rfl ?_
  refine x_iload_n d_Lw_flawed_5 rfl ?_
  refine x_iload_n d_Lw_flawed_6 rfl ?_
  refine w_callC (As := [_, _, _]) d_Lw_flawed_7 k_Lw_59 k_hall rfl rfl rfl hK (fun v e => ?_) (fun ce e => ?_)
  · rcases hp with ⟨u, hu⟩ | hu | hu | hu
    · rw [e] at hu
      cases hu
      rw [lwV_ok e]
      refine x_i2l d_Lw_flawed_10 ?_
      refine y_last hG d_Lw_flawed_11 k_out 0 rfl (by decide) ?_
      refine x_goto 27 d_Lw_flawed_12 rfl ?_
      refine x_iconst (v := nI 0) d_Lw_flawed_27 (by decide +kernel) ?_
      exact x_ireturn d_Lw_flawed_28 rfl rfl ⟨rfl, rfl⟩
    · rw [e] at hu; cases hu
    · rw [e] at hu; cases hu
    · rw [e] at hu; cases hu
  · rcases hp with ⟨u, hu⟩ | hu | hu | hu
    · rw [e] at hu; cases hu
    · rw [e] at hu
      cases hu
      rw [lwV_thr e]
      refine xThr.at (ce := 11) (X := RNse) (by simp [xEx]) rfl hsn (show xCat RLw 7 RNse [(0, 12, 15, 21), (0, 12, 19, 39), (0, 12, 23, 13)] 15 from ⟨⟨by decide, by decide, by decide⟩, Or.inl ⟨cw_Lw_21, rfl⟩⟩) ?_
      refine x_astore d_Lw_flawed_15 (by decide) ?_
      refine x_iconst (v := nI 1) d_Lw_flawed_17 (by decide +kernel) ?_
      exact x_ireturn d_Lw_flawed_18 rfl rfl ⟨rfl, rfl⟩
    · rw [e] at hu
      cases hu
      rw [lwV_thr e]
      refine xThr.at (ce := 14) (X := RIoo) (by simp [xEx]) rfl hsn (show xCat RLw 7 RIoo [(0, 12, 15, 21), (0, 12, 19, 39), (0, 12, 23, 13)] 19 from ⟨⟨by decide, by decide, by decide⟩, Or.inr ⟨RNse, cw_Lw_21, by simp [xEx], by decide +kernel, ⟨⟨by decide, by decide, by decide⟩, Or.inl ⟨cw_Lw_39, rfl⟩⟩⟩⟩) ?_
      refine x_astore d_Lw_flawed_19 (by decide) ?_
      refine x_iconst (v := nI 2) d_Lw_flawed_21 (by decide +kernel) ?_
      exact x_ireturn d_Lw_flawed_22 rfl rfl ⟨rfl, rfl⟩
    · rw [e] at hu
      cases hu
      rw [lwV_thr e]
      refine xThr.at (ce := 12) (X := RIae) (by simp [xEx]) rfl hsn (show xCat RLw 7 RIae [(0, 12, 15, 21), (0, 12, 19, 39), (0, 12, 23, 13)] 23 from ⟨⟨by decide, by decide, by decide⟩, Or.inr ⟨RNse, cw_Lw_21, by simp [xEx], by decide +kernel, ⟨⟨by decide, by decide, by decide⟩, Or.inr ⟨RIoo, cw_Lw_39, by simp [xEx], by decide +kernel, ⟨⟨by decide, by decide, by decide⟩, Or.inl ⟨cw_Lw_13, rfl⟩⟩⟩⟩⟩⟩) ?_
      refine x_astore d_Lw_flawed_23 (by decide) ?_
      refine x_iconst (v := nI 3) d_Lw_flawed_25 (by decide +kernel) ?_
      exact x_ireturn d_Lw_flawed_26 rfl rfl ⟨rfl, rfl⟩
set_option maxRecDepth 100000 in
theorem c_Lw_panes {G : xG} {B d : Nat} {S : xS} (hG : xOkG G) {p0 : Int32} {p1 : Int32} {p : xO × xS} (hsn : B + 231 ≤ sN p.2) (hK : EX G m_Ha_panes d 0 [(0, .ref (B + 0)), (1, .int p0), (2, .int p1)] [] (mk G B S) (xDo G B p)) (hp : (∃ v, p.1 = .inl (some (.int v))) ∨ p.1 = .inr 11 ∨ p.1 = .inr 12) : EX G m_Lw_panes (d + 1) 0 [(0, .ref (B + 0)), (1, .int p0), (2, .int p1), (3, .ref (B + 230))] [] (mk G B S) (moRet G B (lwV p [11, 12])) := by
  refine x_aload_n d_Lw_panes_0 rfl ?_
  refine x_iconst (v := nI 0) d_Lw_panes_1 (by decide +kernel) ?_
  refine x_aload_n d_Lw_panes_2 rfl ?_
  refine x_iload_n d_Lw_panes_3 rfl ?_
  refine x_iload_n d_Lw_panes_4 rfl ?_
  refine w_callC (As := [_, _]) d_Lw_panes_5 k_Lw_62 k_hall rfl rfl rfl hK (fun v e => ?_) (fun ce e => ?_)
  · rcases hp with ⟨u, hu⟩ | hu | hu
    · rw [e] at hu
      cases hu
      rw [lwV_ok e]
      refine x_i2l d_Lw_panes_8 ?_
      refine y_last hG d_Lw_panes_9 k_out 0 rfl (by decide) ?_
      refine x_goto 21 d_Lw_panes_10 rfl ?_
      refine x_iconst (v := nI 0) d_Lw_panes_21 (by decide +kernel) ?_
      exact x_ireturn d_Lw_panes_22 rfl rfl ⟨rfl, rfl⟩
    · rw [e] at hu; cases hu
    · rw [e] at hu; cases hu
  · rcases hp with ⟨u, hu⟩ | hu | hu
    · rw [e] at hu; cases hu
    · rw [e] at hu
      cases hu
      rw [lwV_thr e]
      refine xThr.at (ce := 11) (X := RNse) (by simp [xEx]) rfl hsn (show xCat RLw 5 RNse [(0, 10, 13, 21), (0, 10, 17, 13)] 13 from ⟨⟨by decide, by decide, by decide⟩, Or.inl ⟨cw_Lw_21, rfl⟩⟩) ?_
      refine x_astore d_Lw_panes_13 (by decide) ?_
      refine x_iconst (v := nI 1) d_Lw_panes_15 (by decide +kernel) ?_
      exact x_ireturn d_Lw_panes_16 rfl rfl ⟨rfl, rfl⟩
    · rw [e] at hu
      cases hu
      rw [lwV_thr e]
      refine xThr.at (ce := 12) (X := RIae) (by simp [xEx]) rfl hsn (show xCat RLw 5 RIae [(0, 10, 13, 21), (0, 10, 17, 13)] 17 from ⟨⟨by decide, by decide, by decide⟩, Or.inr ⟨RNse, cw_Lw_21, by simp [xEx], by decide +kernel, ⟨⟨by decide, by decide, by decide⟩, Or.inl ⟨cw_Lw_13, rfl⟩⟩⟩⟩) ?_
      refine x_astore d_Lw_panes_17 (by decide) ?_
      refine x_iconst (v := nI 2) d_Lw_panes_19 (by decide +kernel) ?_
      exact x_ireturn d_Lw_panes_20 rfl rfl ⟨rfl, rfl⟩
