/-! a new order -/
def orD (w h t n : Int32) : Nat → Int32 := va_up (va_up (va_up (va_up (fun _ => 0) 0 w) 1 h) 2 t) 3 n
section YO
variable {G : xG} {M M' : xM} {d pc : Nat} {lv : List (Nat × Value)} {st : List Value} {Q : xR → xH → Prop} {B : Nat} {S S' : xS} {a k index n : Nat} {D : Nat → Int32} {As : List Value} {v : Option Value}
theorem y_putEF {x : Int32} {ty : FieldType} (hd : decode M.2.1 pc = .ok (.putfield index, 3)) (hM : M.1.name = "<init>") (hk : xPf M.1.cls index 2 k ty) (ha : xDyn B S a D) (hl : k < 6) (hn : narrow ty (.int x) = .int x) (hfit : fits ty (.int x) = true) (hf : [Value.int (D 0), .int (D 1), .int (D 2), .int (D 3), .int (D 4), .int (D 5)].set k (.int x) = [Value.int (va_up D k x 0), .int (va_up D k x 1), .int (va_up D k x 2), .int (va_up D k x 3), .int (va_up D k x 4), .int (va_up D k x 5)]) (kk : EX G M d (pc + 3) lv st (mk G B (uE S a (eO (va_up D k x)))) Q) : EX G M d pc lv (.int x :: .ref a :: st) (mk G B S) Q := by
  refine x_putF hd hM hk (by rw [mk_dyn ha.1, ha.2]; rfl) (by simpa using hl) hn hfit ?_
  rw [hf, mk_setE ha.1]
  exact kk
theorem w_callI (hd : decode M.2.1 pc = .ok (.invokespecial index, 3)) (hk : xLkI M.1.cls index M' n) (hAs : As.length = n) (hlen : Nat.ble (lg_sl (.ref a :: As)).length M'.2.2.1 = true) (hW : Nat.ble ((st.map fun v => v.category).sum + (M'.2.2.1 + 11)) 64 = true)
    (hK : EX G M' d 0 (lv_args 0 (.ref a :: As)) [] (mk G B S) (xRet G B v S')) (kk : EX G M (d + 1) (pc + 3) lv (v.toList ++ st) (mk G B S') Q) : EX G M (d + 1) pc lv (As.reverse ++ .ref a :: st) (mk G B S) Q :=
  x_callI hd hk hAs (xBle hlen) (xBle hW) hK (fun w h' q => by obtain ⟨e1, e2⟩ := q; cases e1; subst e2; exact kk) (fun b h' q => by obtain ⟨e1, -⟩ := q; cases e1)
theorem y_newO (hd : decode M.2.1 pc = .ok (.new index, 3)) (hcl : .classLink M.1.cls index ROr ∈ xWS) (hr : xRm G B S) (kk : EX G M d (pc + 3) lv (.ref (sN S) :: st) (mk G B (uN S 6 (eO fun _ => 0))) Q) : EX G M d pc lv st (mk G B S) Q := by
  refine x_new (fs := [.int 0, .int 0, .int 0, .int 0, .int 0, .int 0]) hd cl_Or tyOr_ok hcl ns_Or ni_Or ?_ hr.2.1 hr.2.2 ?_
  · intro j hj
    have : j = 0 ∨ j = 1 ∨ j = 2 ∨ j = 3 ∨ j = 4 ∨ j = 5 := by omega
    rcases this with rfl | rfl | rfl | rfl | rfl | rfl <;> rfl
  · rw [mk_new hr.1]
    exact kk
end YO
theorem bI_fit {b : Bool} : fits .boolean (.int (bI b)) = true := by cases b <;> decide +kernel
theorem xDyn_uE {B : Nat} {S : xS} {a : Nat} {D : Nat → Int32} (h : B + 231 ≤ a) : xDyn B (uE S a (eO D)) a D := ⟨h, sE_uE _ _ _⟩
set_option maxRecDepth 100000 in
set_option maxHeartbeats 1000000 in
theorem c_Or_init {G : xG} {B d : Nat} {S : xS} (hG : xOkG G) {a : Nat} {w h t n : Int32} (ht : narrow .boolean (.int t) = .int t) (hft : fits .boolean (.int t) = true) (ha : xDyn B S a (fun _ => 0)) : EX G m_Or_init d 0 [(0, .ref a), (1, .int w), (2, .int h), (3, .int t), (4, .int n)] [] (mk G B S) (xRet G B none (uE S a (eO (orD w h t n)))) := by
  refine x_aload_n d_Or_init_0 rfl ?_
  refine x_objInit d_Or_init_1 k_Or_1 j_obj_i j_obj_c (xBle rfl) ?_
  refine x_aload_n d_Or_init_4 rfl ?_
  refine x_iload_n d_Or_init_5 rfl ?_
  refine y_putEF d_Or_init_6 rfl pf_Or_7 ha (by decide) rfl rfl rfl ?_
  refine x_aload_n d_Or_init_9 rfl ?_
  refine x_iload_n d_Or_init_10 rfl ?_
  refine y_putEF d_Or_init_11 rfl pf_Or_13 (xDyn_uE ha.1) (by decide) rfl rfl rfl ?_
  refine x_aload_n d_Or_init_14 rfl ?_
  refine x_iload_n d_Or_init_15 rfl ?_
  refine y_putEF d_Or_init_16 rfl pf_Or_16 (xDyn_uE ha.1) (by decide) ht hft rfl ?_
  refine x_aload_n d_Or_init_19 rfl ?_
  refine x_iload d_Or_init_20 rfl ?_
  refine y_putE d_Or_init_22 pf_Or_20 (xDyn_uE ha.1) (by decide) rfl ?_
  refine x_return d_Or_init_25 rfl ?_
  refine ⟨rfl, ?_⟩
  rw [uE_uE, uE_uE, uE_uE]
  rfl
def haOrdS (S : xS) (w h t n : Int32) : xS := uE (uN S 6 (eO fun _ => 0)) (sN S) (eO (orD w h t n))
def haOrder (S : xS) (N : Nat) (D : Nat → Nat → Int32) (rk : Nat → Nat) (w h : Int32) (t : Bool) (n : Int32) : xO × xS :=
  if haLen w = false then (.inr 12, S) else if haLen h = false then (.inr 12, S) else if n < nI 1 then (.inr 12, S) else if ¬ n ≤ nI 6 then (.inr 12, S) else if ¬ N < 6 then (.inr 13, S) else
  (rI (nI N), bkIns (haOrdS S w h (bI t) n) rk N (N - bkPos (fun q => goB (orD w h (bI t) n) (D (rk q))) N) (sN S))
set_option maxRecDepth 100000 in
set_option maxHeartbeats 1000000 in
theorem c_Ha_order {G : xG} {B d : Nat} {S : xS} (hG : xOkG G) {N R : Nat} {oa : Nat → Nat} {D : Nat → Nat → Int32} {rk g tn fl : Nat → Nat} (hI : haI S B N R oa D rk g tn fl) (hrm : xRm G B S) (hoa : ∀ k, k < N → oa k < sN S) {w h n : Int32} {t : Bool} : EX G m_Ha_order (d + 2) 0 [(0, .ref (B + 0)), (1, .int w), (2, .int h), (3, .int (bI t)), (4, .int n)] [] (mk G B S) (xDo G B (haOrder S N D rk w h t n)) := by
  obtain ⟨hsl, ⟨hN, hN6⟩, ho, hinj, hrkd, ⟨hR, hR10⟩, hrk, hgi, htn, hfl, hgm, hmk, ⟨ln, hln, hly⟩⟩ := id hI
  have ho2 : bkOk (haOrdS S w h (bI t) n) B N oa D := fun k hk => ⟨(ho k hk).1, (ho k hk).2.1, by
    have e : oa k ≠ sN S := Nat.ne_of_lt (hoa k hk)
    show va_up (va_up (sE S) (sN S) _) (sN S) _ (oa k) = _
    rw [va_up_ne _ _ e, va_up_ne _ _ e]
    exact (ho k hk).2.2⟩
  refine x_iload_n d_Ha_order_0 rfl ?_
  refine w_callS (As := [_]) d_Ha_order_1 k_Ha_53 rfl rfl rfl (c_Ha_isLength hG) ?_
  refine z_bif_eq 27 d_Ha_order_4 rfl (fun hc4 => ?_) (fun hc4 => ?_)
  · skip
    skip
    refine y_throw hG d_Ha_order_27 d_Ha_order_30 d_Ha_order_31 d_Ha_order_34 (te_Iae nw_Ha_57 k_Ha_59) rfl hrm rfl ?_
    exact xDo.thr (by simp [haOrder, hc4])
  · skip
    skip
    refine x_iload_n d_Ha_order_7 rfl ?_
    refine w_callS (As := [_]) d_Ha_order_8 k_Ha_53 rfl rfl rfl (c_Ha_isLength hG) ?_
    refine z_bif_eq 27 d_Ha_order_11 rfl (fun hc11 => ?_) (fun hc11 => ?_)
    · skip
      skip
      refine y_throw hG d_Ha_order_27 d_Ha_order_30 d_Ha_order_31 d_Ha_order_34 (te_Iae nw_Ha_57 k_Ha_59) rfl hrm rfl ?_
      exact xDo.thr (by simp [haOrder, hc4, hc11])
    · skip
      skip
      refine x_iload d_Ha_order_14 rfl ?_
      refine x_iconst (v := nI 1) d_Ha_order_16 (by decide +kernel) ?_
      refine x_icmp_lt 27 d_Ha_order_17 rfl (fun hc17 => ?_) (fun hc17 => ?_)
      · skip
        skip
        refine y_throw hG d_Ha_order_27 d_Ha_order_30 d_Ha_order_31 d_Ha_order_34 (te_Iae nw_Ha_57 k_Ha_59) rfl hrm rfl ?_
        exact xDo.thr (by simp [haOrder, hc4, hc11, hc17])
      · skip
        skip
        refine x_iload d_Ha_order_20 rfl ?_
        refine x_bipush (v := nI 6) d_Ha_order_22 (by decide +kernel) ?_
        refine x_icmp_le 35 d_Ha_order_24 rfl (fun hc24 => ?_) (fun hc24 => ?_)
        · skip
          skip
          refine x_aload_n d_Ha_order_35 rfl ?_
          refine y_getf d_Ha_order_36 gf_Ha_18 k_hall rfl ?_
          refine y_getf (v := .int (nI N)) d_Ha_order_39 gf_Ha_121 k_book (congrArg (fun q => some (Value.int q)) hN) ?_
          refine x_bipush (v := nI 6) d_Ha_order_42 (by decide +kernel) ?_
          refine z_icmp_lt 55 d_Ha_order_44 rfl (by omega) (by omega) (fun hc44 => ?_) (fun hc44 => ?_)
          · skip
            skip
            refine x_aload_n d_Ha_order_55 rfl ?_
            refine y_getf d_Ha_order_56 gf_Ha_18 k_hall rfl ?_
            refine y_newO d_Ha_order_59 nw_Ha_124 hrm ?_
            refine x_dup d_Ha_order_62 rfl ?_
            refine x_iload_n d_Ha_order_63 rfl ?_
            refine x_iload_n d_Ha_order_64 rfl ?_
            refine x_iload_n d_Ha_order_65 rfl ?_
            refine x_iload d_Ha_order_66 rfl ?_
            refine w_callI (As := [_, _, _, _]) d_Ha_order_68 k_Ha_126 rfl rfl rfl (c_Or_init hG bI_n bI_fit ⟨hrm.1, va_up_self _ _ _⟩) ?_
            refine w_callV (As := [_]) d_Ha_order_71 k_Ha_129 k_book rfl rfl rfl (c_Bk_add (S := haOrdS S w h (bI t) n) hG hN hc44 ho2 hrkd (xDyn_uE hrm.1)) ?_
            refine x_ireturn d_Ha_order_74 rfl rfl ?_
            exact xDo.ret (by simp only [haOrder, hc4, hc11, hc17, hc24, hc44, if_false, not_true_eq_false, Bool.true_eq_false])
          · skip
            skip
            refine y_throw hG d_Ha_order_47 d_Ha_order_50 d_Ha_order_51 d_Ha_order_54 (te_Ise nw_Ha_64 k_Ha_66) rfl hrm rfl ?_
            exact xDo.thr (by simp only [haOrder, hc4, hc11, hc17, hc24, hc44, Nat.not_lt.mpr hc44, if_false, if_true, not_true_eq_false, not_false_eq_true, Bool.true_eq_false])
        · skip
          skip
          refine y_throw hG d_Ha_order_27 d_Ha_order_30 d_Ha_order_31 d_Ha_order_34 (te_Iae nw_Ha_57 k_Ha_59) rfl hrm rfl ?_
          exact xDo.thr (by simp [haOrder, hc4, hc11, hc17, hc24])
/-! what lies in a layout -/
def laI (S : xS) (n N : Nat) : Prop := ∀ i, i < n → (∃ x, x < N ∧ sA S 58 i = nI x) ∧ (∃ c, c ≤ 36 ∧ sA S 61 i = nI c) ∧ ∃ r, r ≤ 36 ∧ sA S 62 i = nI r
theorem laPut_A {S : xS} {n : Nat} {x w h c r : Int32} : sA (laPut S n x w h c r) 58 = va_up (sA S 58) n x ∧ sA (laPut S n x w h c r) 59 = va_up (sA S 59) n w ∧ sA (laPut S n x w h c r) 60 = va_up (sA S 60) n h ∧ sA (laPut S n x w h c r) 61 = va_up (sA S 61) n c ∧ sA (laPut S n x w h c r) 62 = va_up (sA S 62) n r := by
  have e : sA (laPut S n x w h c r) = sA (uA (uA (uA (uA (uA S 58 n x) 59 n w) 60 n h) 61 n c) 62 n r) := rfl
  rw [e]
  refine ⟨?_, ?_, ?_, ?_, ?_⟩
  · rw [sA_uAn _ _ _ (by decide), sA_uAn _ _ _ (by decide), sA_uAn _ _ _ (by decide), sA_uAn _ _ _ (by decide), sA_uA]
  · rw [sA_uAn _ _ _ (by decide), sA_uAn _ _ _ (by decide), sA_uAn _ _ _ (by decide), sA_uA, sA_uAn _ _ _ (by decide)]
  · rw [sA_uAn _ _ _ (by decide), sA_uAn _ _ _ (by decide), sA_uA, sA_uAn _ _ _ (by decide), sA_uAn _ _ _ (by decide)]
  · rw [sA_uAn _ _ _ (by decide), sA_uA, sA_uAn _ _ _ (by decide), sA_uAn _ _ _ (by decide), sA_uAn _ _ _ (by decide)]
  · rw [sA_uA, sA_uAn _ _ _ (by decide), sA_uAn _ _ _ (by decide), sA_uAn _ _ _ (by decide), sA_uAn _ _ _ (by decide)]
theorem laI_put {S : xS} {n N x c r : Nat} {w h : Int32} (q : laI S n N) (hx : x < N) (hc : c ≤ 36) (hr : r ≤ 36) : laI (laPut S n (nI x) w h (nI c) (nI r)) (n + 1) N := by
  intro i hi
  obtain ⟨e1, -, -, e2, e3⟩ := laPut_A (S := S) (n := n) (x := nI x) (w := w) (h := h) (c := nI c) (r := nI r)
  rw [e1, e2, e3]
  by_cases e : i = n
  · subst e
    rw [va_up_self, va_up_self, va_up_self]
    exact ⟨⟨x, hx, rfl⟩, ⟨c, hc, rfl⟩, r, hr, rfl⟩
  · rw [va_up_ne _ _ e, va_up_ne _ _ e, va_up_ne _ _ e]
    exact q i (by omega)
theorem laCols_M {S : xS} : ∀ {n : Nat}, (∀ i, i < n → ∃ c, c ≤ 36 ∧ sA S 61 i = nI c) → ∃ C, C ≤ 37 ∧ laCols S n = nI C
  | 0, _ => ⟨0, by omega, rfl⟩
  | n + 1, h => by
    obtain ⟨C, h1, h2⟩ := laCols_M (S := S) (n := n) (fun i hi => h i (by omega))
    obtain ⟨c, hl, e⟩ := h n (by omega)
    refine ⟨max C (c + 1), by omega, ?_⟩
    simp only [laCols, h2, e]
    rw [nI_add, mx_nI (by omega) (by omega)]
theorem laRows_M {S : xS} {c : Int32} : ∀ {n : Nat}, (∀ i, i < n → ∃ r, r ≤ 36 ∧ sA S 62 i = nI r) → ∃ C, C ≤ 37 ∧ laRows S c n = nI C
  | 0, _ => ⟨0, by omega, rfl⟩
  | n + 1, h => by
    obtain ⟨C, h1, h2⟩ := laRows_M (S := S) (c := c) (n := n) (fun i hi => h i (by omega))
    obtain ⟨r, hl, e⟩ := h n (by omega)
    by_cases hc : sA S 61 n = c
    · refine ⟨max C (r + 1), by omega, ?_⟩
      simp only [laRows, h2, e, hc, if_true]
      rw [nI_add, mx_nI (by omega) (by omega)]
    · exact ⟨C, by omega, by simp only [laRows, h2, hc, if_false]⟩
theorem laI.cols {S : xS} {n N : Nat} (h : laI S n N) : (laCols S n).toNatClampNeg ≤ 37 ∧ laCols S n = nI (laCols S n).toNatClampNeg := by
  obtain ⟨C, h1, h2⟩ := laCols_M (S := S) (n := n) (fun i hi => (h i hi).2.1)
  rw [h2, nI_clamp (by omega)]
  exact ⟨h1, rfl⟩
theorem laI.rows {S : xS} {n N : Nat} (h : laI S n N) (c : Int32) : (laRows S c n).toNatClampNeg ≤ 37 ∧ laRows S c n = nI (laRows S c n).toNatClampNeg := by
  obtain ⟨C, h1, h2⟩ := laRows_M (S := S) (c := c) (n := n) (fun i hi => (h i hi).2.2)
  rw [h2, nI_clamp (by omega)]
  exact ⟨h1, rfl⟩
def stL (S : xS) (n N c : Nat) : Prop := laI S n N ∧ sF S 63 2 = nI c
theorem stL_63 {S : xS} {n N c k : Nat} {v : Int32} (h : stL S n N c) (hk : k ≠ 2) : stL (uF S 63 k v) n N c := ⟨h.1, by rw [sF_uF, va_up_ne _ _ (Ne.symm hk)]; exact h.2⟩
theorem stGot_L {S : xS} {b fl N n c r : Nat} {D : Nat → Nat → Int32} {rk : Nat → Nat} (hrk : ∀ q, q < N → rk q < N) (h : stL S n N c) (hr : sF S 63 3 = nI r) (hc : c ≤ 36) (hr6 : r ≤ 36) (hs : (stFst S b fl n N D rk).isSome = true) : stL (stGot S b fl n N D rk) (n + 1) N c := by
  unfold stGot
  cases e : stFst S b fl n N D rk with
  | none => rw [e] at hs; cases hs
  | some k =>
    have hk : rk k < N := hrk k (fstN_spec e).1
    have key : ∀ t, stL (stPut S n (D (rk k)) (rk k) t) (n + 1) N c := fun t => by
      unfold stPut
      rw [h.2, hr]
      refine ⟨laI_put h.1 hk hc hr6, ?_⟩
      unfold laPut
      rw [sF_uFn _ _ _ (by decide)]; exact h.2
    simp only []
    split
    · exact key _
    · exact key _
theorem stCol_L {b fl N c : Nat} {D : Nat → Nat → Int32} {rk : Nat → Nat} (hrk : ∀ q, q < N → rk q < N) (hc : c ≤ 36) : ∀ (k r : Nat) (S : xS) (n : Nat) (w : Int32), r + k ≤ 36 → stL S n N c → stL (stCol b fl N D rk k r S n w).2.1 (stCol b fl N D rk k r S n w).2.2 N c
  | 0, r, S, n, w, _, h => h
  | k + 1, r, S, n, w, hr, h => by
    unfold stCol
    simp only []
    split
    · exact stL_63 h (by decide)
    · split
      · exact stL_63 h (by decide)
      · rename_i h1 h2
        have g := stGot_L (b := b) (fl := fl) (D := D) hrk (stL_63 (k := 3) (v := nI r) h (by decide)) (by rw [sF_uF]; exact va_up_self _ _ _) hc (by omega) (by revert h2; cases (stFst (uF S 63 3 (nI r)) b fl n N D rk).isSome <;> simp)
        refine stCol_L hrk hc k (r + 1) _ _ _ (by omega) (stL_63 ?_ (by decide))
        split
        · exact stL_63 g (by decide)
        · exact g
theorem stFil_L {b fl N : Nat} {D : Nat → Nat → Int32} {rk : Nat → Nat} (hrk : ∀ q, q < N → rk q < N) : ∀ (k c : Nat) (S : xS) (n : Nat), c + k ≤ 36 → laI S n N → laI (stFil b fl N D rk k c S n).1 (stFil b fl N D rk k c S n).2 N
  | 0, c, S, n, _, h => h
  | k + 1, c, S, n, hc, h => by
    unfold stFil
    simp only []
    have g := stCol_L (b := b) (fl := fl) (D := D) hrk (c := c) (by omega) 36 0 (uF (uF (uF S 63 2 (nI c)) 63 5 (nI 0)) 63 6 (sF (uF (uF S 63 2 (nI c)) 63 5 (nI 0)) b 4 - sF (uF (uF S 63 2 (nI c)) 63 5 (nI 0)) 63 4)) n (nI 0) (by omega) (stL_63 (stL_63 ⟨h, by rw [sF_uF]; exact va_up_self _ _ _⟩ (by decide)) (by decide))
    split
    · exact g.1
    · exact stFil_L hrk k (c + 1) _ _ (by omega) g.1
theorem stFil_I {B b fl N : Nat} {D : Nat → Nat → Int32} {rk oa : Nat → Nat} (hb : isGlass b) : ∀ (k c : Nat) (S : xS) (n : Nat), stI S B b fl N D rk oa n → stI (stFil b fl N D rk k c S n).1 B b fl N D rk oa (stFil b fl N D rk k c S n).2
  | 0, c, S, n, h => h
  | k + 1, c, S, n, h => by
    unfold stFil
    simp only []
    have g := stCol_I (oa := oa) (D := D) (rk := rk) (fl := fl) (N := N) hb 36 0 _ n (nI 0) (stI_63 (k := 6) (v := sF (uF (uF S 63 2 (nI c)) 63 5 (nI 0)) b 4 - sF (uF (uF S 63 2 (nI c)) 63 5 (nI 0)) 63 4) hb (stI_63 (k := 5) (v := nI 0) hb (stI_63 (k := 2) (v := nI c) hb h)))
    split
    · exact g
    · exact stFil_I hb k (c + 1) _ _ (stI_63 hb g)
/-! plan -/
def haFill (S : xS) (fl : Nat → Nat) (N : Nat) (D : Nat → Nat → Int32) (rk : Nat → Nat) (j : Nat) : xS × Nat := stFil (67 + 15 * j) (fl j) N D rk 36 0 (uF (uF S 57 5 (nI 0)) 63 4 (nI 0)) 0
def haAdo (S : xS) (oa : Nat → Nat) (D : Nat → Nat → Int32) (j m : Nat) : xS := haAd S oa D j m (laCols S m).toNatClampNeg (fun c => (laRows S (nI c) m).toNatClampNeg)
def haPlan (S : xS) (N : Nat) (oa : Nat → Nat) (D : Nat → Nat → Int32) (rk tn fl : Nat → Nat) (x : Int32) : xO × xS := match fstN (idB S x) 8 with
  | none => (.inr 11, S)
  | some j => if 0 < tn j then (.inr 13, S) else (rI (nI (haFill S fl N D rk j).2), haAdo (haFill S fl N D rk j).1 oa D j (haFill S fl N D rk j).2)
set_option maxRecDepth 100000 in
set_option maxHeartbeats 1000000 in
theorem c_Ha_plan {G : xG} {B d : Nat} {S : xS} (hG : xOkG G) {N R : Nat} {oa : Nat → Nat} {D : Nat → Nat → Int32} {rk g tn fl : Nat → Nat} (hI : haI S B N R oa D rk g tn fl) (hrm : xRm G B S) {x : Int32} : EX G m_Ha_plan (d + 7) 0 [(0, .ref (B + 0)), (1, .int x)] [] (mk G B S) (xDo G B (haPlan S N oa D rk tn fl x)) := by
  obtain ⟨hsl, ⟨hN, hN6⟩, ho, hinj, hrkd, ⟨hR, hR10⟩, hrk, hgi, htn, hfl, hgm, hmk, ⟨ln, hln, hly⟩⟩ := id hI
  refine x_aload_n d_Ha_plan_0 rfl ?_
  refine x_iload_n d_Ha_plan_1 rfl ?_
  rcases hf : fstN (idB S x) 8 with _ | j
  · skip
    refine w_callT (As := [_]) d_Ha_plan_2 k_Ha_89 k_hall rfl rfl rfl (c_Ha_findSheetT hG hsl hrm hf) rfl ?_
    exact xDo.thr (by simp only [haPlan, hf])
  · skip
    have hj := fsL hf
    refine w_callV (As := [_]) d_Ha_plan_2 k_Ha_89 k_hall rfl rfl rfl (c_Ha_findSheet hG hsl hf) ?_
    refine s_astore_n (lv' := [(0, _), (1, _), (2, _)]) d_Ha_plan_5 (by decide) rfl ?_
    refine x_aload_n d_Ha_plan_6 rfl ?_
    refine y_getf d_Ha_plan_7 gf_Ha_104 (k_sheet (fsL hf)) rfl ?_
    refine w_callV (As := []) d_Ha_plan_10 k_Ha_108 (k_tree (trS (fsL hf))) rfl rfl rfl (c_Tr_isGrown hG (trS hj) (htn j hj).1 (htn j hj).2) ?_
    refine z_bif_eq 24 d_Ha_plan_13 rfl (fun hc13 => ?_) (fun hc13 => ?_)
    · skip
      have h0 : ¬ 0 < tn j := of_decide_eq_false hc13
      refine x_aload_n d_Ha_plan_24 rfl ?_
      refine y_getf d_Ha_plan_25 gf_Ha_41 k_hall rfl ?_
      refine x_aload_n d_Ha_plan_28 rfl ?_
      refine y_getf d_Ha_plan_29 gf_Ha_67 (k_sheet (fsL hf)) rfl ?_
      have hst : stI S B (67 + 15 * j) (fl j) N D rk oa ln := ⟨⟨hly, hln⟩, hfl j hj, ⟨hN, hN6⟩, ho, hrkd⟩
      have hF : stI (haFill S fl N D rk j).1 B (67 + 15 * j) (fl j) N D rk oa (haFill S fl N D rk j).2 := stFil_I (glS hj) 36 0 _ 0 (stI_63 (glS hj) (stI_clear (glS hj) hst))
      have hL : laI (haFill S fl N D rk j).1 (haFill S fl N D rk j).2 N := stFil_L (fun q hq => (hrkd q hq).2) 36 0 _ 0 (by omega) (fun i hi => absurd hi (Nat.not_lt_zero i))
      have hF36 := hF.1.2
      refine w_callV (As := [_]) d_Ha_plan_32 k_Ha_133 k_strips rfl rfl rfl (c_St_fill hG (glS hj) hst) ?_
      refine x_aload_n d_Ha_plan_35 rfl ?_
      refine x_aload_n d_Ha_plan_36 rfl ?_
      refine w_callV (As := [_]) d_Ha_plan_37 k_Ha_137 k_hall rfl rfl rfl (c_Ha_adoptLayout (S := (haFill S fl N D rk j).1) (m := (haFill S fl N D rk j).2) (k := fun cc => (laRows ((haFill S fl N D rk j).1) (nI cc) ((haFill S fl N D rk j).2)).toNatClampNeg) hG hj hF.1.1 (by omega) hL.cols.2 (by have := hL.cols.1; omega) (fun cc _ => ⟨(hL.rows (nI cc)).2, by have := (hL.rows (nI cc)).1; omega⟩) hF.2.2.1.1 hN6 hF.2.2.2.1 hinj (fun i hi => (hL i hi).1)) ?_
      refine x_ireturn d_Ha_plan_40 rfl rfl ?_
      exact xDo.ret (by simp only [haPlan, hf, h0, if_false]; rfl)
    · skip
      have h0 : 0 < tn j := of_decide_eq_true hc13
      refine y_throw hG d_Ha_plan_16 d_Ha_plan_19 d_Ha_plan_20 d_Ha_plan_23 (te_Ise nw_Ha_64 k_Ha_66) rfl hrm rfl ?_
      exact xDo.thr (by simp only [haPlan, hf, h0, if_true])
/-! exact -/
def nmOf (S : xS) (i : Nat) : Nat := (sA S 65 i).toNatClampNeg
def tiAll (S : xS) (q N : Nat) : Bool := (List.range q).all fun i => inB N (sA S 65 i)
def tiOpen (S : xS) (q : Nat) (D : Nat → Nat → Int32) : Bool := (List.range q).all fun i => decide (nI (tiTimes S (sA S 65 i) q) ≤ D (nmOf S i) 3)
def haEx (S : xS) (D : Nat → Nat → Int32) (j q : Nat) : Bool × xS := tiFrom (67 + 15 * j) D (nmOf S) q 0 (uF S 57 5 (nI 0))
def haExact (S : xS) (N : Nat) (oa : Nat → Nat) (D : Nat → Nat → Int32) (tn fl : Nat → Nat) (x a b c : Int32) : xO × xS := match fstN (idB S x) 8 with
  | none => (.inr 11, S)
  | some j => if tiAll (tiCall S a b c).1 (tiCall S a b c).2 N = false then (.inr 11, (tiCall S a b c).1) else if 0 < tn j then (.inr 13, (tiCall S a b c).1) else if 0 < fl j then (.inr 13, (tiCall S a b c).1) else
    if tiOpen (tiCall S a b c).1 (tiCall S a b c).2 D = false then (.inr 13, (tiCall S a b c).1) else
    (rI (nI (if (haEx (tiCall S a b c).1 D j (tiCall S a b c).2).1 = true then (tiCall S a b c).2 else 0)), haAdo (haEx (tiCall S a b c).1 D j (tiCall S a b c).2).2 oa D j (if (haEx (tiCall S a b c).1 D j (tiCall S a b c).2).1 = true then (tiCall S a b c).2 else 0))
theorem tiAddN_K {S : xS} {q : Nat} {x : Int32} : sK 64 66 S (tiAddN S q x).1 := by
  unfold tiAddN
  split
  · exact sK.rf
  · split
    · exact sK.rf
    · exact (sK.rf.A (by omega)).F (by omega)
theorem tiCall_K {S : xS} {a b c : Int32} : sK 64 66 S (tiCall S a b c).1 := ((sK.rf.A (by omega)).F (by omega)).trans (tiAddN_K.trans tiAddN_K)
theorem tiCall_n {S : xS} {a b c : Int32} : sF (tiCall S a b c).1 64 3 = nI (tiCall S a b c).2 ∧ (tiCall S a b c).2 ≤ 3 :=
  have h1 : sF (uF (uA S 65 0 a) 64 3 (nI 1)) 64 3 = nI 1 := by rw [sF_uF]; exact va_up_self _ _ _
  tiAddN_ok (tiAddN_ok h1 (by decide)).1 (tiAddN_ok h1 (by decide)).2
theorem haI_K64 {S S' : xS} {B N R : Nat} {oa : Nat → Nat} {D : Nat → Nat → Int32} {rk g tn fl : Nat → Nat} (hK : sK 64 66 S S') (h : haI S B N R oa D rk g tn fl) : haI S' B N R oa D rk g tn fl := by
  have hg : ∀ k, k < 10 → ∃ t, t < 10 ∧ g k = 7 + 5 * t := fun k hk => rkGl h hk
  obtain ⟨a1, a2, a3, a4, a5, a6, a7, a8, a9, a10, a11, a12, a13⟩ := h
  have eF : ∀ q, (q < 64 ∨ 66 ≤ q) → sF S' q = sF S q := fun q hq => (hK.1 q hq).1
  have eA : ∀ q, (q < 64 ∨ 66 ≤ q) → sA S' q = sA S q := fun q hq => (hK.1 q hq).2.1
  have eR : ∀ q, (q < 64 ∨ 66 ≤ q) → sR S' q = sR S q := fun q hq => (hK.1 q hq).2.2.2
  refine ⟨fun j hj => ?_, ⟨?_, a2.2⟩, fun k hk => ⟨?_, (a3 k hk).2.1, ?_⟩, a4, fun q hq => ?_, ⟨?_, a6.2⟩, fun k hk => ⟨?_, (a7 k hk).2⟩, a8, fun j hj => ⟨?_, (a9 j hj).2⟩, fun j hj => ⟨?_, (a10 j hj).2⟩, fun k hk => ?_, fun j i hj hi h2 => ?_, ?_⟩
  · rw [eR 1 (by omega)]; exact a1 j hj
  · rw [eF 2 (by omega)]; exact a2.1
  · rw [eR 3 (by omega)]; exact (a3 k hk).1
  · rw [hK.2.1]; exact (a3 k hk).2.2
  · rw [eA 4 (by omega)]; exact a5 q hq
  · rw [eF 5 (by omega)]; exact a6.1
  · rw [eR 6 (by omega)]; exact (a7 k hk).1
  · rw [eF _ (by omega)]; exact (a9 j hj).1
  · rw [eF _ (by omega)]; exact (a10 j hj).1
  · obtain ⟨t', ht', et'⟩ := hg k hk
    rw [eF _ (by omega)]; exact a11 k hk
  · rw [eA _ (by omega)] at h2
    rw [eA _ (by omega)]
    exact a12 j i hj hi h2
  · rw [eF 57 (by omega)]; exact a13
theorem xRm_K {G : xG} {B lo hi : Nat} {S S' : xS} (hK : sK lo hi S S') (h : xRm G B S) : xRm G B S' := by
  unfold xRm at *
  rw [hK.2.2.1, hK.2.2.2]; exact h
theorem tiAll_nm {S : xS} {q N : Nat} (hN : N ≤ 6) (h : tiAll S q N = true) : ∀ i, i < q → sA S 65 i = nI (nmOf S i) ∧ nmOf S i < N := by
  intro i hi
  have h1 : inB N (sA S 65 i) = true := List.all_eq_true.mp h i (List.mem_range.mpr hi)
  rcases inB_cases (N := N) (by omega) (sA S 65 i) with ⟨k, hk, e, -⟩ | hz
  · unfold nmOf
    rw [e, nI_clamp (by omega)]
    exact ⟨rfl, hk⟩
  · rw [h1] at hz; cases hz
set_option maxRecDepth 100000 in
set_option maxHeartbeats 1000000 in
theorem c_Ha_exact {G : xG} {B d : Nat} {S : xS} (hG : xOkG G) {N R : Nat} {oa : Nat → Nat} {D : Nat → Nat → Int32} {rk g tn fl : Nat → Nat} (hI : haI S B N R oa D rk g tn fl) (hrm : xRm G B S) {x a b c : Int32} : EX G m_Ha_exact (d + 12) 0 [(0, .ref (B + 0)), (1, .int x), (2, .int a), (3, .int b), (4, .int c)] [] (mk G B S) (xDo G B (haExact S N oa D tn fl x a b c)) := by
  obtain ⟨hsl, ⟨hN, hN6⟩, ho, hinj, hrkd, ⟨hR, hR10⟩, hrk, hgi, htn, hfl, hgm, hmk, ⟨ln, hln, hly⟩⟩ := id hI
  refine x_aload_n d_Ha_exact_0 rfl ?_
  refine x_iload_n d_Ha_exact_1 rfl ?_
  rcases hf : fstN (idB S x) 8 with _ | j
  · skip
    refine w_callT (As := [_]) d_Ha_exact_2 k_Ha_89 k_hall rfl rfl rfl (c_Ha_findSheetT hG hsl hrm hf) rfl ?_
    exact xDo.thr (by simp only [haExact, hf])
  · skip
    have hj := fsL hf
    refine w_callV (As := [_]) d_Ha_exact_2 k_Ha_89 k_hall rfl rfl rfl (c_Ha_findSheet hG hsl hf) ?_
    refine s_astore (lv' := [(0, _), (1, _), (2, _), (3, _), (4, _), (5, _)]) d_Ha_exact_5 (by decide) rfl ?_
    refine x_aload_n d_Ha_exact_7 rfl ?_
    refine y_getf d_Ha_exact_8 gf_Ha_48 k_hall rfl ?_
    refine x_iload_n d_Ha_exact_11 rfl ?_
    refine x_iload_n d_Ha_exact_12 rfl ?_
    refine x_iload d_Ha_exact_13 rfl ?_
    refine w_callV (As := [_, _, _]) d_Ha_exact_15 k_Ha_140 k_trial rfl rfl rfl (c_Ti_callNames hG) ?_
    have hI1 := haI_K64 (tiCall_K (a := a) (b := b) (c := c)) hI
    have hrm1 := xRm_K (tiCall_K (a := a) (b := b) (c := c)) hrm
    have hq := tiCall_n (S := S) (a := a) (b := b) (c := c)
    refine x_aload_n d_Ha_exact_18 rfl ?_
    refine y_getf d_Ha_exact_19 gf_Ha_48 k_hall rfl ?_
    refine w_callV (As := []) d_Ha_exact_22 k_Ha_144 k_trial rfl rfl rfl (c_Ti_namesAreThere hG hq.1 hq.2 hI1.2.1.1 hN6 (fun k hk => ⟨_, (hI1.2.2.1 k hk).1⟩)) ?_
    refine z_bif_ne 36 d_Ha_exact_25 rfl (fun hc25 => ?_) (fun hc25 => ?_)
    · skip
      have h25 : tiAll (tiCall S a b c).1 (tiCall S a b c).2 N = true := hc25
      have hnm := tiAll_nm hN6 h25
      refine x_aload d_Ha_exact_36 rfl ?_
      refine y_getf d_Ha_exact_38 gf_Ha_104 (k_sheet (fsL hf)) rfl ?_
      refine w_callV (As := []) d_Ha_exact_41 k_Ha_108 (k_tree (trS (fsL hf))) rfl rfl rfl (c_Tr_isGrown hG (trS hj) (hI1.2.2.2.2.2.2.2.2.1 j hj).1 (htn j hj).2) ?_
      refine z_bif_ne 68 d_Ha_exact_44 rfl (fun hc44 => ?_) (fun hc44 => ?_)
      · skip
        have h0 : 0 < tn j := of_decide_eq_true hc44
        refine y_throw hG d_Ha_exact_68 d_Ha_exact_71 d_Ha_exact_72 d_Ha_exact_75 (te_Ise nw_Ha_64 k_Ha_66) rfl hrm1 rfl ?_
        refine xDo.thr ?_
        first
          | (simp only [haExact, hf, h25, h0, h55, h65, if_true, if_false, Bool.true_eq_false]; done)
          | (simp only [haExact, hf, h25, h0, hc55, if_true, if_false, Bool.true_eq_false]; done)
          | (simp only [haExact, hf, h25, h0, if_true, if_false, Bool.true_eq_false]; done)
      · skip
        have h0 : ¬ 0 < tn j := of_decide_eq_false hc44
        refine x_aload d_Ha_exact_47 rfl ?_
        refine y_getf d_Ha_exact_49 gf_Ha_67 (k_sheet (fsL hf)) rfl ?_
        refine y_getf (v := .int (nI (fl j))) d_Ha_exact_52 gf_Ha_114 (k_glass (glS (fsL hf))) (congrArg (fun q => some (Value.int q)) (hI1.2.2.2.2.2.2.2.2.2.1 j hj).1) ?_
        refine z_if_gt 68 d_Ha_exact_55 rfl (by have := (hfl j hj).2; omega) (fun hc55 => ?_) (fun hc55 => ?_)
        · skip
          skip
          refine y_throw hG d_Ha_exact_68 d_Ha_exact_71 d_Ha_exact_72 d_Ha_exact_75 (te_Ise nw_Ha_64 k_Ha_66) rfl hrm1 rfl ?_
          refine xDo.thr ?_
          first
            | (simp only [haExact, hf, h25, h0, h55, h65, if_true, if_false, Bool.true_eq_false]; done)
            | (simp only [haExact, hf, h25, h0, hc55, if_true, if_false, Bool.true_eq_false]; done)
            | (simp only [haExact, hf, h25, h0, if_true, if_false, Bool.true_eq_false]; done)
        · skip
          have h55 : ¬ 0 < fl j := by omega
          refine x_aload_n d_Ha_exact_58 rfl ?_
          refine y_getf d_Ha_exact_59 gf_Ha_48 k_hall rfl ?_
          refine w_callV (As := []) d_Ha_exact_62 k_Ha_150 k_trial rfl rfl rfl (c_Ti_namesAreOpen hG hq.1 hq.2 hI1.2.1.1 hN6 hI1.2.2.1 hnm) ?_
          refine z_bif_ne 76 d_Ha_exact_65 rfl (fun hc65 => ?_) (fun hc65 => ?_)
          · skip
            have h65 : tiOpen (tiCall S a b c).1 (tiCall S a b c).2 D = true := hc65
            refine x_aload_n d_Ha_exact_76 rfl ?_
            refine y_getf d_Ha_exact_77 gf_Ha_48 k_hall rfl ?_
            refine x_aload d_Ha_exact_80 rfl ?_
            refine y_getf d_Ha_exact_82 gf_Ha_67 (k_sheet (fsL hf)) rfl ?_
            have hti : tiI (uF (tiCall S a b c).1 57 5 (nI 0)) B N (tiCall S a b c).2 D oa (nmOf (tiCall S a b c).1) 0 (fun _ => 0) (fun _ => 0) := ⟨⟨by rw [sF_uF]; exact va_up_self _ _ _, by omega⟩, ⟨by rw [sF_uFn _ _ _ (by decide)]; exact hI1.2.1.1, hN6, hI1.2.2.1⟩, ⟨by rw [sF_uFn _ _ _ (by decide)]; exact hq.1, hq.2⟩, hnm, fun i hi => absurd hi (Nat.not_lt_zero i)⟩
            have hg := tiFrom_G (b := 67 + 15 * j) (tiCall S a b c).2 0 _ _ _ (by omega) hti
            have hgg : ∃ cl rw', tiI (haEx (tiCall S a b c).1 D j (tiCall S a b c).2).2 B N (tiCall S a b c).2 D oa (nmOf (tiCall S a b c).1) (if (haEx (tiCall S a b c).1 D j (tiCall S a b c).2).1 = true then (tiCall S a b c).2 else 0) cl rw' := by
              by_cases e : (haEx (tiCall S a b c).1 D j (tiCall S a b c).2).1 = true
              · rw [if_pos e]; exact hg.2 e
              · rw [if_neg e]; exact ⟨_, _, hg.1 (by cases z : (haEx (tiCall S a b c).1 D j (tiCall S a b c).2).1 with | false => exact z | true => exact absurd z e)⟩
            obtain ⟨cl, rw', hT⟩ := hgg
            have hL : laI (haEx (tiCall S a b c).1 D j (tiCall S a b c).2).2 (if (haEx (tiCall S a b c).1 D j (tiCall S a b c).2).1 = true then (tiCall S a b c).2 else 0) N := fun i hi => ⟨⟨nmOf (tiCall S a b c).1 i, (hT.2.2.2.1 i (by revert hi; split <;> omega)).2, (hT.2.2.2.2 i hi).1⟩, ⟨cl i, by have := (hT.2.2.2.2 i hi).2.2.2.1; have := hT.1.2; omega, (hT.2.2.2.2 i hi).2.1⟩, rw' i, by have := (hT.2.2.2.2 i hi).2.2.2.2; have := hT.1.2; omega, (hT.2.2.2.2 i hi).2.2.1⟩
            have hF36 := hT.1.2
            refine w_callV (As := [_]) d_Ha_exact_85 k_Ha_153 k_trial rfl rfl rfl (c_Ti_fill hG (glS hj) hti) ?_
            refine x_aload_n d_Ha_exact_88 rfl ?_
            refine x_aload d_Ha_exact_89 rfl ?_
            refine w_callV (As := [_]) d_Ha_exact_91 k_Ha_137 k_hall rfl rfl rfl (c_Ha_adoptLayout (S := (haEx (tiCall S a b c).1 D j (tiCall S a b c).2).2) (m := (if (haEx (tiCall S a b c).1 D j (tiCall S a b c).2).1 = true then (tiCall S a b c).2 else 0)) (k := fun cc => (laRows ((haEx (tiCall S a b c).1 D j (tiCall S a b c).2).2) (nI cc) ((if (haEx (tiCall S a b c).1 D j (tiCall S a b c).2).1 = true then (tiCall S a b c).2 else 0))).toNatClampNeg) hG hj hT.1.1 (by omega) hL.cols.2 (by have := hL.cols.1; omega) (fun cc _ => ⟨(hL.rows (nI cc)).2, by have := (hL.rows (nI cc)).1; omega⟩) hT.2.1.1 hN6 hT.2.1.2.2 hinj (fun i hi => (hL i hi).1)) ?_
            refine x_ireturn d_Ha_exact_94 rfl rfl ?_
            exact xDo.ret (by simp only [haExact, hf, h25, h0, h55, h65, if_false, Bool.true_eq_false]; rfl)
          · skip
            have h65 : tiOpen (tiCall S a b c).1 (tiCall S a b c).2 D = false := hc65
            refine y_throw hG d_Ha_exact_68 d_Ha_exact_71 d_Ha_exact_72 d_Ha_exact_75 (te_Ise nw_Ha_64 k_Ha_66) rfl hrm1 rfl ?_
            refine xDo.thr ?_
            first
              | (simp only [haExact, hf, h25, h0, h55, h65, if_true, if_false, Bool.true_eq_false]; done)
              | (simp only [haExact, hf, h25, h0, hc55, if_true, if_false, Bool.true_eq_false]; done)
              | (simp only [haExact, hf, h25, h0, if_true, if_false, Bool.true_eq_false]; done)
    · skip
      have h25 : tiAll (tiCall S a b c).1 (tiCall S a b c).2 N = false := hc25
      refine y_throw hG d_Ha_exact_28 d_Ha_exact_31 d_Ha_exact_32 d_Ha_exact_35 (te_Nse nw_Ha_147 k_Ha_149) rfl hrm1 rfl ?_
      exact xDo.thr (by simp only [haExact, hf, h25, if_true])
