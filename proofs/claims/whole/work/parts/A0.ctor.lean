/-! constructors: the heap grows cell by cell; what is not yet whole stands in ov -/
def R0 (B o : Nat) : Nat → Option Nat := fun j => if o = 1 ∧ j < 8 then some (B + (66 + 15 * j)) else if o = 6 ∧ j < 10 then some (B + (7 + 5 * j)) else none
def z0 (G : xG) (B o : Nat) : va_E := cAt G B o (fun _ => 0) (fun _ => 0) (fun _ => 0) (R0 B o)
def hP (G : xG) (B k n : Nat) (ov : Nat → Option va_E) : xH := (B + k, n, fun a => if a < B then none else if a < B + k then (match ov (a - B) with
  | some e => some e
  | none => some (z0 G B (a - B))) else none)
def xCt (h' : xH) : xR → xH → Prop := fun r h => r = .inl none ∧ h = h'
section HP
variable {G : xG} {B k n o N : Nat} {ov : Nat → Option va_E} {e e' : va_E}
theorem hP_ov (ho : o < k) (h : ov o = some e) : (hP G B k n ov).2.2 (B + o) = some e := by
  show (if B + o < B then none else if B + o < B + k then _ else none) = _
  rw [if_neg (by omega), if_pos (by omega), show B + o - B = o by omega, h]
theorem hP_z (ho : o < k) (h : ov o = none) : (hP G B k n ov).2.2 (B + o) = some (z0 G B o) := by
  show (if B + o < B then none else if B + o < B + k then _ else none) = _
  rw [if_neg (by omega), if_pos (by omega), show B + o - B = o by omega, h]
theorem hP_new : xNew (hP G B k n ov) N e = hP G B (k + 1) (n + N) (va_up ov k (some e)) := by
  unfold xNew
  refine Prod.ext (by show B + k + 1 = B + (k + 1); omega) (Prod.ext rfl (funext fun a => ?_))
  show va_up _ (B + k) (some e) a = (if a < B then none else if a < B + (k + 1) then (match va_up ov k (some e) (a - B) with
    | some e => some e
    | none => some (z0 G B (a - B))) else none)
  by_cases e1 : a = B + k
  · subst e1
    rw [va_up_self, if_neg (by omega), if_pos (by omega), show B + k - B = k by omega, va_up_self]
  · rw [va_up_ne _ _ e1]
    show (if a < B then none else if a < B + k then _ else none) = _
    by_cases e2 : a < B
    · rw [if_pos e2, if_pos e2]
    · rw [if_neg e2, if_neg e2, va_up_ne _ _ (show a - B ≠ k by omega)]
      by_cases e3 : a < B + k
      · rw [if_pos e3, if_pos (by omega)]
      · rw [if_neg e3, if_neg (by omega)]
theorem hP_done (h0 : ov o = none) : hP G B k n (va_up ov o (some (z0 G B o))) = hP G B k n ov := by
  unfold hP
  refine Prod.ext rfl (Prod.ext rfl (funext fun a => ?_))
  simp only []
  by_cases e2 : a < B
  · rw [if_pos e2, if_pos e2]
  · rw [if_neg e2, if_neg e2]
    by_cases e3 : a < B + k
    · rw [if_pos e3, if_pos e3]
      by_cases e4 : a - B = o
      · rw [e4, va_up_self, h0]
      · rw [va_up_ne _ _ e4]
    · rw [if_neg e3, if_neg e3]
theorem hP_fin (h : z0 G B o = e) (h0 : ov o = none) : hP G B k n (va_up ov o (some e)) = hP G B k n ov := by
  rw [← h]; exact hP_done h0
theorem hP_arr (he : e = z0 G B k) (h0 : ov k = none) : xNew (hP G B k n ov) N e = hP G B (k + 1) (n + N) ov := by
  rw [hP_new, he, hP_done h0]
theorem hP_set (ho : o < k) : xSet (hP G B k n ov) (B + o) e = hP G B k n (va_up ov o (some e)) := by
  unfold xSet
  refine Prod.ext rfl (Prod.ext rfl (funext fun a => ?_))
  show va_up _ (B + o) (some e) a = (if a < B then none else if a < B + k then (match va_up ov o (some e) (a - B) with
    | some e => some e
    | none => some (z0 G B (a - B))) else none)
  by_cases e1 : a = B + o
  · subst e1
    rw [va_up_self, if_neg (by omega), if_pos (by omega), show B + o - B = o by omega, va_up_self]
  · rw [va_up_ne _ _ e1]
    show (if a < B then none else if a < B + k then _ else none) = _
    by_cases e2 : a < B
    · rw [if_pos e2, if_pos e2]
    · rw [if_neg e2, if_neg e2, va_up_ne _ _ (show a - B ≠ o by omega)]
theorem va_upup {α : Type} {f : Nat → α} {i : Nat} {x y : α} : va_up (va_up f i x) i y = va_up f i y := by
  funext j
  by_cases h : j = i
  · subst h; rw [va_up_self, va_up_self]
  · rw [va_up_ne _ _ h, va_up_ne _ _ h, va_up_ne _ _ h]
theorem va_swap {α : Type} {f : Nat → α} {i j : Nat} {x y : α} (h : i ≠ j) : va_up (va_up f i x) j y = va_up (va_up f j y) i x := by
  funext q
  by_cases h1 : q = i
  · subst h1; rw [va_up_ne _ _ h, va_up_self, va_up_self]
  · by_cases h2 : q = j
    · subst h2; rw [va_up_self, va_up_ne _ _ h1, va_up_self]
    · rw [va_up_ne _ _ h2, va_up_ne _ _ h1, va_up_ne _ _ h1, va_up_ne _ _ h2]
end HP
section HR
variable {G : xG} {M : xM} {d pc : Nat} {lv : List (Nat × Value)} {st : List Value} {Q : xR → xH → Prop} {B k n N : Nat} {ov : Nat → Option va_E}
/-- a new array that is at once what it shall be -/
theorem p_newI (hG : xOkG G) (hd : decode M.2.1 pc = .ok (.newarray .int, 2)) {w : Int32} (hw : w = nI N) (hN : N < 2 ^ 20) (hz : z0 G B k = eI G N (fun _ => 0)) (h0 : ov k = none) (hc : B + k + 1 ≤ gC G) (hs : n + N ≤ gS G) (kk : EX G M d (pc + 2) lv (.ref (B + k) :: st) (hP G B (k + 1) (n + N) ov) Q) : EX G M d pc lv (.int w :: st) (hP G B k n ov) Q :=
  x_newa (a0 := (N, .inl fun _ => 0)) hd rfl (fun C h => by cases h) (tA_at hG 0 rfl) aw_int hw hN (fun cA => vp_cell_i cA N _) (by decide) hc hs (by rw [hP_arr hz.symm h0]; exact kk)
theorem p_newZ (hG : xOkG G) (hd : decode M.2.1 pc = .ok (.newarray .boolean, 2)) {w : Int32} (hw : w = nI N) (hN : N < 2 ^ 20) (hz : z0 G B k = eZ G N (fun _ => 0)) (h0 : ov k = none) (hc : B + k + 1 ≤ gC G) (hs : n + N ≤ gS G) (kk : EX G M d (pc + 2) lv (.ref (B + k) :: st) (hP G B (k + 1) (n + N) ov) Q) : EX G M d pc lv (.int w :: st) (hP G B k n ov) Q :=
  x_newa (a0 := (N, .inl fun _ => 0)) hd rfl (fun C h => by cases h) (tA_at hG 2 rfl) aw_boolean hw hN (fun cA => vp_cell_i cA N _) (by decide) hc hs (by rw [hP_arr hz.symm h0]; exact kk)
theorem p_newJ (hG : xOkG G) (hd : decode M.2.1 pc = .ok (.newarray .long, 2)) {w : Int32} (hw : w = nI N) (hN : N < 2 ^ 20) (hz : z0 G B k = eJ G N (fun _ => 0)) (h0 : ov k = none) (hc : B + k + 1 ≤ gC G) (hs : n + N ≤ gS G) (kk : EX G M d (pc + 2) lv (.ref (B + k) :: st) (hP G B (k + 1) (n + N) ov) Q) : EX G M d pc lv (.int w :: st) (hP G B k n ov) Q :=
  x_newa (a0 := (N, .inr (.inl fun _ => 0))) hd rfl (fun C h => by cases h) (tA_at hG 1 rfl) aw_long hw hN (fun cA => vp_cell_l cA N _) (by decide) hc hs (by rw [hP_arr hz.symm h0]; exact kk)
/-- a final field of an object under way -/
theorem p_putF {index ci q o : Nat} {ty : FieldType} {fs fs' : List Value} {v : Value} (hd : decode M.2.1 pc = .ok (.putfield index, 3)) (hM : M.1.name = "<init>") (hk : xPf M.1.cls index ci q ty) (ho : o < k) (hl : Nat.ble (q + 1) fs.length = true) (hn : narrow ty v = v) (hf : fits ty v = true) (hfs : fs.set q v = fs') (kk : EX G M d (pc + 3) lv st (hP G B k n (va_up ov o (some (.inr (ci, fs'))))) Q) : EX G M d pc lv (v :: .ref (B + o) :: st) (hP G B k n (va_up ov o (some (.inr (ci, fs))))) Q :=
  x_putF hd hM hk (hP_ov ho (va_up_self _ _ _)) (Nat.le_of_ble_eq_true hl) hn hf (by rw [hP_set ho, va_upup, hfs]; exact kk)
theorem p_ret (hd : decode M.2.1 pc = .ok (.return_, 1)) (hr0 : M.2.2.2.1 = none) {h h' : xH} (e : h = h') : EX G M d pc lv [] h (xCt h') := by
  subst e
  exact x_return hd hr0 ⟨rfl, rfl⟩
/-- a constructor is called -/
theorem p_callI {index b m : Nat} {M' : xM} {As : List Value} {h h' : xH} (hd : decode M.2.1 pc = .ok (.invokespecial index, 3)) (hk : xLkI M.1.cls index M' m) (hAs : As.length = m) (hlen : Nat.ble (lg_sl (.ref b :: As)).length M'.2.2.1 = true) (hW : Nat.ble ((st.map fun v => v.category).sum + (M'.2.2.1 + 11)) 64 = true)
    (hK : EX G M' d 0 (lv_args 0 (.ref b :: As)) [] h (xCt h')) (kk : EX G M (d + 1) (pc + 3) lv st h' Q) : EX G M (d + 1) pc lv (As.reverse ++ .ref b :: st) h Q :=
  x_callI hd hk hAs (xBle hlen) (xBle hW) hK (fun v h2 q => by obtain ⟨e1, e2⟩ := q; cases e1; subst e2; exact kk) (fun a h2 q => by obtain ⟨e1, -⟩ := q; cases e1)
theorem p_new {index ci : Nat} {C : String} {T : u_T} {ty : Nat → FieldType} {fs : List Value} (hd : decode M.2.1 pc = .ok (.new index, 3)) (hk : xCl ci C T N) (hty : ∀ k, k < N → parseFieldDescriptor (T k).2.2.1 = some (ty k)) (hcl : .classLink M.1.cls index C ∈ xWS) (hin : .instantiable C N ∈ xWS) (hini : .initialized C ∈ xWS)
    (hfs : ∀ j, j < N → defaultValue (ty j) = vp_V fs j) (hc : B + k + 1 ≤ gC G) (hs : n + N ≤ gS G) (kk : EX G M d (pc + 3) lv (.ref (B + k) :: st) (hP G B (k + 1) (n + N) (va_up ov k (some (.inr (ci, fs))))) Q) : EX G M d pc lv st (hP G B k n ov) Q :=
  x_new hd hk hty hcl hin hini hfs hc hs (by rw [hP_new]; exact kk)
end HR
theorem z0_gl {G : xG} {B b t : Nat} (hb : isGlass b) (ht : t < 5) : z0 G B (b + t) = cGlass G B b t (fun _ => 0) (fun _ => 0) := hb.cell ht _ _ _ _
theorem z0_tr {G : xG} {B b t : Nat} (hb : isTree b) (ht : t < 9) : z0 G B (b + t) = cTree G B b t (fun _ => 0) (fun _ => 0) := hb.cell ht _ _ _ _
set_option maxRecDepth 100000 in
theorem c_Gl_init {G : xG} {B d n : Nat} {ov : Nat → Option va_E} (hG : xOkG G) {b : Nat} (hb : isGlass b) (hov : ∀ t, t < 5 → ov (b + t) = none) (hc : B + b + 5 ≤ gC G) (hs : n + 24 ≤ gS G) : EX G m_Gl_init d 0 [(0, .ref (B + b))] [] (hP G B (b + 1) n (va_up ov b (some (.inr (0, [.null, .null, .null, .null, .int 0, .int 0, .int 0]))))) (xCt (hP G B (b + 5) (n + 24) ov)) := by
  refine x_aload_n d_Gl_init_0 rfl ?_
  refine x_objInit d_Gl_init_1 k_Gl_3 j_obj_i j_obj_c (by decide) ?_
  refine x_aload_n d_Gl_init_4 rfl ?_
  refine x_bipush d_Gl_init_5 (v := nI 6) (by decide +kernel) ?_
  refine p_newI hG d_Gl_init_7 (N := 6) rfl (by decide) (show z0 G B (b + 1) = _ from z0_gl hb (by decide)) (by rw [va_up_ne _ _ (by omega)]; exact hov 1 (by decide)) (by omega) (by omega) ?_
  refine p_putF (fs' := [.ref (B + (b + 1)), .null, .null, .null, .int 0, .int 0, .int 0]) d_Gl_init_9 rfl pf_Gl_9 (by omega) rfl rfl rfl rfl ?_
  refine x_aload_n d_Gl_init_12 rfl ?_
  refine x_bipush d_Gl_init_13 (v := nI 6) (by decide +kernel) ?_
  refine p_newI hG d_Gl_init_15 (N := 6) rfl (by decide) (show z0 G B (b + 2) = _ from z0_gl hb (by decide)) (by rw [va_up_ne _ _ (by omega)]; exact hov 2 (by decide)) (by omega) (by omega) ?_
  refine p_putF (fs' := [.ref (B + (b + 1)), .ref (B + (b + 2)), .null, .null, .int 0, .int 0, .int 0]) d_Gl_init_17 rfl pf_Gl_15 (by omega) rfl rfl rfl rfl ?_
  refine x_aload_n d_Gl_init_20 rfl ?_
  refine x_bipush d_Gl_init_21 (v := nI 6) (by decide +kernel) ?_
  refine p_newI hG d_Gl_init_23 (N := 6) rfl (by decide) (show z0 G B (b + 3) = _ from z0_gl hb (by decide)) (by rw [va_up_ne _ _ (by omega)]; exact hov 3 (by decide)) (by omega) (by omega) ?_
  refine p_putF (fs' := [.ref (B + (b + 1)), .ref (B + (b + 2)), .ref (B + (b + 3)), .null, .int 0, .int 0, .int 0]) d_Gl_init_25 rfl pf_Gl_18 (by omega) rfl rfl rfl rfl ?_
  refine x_aload_n d_Gl_init_28 rfl ?_
  refine x_bipush d_Gl_init_29 (v := nI 6) (by decide +kernel) ?_
  refine p_newI hG d_Gl_init_31 (N := 6) rfl (by decide) (show z0 G B (b + 4) = _ from z0_gl hb (by decide)) (by rw [va_up_ne _ _ (by omega)]; exact hov 4 (by decide)) (by omega) (by omega) ?_
  refine p_putF (fs' := [.ref (B + (b + 1)), .ref (B + (b + 2)), .ref (B + (b + 3)), .ref (B + (b + 4)), .int 0, .int 0, .int 0]) d_Gl_init_33 rfl pf_Gl_21 (by omega) rfl rfl rfl rfl ?_
  refine p_ret d_Gl_init_36 rfl ?_
  rw [show n + 6 + 6 + 6 + 6 = n + 24 by omega]
  exact hP_fin (show z0 G B b = _ from z0_gl (t := 0) hb (by decide)) (hov 0 (by decide))
set_option maxRecDepth 100000 in
theorem c_Tr_init {G : xG} {B d n : Nat} {ov : Nat → Option va_E} (hG : xOkG G) {b : Nat} (hb : isTree b) (hov : ∀ t, t < 9 → ov (b + t) = none) (hc : B + b + 9 ≤ gC G) (hs : n + 1160 ≤ gS G) : EX G m_Tr_init d 0 [(0, .ref (B + b))] [] (hP G B (b + 1) n (va_up ov b (some (.inr (7, [.null, .null, .null, .null, .null, .null, .null, .null, .int 0]))))) (xCt (hP G B (b + 9) (n + 1160) ov)) := by
  refine x_aload_n d_Tr_init_0 rfl ?_
  refine x_objInit d_Tr_init_1 k_Tr_3 j_obj_i j_obj_c (by decide) ?_
  refine x_aload_n d_Tr_init_4 rfl ?_
  refine x_sipush d_Tr_init_5 (v := nI 145) (by decide +kernel) ?_
  refine p_newI hG d_Tr_init_8 (N := 145) rfl (by decide) (show z0 G B (b + 1) = _ from z0_tr hb (by decide)) (by rw [va_up_ne _ _ (by omega)]; exact hov 1 (by decide)) (by omega) (by omega) ?_
  refine p_putF (fs' := [.ref (B + (b + 1)), .null, .null, .null, .null, .null, .null, .null, .int 0]) d_Tr_init_10 rfl pf_Tr_9 (by omega) rfl rfl rfl rfl ?_
  refine x_aload_n d_Tr_init_13 rfl ?_
  refine x_sipush d_Tr_init_14 (v := nI 145) (by decide +kernel) ?_
  refine p_newI hG d_Tr_init_17 (N := 145) rfl (by decide) (show z0 G B (b + 2) = _ from z0_tr hb (by decide)) (by rw [va_up_ne _ _ (by omega)]; exact hov 2 (by decide)) (by omega) (by omega) ?_
  refine p_putF (fs' := [.ref (B + (b + 1)), .ref (B + (b + 2)), .null, .null, .null, .null, .null, .null, .int 0]) d_Tr_init_19 rfl pf_Tr_15 (by omega) rfl rfl rfl rfl ?_
  refine x_aload_n d_Tr_init_22 rfl ?_
  refine x_sipush d_Tr_init_23 (v := nI 145) (by decide +kernel) ?_
  refine p_newI hG d_Tr_init_26 (N := 145) rfl (by decide) (show z0 G B (b + 3) = _ from z0_tr hb (by decide)) (by rw [va_up_ne _ _ (by omega)]; exact hov 3 (by decide)) (by omega) (by omega) ?_
  refine p_putF (fs' := [.ref (B + (b + 1)), .ref (B + (b + 2)), .ref (B + (b + 3)), .null, .null, .null, .null, .null, .int 0]) d_Tr_init_28 rfl pf_Tr_18 (by omega) rfl rfl rfl rfl ?_
  refine x_aload_n d_Tr_init_31 rfl ?_
  refine x_sipush d_Tr_init_32 (v := nI 145) (by decide +kernel) ?_
  refine p_newI hG d_Tr_init_35 (N := 145) rfl (by decide) (show z0 G B (b + 4) = _ from z0_tr hb (by decide)) (by rw [va_up_ne _ _ (by omega)]; exact hov 4 (by decide)) (by omega) (by omega) ?_
  refine p_putF (fs' := [.ref (B + (b + 1)), .ref (B + (b + 2)), .ref (B + (b + 3)), .ref (B + (b + 4)), .null, .null, .null, .null, .int 0]) d_Tr_init_37 rfl pf_Tr_21 (by omega) rfl rfl rfl rfl ?_
  refine x_aload_n d_Tr_init_40 rfl ?_
  refine x_sipush d_Tr_init_41 (v := nI 145) (by decide +kernel) ?_
  refine p_newI hG d_Tr_init_44 (N := 145) rfl (by decide) (show z0 G B (b + 5) = _ from z0_tr hb (by decide)) (by rw [va_up_ne _ _ (by omega)]; exact hov 5 (by decide)) (by omega) (by omega) ?_
  refine p_putF (fs' := [.ref (B + (b + 1)), .ref (B + (b + 2)), .ref (B + (b + 3)), .ref (B + (b + 4)), .ref (B + (b + 5)), .null, .null, .null, .int 0]) d_Tr_init_46 rfl pf_Tr_24 (by omega) rfl rfl rfl rfl ?_
  refine x_aload_n d_Tr_init_49 rfl ?_
  refine x_sipush d_Tr_init_50 (v := nI 145) (by decide +kernel) ?_
  refine p_newI hG d_Tr_init_53 (N := 145) rfl (by decide) (show z0 G B (b + 6) = _ from z0_tr hb (by decide)) (by rw [va_up_ne _ _ (by omega)]; exact hov 6 (by decide)) (by omega) (by omega) ?_
  refine p_putF (fs' := [.ref (B + (b + 1)), .ref (B + (b + 2)), .ref (B + (b + 3)), .ref (B + (b + 4)), .ref (B + (b + 5)), .ref (B + (b + 6)), .null, .null, .int 0]) d_Tr_init_55 rfl pf_Tr_27 (by omega) rfl rfl rfl rfl ?_
  refine x_aload_n d_Tr_init_58 rfl ?_
  refine x_sipush d_Tr_init_59 (v := nI 145) (by decide +kernel) ?_
  refine p_newI hG d_Tr_init_62 (N := 145) rfl (by decide) (show z0 G B (b + 7) = _ from z0_tr hb (by decide)) (by rw [va_up_ne _ _ (by omega)]; exact hov 7 (by decide)) (by omega) (by omega) ?_
  refine p_putF (fs' := [.ref (B + (b + 1)), .ref (B + (b + 2)), .ref (B + (b + 3)), .ref (B + (b + 4)), .ref (B + (b + 5)), .ref (B + (b + 6)), .ref (B + (b + 7)), .null, .int 0]) d_Tr_init_64 rfl pf_Tr_30 (by omega) rfl rfl rfl rfl ?_
  refine x_aload_n d_Tr_init_67 rfl ?_
  refine x_sipush d_Tr_init_68 (v := nI 145) (by decide +kernel) ?_
  refine p_newI hG d_Tr_init_71 (N := 145) rfl (by decide) (show z0 G B (b + 8) = _ from z0_tr hb (by decide)) (by rw [va_up_ne _ _ (by omega)]; exact hov 8 (by decide)) (by omega) (by omega) ?_
  refine p_putF (fs' := [.ref (B + (b + 1)), .ref (B + (b + 2)), .ref (B + (b + 3)), .ref (B + (b + 4)), .ref (B + (b + 5)), .ref (B + (b + 6)), .ref (B + (b + 7)), .ref (B + (b + 8)), .int 0]) d_Tr_init_73 rfl pf_Tr_33 (by omega) rfl rfl rfl rfl ?_
  refine p_ret d_Tr_init_76 rfl ?_
  rw [show n + 145 + 145 + 145 + 145 + 145 + 145 + 145 + 145 = n + 1160 by omega]
  exact hP_fin (show z0 G B b = _ from z0_tr (t := 0) hb (by decide)) (hov 0 (by decide))
