/-! the constructors with loops -/
def fR (B a c m : Nat) : Nat → Option Nat := fun j => if j < m then some (B + (a + c * j)) else none
theorem fR_up {B a c m : Nat} : va_up (fR B a c m) m (some (B + (a + c * m))) = fR B a c (m + 1) := by
  funext j
  unfold fR
  by_cases h : j = m
  · subst h
    rw [va_up_self, if_pos (by omega)]
  · rw [va_up_ne _ _ h]
    by_cases h2 : j < m
    · rw [if_pos h2, if_pos (by omega)]
    · rw [if_neg h2, if_neg (by omega)]
theorem fR_0 {B a c : Nat} : fR B a c 0 = fun _ => none := funext fun j => if_neg (Nat.not_lt_zero j)
theorem R0_6 {B : Nat} : R0 B 6 = fR B 7 5 10 := by
  funext j
  unfold R0 fR
  rw [if_neg (fun z => by omega)]
  by_cases h : j < 10
  · rw [if_pos ⟨rfl, h⟩, if_pos h]
  · rw [if_neg (fun z => h z.2), if_neg h]
theorem R0_1 {B : Nat} : R0 B 1 = fR B 66 15 8 := by
  funext j
  unfold R0 fR
  by_cases h : j < 8
  · rw [if_pos ⟨rfl, h⟩, if_pos h]
  · rw [if_neg (fun z => h z.2), if_neg (fun z => by omega), if_neg h]
set_option maxRecDepth 100000 in
theorem c_Rk_init {G : xG} {B d n : Nat} {ov : Nat → Option va_E} (hG : xOkG G) (hov : ∀ t, t < 52 → ov (5 + t) = none) (hc : B + 57 ≤ gC G) (hs : n + 320 ≤ gS G) : EX G m_Rk_init (d + 1) 0 [(0, .ref (B + 5))] [] (hP G B 6 n (va_up ov 5 (some (.inr (4, [.null, .int 0]))))) (xCt (hP G B 57 (n + 320) ov)) := by
  have hz5 : z0 G B 5 = .inr (4, [.ref (B + 6), .int 0]) := rfl
  have loop : ∀ i, i ≤ 10 → EX G m_Rk_init (d + 1) 15 [(0, .ref (B + 5)), (1, .int (nI i))] [] (hP G B (7 + 5 * i) (n + 10 + 31 * i) (va_up ov 6 (some (eR G 4 10 (fR B 7 5 i))))) (xCt (hP G B 57 (n + 320) ov)) := by
    refine x_down 10 ?_ ?_
    · refine x_iload_n d_Rk_init_15 rfl ?_
      refine x_bipush d_Rk_init_16 (v := nI 10) (by decide +kernel) ?_
      refine z_icmp_ge 40 d_Rk_init_18 rfl (by decide) (by decide) (fun _ => ?_) (fun z => absurd z (by decide))
      refine p_ret d_Rk_init_40 rfl ?_
      exact hP_fin (show z0 G B 6 = eR G 4 10 (fR B 7 5 10) by show eR G 4 10 (R0 B 6) = _; rw [R0_6]) (hov 1 (by decide))
    · intro i hi ih
      have hgl : isGlass (7 + 5 * i) := Or.inr ⟨i, hi, rfl⟩
      have ho : ∀ q, 6 < q → q < 57 → va_up ov 6 (some (eR G 4 10 (fR B 7 5 i))) q = none := fun q q1 q2 => by
        rw [va_up_ne _ _ (by omega)]
        have := hov (q - 5) (by omega)
        rw [show 5 + (q - 5) = q by omega] at this
        exact this
      refine x_iload_n d_Rk_init_15 rfl ?_
      refine x_bipush d_Rk_init_16 (v := nI 10) (by decide +kernel) ?_
      refine z_icmp_ge 40 d_Rk_init_18 rfl (by omega) (by decide) (fun z => by omega) (fun _ => ?_)
      refine x_aload_n d_Rk_init_21 rfl ?_
      refine p_getz (fs := [.ref (B + 6), .int 0]) d_Rk_init_22 gf_Rk_11 (by omega) (by rw [va_up_ne _ _ (by decide)]; exact hov 0 (by decide)) hz5 rfl ?_
      refine x_iload_n d_Rk_init_25 rfl ?_
      refine p_new (N := 7) d_Rk_init_26 cl_Gl tyGl_ok nw_Rk_9 ns_Gl ni_Gl df_Gl (by omega) (by omega) ?_
      refine x_dup d_Rk_init_29 rfl ?_
      refine p_callI (As := []) d_Rk_init_30 k_Rk_17 rfl rfl rfl (c_Gl_init hG hgl (fun t ht => ho _ (by omega) (by omega)) (by omega) (by omega)) ?_
      refine p_aast (N := 10) (r := (RGl, TGl, 7)) (u := 7 + 5 * i) (j := i) hG d_Rk_init_33 rfl (by omega) (by omega) (by have := hov (2 + 5 * i) (by omega); rw [show 5 + (2 + 5 * i) = 7 + 5 * i by omega] at this; exact this) (by omega) ((z0_gl (t := 0) hgl (by decide)).trans rfl) rfl rfl (by omega) (by decide) fR_up ?_
      refine s_iinc d_Rk_init_34 rfl (xinc i) (by decide) rfl ?_
      refine x_goto 15 d_Rk_init_37 rfl ?_
      rw [show 7 + 5 * i + 5 = 7 + 5 * (i + 1) by omega, show n + 10 + 31 * i + 7 + 24 = n + 10 + 31 * (i + 1) by omega]
      exact ih
  refine x_aload_n d_Rk_init_0 rfl ?_
  refine x_objInit d_Rk_init_1 k_Rk_3 j_obj_i j_obj_c (by decide) ?_
  refine x_aload_n d_Rk_init_4 rfl ?_
  refine x_bipush d_Rk_init_5 (v := nI 10) (by decide +kernel) ?_
  refine p_newR (t := 4) (N := 10) hG d_Rk_init_7 rfl nw_Rk_9 aw_Gl rfl (by decide) (by omega) (by omega) ?_
  rw [va_swap (show 5 ≠ 6 by decide)]
  refine p_putF (fs' := [.ref (B + 6), .int 0]) d_Rk_init_10 rfl pf_Rk_11 (by omega) rfl rfl rfl rfl ?_
  rw [hP_fin hz5 (by rw [va_up_ne _ _ (by decide)]; exact hov 0 (by decide))]
  refine x_iconst d_Rk_init_13 (v := nI 0) (by decide +kernel) ?_
  refine s_istore_n d_Rk_init_14 (by decide) rfl ?_
  have := loop 0 (by decide)
  rw [fR_0] at this
  exact this
set_option maxRecDepth 100000 in
set_option maxHeartbeats 2000000 in
theorem c_Ha_init {G : xG} {B d : Nat} (hG : xOkG G) (hc : B + 186 ≤ gC G) (hs : 10188 ≤ gS G) {n : Nat} (hn : n = 11) : EX G m_Ha_init (d + 2) 0 [(0, .ref (B + 0))] [] (hP G B 1 n (va_up (fun _ => none) 0 (some (.inr (9, [.null, .null, .null, .null, .null, .null, .int 0, .long 0, .long 0, .long 0, .long 0]))))) (xCt (hP G B 186 10188 (fun _ => none))) := by
  subst hn
  have loop : ∀ i, i ≤ 8 → EX G m_Ha_init (d + 2) 86 [(0, .ref (B + 0)), (1, .int (nI i))] [] (hP G B (66 + 15 * i) (556 + 1204 * i) (va_up (fun _ => none) 1 (some (eR G 3 8 (fR B 66 15 i))))) (xCt (hP G B 186 10188 (fun _ => none))) := by
    refine x_down 8 ?_ ?_
    · refine x_iload_n d_Ha_init_86 rfl ?_
      refine x_bipush d_Ha_init_87 (v := nI 8) (by decide +kernel) ?_
      refine z_icmp_ge 111 d_Ha_init_89 rfl (by decide) (by decide) (fun _ => ?_) (fun z => absurd z (by decide))
      refine p_ret d_Ha_init_111 rfl ?_
      exact hP_fin (show z0 G B 1 = eR G 3 8 (fR B 66 15 8) by show eR G 3 8 (R0 B 1) = _; rw [R0_1]) rfl
    · intro i hi ih
      have ho : ∀ q, q ≠ 1 → va_up (fun _ => none) 1 (some (eR G 3 8 (fR B 66 15 i))) q = none := fun q q1 => va_up_ne _ _ q1
      refine x_iload_n d_Ha_init_86 rfl ?_
      refine x_bipush d_Ha_init_87 (v := nI 8) (by decide +kernel) ?_
      refine z_icmp_ge 111 d_Ha_init_89 rfl (by omega) (by decide) (fun z => by omega) (fun _ => ?_)
      refine x_aload_n d_Ha_init_92 rfl ?_
      refine p_getz (fs := fHall B (fun _ => 0) (fun _ => 0)) d_Ha_init_93 gf_Ha_11 (by omega) (ho 0 (by decide)) rfl rfl ?_
      refine x_iload_n d_Ha_init_96 rfl ?_
      refine p_new (N := 4) d_Ha_init_97 cl_Sh tySh_ok nw_Ha_9 ns_Sh ni_Sh df_Sh (by omega) (by omega) ?_
      refine x_dup d_Ha_init_100 rfl ?_
      refine p_callI (As := []) d_Ha_init_101 k_Ha_52 rfl rfl rfl ?_ (h' := hP G B (81 + 15 * i) (556 + 1204 * i + 4 + 1200) (va_up (fun _ => none) 1 (some (eR G 3 8 (fR B 66 15 i))))) ?_
      · rw [show 66 + 15 * i + 1 = 67 + 15 * i by omega]
        exact c_Sh_init hG hi (fun t ht => ho _ (by omega)) (by omega) (by omega)
      refine p_aast (N := 8) (r := (RSh, TSh, 4)) (u := 66 + 15 * i) (j := i) hG d_Ha_init_104 rfl (by omega) (by omega) rfl (by omega) (z0_sh hi) rfl rfl (by omega) (by decide) fR_up ?_
      refine s_iinc d_Ha_init_105 rfl (xinc i) (by decide) rfl ?_
      refine x_goto 86 d_Ha_init_108 rfl ?_
      rw [show 81 + 15 * i = 66 + 15 * (i + 1) by omega, show 556 + 1204 * i + 4 + 1200 = 556 + 1204 * (i + 1) by omega]
      exact ih
  refine x_aload_n d_Ha_init_0 rfl ?_
  refine x_objInit d_Ha_init_1 k_Ha_3 j_obj_i j_obj_c (by decide) ?_
  refine x_aload_n d_Ha_init_4 rfl ?_
  refine x_bipush d_Ha_init_5 (v := nI 8) (by decide +kernel) ?_
  refine p_newR (t := 3) (N := 8) hG d_Ha_init_7 rfl nw_Ha_9 aw_Sh rfl (by decide) (by omega) (by omega) ?_
  rw [va_swap (show 0 ≠ 1 by decide)]
  refine p_putF (fs' := [.ref (B + 1), .null, .null, .null, .null, .null, .int 0, .long 0, .long 0, .long 0, .long 0]) d_Ha_init_10 rfl pf_Ha_11 (by omega) rfl rfl rfl rfl ?_
  refine x_aload_n d_Ha_init_13 rfl ?_
  refine p_new (N := 3) d_Ha_init_14 cl_Bk tyBk_ok nw_Ha_15 ns_Bk ni_Bk df_Bk (by omega) (by omega) ?_
  refine x_dup d_Ha_init_17 rfl ?_
  refine p_callI (As := []) d_Ha_init_18 k_Ha_17 rfl rfl rfl (c_Bk_init hG (fun t ht => by rw [va_up_ne _ _ (by omega), va_up_ne _ _ (by omega)]) (by omega) (by omega)) ?_
  refine p_putF (fs' := [.ref (B + 1), .ref (B + 2), .null, .null, .null, .null, .int 0, .long 0, .long 0, .long 0, .long 0]) d_Ha_init_21 rfl pf_Ha_18 (by omega) rfl rfl rfl rfl ?_
  refine x_aload_n d_Ha_init_24 rfl ?_
  refine p_new (N := 2) d_Ha_init_25 cl_Rk tyRk_ok nw_Ha_22 ns_Rk ni_Rk df_Rk (by omega) (by omega) ?_
  refine x_dup d_Ha_init_28 rfl ?_
  refine p_callI (As := []) d_Ha_init_29 k_Ha_24 rfl rfl rfl (c_Rk_init hG (fun t ht => by rw [va_up_ne _ _ (by omega), va_up_ne _ _ (by omega)]) (by omega) (by omega)) ?_
  refine p_putF (fs' := [.ref (B + 1), .ref (B + 2), .ref (B + 5), .null, .null, .null, .int 0, .long 0, .long 0, .long 0, .long 0]) d_Ha_init_32 rfl pf_Ha_25 (by omega) rfl rfl rfl rfl ?_
  refine x_aload_n d_Ha_init_35 rfl ?_
  refine p_new (N := 6) d_Ha_init_36 cl_La tyLa_ok nw_Ha_29 ns_La ni_La df_La (by omega) (by omega) ?_
  refine x_dup d_Ha_init_39 rfl ?_
  refine p_callI (As := []) d_Ha_init_40 k_Ha_31 rfl rfl rfl (c_La_init hG (fun t ht => by rw [va_up_ne _ _ (by omega), va_up_ne _ _ (by omega)]) (by omega) (by omega)) ?_
  refine p_putF (fs' := [.ref (B + 1), .ref (B + 2), .ref (B + 5), .ref (B + 57), .null, .null, .int 0, .long 0, .long 0, .long 0, .long 0]) d_Ha_init_43 rfl pf_Ha_32 (by omega) rfl rfl rfl rfl ?_
  refine x_aload_n d_Ha_init_46 rfl ?_
  refine p_new (N := 7) d_Ha_init_47 cl_St tySt_ok nw_Ha_36 ns_St ni_St df_St (by omega) (by omega) ?_
  refine x_dup d_Ha_init_50 rfl ?_
  refine x_aload_n d_Ha_init_51 rfl ?_
  refine p_getf d_Ha_init_52 gf_Ha_18 (by omega) (by rw [va_up_ne _ _ (by decide), va_up_self]) rfl ?_
  refine x_aload_n d_Ha_init_55 rfl ?_
  refine p_getf d_Ha_init_56 gf_Ha_32 (by omega) (by rw [va_up_ne _ _ (by decide), va_up_self]) rfl ?_
  refine p_callI (As := [_, _]) d_Ha_init_59 k_Ha_38 rfl rfl rfl (c_St_init hG (by rw [va_up_ne _ _ (by decide), va_up_ne _ _ (by decide)])) ?_
  refine p_putF (fs' := [.ref (B + 1), .ref (B + 2), .ref (B + 5), .ref (B + 57), .ref (B + 63), .null, .int 0, .long 0, .long 0, .long 0, .long 0]) d_Ha_init_62 rfl pf_Ha_41 (by omega) rfl rfl rfl rfl ?_
  refine x_aload_n d_Ha_init_65 rfl ?_
  refine p_new (N := 4) d_Ha_init_66 cl_Ti tyTi_ok nw_Ha_45 ns_Ti ni_Ti df_Ti (by omega) (by omega) ?_
  refine x_dup d_Ha_init_69 rfl ?_
  refine x_aload_n d_Ha_init_70 rfl ?_
  refine p_getf d_Ha_init_71 gf_Ha_18 (by omega) (by rw [va_up_ne _ _ (by decide), va_up_self]) rfl ?_
  refine x_aload_n d_Ha_init_74 rfl ?_
  refine p_getf d_Ha_init_75 gf_Ha_32 (by omega) (by rw [va_up_ne _ _ (by decide), va_up_self]) rfl ?_
  refine p_callI (As := [_, _]) d_Ha_init_78 k_Ha_47 rfl rfl rfl (c_Ti_init hG (by rw [va_up_ne _ _ (by decide), va_up_ne _ _ (by decide)]) (by rw [va_up_ne _ _ (by decide), va_up_ne _ _ (by decide)]) (by omega) (by omega)) ?_
  refine p_putF (fs' := [.ref (B + 1), .ref (B + 2), .ref (B + 5), .ref (B + 57), .ref (B + 63), .ref (B + 64), .int 0, .long 0, .long 0, .long 0, .long 0]) d_Ha_init_81 rfl pf_Ha_48 (by omega) rfl rfl rfl rfl ?_
  rw [hP_fin (show z0 G B 0 = .inr (9, [.ref (B + 1), .ref (B + 2), .ref (B + 5), .ref (B + 57), .ref (B + 63), .ref (B + 64), .int 0, .long 0, .long 0, .long 0, .long 0]) from rfl) (by rw [va_up_ne _ _ (by decide)])]
  refine x_iconst d_Ha_init_84 (v := nI 0) (by decide +kernel) ?_
  refine s_istore_n d_Ha_init_85 (by decide) rfl ?_
  have := loop 0 (by decide)
  rw [fR_0] at this
  exact this
