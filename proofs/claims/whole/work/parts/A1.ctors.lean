theorem df_Gl : ∀ j, j < 7 → defaultValue (tyGl j) = vp_V [.null, .null, .null, .null, .int 0, .int 0, .int 0] j := by
  intro j hj
  have : j = 0 ∨ j = 1 ∨ j = 2 ∨ j = 3 ∨ j = 4 ∨ j = 5 ∨ j = 6 := by omega
  rcases this with rfl | rfl | rfl | rfl | rfl | rfl | rfl <;> rfl
theorem df_Tr : ∀ j, j < 9 → defaultValue (tyTr j) = vp_V [.null, .null, .null, .null, .null, .null, .null, .null, .int 0] j := by
  intro j hj
  have : j = 0 ∨ j = 1 ∨ j = 2 ∨ j = 3 ∨ j = 4 ∨ j = 5 ∨ j = 6 ∨ j = 7 ∨ j = 8 := by omega
  rcases this with rfl | rfl | rfl | rfl | rfl | rfl | rfl | rfl | rfl <;> rfl
theorem df_Sh : ∀ j, j < 4 → defaultValue (tySh j) = vp_V [.null, .null, .int 0, .int 0] j := by
  intro j hj
  have : j = 0 ∨ j = 1 ∨ j = 2 ∨ j = 3 := by omega
  rcases this with rfl | rfl | rfl | rfl <;> rfl
theorem df_Bk : ∀ j, j < 3 → defaultValue (tyBk j) = vp_V [.null, .null, .int 0] j := by
  intro j hj
  have : j = 0 ∨ j = 1 ∨ j = 2 := by omega
  rcases this with rfl | rfl | rfl <;> rfl
theorem df_Rk : ∀ j, j < 2 → defaultValue (tyRk j) = vp_V [.null, .int 0] j := by
  intro j hj
  have : j = 0 ∨ j = 1 := by omega
  rcases this with rfl | rfl <;> rfl
theorem df_La : ∀ j, j < 6 → defaultValue (tyLa j) = vp_V [.null, .null, .null, .null, .null, .int 0] j := by
  intro j hj
  have : j = 0 ∨ j = 1 ∨ j = 2 ∨ j = 3 ∨ j = 4 ∨ j = 5 := by omega
  rcases this with rfl | rfl | rfl | rfl | rfl | rfl <;> rfl
theorem df_St : ∀ j, j < 7 → defaultValue (tySt j) = vp_V [.null, .null, .int 0, .int 0, .int 0, .int 0, .int 0] j := by
  intro j hj
  have : j = 0 ∨ j = 1 ∨ j = 2 ∨ j = 3 ∨ j = 4 ∨ j = 5 ∨ j = 6 := by omega
  rcases this with rfl | rfl | rfl | rfl | rfl | rfl | rfl <;> rfl
theorem df_Ti : ∀ j, j < 4 → defaultValue (tyTi j) = vp_V [.null, .null, .null, .int 0] j := by
  intro j hj
  have : j = 0 ∨ j = 1 ∨ j = 2 ∨ j = 3 := by omega
  rcases this with rfl | rfl | rfl | rfl <;> rfl
theorem df_Ha : ∀ j, j < 11 → defaultValue (tyHa j) = vp_V [.null, .null, .null, .null, .null, .null, .int 0, .long 0, .long 0, .long 0, .long 0] j := by
  intro j hj
  have : j = 0 ∨ j = 1 ∨ j = 2 ∨ j = 3 ∨ j = 4 ∨ j = 5 ∨ j = 6 ∨ j = 7 ∨ j = 8 ∨ j = 9 ∨ j = 10 := by omega
  rcases this with rfl | rfl | rfl | rfl | rfl | rfl | rfl | rfl | rfl | rfl | rfl <;> rfl
theorem df_Mo : ∀ j, j < 53 → defaultValue (tyMo j) = vp_V [.int 0, .int 0, .null, .null, .null, .null, .null, .null, .null, .null, .null, .null, .null, .null, .null, .null, .null, .null, .null, .null, .int 0, .null, .null, .null, .null, .null, .null, .int 0, .null, .null, .null, .null, .long 0, .long 0, .long 0, .long 0, .int 0, .null, .null, .null, .null, .null, .null, .int 0, .null, .null, .null, .null, .null, .null, .null, .null, .null] j := by
  intro j hj
  have : j = 0 ∨ j = 1 ∨ j = 2 ∨ j = 3 ∨ j = 4 ∨ j = 5 ∨ j = 6 ∨ j = 7 ∨ j = 8 ∨ j = 9 ∨ j = 10 ∨ j = 11 ∨ j = 12 ∨ j = 13 ∨ j = 14 ∨ j = 15 ∨ j = 16 ∨ j = 17 ∨ j = 18 ∨ j = 19 ∨ j = 20 ∨ j = 21 ∨ j = 22 ∨ j = 23 ∨ j = 24 ∨ j = 25 ∨ j = 26 ∨ j = 27 ∨ j = 28 ∨ j = 29 ∨ j = 30 ∨ j = 31 ∨ j = 32 ∨ j = 33 ∨ j = 34 ∨ j = 35 ∨ j = 36 ∨ j = 37 ∨ j = 38 ∨ j = 39 ∨ j = 40 ∨ j = 41 ∨ j = 42 ∨ j = 43 ∨ j = 44 ∨ j = 45 ∨ j = 46 ∨ j = 47 ∨ j = 48 ∨ j = 49 ∨ j = 50 ∨ j = 51 ∨ j = 52 := by omega
  rcases this with rfl | rfl | rfl | rfl | rfl | rfl | rfl | rfl | rfl | rfl | rfl | rfl | rfl | rfl | rfl | rfl | rfl | rfl | rfl | rfl | rfl | rfl | rfl | rfl | rfl | rfl | rfl | rfl | rfl | rfl | rfl | rfl | rfl | rfl | rfl | rfl | rfl | rfl | rfl | rfl | rfl | rfl | rfl | rfl | rfl | rfl | rfl | rfl | rfl | rfl | rfl | rfl | rfl <;> rfl
section HR2
variable {G : xG} {M : xM} {d pc : Nat} {lv : List (Nat × Value)} {st : List Value} {Q : xR → xH → Prop} {B k n N : Nat} {ov : Nat → Option va_E}
theorem p_newR {index t : Nat} {C : String} {w : Int32} (hG : xOkG G) (hd : decode M.2.1 pc = .ok (.anewarray index, 3)) (ht : xTys[t]? = some (.object C)) (hcl : .classLink M.1.cls index C ∈ xWS) (ha : .arrayOver (.object C) ∈ xWS) (hw : w = nI N) (hN : N < 2 ^ 20) (hc : B + k + 1 ≤ gC G) (hs : n + N ≤ gS G) (kk : EX G M d (pc + 3) lv (.ref (B + k) :: st) (hP G B (k + 1) (n + N) (va_up ov k (some (eR G t N (fun _ => none))))) Q) : EX G M d pc lv (.int w :: st) (hP G B k n ov) Q :=
  x_anew hd (tA_at hG t ht) hcl ha hw hN hc hs (by rw [hP_new]; exact kk)
theorem p_getf {index ci q o : Nat} {fs : List Value} {v : Value} (hd : decode M.2.1 pc = .ok (.getfield index, 3)) (hk : xFd M.1.cls index ci q) (ho : o < k) (h0 : ov o = some (.inr (ci, fs))) (hv : fs[q]? = some v) (kk : EX G M d (pc + 3) lv (v :: st) (hP G B k n ov) Q) : EX G M d pc lv (.ref (B + o) :: st) (hP G B k n ov) Q :=
  x_getf hd hk (hP_ov ho h0) hv kk
theorem p_getz {index ci q o : Nat} {fs : List Value} {v : Value} (hd : decode M.2.1 pc = .ok (.getfield index, 3)) (hk : xFd M.1.cls index ci q) (ho : o < k) (h0 : ov o = none) (hz : z0 G B o = .inr (ci, fs)) (hv : fs[q]? = some v) (kk : EX G M d (pc + 3) lv (v :: st) (hP G B k n ov) Q) : EX G M d pc lv (.ref (B + o) :: st) (hP G B k n ov) Q :=
  x_getf hd hk (by rw [hP_z ho h0, hz]) hv kk
theorem p_aast {t ci o u j : Nat} {r : vw_C} {vs : List Value} {i : Int32} {f f' : Nat → Option Nat} (hG : xOkG G) (hd : decode M.2.1 pc = .ok (.aastore, 1)) (ht : xTys[t]? = some (.object r.1)) (ho : o < k) (hu : u < k) (h0 : ov u = none) (huo : u ≠ o) (hz : z0 G B u = .inr (ci, vs)) (hc : xcl[ci]? = some r) (hi : i = nI j) (hj : j < N) (hN : N < 2 ^ 31) (hf : va_up f j (some (B + u)) = f') (kk : EX G M d (pc + 1) lv st (hP G B k n (va_up ov o (some (eR G t N f')))) Q) : EX G M d pc lv (.ref (B + u) :: .int i :: .ref (B + o) :: st) (hP G B k n (va_up ov o (some (eR G t N f)))) Q :=
  x_aast hd (tA_at hG t ht) (hP_ov ho (va_up_self _ _ _)) (by rw [hP_z hu (by rw [va_up_ne _ _ huo]; exact h0), hz]) hc hi hj hN (by rw [hP_set ho, va_upup, hf]; exact kk)
end HR2
set_option maxRecDepth 100000 in
theorem c_La_init {G : xG} {B d n : Nat} {ov : Nat → Option va_E} (hG : xOkG G)  (hov : ∀ t, t < 6 → ov (57 + t) = none) (hc : B + 57 + 6 ≤ gC G) (hs : n + 180 ≤ gS G) : EX G m_La_init d 0 [(0, .ref (B + 57))] [] (hP G B (57 + 1) n (va_up ov 57 (some (.inr (1, [.null, .null, .null, .null, .null, .int 0]))))) (xCt (hP G B (57 + 6) (n + 180) ov)) := by
  refine x_aload_n d_La_init_0 rfl ?_
  refine x_objInit d_La_init_1 k_La_3 j_obj_i j_obj_c (by decide) ?_
  refine x_aload_n d_La_init_4 rfl ?_
  refine x_bipush d_La_init_5 (v := nI 36) (by decide +kernel) ?_
  refine p_newI hG d_La_init_7 (N := 36) rfl (by decide) (show z0 G B (57 + 1) = _ from rfl) (by rw [va_up_ne _ _ (by omega)]; exact hov 1 (by decide)) (by omega) (by omega) ?_
  refine p_putF (fs' := [.ref (B + (57 + 1)), .null, .null, .null, .null, .int 0]) d_La_init_9 rfl pf_La_9 (by omega) rfl rfl rfl rfl ?_
  refine x_aload_n d_La_init_12 rfl ?_
  refine x_bipush d_La_init_13 (v := nI 36) (by decide +kernel) ?_
  refine p_newI hG d_La_init_15 (N := 36) rfl (by decide) (show z0 G B (57 + 2) = _ from rfl) (by rw [va_up_ne _ _ (by omega)]; exact hov 2 (by decide)) (by omega) (by omega) ?_
  refine p_putF (fs' := [.ref (B + (57 + 1)), .ref (B + (57 + 2)), .null, .null, .null, .int 0]) d_La_init_17 rfl pf_La_15 (by omega) rfl rfl rfl rfl ?_
  refine x_aload_n d_La_init_20 rfl ?_
  refine x_bipush d_La_init_21 (v := nI 36) (by decide +kernel) ?_
  refine p_newI hG d_La_init_23 (N := 36) rfl (by decide) (show z0 G B (57 + 3) = _ from rfl) (by rw [va_up_ne _ _ (by omega)]; exact hov 3 (by decide)) (by omega) (by omega) ?_
  refine p_putF (fs' := [.ref (B + (57 + 1)), .ref (B + (57 + 2)), .ref (B + (57 + 3)), .null, .null, .int 0]) d_La_init_25 rfl pf_La_18 (by omega) rfl rfl rfl rfl ?_
  refine x_aload_n d_La_init_28 rfl ?_
  refine x_bipush d_La_init_29 (v := nI 36) (by decide +kernel) ?_
  refine p_newI hG d_La_init_31 (N := 36) rfl (by decide) (show z0 G B (57 + 4) = _ from rfl) (by rw [va_up_ne _ _ (by omega)]; exact hov 4 (by decide)) (by omega) (by omega) ?_
  refine p_putF (fs' := [.ref (B + (57 + 1)), .ref (B + (57 + 2)), .ref (B + (57 + 3)), .ref (B + (57 + 4)), .null, .int 0]) d_La_init_33 rfl pf_La_21 (by omega) rfl rfl rfl rfl ?_
  refine x_aload_n d_La_init_36 rfl ?_
  refine x_bipush d_La_init_37 (v := nI 36) (by decide +kernel) ?_
  refine p_newI hG d_La_init_39 (N := 36) rfl (by decide) (show z0 G B (57 + 5) = _ from rfl) (by rw [va_up_ne _ _ (by omega)]; exact hov 5 (by decide)) (by omega) (by omega) ?_
  refine p_putF (fs' := [.ref (B + (57 + 1)), .ref (B + (57 + 2)), .ref (B + (57 + 3)), .ref (B + (57 + 4)), .ref (B + (57 + 5)), .int 0]) d_La_init_41 rfl pf_La_24 (by omega) rfl rfl rfl rfl ?_
  refine p_ret d_La_init_44 rfl ?_
  rw [show n + 36 + 36 + 36 + 36 + 36 = n + 180 by omega]
  exact hP_fin (show z0 G B 57 = _ from rfl) (hov 0 (by decide))
set_option maxHeartbeats 4000000 in
set_option maxRecDepth 100000 in
theorem c_Mo_init {G : xG} {B d n : Nat} {ov : Nat → Option va_E} (hG : xOkG G)  (hov : ∀ t, t < 44 → ov (186 + t) = none) (hc : B + 186 + 44 ≤ gC G) (hs : n + 12864 ≤ gS G) : EX G m_Mo_init d 0 [(0, .ref (B + 186))] [] (hP G B (186 + 1) n (va_up ov 186 (some (.inr (10, [.int 0, .int 0, .null, .null, .null, .null, .null, .null, .null, .null, .null, .null, .null, .null, .null, .null, .null, .null, .null, .null, .int 0, .null, .null, .null, .null, .null, .null, .int 0, .null, .null, .null, .null, .long 0, .long 0, .long 0, .long 0, .int 0, .null, .null, .null, .null, .null, .null, .int 0, .null, .null, .null, .null, .null, .null, .null, .null, .null]))))) (xCt (hP G B (186 + 44) (n + 12864) ov)) := by
  refine x_aload_n d_Mo_init_0 rfl ?_
  refine x_objInit d_Mo_init_1 k_Mo_1 j_obj_i j_obj_c (by decide) ?_
  refine x_aload_n d_Mo_init_4 rfl ?_
  refine x_bipush d_Mo_init_5 (v := nI 8) (by decide +kernel) ?_
  refine p_newZ hG d_Mo_init_7 (N := 8) rfl (by decide) (show z0 G B (186 + 1) = _ from rfl) (by rw [va_up_ne _ _ (by omega)]; exact hov 1 (by decide)) (by omega) (by omega) ?_
  refine p_putF (fs' := [.int 0, .int 0, .ref (B + (186 + 1)), .null, .null, .null, .null, .null, .null, .null, .null, .null, .null, .null, .null, .null, .null, .null, .null, .null, .int 0, .null, .null, .null, .null, .null, .null, .int 0, .null, .null, .null, .null, .long 0, .long 0, .long 0, .long 0, .int 0, .null, .null, .null, .null, .null, .null, .int 0, .null, .null, .null, .null, .null, .null, .null, .null, .null]) d_Mo_init_9 rfl pf_Mo_7 (by omega) rfl rfl rfl rfl ?_
  refine x_aload_n d_Mo_init_12 rfl ?_
  refine x_bipush d_Mo_init_13 (v := nI 8) (by decide +kernel) ?_
  refine p_newI hG d_Mo_init_15 (N := 8) rfl (by decide) (show z0 G B (186 + 2) = _ from rfl) (by rw [va_up_ne _ _ (by omega)]; exact hov 2 (by decide)) (by omega) (by omega) ?_
  refine p_putF (fs' := [.int 0, .int 0, .ref (B + (186 + 1)), .ref (B + (186 + 2)), .null, .null, .null, .null, .null, .null, .null, .null, .null, .null, .null, .null, .null, .null, .null, .null, .int 0, .null, .null, .null, .null, .null, .null, .int 0, .null, .null, .null, .null, .long 0, .long 0, .long 0, .long 0, .int 0, .null, .null, .null, .null, .null, .null, .int 0, .null, .null, .null, .null, .null, .null, .null, .null, .null]) d_Mo_init_17 rfl pf_Mo_13 (by omega) rfl rfl rfl rfl ?_
  refine x_aload_n d_Mo_init_20 rfl ?_
  refine x_bipush d_Mo_init_21 (v := nI 8) (by decide +kernel) ?_
  refine p_newI hG d_Mo_init_23 (N := 8) rfl (by decide) (show z0 G B (186 + 3) = _ from rfl) (by rw [va_up_ne _ _ (by omega)]; exact hov 3 (by decide)) (by omega) (by omega) ?_
  refine p_putF (fs' := [.int 0, .int 0, .ref (B + (186 + 1)), .ref (B + (186 + 2)), .ref (B + (186 + 3)), .null, .null, .null, .null, .null, .null, .null, .null, .null, .null, .null, .null, .null, .null, .null, .int 0, .null, .null, .null, .null, .null, .null, .int 0, .null, .null, .null, .null, .long 0, .long 0, .long 0, .long 0, .int 0, .null, .null, .null, .null, .null, .null, .int 0, .null, .null, .null, .null, .null, .null, .null, .null, .null]) d_Mo_init_25 rfl pf_Mo_17 (by omega) rfl rfl rfl rfl ?_
  refine x_aload_n d_Mo_init_28 rfl ?_
  refine x_bipush d_Mo_init_29 (v := nI 8) (by decide +kernel) ?_
  refine p_newI hG d_Mo_init_31 (N := 8) rfl (by decide) (show z0 G B (186 + 4) = _ from rfl) (by rw [va_up_ne _ _ (by omega)]; exact hov 4 (by decide)) (by omega) (by omega) ?_
  refine p_putF (fs' := [.int 0, .int 0, .ref (B + (186 + 1)), .ref (B + (186 + 2)), .ref (B + (186 + 3)), .ref (B + (186 + 4)), .null, .null, .null, .null, .null, .null, .null, .null, .null, .null, .null, .null, .null, .null, .int 0, .null, .null, .null, .null, .null, .null, .int 0, .null, .null, .null, .null, .long 0, .long 0, .long 0, .long 0, .int 0, .null, .null, .null, .null, .null, .null, .int 0, .null, .null, .null, .null, .null, .null, .null, .null, .null]) d_Mo_init_33 rfl pf_Mo_20 (by omega) rfl rfl rfl rfl ?_
  refine x_aload_n d_Mo_init_36 rfl ?_
  refine x_bipush d_Mo_init_37 (v := nI 8) (by decide +kernel) ?_
  refine p_newZ hG d_Mo_init_39 (N := 8) rfl (by decide) (show z0 G B (186 + 5) = _ from rfl) (by rw [va_up_ne _ _ (by omega)]; exact hov 5 (by decide)) (by omega) (by omega) ?_
  refine p_putF (fs' := [.int 0, .int 0, .ref (B + (186 + 1)), .ref (B + (186 + 2)), .ref (B + (186 + 3)), .ref (B + (186 + 4)), .ref (B + (186 + 5)), .null, .null, .null, .null, .null, .null, .null, .null, .null, .null, .null, .null, .null, .int 0, .null, .null, .null, .null, .null, .null, .int 0, .null, .null, .null, .null, .long 0, .long 0, .long 0, .long 0, .int 0, .null, .null, .null, .null, .null, .null, .int 0, .null, .null, .null, .null, .null, .null, .null, .null, .null]) d_Mo_init_41 rfl pf_Mo_23 (by omega) rfl rfl rfl rfl ?_
  refine x_aload_n d_Mo_init_44 rfl ?_
  refine x_bipush d_Mo_init_45 (v := nI 8) (by decide +kernel) ?_
  refine p_newZ hG d_Mo_init_47 (N := 8) rfl (by decide) (show z0 G B (186 + 6) = _ from rfl) (by rw [va_up_ne _ _ (by omega)]; exact hov 6 (by decide)) (by omega) (by omega) ?_
  refine p_putF (fs' := [.int 0, .int 0, .ref (B + (186 + 1)), .ref (B + (186 + 2)), .ref (B + (186 + 3)), .ref (B + (186 + 4)), .ref (B + (186 + 5)), .ref (B + (186 + 6)), .null, .null, .null, .null, .null, .null, .null, .null, .null, .null, .null, .null, .int 0, .null, .null, .null, .null, .null, .null, .int 0, .null, .null, .null, .null, .long 0, .long 0, .long 0, .long 0, .int 0, .null, .null, .null, .null, .null, .null, .int 0, .null, .null, .null, .null, .null, .null, .null, .null, .null]) d_Mo_init_49 rfl pf_Mo_26 (by omega) rfl rfl rfl rfl ?_
  refine x_aload_n d_Mo_init_52 rfl ?_
  refine x_bipush d_Mo_init_53 (v := nI 8) (by decide +kernel) ?_
  refine p_newI hG d_Mo_init_55 (N := 8) rfl (by decide) (show z0 G B (186 + 7) = _ from rfl) (by rw [va_up_ne _ _ (by omega)]; exact hov 7 (by decide)) (by omega) (by omega) ?_
  refine p_putF (fs' := [.int 0, .int 0, .ref (B + (186 + 1)), .ref (B + (186 + 2)), .ref (B + (186 + 3)), .ref (B + (186 + 4)), .ref (B + (186 + 5)), .ref (B + (186 + 6)), .ref (B + (186 + 7)), .null, .null, .null, .null, .null, .null, .null, .null, .null, .null, .null, .int 0, .null, .null, .null, .null, .null, .null, .int 0, .null, .null, .null, .null, .long 0, .long 0, .long 0, .long 0, .int 0, .null, .null, .null, .null, .null, .null, .int 0, .null, .null, .null, .null, .null, .null, .null, .null, .null]) d_Mo_init_57 rfl pf_Mo_29 (by omega) rfl rfl rfl rfl ?_
  refine x_aload_n d_Mo_init_60 rfl ?_
  refine x_sipush d_Mo_init_61 (v := nI 192) (by decide +kernel) ?_
  refine p_newI hG d_Mo_init_64 (N := 192) rfl (by decide) (show z0 G B (186 + 8) = _ from rfl) (by rw [va_up_ne _ _ (by omega)]; exact hov 8 (by decide)) (by omega) (by omega) ?_
  refine p_putF (fs' := [.int 0, .int 0, .ref (B + (186 + 1)), .ref (B + (186 + 2)), .ref (B + (186 + 3)), .ref (B + (186 + 4)), .ref (B + (186 + 5)), .ref (B + (186 + 6)), .ref (B + (186 + 7)), .ref (B + (186 + 8)), .null, .null, .null, .null, .null, .null, .null, .null, .null, .null, .int 0, .null, .null, .null, .null, .null, .null, .int 0, .null, .null, .null, .null, .long 0, .long 0, .long 0, .long 0, .int 0, .null, .null, .null, .null, .null, .null, .int 0, .null, .null, .null, .null, .null, .null, .null, .null, .null]) d_Mo_init_66 rfl pf_Mo_32 (by omega) rfl rfl rfl rfl ?_
  refine x_aload_n d_Mo_init_69 rfl ?_
  refine x_bipush d_Mo_init_70 (v := nI 8) (by decide +kernel) ?_
  refine p_newI hG d_Mo_init_72 (N := 8) rfl (by decide) (show z0 G B (186 + 9) = _ from rfl) (by rw [va_up_ne _ _ (by omega)]; exact hov 9 (by decide)) (by omega) (by omega) ?_
  refine p_putF (fs' := [.int 0, .int 0, .ref (B + (186 + 1)), .ref (B + (186 + 2)), .ref (B + (186 + 3)), .ref (B + (186 + 4)), .ref (B + (186 + 5)), .ref (B + (186 + 6)), .ref (B + (186 + 7)), .ref (B + (186 + 8)), .ref (B + (186 + 9)), .null, .null, .null, .null, .null, .null, .null, .null, .null, .int 0, .null, .null, .null, .null, .null, .null, .int 0, .null, .null, .null, .null, .long 0, .long 0, .long 0, .long 0, .int 0, .null, .null, .null, .null, .null, .null, .int 0, .null, .null, .null, .null, .null, .null, .null, .null, .null]) d_Mo_init_74 rfl pf_Mo_35 (by omega) rfl rfl rfl rfl ?_
  refine x_aload_n d_Mo_init_77 rfl ?_
  refine x_sipush d_Mo_init_78 (v := nI 1280) (by decide +kernel) ?_
  refine p_newI hG d_Mo_init_81 (N := 1280) rfl (by decide) (show z0 G B (186 + 10) = _ from rfl) (by rw [va_up_ne _ _ (by omega)]; exact hov 10 (by decide)) (by omega) (by omega) ?_
  refine p_putF (fs' := [.int 0, .int 0, .ref (B + (186 + 1)), .ref (B + (186 + 2)), .ref (B + (186 + 3)), .ref (B + (186 + 4)), .ref (B + (186 + 5)), .ref (B + (186 + 6)), .ref (B + (186 + 7)), .ref (B + (186 + 8)), .ref (B + (186 + 9)), .ref (B + (186 + 10)), .null, .null, .null, .null, .null, .null, .null, .null, .int 0, .null, .null, .null, .null, .null, .null, .int 0, .null, .null, .null, .null, .long 0, .long 0, .long 0, .long 0, .int 0, .null, .null, .null, .null, .null, .null, .int 0, .null, .null, .null, .null, .null, .null, .null, .null, .null]) d_Mo_init_83 rfl pf_Mo_38 (by omega) rfl rfl rfl rfl ?_
  refine x_aload_n d_Mo_init_86 rfl ?_
  refine x_sipush d_Mo_init_87 (v := nI 1280) (by decide +kernel) ?_
  refine p_newI hG d_Mo_init_90 (N := 1280) rfl (by decide) (show z0 G B (186 + 11) = _ from rfl) (by rw [va_up_ne _ _ (by omega)]; exact hov 11 (by decide)) (by omega) (by omega) ?_
  refine p_putF (fs' := [.int 0, .int 0, .ref (B + (186 + 1)), .ref (B + (186 + 2)), .ref (B + (186 + 3)), .ref (B + (186 + 4)), .ref (B + (186 + 5)), .ref (B + (186 + 6)), .ref (B + (186 + 7)), .ref (B + (186 + 8)), .ref (B + (186 + 9)), .ref (B + (186 + 10)), .ref (B + (186 + 11)), .null, .null, .null, .null, .null, .null, .null, .int 0, .null, .null, .null, .null, .null, .null, .int 0, .null, .null, .null, .null, .long 0, .long 0, .long 0, .long 0, .int 0, .null, .null, .null, .null, .null, .null, .int 0, .null, .null, .null, .null, .null, .null, .null, .null, .null]) d_Mo_init_92 rfl pf_Mo_41 (by omega) rfl rfl rfl rfl ?_
  refine x_aload_n d_Mo_init_95 rfl ?_
  refine x_sipush d_Mo_init_96 (v := nI 1280) (by decide +kernel) ?_
  refine p_newI hG d_Mo_init_99 (N := 1280) rfl (by decide) (show z0 G B (186 + 12) = _ from rfl) (by rw [va_up_ne _ _ (by omega)]; exact hov 12 (by decide)) (by omega) (by omega) ?_
  refine p_putF (fs' := [.int 0, .int 0, .ref (B + (186 + 1)), .ref (B + (186 + 2)), .ref (B + (186 + 3)), .ref (B + (186 + 4)), .ref (B + (186 + 5)), .ref (B + (186 + 6)), .ref (B + (186 + 7)), .ref (B + (186 + 8)), .ref (B + (186 + 9)), .ref (B + (186 + 10)), .ref (B + (186 + 11)), .ref (B + (186 + 12)), .null, .null, .null, .null, .null, .null, .int 0, .null, .null, .null, .null, .null, .null, .int 0, .null, .null, .null, .null, .long 0, .long 0, .long 0, .long 0, .int 0, .null, .null, .null, .null, .null, .null, .int 0, .null, .null, .null, .null, .null, .null, .null, .null, .null]) d_Mo_init_101 rfl pf_Mo_44 (by omega) rfl rfl rfl rfl ?_
  refine x_aload_n d_Mo_init_104 rfl ?_
  refine x_sipush d_Mo_init_105 (v := nI 1280) (by decide +kernel) ?_
  refine p_newI hG d_Mo_init_108 (N := 1280) rfl (by decide) (show z0 G B (186 + 13) = _ from rfl) (by rw [va_up_ne _ _ (by omega)]; exact hov 13 (by decide)) (by omega) (by omega) ?_
  refine p_putF (fs' := [.int 0, .int 0, .ref (B + (186 + 1)), .ref (B + (186 + 2)), .ref (B + (186 + 3)), .ref (B + (186 + 4)), .ref (B + (186 + 5)), .ref (B + (186 + 6)), .ref (B + (186 + 7)), .ref (B + (186 + 8)), .ref (B + (186 + 9)), .ref (B + (186 + 10)), .ref (B + (186 + 11)), .ref (B + (186 + 12)), .ref (B + (186 + 13)), .null, .null, .null, .null, .null, .int 0, .null, .null, .null, .null, .null, .null, .int 0, .null, .null, .null, .null, .long 0, .long 0, .long 0, .long 0, .int 0, .null, .null, .null, .null, .null, .null, .int 0, .null, .null, .null, .null, .null, .null, .null, .null, .null]) d_Mo_init_110 rfl pf_Mo_47 (by omega) rfl rfl rfl rfl ?_
  refine x_aload_n d_Mo_init_113 rfl ?_
  refine x_sipush d_Mo_init_114 (v := nI 1280) (by decide +kernel) ?_
  refine p_newI hG d_Mo_init_117 (N := 1280) rfl (by decide) (show z0 G B (186 + 14) = _ from rfl) (by rw [va_up_ne _ _ (by omega)]; exact hov 14 (by decide)) (by omega) (by omega) ?_
  refine p_putF (fs' := [.int 0, .int 0, .ref (B + (186 + 1)), .ref (B + (186 + 2)), .ref (B + (186 + 3)), .ref (B + (186 + 4)), .ref (B + (186 + 5)), .ref (B + (186 + 6)), .ref (B + (186 + 7)), .ref (B + (186 + 8)), .ref (B + (186 + 9)), .ref (B + (186 + 10)), .ref (B + (186 + 11)), .ref (B + (186 + 12)), .ref (B + (186 + 13)), .ref (B + (186 + 14)), .null, .null, .null, .null, .int 0, .null, .null, .null, .null, .null, .null, .int 0, .null, .null, .null, .null, .long 0, .long 0, .long 0, .long 0, .int 0, .null, .null, .null, .null, .null, .null, .int 0, .null, .null, .null, .null, .null, .null, .null, .null, .null]) d_Mo_init_119 rfl pf_Mo_50 (by omega) rfl rfl rfl rfl ?_
  refine x_aload_n d_Mo_init_122 rfl ?_
  refine x_sipush d_Mo_init_123 (v := nI 1280) (by decide +kernel) ?_
  refine p_newI hG d_Mo_init_126 (N := 1280) rfl (by decide) (show z0 G B (186 + 15) = _ from rfl) (by rw [va_up_ne _ _ (by omega)]; exact hov 15 (by decide)) (by omega) (by omega) ?_
  refine p_putF (fs' := [.int 0, .int 0, .ref (B + (186 + 1)), .ref (B + (186 + 2)), .ref (B + (186 + 3)), .ref (B + (186 + 4)), .ref (B + (186 + 5)), .ref (B + (186 + 6)), .ref (B + (186 + 7)), .ref (B + (186 + 8)), .ref (B + (186 + 9)), .ref (B + (186 + 10)), .ref (B + (186 + 11)), .ref (B + (186 + 12)), .ref (B + (186 + 13)), .ref (B + (186 + 14)), .ref (B + (186 + 15)), .null, .null, .null, .int 0, .null, .null, .null, .null, .null, .null, .int 0, .null, .null, .null, .null, .long 0, .long 0, .long 0, .long 0, .int 0, .null, .null, .null, .null, .null, .null, .int 0, .null, .null, .null, .null, .null, .null, .null, .null, .null]) d_Mo_init_128 rfl pf_Mo_53 (by omega) rfl rfl rfl rfl ?_
  refine x_aload_n d_Mo_init_131 rfl ?_
  refine x_sipush d_Mo_init_132 (v := nI 1280) (by decide +kernel) ?_
  refine p_newI hG d_Mo_init_135 (N := 1280) rfl (by decide) (show z0 G B (186 + 16) = _ from rfl) (by rw [va_up_ne _ _ (by omega)]; exact hov 16 (by decide)) (by omega) (by omega) ?_
  refine p_putF (fs' := [.int 0, .int 0, .ref (B + (186 + 1)), .ref (B + (186 + 2)), .ref (B + (186 + 3)), .ref (B + (186 + 4)), .ref (B + (186 + 5)), .ref (B + (186 + 6)), .ref (B + (186 + 7)), .ref (B + (186 + 8)), .ref (B + (186 + 9)), .ref (B + (186 + 10)), .ref (B + (186 + 11)), .ref (B + (186 + 12)), .ref (B + (186 + 13)), .ref (B + (186 + 14)), .ref (B + (186 + 15)), .ref (B + (186 + 16)), .null, .null, .int 0, .null, .null, .null, .null, .null, .null, .int 0, .null, .null, .null, .null, .long 0, .long 0, .long 0, .long 0, .int 0, .null, .null, .null, .null, .null, .null, .int 0, .null, .null, .null, .null, .null, .null, .null, .null, .null]) d_Mo_init_137 rfl pf_Mo_56 (by omega) rfl rfl rfl rfl ?_
  refine x_aload_n d_Mo_init_140 rfl ?_
  refine x_sipush d_Mo_init_141 (v := nI 1280) (by decide +kernel) ?_
  refine p_newI hG d_Mo_init_144 (N := 1280) rfl (by decide) (show z0 G B (186 + 17) = _ from rfl) (by rw [va_up_ne _ _ (by omega)]; exact hov 17 (by decide)) (by omega) (by omega) ?_
  refine p_putF (fs' := [.int 0, .int 0, .ref (B + (186 + 1)), .ref (B + (186 + 2)), .ref (B + (186 + 3)), .ref (B + (186 + 4)), .ref (B + (186 + 5)), .ref (B + (186 + 6)), .ref (B + (186 + 7)), .ref (B + (186 + 8)), .ref (B + (186 + 9)), .ref (B + (186 + 10)), .ref (B + (186 + 11)), .ref (B + (186 + 12)), .ref (B + (186 + 13)), .ref (B + (186 + 14)), .ref (B + (186 + 15)), .ref (B + (186 + 16)), .ref (B + (186 + 17)), .null, .int 0, .null, .null, .null, .null, .null, .null, .int 0, .null, .null, .null, .null, .long 0, .long 0, .long 0, .long 0, .int 0, .null, .null, .null, .null, .null, .null, .int 0, .null, .null, .null, .null, .null, .null, .null, .null, .null]) d_Mo_init_146 rfl pf_Mo_59 (by omega) rfl rfl rfl rfl ?_
  refine x_aload_n d_Mo_init_149 rfl ?_
  refine x_sipush d_Mo_init_150 (v := nI 1280) (by decide +kernel) ?_
  refine p_newI hG d_Mo_init_153 (N := 1280) rfl (by decide) (show z0 G B (186 + 18) = _ from rfl) (by rw [va_up_ne _ _ (by omega)]; exact hov 18 (by decide)) (by omega) (by omega) ?_
  refine p_putF (fs' := [.int 0, .int 0, .ref (B + (186 + 1)), .ref (B + (186 + 2)), .ref (B + (186 + 3)), .ref (B + (186 + 4)), .ref (B + (186 + 5)), .ref (B + (186 + 6)), .ref (B + (186 + 7)), .ref (B + (186 + 8)), .ref (B + (186 + 9)), .ref (B + (186 + 10)), .ref (B + (186 + 11)), .ref (B + (186 + 12)), .ref (B + (186 + 13)), .ref (B + (186 + 14)), .ref (B + (186 + 15)), .ref (B + (186 + 16)), .ref (B + (186 + 17)), .ref (B + (186 + 18)), .int 0, .null, .null, .null, .null, .null, .null, .int 0, .null, .null, .null, .null, .long 0, .long 0, .long 0, .long 0, .int 0, .null, .null, .null, .null, .null, .null, .int 0, .null, .null, .null, .null, .null, .null, .null, .null, .null]) d_Mo_init_155 rfl pf_Mo_62 (by omega) rfl rfl rfl rfl ?_
  refine x_aload_n d_Mo_init_158 rfl ?_
  refine x_bipush d_Mo_init_159 (v := nI 6) (by decide +kernel) ?_
  refine p_newI hG d_Mo_init_161 (N := 6) rfl (by decide) (show z0 G B (186 + 19) = _ from rfl) (by rw [va_up_ne _ _ (by omega)]; exact hov 19 (by decide)) (by omega) (by omega) ?_
  refine p_putF (fs' := [.int 0, .int 0, .ref (B + (186 + 1)), .ref (B + (186 + 2)), .ref (B + (186 + 3)), .ref (B + (186 + 4)), .ref (B + (186 + 5)), .ref (B + (186 + 6)), .ref (B + (186 + 7)), .ref (B + (186 + 8)), .ref (B + (186 + 9)), .ref (B + (186 + 10)), .ref (B + (186 + 11)), .ref (B + (186 + 12)), .ref (B + (186 + 13)), .ref (B + (186 + 14)), .ref (B + (186 + 15)), .ref (B + (186 + 16)), .ref (B + (186 + 17)), .ref (B + (186 + 18)), .int 0, .ref (B + (186 + 19)), .null, .null, .null, .null, .null, .int 0, .null, .null, .null, .null, .long 0, .long 0, .long 0, .long 0, .int 0, .null, .null, .null, .null, .null, .null, .int 0, .null, .null, .null, .null, .null, .null, .null, .null, .null]) d_Mo_init_163 rfl pf_Mo_65 (by omega) rfl rfl rfl rfl ?_
  refine x_aload_n d_Mo_init_166 rfl ?_
  refine x_bipush d_Mo_init_167 (v := nI 6) (by decide +kernel) ?_
  refine p_newI hG d_Mo_init_169 (N := 6) rfl (by decide) (show z0 G B (186 + 20) = _ from rfl) (by rw [va_up_ne _ _ (by omega)]; exact hov 20 (by decide)) (by omega) (by omega) ?_
  refine p_putF (fs' := [.int 0, .int 0, .ref (B + (186 + 1)), .ref (B + (186 + 2)), .ref (B + (186 + 3)), .ref (B + (186 + 4)), .ref (B + (186 + 5)), .ref (B + (186 + 6)), .ref (B + (186 + 7)), .ref (B + (186 + 8)), .ref (B + (186 + 9)), .ref (B + (186 + 10)), .ref (B + (186 + 11)), .ref (B + (186 + 12)), .ref (B + (186 + 13)), .ref (B + (186 + 14)), .ref (B + (186 + 15)), .ref (B + (186 + 16)), .ref (B + (186 + 17)), .ref (B + (186 + 18)), .int 0, .ref (B + (186 + 19)), .ref (B + (186 + 20)), .null, .null, .null, .null, .int 0, .null, .null, .null, .null, .long 0, .long 0, .long 0, .long 0, .int 0, .null, .null, .null, .null, .null, .null, .int 0, .null, .null, .null, .null, .null, .null, .null, .null, .null]) d_Mo_init_171 rfl pf_Mo_68 (by omega) rfl rfl rfl rfl ?_
  refine x_aload_n d_Mo_init_174 rfl ?_
  refine x_bipush d_Mo_init_175 (v := nI 6) (by decide +kernel) ?_
  refine p_newZ hG d_Mo_init_177 (N := 6) rfl (by decide) (show z0 G B (186 + 21) = _ from rfl) (by rw [va_up_ne _ _ (by omega)]; exact hov 21 (by decide)) (by omega) (by omega) ?_
  refine p_putF (fs' := [.int 0, .int 0, .ref (B + (186 + 1)), .ref (B + (186 + 2)), .ref (B + (186 + 3)), .ref (B + (186 + 4)), .ref (B + (186 + 5)), .ref (B + (186 + 6)), .ref (B + (186 + 7)), .ref (B + (186 + 8)), .ref (B + (186 + 9)), .ref (B + (186 + 10)), .ref (B + (186 + 11)), .ref (B + (186 + 12)), .ref (B + (186 + 13)), .ref (B + (186 + 14)), .ref (B + (186 + 15)), .ref (B + (186 + 16)), .ref (B + (186 + 17)), .ref (B + (186 + 18)), .int 0, .ref (B + (186 + 19)), .ref (B + (186 + 20)), .ref (B + (186 + 21)), .null, .null, .null, .int 0, .null, .null, .null, .null, .long 0, .long 0, .long 0, .long 0, .int 0, .null, .null, .null, .null, .null, .null, .int 0, .null, .null, .null, .null, .null, .null, .null, .null, .null]) d_Mo_init_179 rfl pf_Mo_71 (by omega) rfl rfl rfl rfl ?_
  refine x_aload_n d_Mo_init_182 rfl ?_
  refine x_bipush d_Mo_init_183 (v := nI 6) (by decide +kernel) ?_
  refine p_newI hG d_Mo_init_185 (N := 6) rfl (by decide) (show z0 G B (186 + 22) = _ from rfl) (by rw [va_up_ne _ _ (by omega)]; exact hov 22 (by decide)) (by omega) (by omega) ?_
  refine p_putF (fs' := [.int 0, .int 0, .ref (B + (186 + 1)), .ref (B + (186 + 2)), .ref (B + (186 + 3)), .ref (B + (186 + 4)), .ref (B + (186 + 5)), .ref (B + (186 + 6)), .ref (B + (186 + 7)), .ref (B + (186 + 8)), .ref (B + (186 + 9)), .ref (B + (186 + 10)), .ref (B + (186 + 11)), .ref (B + (186 + 12)), .ref (B + (186 + 13)), .ref (B + (186 + 14)), .ref (B + (186 + 15)), .ref (B + (186 + 16)), .ref (B + (186 + 17)), .ref (B + (186 + 18)), .int 0, .ref (B + (186 + 19)), .ref (B + (186 + 20)), .ref (B + (186 + 21)), .ref (B + (186 + 22)), .null, .null, .int 0, .null, .null, .null, .null, .long 0, .long 0, .long 0, .long 0, .int 0, .null, .null, .null, .null, .null, .null, .int 0, .null, .null, .null, .null, .null, .null, .null, .null, .null]) d_Mo_init_187 rfl pf_Mo_74 (by omega) rfl rfl rfl rfl ?_
  refine x_aload_n d_Mo_init_190 rfl ?_
  refine x_bipush d_Mo_init_191 (v := nI 6) (by decide +kernel) ?_
  refine p_newI hG d_Mo_init_193 (N := 6) rfl (by decide) (show z0 G B (186 + 23) = _ from rfl) (by rw [va_up_ne _ _ (by omega)]; exact hov 23 (by decide)) (by omega) (by omega) ?_
  refine p_putF (fs' := [.int 0, .int 0, .ref (B + (186 + 1)), .ref (B + (186 + 2)), .ref (B + (186 + 3)), .ref (B + (186 + 4)), .ref (B + (186 + 5)), .ref (B + (186 + 6)), .ref (B + (186 + 7)), .ref (B + (186 + 8)), .ref (B + (186 + 9)), .ref (B + (186 + 10)), .ref (B + (186 + 11)), .ref (B + (186 + 12)), .ref (B + (186 + 13)), .ref (B + (186 + 14)), .ref (B + (186 + 15)), .ref (B + (186 + 16)), .ref (B + (186 + 17)), .ref (B + (186 + 18)), .int 0, .ref (B + (186 + 19)), .ref (B + (186 + 20)), .ref (B + (186 + 21)), .ref (B + (186 + 22)), .ref (B + (186 + 23)), .null, .int 0, .null, .null, .null, .null, .long 0, .long 0, .long 0, .long 0, .int 0, .null, .null, .null, .null, .null, .null, .int 0, .null, .null, .null, .null, .null, .null, .null, .null, .null]) d_Mo_init_195 rfl pf_Mo_77 (by omega) rfl rfl rfl rfl ?_
  refine x_aload_n d_Mo_init_198 rfl ?_
  refine x_bipush d_Mo_init_199 (v := nI 6) (by decide +kernel) ?_
  refine p_newI hG d_Mo_init_201 (N := 6) rfl (by decide) (show z0 G B (186 + 24) = _ from rfl) (by rw [va_up_ne _ _ (by omega)]; exact hov 24 (by decide)) (by omega) (by omega) ?_
  refine p_putF (fs' := [.int 0, .int 0, .ref (B + (186 + 1)), .ref (B + (186 + 2)), .ref (B + (186 + 3)), .ref (B + (186 + 4)), .ref (B + (186 + 5)), .ref (B + (186 + 6)), .ref (B + (186 + 7)), .ref (B + (186 + 8)), .ref (B + (186 + 9)), .ref (B + (186 + 10)), .ref (B + (186 + 11)), .ref (B + (186 + 12)), .ref (B + (186 + 13)), .ref (B + (186 + 14)), .ref (B + (186 + 15)), .ref (B + (186 + 16)), .ref (B + (186 + 17)), .ref (B + (186 + 18)), .int 0, .ref (B + (186 + 19)), .ref (B + (186 + 20)), .ref (B + (186 + 21)), .ref (B + (186 + 22)), .ref (B + (186 + 23)), .ref (B + (186 + 24)), .int 0, .null, .null, .null, .null, .long 0, .long 0, .long 0, .long 0, .int 0, .null, .null, .null, .null, .null, .null, .int 0, .null, .null, .null, .null, .null, .null, .null, .null, .null]) d_Mo_init_203 rfl pf_Mo_80 (by omega) rfl rfl rfl rfl ?_
  refine x_aload_n d_Mo_init_206 rfl ?_
  refine x_bipush d_Mo_init_207 (v := nI 10) (by decide +kernel) ?_
  refine p_newI hG d_Mo_init_209 (N := 10) rfl (by decide) (show z0 G B (186 + 25) = _ from rfl) (by rw [va_up_ne _ _ (by omega)]; exact hov 25 (by decide)) (by omega) (by omega) ?_
  refine p_putF (fs' := [.int 0, .int 0, .ref (B + (186 + 1)), .ref (B + (186 + 2)), .ref (B + (186 + 3)), .ref (B + (186 + 4)), .ref (B + (186 + 5)), .ref (B + (186 + 6)), .ref (B + (186 + 7)), .ref (B + (186 + 8)), .ref (B + (186 + 9)), .ref (B + (186 + 10)), .ref (B + (186 + 11)), .ref (B + (186 + 12)), .ref (B + (186 + 13)), .ref (B + (186 + 14)), .ref (B + (186 + 15)), .ref (B + (186 + 16)), .ref (B + (186 + 17)), .ref (B + (186 + 18)), .int 0, .ref (B + (186 + 19)), .ref (B + (186 + 20)), .ref (B + (186 + 21)), .ref (B + (186 + 22)), .ref (B + (186 + 23)), .ref (B + (186 + 24)), .int 0, .ref (B + (186 + 25)), .null, .null, .null, .long 0, .long 0, .long 0, .long 0, .int 0, .null, .null, .null, .null, .null, .null, .int 0, .null, .null, .null, .null, .null, .null, .null, .null, .null]) d_Mo_init_211 rfl pf_Mo_83 (by omega) rfl rfl rfl rfl ?_
  refine x_aload_n d_Mo_init_214 rfl ?_
  refine x_bipush d_Mo_init_215 (v := nI 10) (by decide +kernel) ?_
  refine p_newI hG d_Mo_init_217 (N := 10) rfl (by decide) (show z0 G B (186 + 26) = _ from rfl) (by rw [va_up_ne _ _ (by omega)]; exact hov 26 (by decide)) (by omega) (by omega) ?_
  refine p_putF (fs' := [.int 0, .int 0, .ref (B + (186 + 1)), .ref (B + (186 + 2)), .ref (B + (186 + 3)), .ref (B + (186 + 4)), .ref (B + (186 + 5)), .ref (B + (186 + 6)), .ref (B + (186 + 7)), .ref (B + (186 + 8)), .ref (B + (186 + 9)), .ref (B + (186 + 10)), .ref (B + (186 + 11)), .ref (B + (186 + 12)), .ref (B + (186 + 13)), .ref (B + (186 + 14)), .ref (B + (186 + 15)), .ref (B + (186 + 16)), .ref (B + (186 + 17)), .ref (B + (186 + 18)), .int 0, .ref (B + (186 + 19)), .ref (B + (186 + 20)), .ref (B + (186 + 21)), .ref (B + (186 + 22)), .ref (B + (186 + 23)), .ref (B + (186 + 24)), .int 0, .ref (B + (186 + 25)), .ref (B + (186 + 26)), .null, .null, .long 0, .long 0, .long 0, .long 0, .int 0, .null, .null, .null, .null, .null, .null, .int 0, .null, .null, .null, .null, .null, .null, .null, .null, .null]) d_Mo_init_219 rfl pf_Mo_86 (by omega) rfl rfl rfl rfl ?_
  refine x_aload_n d_Mo_init_222 rfl ?_
  refine x_bipush d_Mo_init_223 (v := nI 10) (by decide +kernel) ?_
  refine p_newI hG d_Mo_init_225 (N := 10) rfl (by decide) (show z0 G B (186 + 27) = _ from rfl) (by rw [va_up_ne _ _ (by omega)]; exact hov 27 (by decide)) (by omega) (by omega) ?_
  refine p_putF (fs' := [.int 0, .int 0, .ref (B + (186 + 1)), .ref (B + (186 + 2)), .ref (B + (186 + 3)), .ref (B + (186 + 4)), .ref (B + (186 + 5)), .ref (B + (186 + 6)), .ref (B + (186 + 7)), .ref (B + (186 + 8)), .ref (B + (186 + 9)), .ref (B + (186 + 10)), .ref (B + (186 + 11)), .ref (B + (186 + 12)), .ref (B + (186 + 13)), .ref (B + (186 + 14)), .ref (B + (186 + 15)), .ref (B + (186 + 16)), .ref (B + (186 + 17)), .ref (B + (186 + 18)), .int 0, .ref (B + (186 + 19)), .ref (B + (186 + 20)), .ref (B + (186 + 21)), .ref (B + (186 + 22)), .ref (B + (186 + 23)), .ref (B + (186 + 24)), .int 0, .ref (B + (186 + 25)), .ref (B + (186 + 26)), .ref (B + (186 + 27)), .null, .long 0, .long 0, .long 0, .long 0, .int 0, .null, .null, .null, .null, .null, .null, .int 0, .null, .null, .null, .null, .null, .null, .null, .null, .null]) d_Mo_init_227 rfl pf_Mo_89 (by omega) rfl rfl rfl rfl ?_
  refine x_aload_n d_Mo_init_230 rfl ?_
  refine x_sipush d_Mo_init_231 (v := nI 240) (by decide +kernel) ?_
  refine p_newI hG d_Mo_init_234 (N := 240) rfl (by decide) (show z0 G B (186 + 28) = _ from rfl) (by rw [va_up_ne _ _ (by omega)]; exact hov 28 (by decide)) (by omega) (by omega) ?_
  refine p_putF (fs' := [.int 0, .int 0, .ref (B + (186 + 1)), .ref (B + (186 + 2)), .ref (B + (186 + 3)), .ref (B + (186 + 4)), .ref (B + (186 + 5)), .ref (B + (186 + 6)), .ref (B + (186 + 7)), .ref (B + (186 + 8)), .ref (B + (186 + 9)), .ref (B + (186 + 10)), .ref (B + (186 + 11)), .ref (B + (186 + 12)), .ref (B + (186 + 13)), .ref (B + (186 + 14)), .ref (B + (186 + 15)), .ref (B + (186 + 16)), .ref (B + (186 + 17)), .ref (B + (186 + 18)), .int 0, .ref (B + (186 + 19)), .ref (B + (186 + 20)), .ref (B + (186 + 21)), .ref (B + (186 + 22)), .ref (B + (186 + 23)), .ref (B + (186 + 24)), .int 0, .ref (B + (186 + 25)), .ref (B + (186 + 26)), .ref (B + (186 + 27)), .ref (B + (186 + 28)), .long 0, .long 0, .long 0, .long 0, .int 0, .null, .null, .null, .null, .null, .null, .int 0, .null, .null, .null, .null, .null, .null, .null, .null, .null]) d_Mo_init_236 rfl pf_Mo_92 (by omega) rfl rfl rfl rfl ?_
  refine x_aload_n d_Mo_init_239 rfl ?_
  refine x_bipush d_Mo_init_240 (v := nI 40) (by decide +kernel) ?_
  refine p_newI hG d_Mo_init_242 (N := 40) rfl (by decide) (show z0 G B (186 + 29) = _ from rfl) (by rw [va_up_ne _ _ (by omega)]; exact hov 29 (by decide)) (by omega) (by omega) ?_
  refine p_putF (fs' := [.int 0, .int 0, .ref (B + (186 + 1)), .ref (B + (186 + 2)), .ref (B + (186 + 3)), .ref (B + (186 + 4)), .ref (B + (186 + 5)), .ref (B + (186 + 6)), .ref (B + (186 + 7)), .ref (B + (186 + 8)), .ref (B + (186 + 9)), .ref (B + (186 + 10)), .ref (B + (186 + 11)), .ref (B + (186 + 12)), .ref (B + (186 + 13)), .ref (B + (186 + 14)), .ref (B + (186 + 15)), .ref (B + (186 + 16)), .ref (B + (186 + 17)), .ref (B + (186 + 18)), .int 0, .ref (B + (186 + 19)), .ref (B + (186 + 20)), .ref (B + (186 + 21)), .ref (B + (186 + 22)), .ref (B + (186 + 23)), .ref (B + (186 + 24)), .int 0, .ref (B + (186 + 25)), .ref (B + (186 + 26)), .ref (B + (186 + 27)), .ref (B + (186 + 28)), .long 0, .long 0, .long 0, .long 0, .int 0, .ref (B + (186 + 29)), .null, .null, .null, .null, .null, .int 0, .null, .null, .null, .null, .null, .null, .null, .null, .null]) d_Mo_init_244 rfl pf_Mo_95 (by omega) rfl rfl rfl rfl ?_
  refine x_aload_n d_Mo_init_247 rfl ?_
  refine x_bipush d_Mo_init_248 (v := nI 40) (by decide +kernel) ?_
  refine p_newI hG d_Mo_init_250 (N := 40) rfl (by decide) (show z0 G B (186 + 30) = _ from rfl) (by rw [va_up_ne _ _ (by omega)]; exact hov 30 (by decide)) (by omega) (by omega) ?_
  refine p_putF (fs' := [.int 0, .int 0, .ref (B + (186 + 1)), .ref (B + (186 + 2)), .ref (B + (186 + 3)), .ref (B + (186 + 4)), .ref (B + (186 + 5)), .ref (B + (186 + 6)), .ref (B + (186 + 7)), .ref (B + (186 + 8)), .ref (B + (186 + 9)), .ref (B + (186 + 10)), .ref (B + (186 + 11)), .ref (B + (186 + 12)), .ref (B + (186 + 13)), .ref (B + (186 + 14)), .ref (B + (186 + 15)), .ref (B + (186 + 16)), .ref (B + (186 + 17)), .ref (B + (186 + 18)), .int 0, .ref (B + (186 + 19)), .ref (B + (186 + 20)), .ref (B + (186 + 21)), .ref (B + (186 + 22)), .ref (B + (186 + 23)), .ref (B + (186 + 24)), .int 0, .ref (B + (186 + 25)), .ref (B + (186 + 26)), .ref (B + (186 + 27)), .ref (B + (186 + 28)), .long 0, .long 0, .long 0, .long 0, .int 0, .ref (B + (186 + 29)), .ref (B + (186 + 30)), .null, .null, .null, .null, .int 0, .null, .null, .null, .null, .null, .null, .null, .null, .null]) d_Mo_init_252 rfl pf_Mo_98 (by omega) rfl rfl rfl rfl ?_
  refine x_aload_n d_Mo_init_255 rfl ?_
  refine x_bipush d_Mo_init_256 (v := nI 40) (by decide +kernel) ?_
  refine p_newI hG d_Mo_init_258 (N := 40) rfl (by decide) (show z0 G B (186 + 31) = _ from rfl) (by rw [va_up_ne _ _ (by omega)]; exact hov 31 (by decide)) (by omega) (by omega) ?_
  refine p_putF (fs' := [.int 0, .int 0, .ref (B + (186 + 1)), .ref (B + (186 + 2)), .ref (B + (186 + 3)), .ref (B + (186 + 4)), .ref (B + (186 + 5)), .ref (B + (186 + 6)), .ref (B + (186 + 7)), .ref (B + (186 + 8)), .ref (B + (186 + 9)), .ref (B + (186 + 10)), .ref (B + (186 + 11)), .ref (B + (186 + 12)), .ref (B + (186 + 13)), .ref (B + (186 + 14)), .ref (B + (186 + 15)), .ref (B + (186 + 16)), .ref (B + (186 + 17)), .ref (B + (186 + 18)), .int 0, .ref (B + (186 + 19)), .ref (B + (186 + 20)), .ref (B + (186 + 21)), .ref (B + (186 + 22)), .ref (B + (186 + 23)), .ref (B + (186 + 24)), .int 0, .ref (B + (186 + 25)), .ref (B + (186 + 26)), .ref (B + (186 + 27)), .ref (B + (186 + 28)), .long 0, .long 0, .long 0, .long 0, .int 0, .ref (B + (186 + 29)), .ref (B + (186 + 30)), .ref (B + (186 + 31)), .null, .null, .null, .int 0, .null, .null, .null, .null, .null, .null, .null, .null, .null]) d_Mo_init_260 rfl pf_Mo_101 (by omega) rfl rfl rfl rfl ?_
  refine x_aload_n d_Mo_init_263 rfl ?_
  refine x_bipush d_Mo_init_264 (v := nI 40) (by decide +kernel) ?_
  refine p_newI hG d_Mo_init_266 (N := 40) rfl (by decide) (show z0 G B (186 + 32) = _ from rfl) (by rw [va_up_ne _ _ (by omega)]; exact hov 32 (by decide)) (by omega) (by omega) ?_
  refine p_putF (fs' := [.int 0, .int 0, .ref (B + (186 + 1)), .ref (B + (186 + 2)), .ref (B + (186 + 3)), .ref (B + (186 + 4)), .ref (B + (186 + 5)), .ref (B + (186 + 6)), .ref (B + (186 + 7)), .ref (B + (186 + 8)), .ref (B + (186 + 9)), .ref (B + (186 + 10)), .ref (B + (186 + 11)), .ref (B + (186 + 12)), .ref (B + (186 + 13)), .ref (B + (186 + 14)), .ref (B + (186 + 15)), .ref (B + (186 + 16)), .ref (B + (186 + 17)), .ref (B + (186 + 18)), .int 0, .ref (B + (186 + 19)), .ref (B + (186 + 20)), .ref (B + (186 + 21)), .ref (B + (186 + 22)), .ref (B + (186 + 23)), .ref (B + (186 + 24)), .int 0, .ref (B + (186 + 25)), .ref (B + (186 + 26)), .ref (B + (186 + 27)), .ref (B + (186 + 28)), .long 0, .long 0, .long 0, .long 0, .int 0, .ref (B + (186 + 29)), .ref (B + (186 + 30)), .ref (B + (186 + 31)), .ref (B + (186 + 32)), .null, .null, .int 0, .null, .null, .null, .null, .null, .null, .null, .null, .null]) d_Mo_init_268 rfl pf_Mo_104 (by omega) rfl rfl rfl rfl ?_
  refine x_aload_n d_Mo_init_271 rfl ?_
  refine x_bipush d_Mo_init_272 (v := nI 40) (by decide +kernel) ?_
  refine p_newI hG d_Mo_init_274 (N := 40) rfl (by decide) (show z0 G B (186 + 33) = _ from rfl) (by rw [va_up_ne _ _ (by omega)]; exact hov 33 (by decide)) (by omega) (by omega) ?_
  refine p_putF (fs' := [.int 0, .int 0, .ref (B + (186 + 1)), .ref (B + (186 + 2)), .ref (B + (186 + 3)), .ref (B + (186 + 4)), .ref (B + (186 + 5)), .ref (B + (186 + 6)), .ref (B + (186 + 7)), .ref (B + (186 + 8)), .ref (B + (186 + 9)), .ref (B + (186 + 10)), .ref (B + (186 + 11)), .ref (B + (186 + 12)), .ref (B + (186 + 13)), .ref (B + (186 + 14)), .ref (B + (186 + 15)), .ref (B + (186 + 16)), .ref (B + (186 + 17)), .ref (B + (186 + 18)), .int 0, .ref (B + (186 + 19)), .ref (B + (186 + 20)), .ref (B + (186 + 21)), .ref (B + (186 + 22)), .ref (B + (186 + 23)), .ref (B + (186 + 24)), .int 0, .ref (B + (186 + 25)), .ref (B + (186 + 26)), .ref (B + (186 + 27)), .ref (B + (186 + 28)), .long 0, .long 0, .long 0, .long 0, .int 0, .ref (B + (186 + 29)), .ref (B + (186 + 30)), .ref (B + (186 + 31)), .ref (B + (186 + 32)), .ref (B + (186 + 33)), .null, .int 0, .null, .null, .null, .null, .null, .null, .null, .null, .null]) d_Mo_init_276 rfl pf_Mo_107 (by omega) rfl rfl rfl rfl ?_
  refine x_aload_n d_Mo_init_279 rfl ?_
  refine x_bipush d_Mo_init_280 (v := nI 6) (by decide +kernel) ?_
  refine p_newI hG d_Mo_init_282 (N := 6) rfl (by decide) (show z0 G B (186 + 34) = _ from rfl) (by rw [va_up_ne _ _ (by omega)]; exact hov 34 (by decide)) (by omega) (by omega) ?_
  refine p_putF (fs' := [.int 0, .int 0, .ref (B + (186 + 1)), .ref (B + (186 + 2)), .ref (B + (186 + 3)), .ref (B + (186 + 4)), .ref (B + (186 + 5)), .ref (B + (186 + 6)), .ref (B + (186 + 7)), .ref (B + (186 + 8)), .ref (B + (186 + 9)), .ref (B + (186 + 10)), .ref (B + (186 + 11)), .ref (B + (186 + 12)), .ref (B + (186 + 13)), .ref (B + (186 + 14)), .ref (B + (186 + 15)), .ref (B + (186 + 16)), .ref (B + (186 + 17)), .ref (B + (186 + 18)), .int 0, .ref (B + (186 + 19)), .ref (B + (186 + 20)), .ref (B + (186 + 21)), .ref (B + (186 + 22)), .ref (B + (186 + 23)), .ref (B + (186 + 24)), .int 0, .ref (B + (186 + 25)), .ref (B + (186 + 26)), .ref (B + (186 + 27)), .ref (B + (186 + 28)), .long 0, .long 0, .long 0, .long 0, .int 0, .ref (B + (186 + 29)), .ref (B + (186 + 30)), .ref (B + (186 + 31)), .ref (B + (186 + 32)), .ref (B + (186 + 33)), .ref (B + (186 + 34)), .int 0, .null, .null, .null, .null, .null, .null, .null, .null, .null]) d_Mo_init_284 rfl pf_Mo_110 (by omega) rfl rfl rfl rfl ?_
  refine x_aload_n d_Mo_init_287 rfl ?_
  refine x_bipush d_Mo_init_288 (v := nI 64) (by decide +kernel) ?_
  refine p_newI hG d_Mo_init_290 (N := 64) rfl (by decide) (show z0 G B (186 + 35) = _ from rfl) (by rw [va_up_ne _ _ (by omega)]; exact hov 35 (by decide)) (by omega) (by omega) ?_
  refine p_putF (fs' := [.int 0, .int 0, .ref (B + (186 + 1)), .ref (B + (186 + 2)), .ref (B + (186 + 3)), .ref (B + (186 + 4)), .ref (B + (186 + 5)), .ref (B + (186 + 6)), .ref (B + (186 + 7)), .ref (B + (186 + 8)), .ref (B + (186 + 9)), .ref (B + (186 + 10)), .ref (B + (186 + 11)), .ref (B + (186 + 12)), .ref (B + (186 + 13)), .ref (B + (186 + 14)), .ref (B + (186 + 15)), .ref (B + (186 + 16)), .ref (B + (186 + 17)), .ref (B + (186 + 18)), .int 0, .ref (B + (186 + 19)), .ref (B + (186 + 20)), .ref (B + (186 + 21)), .ref (B + (186 + 22)), .ref (B + (186 + 23)), .ref (B + (186 + 24)), .int 0, .ref (B + (186 + 25)), .ref (B + (186 + 26)), .ref (B + (186 + 27)), .ref (B + (186 + 28)), .long 0, .long 0, .long 0, .long 0, .int 0, .ref (B + (186 + 29)), .ref (B + (186 + 30)), .ref (B + (186 + 31)), .ref (B + (186 + 32)), .ref (B + (186 + 33)), .ref (B + (186 + 34)), .int 0, .ref (B + (186 + 35)), .null, .null, .null, .null, .null, .null, .null, .null]) d_Mo_init_292 rfl pf_Mo_113 (by omega) rfl rfl rfl rfl ?_
  refine x_aload_n d_Mo_init_295 rfl ?_
  refine x_bipush d_Mo_init_296 (v := nI 64) (by decide +kernel) ?_
  refine p_newI hG d_Mo_init_298 (N := 64) rfl (by decide) (show z0 G B (186 + 36) = _ from rfl) (by rw [va_up_ne _ _ (by omega)]; exact hov 36 (by decide)) (by omega) (by omega) ?_
  refine p_putF (fs' := [.int 0, .int 0, .ref (B + (186 + 1)), .ref (B + (186 + 2)), .ref (B + (186 + 3)), .ref (B + (186 + 4)), .ref (B + (186 + 5)), .ref (B + (186 + 6)), .ref (B + (186 + 7)), .ref (B + (186 + 8)), .ref (B + (186 + 9)), .ref (B + (186 + 10)), .ref (B + (186 + 11)), .ref (B + (186 + 12)), .ref (B + (186 + 13)), .ref (B + (186 + 14)), .ref (B + (186 + 15)), .ref (B + (186 + 16)), .ref (B + (186 + 17)), .ref (B + (186 + 18)), .int 0, .ref (B + (186 + 19)), .ref (B + (186 + 20)), .ref (B + (186 + 21)), .ref (B + (186 + 22)), .ref (B + (186 + 23)), .ref (B + (186 + 24)), .int 0, .ref (B + (186 + 25)), .ref (B + (186 + 26)), .ref (B + (186 + 27)), .ref (B + (186 + 28)), .long 0, .long 0, .long 0, .long 0, .int 0, .ref (B + (186 + 29)), .ref (B + (186 + 30)), .ref (B + (186 + 31)), .ref (B + (186 + 32)), .ref (B + (186 + 33)), .ref (B + (186 + 34)), .int 0, .ref (B + (186 + 35)), .ref (B + (186 + 36)), .null, .null, .null, .null, .null, .null, .null]) d_Mo_init_300 rfl pf_Mo_116 (by omega) rfl rfl rfl rfl ?_
  refine x_aload_n d_Mo_init_303 rfl ?_
  refine x_bipush d_Mo_init_304 (v := nI 64) (by decide +kernel) ?_
  refine p_newI hG d_Mo_init_306 (N := 64) rfl (by decide) (show z0 G B (186 + 37) = _ from rfl) (by rw [va_up_ne _ _ (by omega)]; exact hov 37 (by decide)) (by omega) (by omega) ?_
  refine p_putF (fs' := [.int 0, .int 0, .ref (B + (186 + 1)), .ref (B + (186 + 2)), .ref (B + (186 + 3)), .ref (B + (186 + 4)), .ref (B + (186 + 5)), .ref (B + (186 + 6)), .ref (B + (186 + 7)), .ref (B + (186 + 8)), .ref (B + (186 + 9)), .ref (B + (186 + 10)), .ref (B + (186 + 11)), .ref (B + (186 + 12)), .ref (B + (186 + 13)), .ref (B + (186 + 14)), .ref (B + (186 + 15)), .ref (B + (186 + 16)), .ref (B + (186 + 17)), .ref (B + (186 + 18)), .int 0, .ref (B + (186 + 19)), .ref (B + (186 + 20)), .ref (B + (186 + 21)), .ref (B + (186 + 22)), .ref (B + (186 + 23)), .ref (B + (186 + 24)), .int 0, .ref (B + (186 + 25)), .ref (B + (186 + 26)), .ref (B + (186 + 27)), .ref (B + (186 + 28)), .long 0, .long 0, .long 0, .long 0, .int 0, .ref (B + (186 + 29)), .ref (B + (186 + 30)), .ref (B + (186 + 31)), .ref (B + (186 + 32)), .ref (B + (186 + 33)), .ref (B + (186 + 34)), .int 0, .ref (B + (186 + 35)), .ref (B + (186 + 36)), .ref (B + (186 + 37)), .null, .null, .null, .null, .null, .null]) d_Mo_init_308 rfl pf_Mo_119 (by omega) rfl rfl rfl rfl ?_
  refine x_aload_n d_Mo_init_311 rfl ?_
  refine x_bipush d_Mo_init_312 (v := nI 64) (by decide +kernel) ?_
  refine p_newI hG d_Mo_init_314 (N := 64) rfl (by decide) (show z0 G B (186 + 38) = _ from rfl) (by rw [va_up_ne _ _ (by omega)]; exact hov 38 (by decide)) (by omega) (by omega) ?_
  refine p_putF (fs' := [.int 0, .int 0, .ref (B + (186 + 1)), .ref (B + (186 + 2)), .ref (B + (186 + 3)), .ref (B + (186 + 4)), .ref (B + (186 + 5)), .ref (B + (186 + 6)), .ref (B + (186 + 7)), .ref (B + (186 + 8)), .ref (B + (186 + 9)), .ref (B + (186 + 10)), .ref (B + (186 + 11)), .ref (B + (186 + 12)), .ref (B + (186 + 13)), .ref (B + (186 + 14)), .ref (B + (186 + 15)), .ref (B + (186 + 16)), .ref (B + (186 + 17)), .ref (B + (186 + 18)), .int 0, .ref (B + (186 + 19)), .ref (B + (186 + 20)), .ref (B + (186 + 21)), .ref (B + (186 + 22)), .ref (B + (186 + 23)), .ref (B + (186 + 24)), .int 0, .ref (B + (186 + 25)), .ref (B + (186 + 26)), .ref (B + (186 + 27)), .ref (B + (186 + 28)), .long 0, .long 0, .long 0, .long 0, .int 0, .ref (B + (186 + 29)), .ref (B + (186 + 30)), .ref (B + (186 + 31)), .ref (B + (186 + 32)), .ref (B + (186 + 33)), .ref (B + (186 + 34)), .int 0, .ref (B + (186 + 35)), .ref (B + (186 + 36)), .ref (B + (186 + 37)), .ref (B + (186 + 38)), .null, .null, .null, .null, .null]) d_Mo_init_316 rfl pf_Mo_122 (by omega) rfl rfl rfl rfl ?_
  refine x_aload_n d_Mo_init_319 rfl ?_
  refine x_bipush d_Mo_init_320 (v := nI 64) (by decide +kernel) ?_
  refine p_newI hG d_Mo_init_322 (N := 64) rfl (by decide) (show z0 G B (186 + 39) = _ from rfl) (by rw [va_up_ne _ _ (by omega)]; exact hov 39 (by decide)) (by omega) (by omega) ?_
  refine p_putF (fs' := [.int 0, .int 0, .ref (B + (186 + 1)), .ref (B + (186 + 2)), .ref (B + (186 + 3)), .ref (B + (186 + 4)), .ref (B + (186 + 5)), .ref (B + (186 + 6)), .ref (B + (186 + 7)), .ref (B + (186 + 8)), .ref (B + (186 + 9)), .ref (B + (186 + 10)), .ref (B + (186 + 11)), .ref (B + (186 + 12)), .ref (B + (186 + 13)), .ref (B + (186 + 14)), .ref (B + (186 + 15)), .ref (B + (186 + 16)), .ref (B + (186 + 17)), .ref (B + (186 + 18)), .int 0, .ref (B + (186 + 19)), .ref (B + (186 + 20)), .ref (B + (186 + 21)), .ref (B + (186 + 22)), .ref (B + (186 + 23)), .ref (B + (186 + 24)), .int 0, .ref (B + (186 + 25)), .ref (B + (186 + 26)), .ref (B + (186 + 27)), .ref (B + (186 + 28)), .long 0, .long 0, .long 0, .long 0, .int 0, .ref (B + (186 + 29)), .ref (B + (186 + 30)), .ref (B + (186 + 31)), .ref (B + (186 + 32)), .ref (B + (186 + 33)), .ref (B + (186 + 34)), .int 0, .ref (B + (186 + 35)), .ref (B + (186 + 36)), .ref (B + (186 + 37)), .ref (B + (186 + 38)), .ref (B + (186 + 39)), .null, .null, .null, .null]) d_Mo_init_324 rfl pf_Mo_125 (by omega) rfl rfl rfl rfl ?_
  refine x_aload_n d_Mo_init_327 rfl ?_
  refine x_bipush d_Mo_init_328 (v := nI 64) (by decide +kernel) ?_
  refine p_newI hG d_Mo_init_330 (N := 64) rfl (by decide) (show z0 G B (186 + 40) = _ from rfl) (by rw [va_up_ne _ _ (by omega)]; exact hov 40 (by decide)) (by omega) (by omega) ?_
  refine p_putF (fs' := [.int 0, .int 0, .ref (B + (186 + 1)), .ref (B + (186 + 2)), .ref (B + (186 + 3)), .ref (B + (186 + 4)), .ref (B + (186 + 5)), .ref (B + (186 + 6)), .ref (B + (186 + 7)), .ref (B + (186 + 8)), .ref (B + (186 + 9)), .ref (B + (186 + 10)), .ref (B + (186 + 11)), .ref (B + (186 + 12)), .ref (B + (186 + 13)), .ref (B + (186 + 14)), .ref (B + (186 + 15)), .ref (B + (186 + 16)), .ref (B + (186 + 17)), .ref (B + (186 + 18)), .int 0, .ref (B + (186 + 19)), .ref (B + (186 + 20)), .ref (B + (186 + 21)), .ref (B + (186 + 22)), .ref (B + (186 + 23)), .ref (B + (186 + 24)), .int 0, .ref (B + (186 + 25)), .ref (B + (186 + 26)), .ref (B + (186 + 27)), .ref (B + (186 + 28)), .long 0, .long 0, .long 0, .long 0, .int 0, .ref (B + (186 + 29)), .ref (B + (186 + 30)), .ref (B + (186 + 31)), .ref (B + (186 + 32)), .ref (B + (186 + 33)), .ref (B + (186 + 34)), .int 0, .ref (B + (186 + 35)), .ref (B + (186 + 36)), .ref (B + (186 + 37)), .ref (B + (186 + 38)), .ref (B + (186 + 39)), .ref (B + (186 + 40)), .null, .null, .null]) d_Mo_init_332 rfl pf_Mo_128 (by omega) rfl rfl rfl rfl ?_
  refine x_aload_n d_Mo_init_335 rfl ?_
  refine x_bipush d_Mo_init_336 (v := nI 64) (by decide +kernel) ?_
  refine p_newI hG d_Mo_init_338 (N := 64) rfl (by decide) (show z0 G B (186 + 41) = _ from rfl) (by rw [va_up_ne _ _ (by omega)]; exact hov 41 (by decide)) (by omega) (by omega) ?_
  refine p_putF (fs' := [.int 0, .int 0, .ref (B + (186 + 1)), .ref (B + (186 + 2)), .ref (B + (186 + 3)), .ref (B + (186 + 4)), .ref (B + (186 + 5)), .ref (B + (186 + 6)), .ref (B + (186 + 7)), .ref (B + (186 + 8)), .ref (B + (186 + 9)), .ref (B + (186 + 10)), .ref (B + (186 + 11)), .ref (B + (186 + 12)), .ref (B + (186 + 13)), .ref (B + (186 + 14)), .ref (B + (186 + 15)), .ref (B + (186 + 16)), .ref (B + (186 + 17)), .ref (B + (186 + 18)), .int 0, .ref (B + (186 + 19)), .ref (B + (186 + 20)), .ref (B + (186 + 21)), .ref (B + (186 + 22)), .ref (B + (186 + 23)), .ref (B + (186 + 24)), .int 0, .ref (B + (186 + 25)), .ref (B + (186 + 26)), .ref (B + (186 + 27)), .ref (B + (186 + 28)), .long 0, .long 0, .long 0, .long 0, .int 0, .ref (B + (186 + 29)), .ref (B + (186 + 30)), .ref (B + (186 + 31)), .ref (B + (186 + 32)), .ref (B + (186 + 33)), .ref (B + (186 + 34)), .int 0, .ref (B + (186 + 35)), .ref (B + (186 + 36)), .ref (B + (186 + 37)), .ref (B + (186 + 38)), .ref (B + (186 + 39)), .ref (B + (186 + 40)), .ref (B + (186 + 41)), .null, .null]) d_Mo_init_340 rfl pf_Mo_131 (by omega) rfl rfl rfl rfl ?_
  refine x_aload_n d_Mo_init_343 rfl ?_
  refine x_bipush d_Mo_init_344 (v := nI 64) (by decide +kernel) ?_
  refine p_newI hG d_Mo_init_346 (N := 64) rfl (by decide) (show z0 G B (186 + 42) = _ from rfl) (by rw [va_up_ne _ _ (by omega)]; exact hov 42 (by decide)) (by omega) (by omega) ?_
  refine p_putF (fs' := [.int 0, .int 0, .ref (B + (186 + 1)), .ref (B + (186 + 2)), .ref (B + (186 + 3)), .ref (B + (186 + 4)), .ref (B + (186 + 5)), .ref (B + (186 + 6)), .ref (B + (186 + 7)), .ref (B + (186 + 8)), .ref (B + (186 + 9)), .ref (B + (186 + 10)), .ref (B + (186 + 11)), .ref (B + (186 + 12)), .ref (B + (186 + 13)), .ref (B + (186 + 14)), .ref (B + (186 + 15)), .ref (B + (186 + 16)), .ref (B + (186 + 17)), .ref (B + (186 + 18)), .int 0, .ref (B + (186 + 19)), .ref (B + (186 + 20)), .ref (B + (186 + 21)), .ref (B + (186 + 22)), .ref (B + (186 + 23)), .ref (B + (186 + 24)), .int 0, .ref (B + (186 + 25)), .ref (B + (186 + 26)), .ref (B + (186 + 27)), .ref (B + (186 + 28)), .long 0, .long 0, .long 0, .long 0, .int 0, .ref (B + (186 + 29)), .ref (B + (186 + 30)), .ref (B + (186 + 31)), .ref (B + (186 + 32)), .ref (B + (186 + 33)), .ref (B + (186 + 34)), .int 0, .ref (B + (186 + 35)), .ref (B + (186 + 36)), .ref (B + (186 + 37)), .ref (B + (186 + 38)), .ref (B + (186 + 39)), .ref (B + (186 + 40)), .ref (B + (186 + 41)), .ref (B + (186 + 42)), .null]) d_Mo_init_348 rfl pf_Mo_134 (by omega) rfl rfl rfl rfl ?_
  refine x_aload_n d_Mo_init_351 rfl ?_
  refine x_bipush d_Mo_init_352 (v := nI 64) (by decide +kernel) ?_
  refine p_newI hG d_Mo_init_354 (N := 64) rfl (by decide) (show z0 G B (186 + 43) = _ from rfl) (by rw [va_up_ne _ _ (by omega)]; exact hov 43 (by decide)) (by omega) (by omega) ?_
  refine p_putF (fs' := [.int 0, .int 0, .ref (B + (186 + 1)), .ref (B + (186 + 2)), .ref (B + (186 + 3)), .ref (B + (186 + 4)), .ref (B + (186 + 5)), .ref (B + (186 + 6)), .ref (B + (186 + 7)), .ref (B + (186 + 8)), .ref (B + (186 + 9)), .ref (B + (186 + 10)), .ref (B + (186 + 11)), .ref (B + (186 + 12)), .ref (B + (186 + 13)), .ref (B + (186 + 14)), .ref (B + (186 + 15)), .ref (B + (186 + 16)), .ref (B + (186 + 17)), .ref (B + (186 + 18)), .int 0, .ref (B + (186 + 19)), .ref (B + (186 + 20)), .ref (B + (186 + 21)), .ref (B + (186 + 22)), .ref (B + (186 + 23)), .ref (B + (186 + 24)), .int 0, .ref (B + (186 + 25)), .ref (B + (186 + 26)), .ref (B + (186 + 27)), .ref (B + (186 + 28)), .long 0, .long 0, .long 0, .long 0, .int 0, .ref (B + (186 + 29)), .ref (B + (186 + 30)), .ref (B + (186 + 31)), .ref (B + (186 + 32)), .ref (B + (186 + 33)), .ref (B + (186 + 34)), .int 0, .ref (B + (186 + 35)), .ref (B + (186 + 36)), .ref (B + (186 + 37)), .ref (B + (186 + 38)), .ref (B + (186 + 39)), .ref (B + (186 + 40)), .ref (B + (186 + 41)), .ref (B + (186 + 42)), .ref (B + (186 + 43))]) d_Mo_init_356 rfl pf_Mo_137 (by omega) rfl rfl rfl rfl ?_
  refine p_ret d_Mo_init_359 rfl ?_
  rw [show n + 8 + 8 + 8 + 8 + 8 + 8 + 8 + 192 + 8 + 1280 + 1280 + 1280 + 1280 + 1280 + 1280 + 1280 + 1280 + 1280 + 6 + 6 + 6 + 6 + 6 + 6 + 10 + 10 + 10 + 240 + 40 + 40 + 40 + 40 + 40 + 6 + 64 + 64 + 64 + 64 + 64 + 64 + 64 + 64 + 64 = n + 12864 by omega]
  exact hP_fin (show z0 G B 186 = _ from rfl) (hov 0 (by decide))
theorem R0_3 {B : Nat} : R0 B 3 = fun _ => none := by
  funext j
  unfold R0
  rw [if_neg (fun z => by omega), if_neg (fun z => by omega)]
set_option maxRecDepth 100000 in
theorem c_Bk_init {G : xG} {B d n : Nat} {ov : Nat → Option va_E} (hG : xOkG G) (hov : ∀ t, t < 3 → ov (2 + t) = none) (hc : B + 5 ≤ gC G) (hs : n + 12 ≤ gS G) : EX G m_Bk_init d 0 [(0, .ref (B + 2))] [] (hP G B 3 n (va_up ov 2 (some (.inr (3, [.null, .null, .int 0]))))) (xCt (hP G B 5 (n + 12) ov)) := by
  refine x_aload_n d_Bk_init_0 rfl ?_
  refine x_objInit d_Bk_init_1 k_Bk_3 j_obj_i j_obj_c (by decide) ?_
  refine x_aload_n d_Bk_init_4 rfl ?_
  refine x_bipush d_Bk_init_5 (v := nI 6) (by decide +kernel) ?_
  refine p_newR (t := 5) (N := 6) hG d_Bk_init_7 rfl nw_Bk_9 aw_Or rfl (by decide) (by omega) (by omega) ?_
  rw [hP_fin (show z0 G B 3 = eR G 5 6 (fun _ => none) by show eR G 5 6 (R0 B 3) = _; rw [R0_3]) (by rw [va_up_ne _ _ (by decide)]; exact hov 1 (by decide))]
  refine p_putF (fs' := [.ref (B + 3), .null, .int 0]) d_Bk_init_10 rfl pf_Bk_11 (by omega) rfl rfl rfl rfl ?_
  refine x_aload_n d_Bk_init_13 rfl ?_
  refine x_bipush d_Bk_init_14 (v := nI 6) (by decide +kernel) ?_
  refine p_newI hG d_Bk_init_16 (N := 6) rfl (by decide) (show z0 G B 4 = _ from rfl) (by rw [va_up_ne _ _ (by decide)]; exact hov 2 (by decide)) (by omega) (by omega) ?_
  refine p_putF (fs' := [.ref (B + 3), .ref (B + 4), .int 0]) d_Bk_init_18 rfl pf_Bk_17 (by omega) rfl rfl rfl rfl ?_
  refine p_ret d_Bk_init_21 rfl ?_
  rw [show n + 6 + 6 = n + 12 by omega]
  exact hP_fin (show z0 G B 2 = _ from rfl) (hov 0 (by decide))
set_option maxRecDepth 100000 in
theorem c_St_init {G : xG} {B d n : Nat} {ov : Nat → Option va_E} (hG : xOkG G) (hov : ov 63 = none) : EX G m_St_init d 0 [(0, .ref (B + 63)), (1, .ref (B + 2)), (2, .ref (B + 57))] [] (hP G B 64 n (va_up ov 63 (some (.inr (6, [.null, .null, .int 0, .int 0, .int 0, .int 0, .int 0]))))) (xCt (hP G B 64 n ov)) := by
  refine x_aload_n d_St_init_0 rfl ?_
  refine x_objInit d_St_init_1 k_St_3 j_obj_i j_obj_c (by decide) ?_
  refine x_aload_n d_St_init_4 rfl ?_
  refine x_aload_n d_St_init_5 rfl ?_
  refine p_putF (fs' := [.ref (B + 2), .null, .int 0, .int 0, .int 0, .int 0, .int 0]) d_St_init_6 rfl pf_St_9 (by omega) rfl rfl rfl rfl ?_
  refine x_aload_n d_St_init_9 rfl ?_
  refine x_aload_n d_St_init_10 rfl ?_
  refine p_putF (fs' := [.ref (B + 2), .ref (B + 57), .int 0, .int 0, .int 0, .int 0, .int 0]) d_St_init_11 rfl pf_St_15 (by omega) rfl rfl rfl rfl ?_
  refine p_ret d_St_init_14 rfl ?_
  exact hP_fin (show z0 G B 63 = _ from rfl) hov
set_option maxRecDepth 100000 in
theorem c_Ti_init {G : xG} {B d n : Nat} {ov : Nat → Option va_E} (hG : xOkG G) (hov : ov 64 = none) (hov2 : ov 65 = none) (hc : B + 66 ≤ gC G) (hs : n + 3 ≤ gS G) : EX G m_Ti_init d 0 [(0, .ref (B + 64)), (1, .ref (B + 2)), (2, .ref (B + 57))] [] (hP G B 65 n (va_up ov 64 (some (.inr (8, [.null, .null, .null, .int 0]))))) (xCt (hP G B 66 (n + 3) ov)) := by
  refine x_aload_n d_Ti_init_0 rfl ?_
  refine x_objInit d_Ti_init_1 k_Ti_3 j_obj_i j_obj_c (by decide) ?_
  refine x_aload_n d_Ti_init_4 rfl ?_
  refine x_iconst d_Ti_init_5 (v := nI 3) (by decide +kernel) ?_
  refine p_newI hG d_Ti_init_6 (N := 3) rfl (by decide) (show z0 G B 65 = _ from rfl) (by rw [va_up_ne _ _ (by decide)]; exact hov2) (by omega) (by omega) ?_
  refine p_putF (fs' := [.null, .null, .ref (B + 65), .int 0]) d_Ti_init_8 rfl pf_Ti_9 (by omega) rfl rfl rfl rfl ?_
  refine x_aload_n d_Ti_init_11 rfl ?_
  refine x_aload_n d_Ti_init_12 rfl ?_
  refine p_putF (fs' := [.ref (B + 2), .null, .ref (B + 65), .int 0]) d_Ti_init_13 rfl pf_Ti_15 (by omega) rfl rfl rfl rfl ?_
  refine x_aload_n d_Ti_init_16 rfl ?_
  refine x_aload_n d_Ti_init_17 rfl ?_
  refine p_putF (fs' := [.ref (B + 2), .ref (B + 57), .ref (B + 65), .int 0]) d_Ti_init_18 rfl pf_Ti_19 (by omega) rfl rfl rfl rfl ?_
  refine p_ret d_Ti_init_21 rfl ?_
  exact hP_fin (show z0 G B 64 = _ from rfl) hov
theorem z0_sh {G : xG} {B j : Nat} (hj : j < 8) : z0 G B (66 + 15 * j) = .inr (5, [rB B (67 + 15 * j), rB B (72 + 15 * j), .int 0, .int 0]) := (cAt_sheet (t := 0) hj (by decide) _ _ _ _).trans rfl
set_option maxRecDepth 100000 in
theorem c_Sh_init {G : xG} {B d n j : Nat} {ov : Nat → Option va_E} (hG : xOkG G) (hj : j < 8) (hov : ∀ t, t < 15 → ov (66 + 15 * j + t) = none) (hc : B + (66 + 15 * j) + 15 ≤ gC G) (hs : n + 1200 ≤ gS G) : EX G m_Sh_init (d + 1) 0 [(0, .ref (B + (66 + 15 * j)))] [] (hP G B (67 + 15 * j) n (va_up ov (66 + 15 * j) (some (.inr (5, [.null, .null, .int 0, .int 0]))))) (xCt (hP G B (81 + 15 * j) (n + 1200) ov)) := by
  have hgl : isGlass (67 + 15 * j) := Or.inl ⟨j, hj, rfl⟩
  have htr : isTree (72 + 15 * j) := ⟨j, hj, rfl⟩
  have ho : ∀ q t, q = 66 + 15 * j + t → 0 < t → t < 15 → va_up ov (66 + 15 * j) (some (.inr (5, [.null, .null, .int 0, .int 0]))) q = none := fun q t e t0 t15 => by
    subst e
    rw [va_up_ne _ _ (by omega)]; exact hov t t15
  refine x_aload_n d_Sh_init_0 rfl ?_
  refine x_objInit d_Sh_init_1 k_Sh_1 j_obj_i j_obj_c (by decide) ?_
  refine x_aload_n d_Sh_init_4 rfl ?_
  refine p_new (N := 7) d_Sh_init_5 cl_Gl tyGl_ok nw_Sh_7 ns_Gl ni_Gl df_Gl (by omega) (by omega) ?_
  refine x_dup d_Sh_init_8 rfl ?_
  refine p_callI (As := []) d_Sh_init_9 k_Sh_9 rfl rfl rfl (c_Gl_init hG hgl (fun t ht => ho _ (1 + t) (by omega) (by omega) (by omega)) (by omega) (by omega)) ?_
  refine p_putF (fs' := [.ref (B + (67 + 15 * j)), .null, .int 0, .int 0]) d_Sh_init_12 rfl pf_Sh_10 (by omega) rfl rfl rfl rfl ?_
  rw [show 67 + 15 * j + 5 = 72 + 15 * j by omega]
  have ho2 : ∀ q t, q = 66 + 15 * j + t → 0 < t → t < 15 → va_up ov (66 + 15 * j) (some (.inr (5, [.ref (B + (67 + 15 * j)), .null, .int 0, .int 0]))) q = none := fun q t e t0 t15 => by
    subst e
    rw [va_up_ne _ _ (by omega)]; exact hov t t15
  refine x_aload_n d_Sh_init_15 rfl ?_
  refine p_new (N := 9) d_Sh_init_16 cl_Tr tyTr_ok nw_Sh_16 ns_Tr ni_Tr df_Tr (by omega) (by omega) ?_
  refine x_dup d_Sh_init_19 rfl ?_
  refine p_callI (As := []) d_Sh_init_20 k_Sh_18 rfl rfl rfl (c_Tr_init hG htr (fun t ht => ho2 _ (6 + t) (by omega) (by omega) (by omega)) (by omega) (by omega)) ?_
  refine p_putF (fs' := [.ref (B + (67 + 15 * j)), .ref (B + (72 + 15 * j)), .int 0, .int 0]) d_Sh_init_23 rfl pf_Sh_19 (by omega) rfl rfl rfl rfl ?_
  refine p_ret d_Sh_init_26 rfl ?_
  rw [show 72 + 15 * j + 9 = 81 + 15 * j by omega, show n + 7 + 24 + 9 + 1160 = n + 1200 by omega]
  exact hP_fin (z0_sh hj) (hov 0 (by decide))
