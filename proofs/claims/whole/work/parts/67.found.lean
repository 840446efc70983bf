/-! the reference tries all -/
def moTry (s a : Nat) (bo co : Option Nat) (i j k : Nat) (P : xS) : Bool × xS :=
  if (moNm (uF P 186 36 (nI 0)) 0 a i).1 = false then (false, (moNm (uF P 186 36 (nI 0)) 0 a i).2) else
  match bo, co with
  | none, none => (moFits (moNm (uF P 186 36 (nI 0)) 0 a i).2 s 1, (moNm (uF P 186 36 (nI 0)) 0 a i).2)
  | none, some c => if (moNm (moNm (uF P 186 36 (nI 0)) 0 a i).2 1 c k).1 = false then (false, (moNm (moNm (uF P 186 36 (nI 0)) 0 a i).2 1 c k).2) else (moFits (moNm (moNm (uF P 186 36 (nI 0)) 0 a i).2 1 c k).2 s 2, (moNm (moNm (uF P 186 36 (nI 0)) 0 a i).2 1 c k).2)
  | some b, none => if (moNm (moNm (uF P 186 36 (nI 0)) 0 a i).2 1 b j).1 = false then (false, (moNm (moNm (uF P 186 36 (nI 0)) 0 a i).2 1 b j).2) else (moFits (moNm (moNm (uF P 186 36 (nI 0)) 0 a i).2 1 b j).2 s 2, (moNm (moNm (uF P 186 36 (nI 0)) 0 a i).2 1 b j).2)
  | some b, some c => if (moNm (moNm (uF P 186 36 (nI 0)) 0 a i).2 1 b j).1 = false then (false, (moNm (moNm (uF P 186 36 (nI 0)) 0 a i).2 1 b j).2) else
      if (moNm (moNm (moNm (uF P 186 36 (nI 0)) 0 a i).2 1 b j).2 2 c k).1 = false then (false, (moNm (moNm (moNm (uF P 186 36 (nI 0)) 0 a i).2 1 b j).2 2 c k).2) else
      (moFits (moNm (moNm (moNm (uF P 186 36 (nI 0)) 0 a i).2 1 b j).2 2 c k).2 s 3, (moNm (moNm (moNm (uF P 186 36 (nI 0)) 0 a i).2 1 b j).2 2 c k).2)
def moLk3 (s a : Nat) (bo co : Option Nat) (i j : Nat) : Nat → Nat → xS → Bool × xS
  | 0, _, P => (false, P)
  | m + 1, k, P => tiThen (moTry s a bo co i j k P) (moLk3 s a bo co i j m (k + 1))
def moN32 (bo : Option Nat) : Nat := match bo with
  | none => 1
  | some _ => 32
def moLj (s a : Nat) (bo co : Option Nat) (i : Nat) : Nat → Nat → xS → Bool × xS
  | 0, _, P => (false, P)
  | m + 1, j, P => tiThen (moLk3 s a bo co i j (moN32 co) 0 P) (moLj s a bo co i m (j + 1))
def moLi (s a : Nat) (bo co : Option Nat) : Nat → Nat → xS → Bool × xS
  | 0, _, P => (false, P)
  | m + 1, i, P => tiThen (moLj s a bo co i (moN32 bo) 0 P) (moLi s a bo co m (i + 1))
theorem moNm_I {P : xS} {n N x nb : Nat} (hI : moLI P n N) (hx : x < N) (hnb : nb < 32) (h : (moNm P n x nb).1 = true) : sF (moNm P n x nb).2 186 36 = nI (n + 1) ∧ moLI (moNm P n x nb).2 (n + 1) N := by
  unfold moNm at h ⊢
  split
  · refine ⟨?_, moLI_lay hI hx (by omega) (by omega)⟩
    rw [show sF (true, moLay P n x (decide (nb % 2 = 1)) (nI (nb / 8)) (nI (nb / 2 % 4))).2 = up2 (sF P) 186 36 (nI (n + 1)) from rfl, up2_self, va_up_self]
  · rename_i q; rw [if_neg q] at h; cases h
theorem moLI_0 {P : xS} {N : Nat} : moLI P 0 N := fun i hi => absurd hi (Nat.not_lt_zero i)
set_option maxRecDepth 100000 in
set_option maxHeartbeats 1000000 in
theorem c_Mo_isFound00 {G : xG} {B d : Nat} {S : xS} (hG : xOkG G) {s a N : Nat} (hs : s < 8) (hN6 : N ≤ 6) (ha : a < N) : EX G m_Mo_isFound (d + 3) 0 [(0, .ref (B + 186)), (1, .int (nI s)), (2, .int (nI a)), (3, .int (-1)), (4, .int (-1))] [] (mk G B S) ((xRet G B (some (.int (bI (moLi s a none none 2 0 S).1))) (moLi s a none none 2 0 S).2)) := by
  refine x_iconst (v := nI 0) d_Mo_isFound_0 (by decide +kernel) ?_
  refine s_istore (lv' := [(0, _), (1, _), (2, _), (3, _), (4, _), (5, _)]) d_Mo_isFound_1 (by decide) rfl ?_
  have L3 : ∀ i, i ≤ 2 → ∀ P, EX G m_Mo_isFound (d + 3) 3 [(0, .ref (B + 186)), (1, .int (nI s)), (2, .int (nI a)), (3, .int (-1)), (4, .int (-1)), (5, .int (nI i))] [] (mk G B P) (xRet G B (some (.int (bI (moLi s a none none (2 - i) i P).1))) (moLi s a none none (2 - i) i P).2) := by
    refine x_down (2) ?_ ?_
    · skip
      rw [Nat.sub_self]
      intro P
      refine x_iload d_Mo_isFound_3 rfl ?_
      refine x_iconst (v := nI 2) d_Mo_isFound_5 (by decide +kernel) ?_
      refine z_icmp_ge 147 d_Mo_isFound_6 rfl (by omega) (by omega) (fun hc6 => ?_) (fun q => absurd q (by omega))
      refine x_iconst (v := nI 0) d_Mo_isFound_147 (by decide +kernel) ?_
      refine x_ireturn d_Mo_isFound_148 rfl (by decide +kernel) ?_
      exact ⟨rfl, rfl⟩
    · intro i hi ihi
      intro P
      rw [show 2 - (i + 1) = 1 - i by omega] at ihi
      rw [show 2 - i = 1 - i + 1 by omega]
      generalize 1 - i = Ki at ihi ⊢
      simp only [moLi]
      show EX _ _ _ _ _ _ _ (xRet G B (some (.int (bI (tiThen (moLj s a none none i 1 0 P) (moLi s a none none Ki (i + 1))).1))) (tiThen (moLj s a none none i 1 0 P) (moLi s a none none Ki (i + 1))).2)
      refine x_iload d_Mo_isFound_3 rfl ?_
      refine x_iconst (v := nI 2) d_Mo_isFound_5 (by decide +kernel) ?_
      refine z_icmp_ge 147 d_Mo_isFound_6 rfl (by omega) (by omega) (fun q => absurd q (by omega)) (fun hc6 => ?_)
      refine x_iconst (v := nI 0) d_Mo_isFound_9 (by decide +kernel) ?_
      refine s_istore (lv' := [(0, _), (1, _), (2, _), (3, _), (4, _), (5, _), (6, _)]) d_Mo_isFound_10 (by decide) rfl ?_
      have L12 : ∀ j, j ≤ 1 → ∀ P, EX G m_Mo_isFound (d + 3) 12 [(0, .ref (B + 186)), (1, .int (nI s)), (2, .int (nI a)), (3, .int (-1)), (4, .int (-1)), (5, .int (nI i)), (6, .int (nI j))] [] (mk G B P) (xRet G B (some (.int (bI (tiThen (moLj s a none none i (1 - j) j P) (moLi s a none none Ki (i + 1))).1))) (tiThen (moLj s a none none i (1 - j) j P) (moLi s a none none Ki (i + 1))).2) := by
        refine x_down (1) ?_ ?_
        · skip
          rw [Nat.sub_self]
          intro P
          refine x_iload d_Mo_isFound_12 rfl ?_
          refine x_iload_n d_Mo_isFound_14 rfl ?_
          refine x_if_ge 22 d_Mo_isFound_15 rfl (fun q => absurd q (by decide +kernel)) (fun hc15 => ?_)
          refine x_iconst (v := nI 1) d_Mo_isFound_18 (by decide +kernel) ?_
          refine x_goto 24 d_Mo_isFound_19 rfl ?_
          refine z_icmp_ge 141 d_Mo_isFound_24 rfl (by omega) (by omega) (fun hc24 => ?_) (fun q => absurd q (by omega))
          refine s_iinc (lv' := [(0, _), (1, _), (2, _), (3, _), (4, _), (5, _), (6, _)]) d_Mo_isFound_141 rfl (xinc _) (by decide) rfl ?_
          refine x_goto 3 d_Mo_isFound_144 rfl ?_
          refine x_lv (lv' := [(0, _), (1, _), (2, _), (3, _), (4, _), (5, _)]) [0, 1, 2, 3, 4, 5] rfl ?_
          exact ihi _
        · intro j hj ihj
          intro P
          rw [show 1 - (j + 1) = 0 - j by omega] at ihj
          rw [show 1 - j = 0 - j + 1 by omega]
          generalize 0 - j = Kj at ihj ⊢
          simp only [moLj]
          show EX _ _ _ _ _ _ _ (xRet G B (some (.int (bI (tiThen (tiThen (moLk3 s a none none i j 1 0 P) (moLj s a none none i Kj (j + 1))) (moLi s a none none Ki (i + 1))).1))) (tiThen (tiThen (moLk3 s a none none i j 1 0 P) (moLj s a none none i Kj (j + 1))) (moLi s a none none Ki (i + 1))).2)
          refine x_iload d_Mo_isFound_12 rfl ?_
          refine x_iload_n d_Mo_isFound_14 rfl ?_
          refine x_if_ge 22 d_Mo_isFound_15 rfl (fun q => absurd q (by decide +kernel)) (fun hc15 => ?_)
          refine x_iconst (v := nI 1) d_Mo_isFound_18 (by decide +kernel) ?_
          refine x_goto 24 d_Mo_isFound_19 rfl ?_
          refine z_icmp_ge 141 d_Mo_isFound_24 rfl (by omega) (by omega) (fun q => absurd q (by omega)) (fun hc24 => ?_)
          refine x_iconst (v := nI 0) d_Mo_isFound_27 (by decide +kernel) ?_
          refine s_istore (lv' := [(0, _), (1, _), (2, _), (3, _), (4, _), (5, _), (6, _), (7, _)]) d_Mo_isFound_28 (by decide) rfl ?_
          have L30 : ∀ k, k ≤ 1 → ∀ P, EX G m_Mo_isFound (d + 3) 30 [(0, .ref (B + 186)), (1, .int (nI s)), (2, .int (nI a)), (3, .int (-1)), (4, .int (-1)), (5, .int (nI i)), (6, .int (nI j)), (7, .int (nI k))] [] (mk G B P) (xRet G B (some (.int (bI (tiThen (tiThen (moLk3 s a none none i j (1 - k) k P) (moLj s a none none i Kj (j + 1))) (moLi s a none none Ki (i + 1))).1))) (tiThen (tiThen (moLk3 s a none none i j (1 - k) k P) (moLj s a none none i Kj (j + 1))) (moLi s a none none Ki (i + 1))).2) := by
            refine x_down (1) ?_ ?_
            · skip
              rw [Nat.sub_self]
              intro P
              refine x_iload d_Mo_isFound_30 rfl ?_
              refine x_iload d_Mo_isFound_32 rfl ?_
              refine x_if_ge 41 d_Mo_isFound_34 rfl (fun q => absurd q (by decide +kernel)) (fun hc34 => ?_)
              refine x_iconst (v := nI 1) d_Mo_isFound_37 (by decide +kernel) ?_
              refine x_goto 43 d_Mo_isFound_38 rfl ?_
              refine z_icmp_ge 135 d_Mo_isFound_43 rfl (by omega) (by omega) (fun hc43 => ?_) (fun q => absurd q (by omega))
              refine s_iinc (lv' := [(0, _), (1, _), (2, _), (3, _), (4, _), (5, _), (6, _), (7, _)]) d_Mo_isFound_135 rfl (xinc _) (by decide) rfl ?_
              refine x_goto 12 d_Mo_isFound_138 rfl ?_
              refine x_lv (lv' := [(0, _), (1, _), (2, _), (3, _), (4, _), (5, _), (6, _)]) [0, 1, 2, 3, 4, 5, 6] rfl ?_
              exact ihj _
            · intro k hk ihk
              intro P
              rw [show 1 - (k + 1) = 0 - k by omega] at ihk
              rw [show 1 - k = 0 - k + 1 by omega]
              generalize 0 - k = Kk at ihk ⊢
              simp only [moLk3]
              refine x_iload d_Mo_isFound_30 rfl ?_
              refine x_iload d_Mo_isFound_32 rfl ?_
              refine x_if_ge 41 d_Mo_isFound_34 rfl (fun q => absurd q (by decide +kernel)) (fun hc34 => ?_)
              refine x_iconst (v := nI 1) d_Mo_isFound_37 (by decide +kernel) ?_
              refine x_goto 43 d_Mo_isFound_38 rfl ?_
              refine z_icmp_ge 135 d_Mo_isFound_43 rfl (by omega) (by omega) (fun q => absurd q (by omega)) (fun hc43 => ?_)
              refine x_aload_n d_Mo_isFound_46 rfl ?_
              refine x_iconst (v := nI 0) d_Mo_isFound_47 (by decide +kernel) ?_
              refine y_puti d_Mo_isFound_48 pf_Mo_174 k_model (xBle rfl) rfl rfl rfl ?_
              have hU : sF (uF P 186 36 (nI 0)) 186 36 = nI 0 := by rw [sF_uF, va_up_self]
              refine x_aload_n d_Mo_isFound_51 rfl ?_
              refine x_iload_n d_Mo_isFound_52 rfl ?_
              refine x_iload d_Mo_isFound_53 rfl ?_
              refine w_callV (As := [_, _]) d_Mo_isFound_55 k_Mo_247 k_model rfl rfl rfl (c_Mo_name (S := uF P 186 36 (nI 0)) (n := 0) hG hU (by decide) (by omega) (by omega)) ?_
              refine s_istore (lv' := [(0, _), (1, _), (2, _), (3, _), (4, _), (5, _), (6, _), (7, _), (8, _)]) d_Mo_isFound_58 (by decide) rfl ?_
              refine x_iload d_Mo_isFound_60 rfl ?_
              refine z_bif_eq 83 d_Mo_isFound_62 rfl (fun hc62 => ?_) (fun hc62 => ?_)
              · skip
                have ht : moTry s a none none i j k P = (false, (moNm (uF P 186 36 (nI 0)) 0 a i).2) := by simp only [moTry, hc62, if_true, if_false, Bool.true_eq_false]
                refine x_iconst (v := nI 0) d_Mo_isFound_83 (by decide +kernel) ?_
                refine s_istore (lv' := [(0, _), (1, _), (2, _), (3, _), (4, _), (5, _), (6, _), (7, _), (8, _)]) d_Mo_isFound_84 (by decide) rfl ?_
                refine x_iload d_Mo_isFound_86 rfl ?_
                refine z_if_eq 111 d_Mo_isFound_88 rfl (by omega) (fun hc88 => ?_) (fun q => absurd q (by omega))
                refine x_iconst (v := nI 0) d_Mo_isFound_111 (by decide +kernel) ?_
                refine s_istore (lv' := [(0, _), (1, _), (2, _), (3, _), (4, _), (5, _), (6, _), (7, _), (8, _)]) d_Mo_isFound_112 (by decide) rfl ?_
                refine x_iload d_Mo_isFound_114 rfl ?_
                refine z_if_eq 129 d_Mo_isFound_116 rfl (by omega) (fun hc116 => ?_) (fun q => absurd q (by omega))
                refine s_iinc (lv' := [(0, _), (1, _), (2, _), (3, _), (4, _), (5, _), (6, _), (7, _), (8, _)]) d_Mo_isFound_129 rfl (xinc _) (by decide) rfl ?_
                refine x_goto 30 d_Mo_isFound_132 rfl ?_
                refine x_lv (lv' := [(0, _), (1, _), (2, _), (3, _), (4, _), (5, _), (6, _), (7, _)]) [0, 1, 2, 3, 4, 5, 6, 7] rfl ?_
                rw [ht]
                exact ihk _
              · skip
                have h1 := moNm_I (N := N) (P := uF P 186 36 (nI 0)) moLI_0 ha (by omega) hc62
                refine x_iload_n d_Mo_isFound_65 rfl ?_
                refine x_if_lt 79 d_Mo_isFound_66 rfl (fun hc66 => ?_) (fun q => absurd q (Classical.not_not.mpr (by decide +kernel)))
                refine x_iconst (v := nI 1) d_Mo_isFound_79 (by decide +kernel) ?_
                refine x_goto 84 d_Mo_isFound_80 rfl ?_
                refine s_istore (lv' := [(0, _), (1, _), (2, _), (3, _), (4, _), (5, _), (6, _), (7, _), (8, _)]) d_Mo_isFound_84 (by decide) rfl ?_
                refine x_iload d_Mo_isFound_86 rfl ?_
                refine z_if_eq 111 d_Mo_isFound_88 rfl (by omega) (fun q => absurd q (by omega)) (fun hc88 => ?_)
                refine x_iload d_Mo_isFound_91 rfl ?_
                refine x_if_lt 107 d_Mo_isFound_93 rfl (fun hc93 => ?_) (fun q => absurd q (Classical.not_not.mpr (by decide +kernel)))
                refine x_iconst (v := nI 1) d_Mo_isFound_107 (by decide +kernel) ?_
                refine x_goto 112 d_Mo_isFound_108 rfl ?_
                refine s_istore (lv' := [(0, _), (1, _), (2, _), (3, _), (4, _), (5, _), (6, _), (7, _), (8, _)]) d_Mo_isFound_112 (by decide) rfl ?_
                refine x_iload d_Mo_isFound_114 rfl ?_
                refine z_if_eq 129 d_Mo_isFound_116 rfl (by omega) (fun q => absurd q (by omega)) (fun hc116 => ?_)
                refine x_aload_n d_Mo_isFound_119 rfl ?_
                refine x_iload_n d_Mo_isFound_120 rfl ?_
                refine w_callV (As := [_]) d_Mo_isFound_121 k_Mo_250 k_model rfl rfl rfl (c_Mo_fits hG hs h1.1 (by decide) h1.2) ?_
                refine z_bif_eq 129 d_Mo_isFound_124 rfl (fun hc124 => ?_) (fun hc124 => ?_)
                · skip
                  have ht : moTry s a none none i j k P = (false, (moNm (uF P 186 36 (nI 0)) 0 a i).2) := by simp only [moTry, hc62, hc124, if_true, if_false, Bool.true_eq_false]
                  refine s_iinc (lv' := [(0, _), (1, _), (2, _), (3, _), (4, _), (5, _), (6, _), (7, _), (8, _)]) d_Mo_isFound_129 rfl (xinc _) (by decide) rfl ?_
                  refine x_goto 30 d_Mo_isFound_132 rfl ?_
                  refine x_lv (lv' := [(0, _), (1, _), (2, _), (3, _), (4, _), (5, _), (6, _), (7, _)]) [0, 1, 2, 3, 4, 5, 6, 7] rfl ?_
                  rw [ht]
                  exact ihk _
                · skip
                  have ht : moTry s a none none i j k P = (true, (moNm (uF P 186 36 (nI 0)) 0 a i).2) := by simp only [moTry, hc62, hc124, if_true, if_false, Bool.true_eq_false]
                  refine x_iconst (v := nI 1) d_Mo_isFound_127 (by decide +kernel) ?_
                  refine x_ireturn d_Mo_isFound_128 rfl (by decide +kernel) ?_
                  rw [ht]
                  exact ⟨rfl, rfl⟩
          refine x_lv (lv' := [(0, _), (1, _), (2, _), (3, _), (4, _), (5, _), (6, _), (7, _)]) [0, 1, 2, 3, 4, 5, 6, 7] rfl ?_
          exact L30 0 (Nat.zero_le _) P
      refine x_lv (lv' := [(0, _), (1, _), (2, _), (3, _), (4, _), (5, _), (6, _)]) [0, 1, 2, 3, 4, 5, 6] rfl ?_
      exact L12 0 (Nat.zero_le _) P
  refine x_lv (lv' := [(0, _), (1, _), (2, _), (3, _), (4, _), (5, _)]) [0, 1, 2, 3, 4, 5] rfl ?_
  exact L3 0 (Nat.zero_le _) S
set_option maxRecDepth 100000 in
set_option maxHeartbeats 1000000 in
theorem c_Mo_isFound01 {G : xG} {B d : Nat} {S : xS} (hG : xOkG G) {s a c N : Nat} (hs : s < 8) (hN6 : N ≤ 6) (ha : a < N) (hcN : c < N) : EX G m_Mo_isFound (d + 3) 0 [(0, .ref (B + 186)), (1, .int (nI s)), (2, .int (nI a)), (3, .int (-1)), (4, .int (nI c))] [] (mk G B S) ((xRet G B (some (.int (bI (moLi s a none (some c) 2 0 S).1))) (moLi s a none (some c) 2 0 S).2)) := by
  refine x_iconst (v := nI 0) d_Mo_isFound_0 (by decide +kernel) ?_
  refine s_istore (lv' := [(0, _), (1, _), (2, _), (3, _), (4, _), (5, _)]) d_Mo_isFound_1 (by decide) rfl ?_
  have L3 : ∀ i, i ≤ 2 → ∀ P, EX G m_Mo_isFound (d + 3) 3 [(0, .ref (B + 186)), (1, .int (nI s)), (2, .int (nI a)), (3, .int (-1)), (4, .int (nI c)), (5, .int (nI i))] [] (mk G B P) (xRet G B (some (.int (bI (moLi s a none (some c) (2 - i) i P).1))) (moLi s a none (some c) (2 - i) i P).2) := by
    refine x_down (2) ?_ ?_
    · skip
      rw [Nat.sub_self]
      intro P
      refine x_iload d_Mo_isFound_3 rfl ?_
      refine x_iconst (v := nI 2) d_Mo_isFound_5 (by decide +kernel) ?_
      refine z_icmp_ge 147 d_Mo_isFound_6 rfl (by omega) (by omega) (fun hc6 => ?_) (fun q => absurd q (by omega))
      refine x_iconst (v := nI 0) d_Mo_isFound_147 (by decide +kernel) ?_
      refine x_ireturn d_Mo_isFound_148 rfl (by decide +kernel) ?_
      exact ⟨rfl, rfl⟩
    · intro i hi ihi
      intro P
      rw [show 2 - (i + 1) = 1 - i by omega] at ihi
      rw [show 2 - i = 1 - i + 1 by omega]
      generalize 1 - i = Ki at ihi ⊢
      simp only [moLi]
      show EX _ _ _ _ _ _ _ (xRet G B (some (.int (bI (tiThen (moLj s a none (some c) i 1 0 P) (moLi s a none (some c) Ki (i + 1))).1))) (tiThen (moLj s a none (some c) i 1 0 P) (moLi s a none (some c) Ki (i + 1))).2)
      refine x_iload d_Mo_isFound_3 rfl ?_
      refine x_iconst (v := nI 2) d_Mo_isFound_5 (by decide +kernel) ?_
      refine z_icmp_ge 147 d_Mo_isFound_6 rfl (by omega) (by omega) (fun q => absurd q (by omega)) (fun hc6 => ?_)
      refine x_iconst (v := nI 0) d_Mo_isFound_9 (by decide +kernel) ?_
      refine s_istore (lv' := [(0, _), (1, _), (2, _), (3, _), (4, _), (5, _), (6, _)]) d_Mo_isFound_10 (by decide) rfl ?_
      have L12 : ∀ j, j ≤ 1 → ∀ P, EX G m_Mo_isFound (d + 3) 12 [(0, .ref (B + 186)), (1, .int (nI s)), (2, .int (nI a)), (3, .int (-1)), (4, .int (nI c)), (5, .int (nI i)), (6, .int (nI j))] [] (mk G B P) (xRet G B (some (.int (bI (tiThen (moLj s a none (some c) i (1 - j) j P) (moLi s a none (some c) Ki (i + 1))).1))) (tiThen (moLj s a none (some c) i (1 - j) j P) (moLi s a none (some c) Ki (i + 1))).2) := by
        refine x_down (1) ?_ ?_
        · skip
          rw [Nat.sub_self]
          intro P
          refine x_iload d_Mo_isFound_12 rfl ?_
          refine x_iload_n d_Mo_isFound_14 rfl ?_
          refine x_if_ge 22 d_Mo_isFound_15 rfl (fun q => absurd q (by decide +kernel)) (fun hc15 => ?_)
          refine x_iconst (v := nI 1) d_Mo_isFound_18 (by decide +kernel) ?_
          refine x_goto 24 d_Mo_isFound_19 rfl ?_
          refine z_icmp_ge 141 d_Mo_isFound_24 rfl (by omega) (by omega) (fun hc24 => ?_) (fun q => absurd q (by omega))
          refine s_iinc (lv' := [(0, _), (1, _), (2, _), (3, _), (4, _), (5, _), (6, _)]) d_Mo_isFound_141 rfl (xinc _) (by decide) rfl ?_
          refine x_goto 3 d_Mo_isFound_144 rfl ?_
          refine x_lv (lv' := [(0, _), (1, _), (2, _), (3, _), (4, _), (5, _)]) [0, 1, 2, 3, 4, 5] rfl ?_
          exact ihi _
        · intro j hj ihj
          intro P
          rw [show 1 - (j + 1) = 0 - j by omega] at ihj
          rw [show 1 - j = 0 - j + 1 by omega]
          generalize 0 - j = Kj at ihj ⊢
          simp only [moLj]
          show EX _ _ _ _ _ _ _ (xRet G B (some (.int (bI (tiThen (tiThen (moLk3 s a none (some c) i j 32 0 P) (moLj s a none (some c) i Kj (j + 1))) (moLi s a none (some c) Ki (i + 1))).1))) (tiThen (tiThen (moLk3 s a none (some c) i j 32 0 P) (moLj s a none (some c) i Kj (j + 1))) (moLi s a none (some c) Ki (i + 1))).2)
          refine x_iload d_Mo_isFound_12 rfl ?_
          refine x_iload_n d_Mo_isFound_14 rfl ?_
          refine x_if_ge 22 d_Mo_isFound_15 rfl (fun q => absurd q (by decide +kernel)) (fun hc15 => ?_)
          refine x_iconst (v := nI 1) d_Mo_isFound_18 (by decide +kernel) ?_
          refine x_goto 24 d_Mo_isFound_19 rfl ?_
          refine z_icmp_ge 141 d_Mo_isFound_24 rfl (by omega) (by omega) (fun q => absurd q (by omega)) (fun hc24 => ?_)
          refine x_iconst (v := nI 0) d_Mo_isFound_27 (by decide +kernel) ?_
          refine s_istore (lv' := [(0, _), (1, _), (2, _), (3, _), (4, _), (5, _), (6, _), (7, _)]) d_Mo_isFound_28 (by decide) rfl ?_
          have L30 : ∀ k, k ≤ 32 → ∀ P, EX G m_Mo_isFound (d + 3) 30 [(0, .ref (B + 186)), (1, .int (nI s)), (2, .int (nI a)), (3, .int (-1)), (4, .int (nI c)), (5, .int (nI i)), (6, .int (nI j)), (7, .int (nI k))] [] (mk G B P) (xRet G B (some (.int (bI (tiThen (tiThen (moLk3 s a none (some c) i j (32 - k) k P) (moLj s a none (some c) i Kj (j + 1))) (moLi s a none (some c) Ki (i + 1))).1))) (tiThen (tiThen (moLk3 s a none (some c) i j (32 - k) k P) (moLj s a none (some c) i Kj (j + 1))) (moLi s a none (some c) Ki (i + 1))).2) := by
            refine x_down (32) ?_ ?_
            · skip
              rw [Nat.sub_self]
              intro P
              refine x_iload d_Mo_isFound_30 rfl ?_
              refine x_iload d_Mo_isFound_32 rfl ?_
              refine z_if_ge 41 d_Mo_isFound_34 rfl (by omega) ?_
              refine x_bipush (v := nI 32) d_Mo_isFound_41 (by decide +kernel) ?_
              refine z_icmp_ge 135 d_Mo_isFound_43 rfl (by omega) (by omega) (fun hc43 => ?_) (fun q => absurd q (by omega))
              refine s_iinc (lv' := [(0, _), (1, _), (2, _), (3, _), (4, _), (5, _), (6, _), (7, _)]) d_Mo_isFound_135 rfl (xinc _) (by decide) rfl ?_
              refine x_goto 12 d_Mo_isFound_138 rfl ?_
              refine x_lv (lv' := [(0, _), (1, _), (2, _), (3, _), (4, _), (5, _), (6, _)]) [0, 1, 2, 3, 4, 5, 6] rfl ?_
              exact ihj _
            · intro k hk ihk
              intro P
              rw [show 32 - (k + 1) = 31 - k by omega] at ihk
              rw [show 32 - k = 31 - k + 1 by omega]
              generalize 31 - k = Kk at ihk ⊢
              simp only [moLk3]
              refine x_iload d_Mo_isFound_30 rfl ?_
              refine x_iload d_Mo_isFound_32 rfl ?_
              refine z_if_ge 41 d_Mo_isFound_34 rfl (by omega) ?_
              refine x_bipush (v := nI 32) d_Mo_isFound_41 (by decide +kernel) ?_
              refine z_icmp_ge 135 d_Mo_isFound_43 rfl (by omega) (by omega) (fun q => absurd q (by omega)) (fun hc43 => ?_)
              refine x_aload_n d_Mo_isFound_46 rfl ?_
              refine x_iconst (v := nI 0) d_Mo_isFound_47 (by decide +kernel) ?_
              refine y_puti d_Mo_isFound_48 pf_Mo_174 k_model (xBle rfl) rfl rfl rfl ?_
              have hU : sF (uF P 186 36 (nI 0)) 186 36 = nI 0 := by rw [sF_uF, va_up_self]
              refine x_aload_n d_Mo_isFound_51 rfl ?_
              refine x_iload_n d_Mo_isFound_52 rfl ?_
              refine x_iload d_Mo_isFound_53 rfl ?_
              refine w_callV (As := [_, _]) d_Mo_isFound_55 k_Mo_247 k_model rfl rfl rfl (c_Mo_name (S := uF P 186 36 (nI 0)) (n := 0) hG hU (by decide) (by omega) (by omega)) ?_
              refine s_istore (lv' := [(0, _), (1, _), (2, _), (3, _), (4, _), (5, _), (6, _), (7, _), (8, _)]) d_Mo_isFound_58 (by decide) rfl ?_
              refine x_iload d_Mo_isFound_60 rfl ?_
              refine z_bif_eq 83 d_Mo_isFound_62 rfl (fun hc62 => ?_) (fun hc62 => ?_)
              · skip
                have ht : moTry s a none (some c) i j k P = (false, (moNm (uF P 186 36 (nI 0)) 0 a i).2) := by simp only [moTry, hc62, if_true, if_false, Bool.true_eq_false]
                refine x_iconst (v := nI 0) d_Mo_isFound_83 (by decide +kernel) ?_
                refine s_istore (lv' := [(0, _), (1, _), (2, _), (3, _), (4, _), (5, _), (6, _), (7, _), (8, _)]) d_Mo_isFound_84 (by decide) rfl ?_
                refine x_iload d_Mo_isFound_86 rfl ?_
                refine z_if_eq 111 d_Mo_isFound_88 rfl (by omega) (fun hc88 => ?_) (fun q => absurd q (by omega))
                refine x_iconst (v := nI 0) d_Mo_isFound_111 (by decide +kernel) ?_
                refine s_istore (lv' := [(0, _), (1, _), (2, _), (3, _), (4, _), (5, _), (6, _), (7, _), (8, _)]) d_Mo_isFound_112 (by decide) rfl ?_
                refine x_iload d_Mo_isFound_114 rfl ?_
                refine z_if_eq 129 d_Mo_isFound_116 rfl (by omega) (fun hc116 => ?_) (fun q => absurd q (by omega))
                refine s_iinc (lv' := [(0, _), (1, _), (2, _), (3, _), (4, _), (5, _), (6, _), (7, _), (8, _)]) d_Mo_isFound_129 rfl (xinc _) (by decide) rfl ?_
                refine x_goto 30 d_Mo_isFound_132 rfl ?_
                refine x_lv (lv' := [(0, _), (1, _), (2, _), (3, _), (4, _), (5, _), (6, _), (7, _)]) [0, 1, 2, 3, 4, 5, 6, 7] rfl ?_
                rw [ht]
                exact ihk _
              · skip
                have h1 := moNm_I (N := N) (P := uF P 186 36 (nI 0)) moLI_0 ha (by omega) hc62
                refine x_iload_n d_Mo_isFound_65 rfl ?_
                refine x_if_lt 79 d_Mo_isFound_66 rfl (fun hc66 => ?_) (fun q => absurd q (Classical.not_not.mpr (by decide +kernel)))
                refine x_iconst (v := nI 1) d_Mo_isFound_79 (by decide +kernel) ?_
                refine x_goto 84 d_Mo_isFound_80 rfl ?_
                refine s_istore (lv' := [(0, _), (1, _), (2, _), (3, _), (4, _), (5, _), (6, _), (7, _), (8, _)]) d_Mo_isFound_84 (by decide) rfl ?_
                refine x_iload d_Mo_isFound_86 rfl ?_
                refine z_if_eq 111 d_Mo_isFound_88 rfl (by omega) (fun q => absurd q (by omega)) (fun hc88 => ?_)
                refine x_iload d_Mo_isFound_91 rfl ?_
                refine z_if_lt d_Mo_isFound_93 (tgt := 107) rfl (by omega) ?_
                refine x_aload_n d_Mo_isFound_96 rfl ?_
                refine x_iload d_Mo_isFound_97 rfl ?_
                refine x_iload d_Mo_isFound_99 rfl ?_
                refine w_callV (As := [_, _]) d_Mo_isFound_101 k_Mo_247 k_model rfl rfl rfl (c_Mo_name (n := 1) hG h1.1 (by decide) (by omega) (by omega)) ?_
                refine z_bif_eq 111 d_Mo_isFound_104 rfl (fun hc104 => ?_) (fun hc104 => ?_)
                · skip
                  have ht : moTry s a none (some c) i j k P = (false, (moNm (moNm (uF P 186 36 (nI 0)) 0 a i).2 1 c k).2) := by simp only [moTry, hc62, hc104, if_true, if_false, Bool.true_eq_false]
                  refine x_iconst (v := nI 0) d_Mo_isFound_111 (by decide +kernel) ?_
                  refine s_istore (lv' := [(0, _), (1, _), (2, _), (3, _), (4, _), (5, _), (6, _), (7, _), (8, _)]) d_Mo_isFound_112 (by decide) rfl ?_
                  refine x_iload d_Mo_isFound_114 rfl ?_
                  refine z_if_eq 129 d_Mo_isFound_116 rfl (by omega) (fun hc116 => ?_) (fun q => absurd q (by omega))
                  refine s_iinc (lv' := [(0, _), (1, _), (2, _), (3, _), (4, _), (5, _), (6, _), (7, _), (8, _)]) d_Mo_isFound_129 rfl (xinc _) (by decide) rfl ?_
                  refine x_goto 30 d_Mo_isFound_132 rfl ?_
                  refine x_lv (lv' := [(0, _), (1, _), (2, _), (3, _), (4, _), (5, _), (6, _), (7, _)]) [0, 1, 2, 3, 4, 5, 6, 7] rfl ?_
                  rw [ht]
                  exact ihk _
                · skip
                  have h2 := moNm_I h1.2 hcN (by omega) hc104
                  refine x_iconst (v := nI 1) d_Mo_isFound_107 (by decide +kernel) ?_
                  refine x_goto 112 d_Mo_isFound_108 rfl ?_
                  refine s_istore (lv' := [(0, _), (1, _), (2, _), (3, _), (4, _), (5, _), (6, _), (7, _), (8, _)]) d_Mo_isFound_112 (by decide) rfl ?_
                  refine x_iload d_Mo_isFound_114 rfl ?_
                  refine z_if_eq 129 d_Mo_isFound_116 rfl (by omega) (fun q => absurd q (by omega)) (fun hc116 => ?_)
                  refine x_aload_n d_Mo_isFound_119 rfl ?_
                  refine x_iload_n d_Mo_isFound_120 rfl ?_
                  refine w_callV (As := [_]) d_Mo_isFound_121 k_Mo_250 k_model rfl rfl rfl (c_Mo_fits hG hs h2.1 (by decide) h2.2) ?_
                  refine z_bif_eq 129 d_Mo_isFound_124 rfl (fun hc124 => ?_) (fun hc124 => ?_)
                  · skip
                    have ht : moTry s a none (some c) i j k P = (false, (moNm (moNm (uF P 186 36 (nI 0)) 0 a i).2 1 c k).2) := by simp only [moTry, hc62, hc104, hc124, if_true, if_false, Bool.true_eq_false]
                    refine s_iinc (lv' := [(0, _), (1, _), (2, _), (3, _), (4, _), (5, _), (6, _), (7, _), (8, _)]) d_Mo_isFound_129 rfl (xinc _) (by decide) rfl ?_
                    refine x_goto 30 d_Mo_isFound_132 rfl ?_
                    refine x_lv (lv' := [(0, _), (1, _), (2, _), (3, _), (4, _), (5, _), (6, _), (7, _)]) [0, 1, 2, 3, 4, 5, 6, 7] rfl ?_
                    rw [ht]
                    exact ihk _
                  · skip
                    have ht : moTry s a none (some c) i j k P = (true, (moNm (moNm (uF P 186 36 (nI 0)) 0 a i).2 1 c k).2) := by simp only [moTry, hc62, hc104, hc124, if_true, if_false, Bool.true_eq_false]
                    refine x_iconst (v := nI 1) d_Mo_isFound_127 (by decide +kernel) ?_
                    refine x_ireturn d_Mo_isFound_128 rfl (by decide +kernel) ?_
                    rw [ht]
                    exact ⟨rfl, rfl⟩
          refine x_lv (lv' := [(0, _), (1, _), (2, _), (3, _), (4, _), (5, _), (6, _), (7, _)]) [0, 1, 2, 3, 4, 5, 6, 7] rfl ?_
          exact L30 0 (Nat.zero_le _) P
      refine x_lv (lv' := [(0, _), (1, _), (2, _), (3, _), (4, _), (5, _), (6, _)]) [0, 1, 2, 3, 4, 5, 6] rfl ?_
      exact L12 0 (Nat.zero_le _) P
  refine x_lv (lv' := [(0, _), (1, _), (2, _), (3, _), (4, _), (5, _)]) [0, 1, 2, 3, 4, 5] rfl ?_
  exact L3 0 (Nat.zero_le _) S
set_option maxRecDepth 100000 in
set_option maxHeartbeats 1000000 in
theorem c_Mo_isFound10 {G : xG} {B d : Nat} {S : xS} (hG : xOkG G) {s a b N : Nat} (hs : s < 8) (hN6 : N ≤ 6) (ha : a < N) (hbN : b < N) : EX G m_Mo_isFound (d + 3) 0 [(0, .ref (B + 186)), (1, .int (nI s)), (2, .int (nI a)), (3, .int (nI b)), (4, .int (-1))] [] (mk G B S) ((xRet G B (some (.int (bI (moLi s a (some b) none 2 0 S).1))) (moLi s a (some b) none 2 0 S).2)) := by
  refine x_iconst (v := nI 0) d_Mo_isFound_0 (by decide +kernel) ?_
  refine s_istore (lv' := [(0, _), (1, _), (2, _), (3, _), (4, _), (5, _)]) d_Mo_isFound_1 (by decide) rfl ?_
  have L3 : ∀ i, i ≤ 2 → ∀ P, EX G m_Mo_isFound (d + 3) 3 [(0, .ref (B + 186)), (1, .int (nI s)), (2, .int (nI a)), (3, .int (nI b)), (4, .int (-1)), (5, .int (nI i))] [] (mk G B P) (xRet G B (some (.int (bI (moLi s a (some b) none (2 - i) i P).1))) (moLi s a (some b) none (2 - i) i P).2) := by
    refine x_down (2) ?_ ?_
    · skip
      rw [Nat.sub_self]
      intro P
      refine x_iload d_Mo_isFound_3 rfl ?_
      refine x_iconst (v := nI 2) d_Mo_isFound_5 (by decide +kernel) ?_
      refine z_icmp_ge 147 d_Mo_isFound_6 rfl (by omega) (by omega) (fun hc6 => ?_) (fun q => absurd q (by omega))
      refine x_iconst (v := nI 0) d_Mo_isFound_147 (by decide +kernel) ?_
      refine x_ireturn d_Mo_isFound_148 rfl (by decide +kernel) ?_
      exact ⟨rfl, rfl⟩
    · intro i hi ihi
      intro P
      rw [show 2 - (i + 1) = 1 - i by omega] at ihi
      rw [show 2 - i = 1 - i + 1 by omega]
      generalize 1 - i = Ki at ihi ⊢
      simp only [moLi]
      show EX _ _ _ _ _ _ _ (xRet G B (some (.int (bI (tiThen (moLj s a (some b) none i 32 0 P) (moLi s a (some b) none Ki (i + 1))).1))) (tiThen (moLj s a (some b) none i 32 0 P) (moLi s a (some b) none Ki (i + 1))).2)
      refine x_iload d_Mo_isFound_3 rfl ?_
      refine x_iconst (v := nI 2) d_Mo_isFound_5 (by decide +kernel) ?_
      refine z_icmp_ge 147 d_Mo_isFound_6 rfl (by omega) (by omega) (fun q => absurd q (by omega)) (fun hc6 => ?_)
      refine x_iconst (v := nI 0) d_Mo_isFound_9 (by decide +kernel) ?_
      refine s_istore (lv' := [(0, _), (1, _), (2, _), (3, _), (4, _), (5, _), (6, _)]) d_Mo_isFound_10 (by decide) rfl ?_
      have L12 : ∀ j, j ≤ 32 → ∀ P, EX G m_Mo_isFound (d + 3) 12 [(0, .ref (B + 186)), (1, .int (nI s)), (2, .int (nI a)), (3, .int (nI b)), (4, .int (-1)), (5, .int (nI i)), (6, .int (nI j))] [] (mk G B P) (xRet G B (some (.int (bI (tiThen (moLj s a (some b) none i (32 - j) j P) (moLi s a (some b) none Ki (i + 1))).1))) (tiThen (moLj s a (some b) none i (32 - j) j P) (moLi s a (some b) none Ki (i + 1))).2) := by
        refine x_down (32) ?_ ?_
        · skip
          rw [Nat.sub_self]
          intro P
          refine x_iload d_Mo_isFound_12 rfl ?_
          refine x_iload_n d_Mo_isFound_14 rfl ?_
          refine z_if_ge 22 d_Mo_isFound_15 rfl (by omega) ?_
          refine x_bipush (v := nI 32) d_Mo_isFound_22 (by decide +kernel) ?_
          refine z_icmp_ge 141 d_Mo_isFound_24 rfl (by omega) (by omega) (fun hc24 => ?_) (fun q => absurd q (by omega))
          refine s_iinc (lv' := [(0, _), (1, _), (2, _), (3, _), (4, _), (5, _), (6, _)]) d_Mo_isFound_141 rfl (xinc _) (by decide) rfl ?_
          refine x_goto 3 d_Mo_isFound_144 rfl ?_
          refine x_lv (lv' := [(0, _), (1, _), (2, _), (3, _), (4, _), (5, _)]) [0, 1, 2, 3, 4, 5] rfl ?_
          exact ihi _
        · intro j hj ihj
          intro P
          rw [show 32 - (j + 1) = 31 - j by omega] at ihj
          rw [show 32 - j = 31 - j + 1 by omega]
          generalize 31 - j = Kj at ihj ⊢
          simp only [moLj]
          show EX _ _ _ _ _ _ _ (xRet G B (some (.int (bI (tiThen (tiThen (moLk3 s a (some b) none i j 1 0 P) (moLj s a (some b) none i Kj (j + 1))) (moLi s a (some b) none Ki (i + 1))).1))) (tiThen (tiThen (moLk3 s a (some b) none i j 1 0 P) (moLj s a (some b) none i Kj (j + 1))) (moLi s a (some b) none Ki (i + 1))).2)
          refine x_iload d_Mo_isFound_12 rfl ?_
          refine x_iload_n d_Mo_isFound_14 rfl ?_
          refine z_if_ge 22 d_Mo_isFound_15 rfl (by omega) ?_
          refine x_bipush (v := nI 32) d_Mo_isFound_22 (by decide +kernel) ?_
          refine z_icmp_ge 141 d_Mo_isFound_24 rfl (by omega) (by omega) (fun q => absurd q (by omega)) (fun hc24 => ?_)
          refine x_iconst (v := nI 0) d_Mo_isFound_27 (by decide +kernel) ?_
          refine s_istore (lv' := [(0, _), (1, _), (2, _), (3, _), (4, _), (5, _), (6, _), (7, _)]) d_Mo_isFound_28 (by decide) rfl ?_
          have L30 : ∀ k, k ≤ 1 → ∀ P, EX G m_Mo_isFound (d + 3) 30 [(0, .ref (B + 186)), (1, .int (nI s)), (2, .int (nI a)), (3, .int (nI b)), (4, .int (-1)), (5, .int (nI i)), (6, .int (nI j)), (7, .int (nI k))] [] (mk G B P) (xRet G B (some (.int (bI (tiThen (tiThen (moLk3 s a (some b) none i j (1 - k) k P) (moLj s a (some b) none i Kj (j + 1))) (moLi s a (some b) none Ki (i + 1))).1))) (tiThen (tiThen (moLk3 s a (some b) none i j (1 - k) k P) (moLj s a (some b) none i Kj (j + 1))) (moLi s a (some b) none Ki (i + 1))).2) := by
            refine x_down (1) ?_ ?_
            · skip
              rw [Nat.sub_self]
              intro P
              refine x_iload d_Mo_isFound_30 rfl ?_
              refine x_iload d_Mo_isFound_32 rfl ?_
              refine x_if_ge 41 d_Mo_isFound_34 rfl (fun q => absurd q (by decide +kernel)) (fun hc34 => ?_)
              refine x_iconst (v := nI 1) d_Mo_isFound_37 (by decide +kernel) ?_
              refine x_goto 43 d_Mo_isFound_38 rfl ?_
              refine z_icmp_ge 135 d_Mo_isFound_43 rfl (by omega) (by omega) (fun hc43 => ?_) (fun q => absurd q (by omega))
              refine s_iinc (lv' := [(0, _), (1, _), (2, _), (3, _), (4, _), (5, _), (6, _), (7, _)]) d_Mo_isFound_135 rfl (xinc _) (by decide) rfl ?_
              refine x_goto 12 d_Mo_isFound_138 rfl ?_
              refine x_lv (lv' := [(0, _), (1, _), (2, _), (3, _), (4, _), (5, _), (6, _)]) [0, 1, 2, 3, 4, 5, 6] rfl ?_
              exact ihj _
            · intro k hk ihk
              intro P
              rw [show 1 - (k + 1) = 0 - k by omega] at ihk
              rw [show 1 - k = 0 - k + 1 by omega]
              generalize 0 - k = Kk at ihk ⊢
              simp only [moLk3]
              refine x_iload d_Mo_isFound_30 rfl ?_
              refine x_iload d_Mo_isFound_32 rfl ?_
              refine x_if_ge 41 d_Mo_isFound_34 rfl (fun q => absurd q (by decide +kernel)) (fun hc34 => ?_)
              refine x_iconst (v := nI 1) d_Mo_isFound_37 (by decide +kernel) ?_
              refine x_goto 43 d_Mo_isFound_38 rfl ?_
              refine z_icmp_ge 135 d_Mo_isFound_43 rfl (by omega) (by omega) (fun q => absurd q (by omega)) (fun hc43 => ?_)
              refine x_aload_n d_Mo_isFound_46 rfl ?_
              refine x_iconst (v := nI 0) d_Mo_isFound_47 (by decide +kernel) ?_
              refine y_puti d_Mo_isFound_48 pf_Mo_174 k_model (xBle rfl) rfl rfl rfl ?_
              have hU : sF (uF P 186 36 (nI 0)) 186 36 = nI 0 := by rw [sF_uF, va_up_self]
              refine x_aload_n d_Mo_isFound_51 rfl ?_
              refine x_iload_n d_Mo_isFound_52 rfl ?_
              refine x_iload d_Mo_isFound_53 rfl ?_
              refine w_callV (As := [_, _]) d_Mo_isFound_55 k_Mo_247 k_model rfl rfl rfl (c_Mo_name (S := uF P 186 36 (nI 0)) (n := 0) hG hU (by decide) (by omega) (by omega)) ?_
              refine s_istore (lv' := [(0, _), (1, _), (2, _), (3, _), (4, _), (5, _), (6, _), (7, _), (8, _)]) d_Mo_isFound_58 (by decide) rfl ?_
              refine x_iload d_Mo_isFound_60 rfl ?_
              refine z_bif_eq 83 d_Mo_isFound_62 rfl (fun hc62 => ?_) (fun hc62 => ?_)
              · skip
                have ht : moTry s a (some b) none i j k P = (false, (moNm (uF P 186 36 (nI 0)) 0 a i).2) := by simp only [moTry, hc62, if_true, if_false, Bool.true_eq_false]
                refine x_iconst (v := nI 0) d_Mo_isFound_83 (by decide +kernel) ?_
                refine s_istore (lv' := [(0, _), (1, _), (2, _), (3, _), (4, _), (5, _), (6, _), (7, _), (8, _)]) d_Mo_isFound_84 (by decide) rfl ?_
                refine x_iload d_Mo_isFound_86 rfl ?_
                refine z_if_eq 111 d_Mo_isFound_88 rfl (by omega) (fun hc88 => ?_) (fun q => absurd q (by omega))
                refine x_iconst (v := nI 0) d_Mo_isFound_111 (by decide +kernel) ?_
                refine s_istore (lv' := [(0, _), (1, _), (2, _), (3, _), (4, _), (5, _), (6, _), (7, _), (8, _)]) d_Mo_isFound_112 (by decide) rfl ?_
                refine x_iload d_Mo_isFound_114 rfl ?_
                refine z_if_eq 129 d_Mo_isFound_116 rfl (by omega) (fun hc116 => ?_) (fun q => absurd q (by omega))
                refine s_iinc (lv' := [(0, _), (1, _), (2, _), (3, _), (4, _), (5, _), (6, _), (7, _), (8, _)]) d_Mo_isFound_129 rfl (xinc _) (by decide) rfl ?_
                refine x_goto 30 d_Mo_isFound_132 rfl ?_
                refine x_lv (lv' := [(0, _), (1, _), (2, _), (3, _), (4, _), (5, _), (6, _), (7, _)]) [0, 1, 2, 3, 4, 5, 6, 7] rfl ?_
                rw [ht]
                exact ihk _
              · skip
                have h1 := moNm_I (N := N) (P := uF P 186 36 (nI 0)) moLI_0 ha (by omega) hc62
                refine x_iload_n d_Mo_isFound_65 rfl ?_
                refine z_if_lt d_Mo_isFound_66 (tgt := 79) rfl (by omega) ?_
                refine x_aload_n d_Mo_isFound_69 rfl ?_
                refine x_iload_n d_Mo_isFound_70 rfl ?_
                refine x_iload d_Mo_isFound_71 rfl ?_
                refine w_callV (As := [_, _]) d_Mo_isFound_73 k_Mo_247 k_model rfl rfl rfl (c_Mo_name (n := 1) hG h1.1 (by decide) (by omega) (by omega)) ?_
                refine z_bif_eq 83 d_Mo_isFound_76 rfl (fun hc76 => ?_) (fun hc76 => ?_)
                · skip
                  have ht : moTry s a (some b) none i j k P = (false, (moNm (moNm (uF P 186 36 (nI 0)) 0 a i).2 1 b j).2) := by simp only [moTry, hc62, hc76, if_true, if_false, Bool.true_eq_false]
                  refine x_iconst (v := nI 0) d_Mo_isFound_83 (by decide +kernel) ?_
                  refine s_istore (lv' := [(0, _), (1, _), (2, _), (3, _), (4, _), (5, _), (6, _), (7, _), (8, _)]) d_Mo_isFound_84 (by decide) rfl ?_
                  refine x_iload d_Mo_isFound_86 rfl ?_
                  refine z_if_eq 111 d_Mo_isFound_88 rfl (by omega) (fun hc88 => ?_) (fun q => absurd q (by omega))
                  refine x_iconst (v := nI 0) d_Mo_isFound_111 (by decide +kernel) ?_
                  refine s_istore (lv' := [(0, _), (1, _), (2, _), (3, _), (4, _), (5, _), (6, _), (7, _), (8, _)]) d_Mo_isFound_112 (by decide) rfl ?_
                  refine x_iload d_Mo_isFound_114 rfl ?_
                  refine z_if_eq 129 d_Mo_isFound_116 rfl (by omega) (fun hc116 => ?_) (fun q => absurd q (by omega))
                  refine s_iinc (lv' := [(0, _), (1, _), (2, _), (3, _), (4, _), (5, _), (6, _), (7, _), (8, _)]) d_Mo_isFound_129 rfl (xinc _) (by decide) rfl ?_
                  refine x_goto 30 d_Mo_isFound_132 rfl ?_
                  refine x_lv (lv' := [(0, _), (1, _), (2, _), (3, _), (4, _), (5, _), (6, _), (7, _)]) [0, 1, 2, 3, 4, 5, 6, 7] rfl ?_
                  rw [ht]
                  exact ihk _
                · skip
                  have h2 := moNm_I h1.2 hbN (by omega) hc76
                  refine x_iconst (v := nI 1) d_Mo_isFound_79 (by decide +kernel) ?_
                  refine x_goto 84 d_Mo_isFound_80 rfl ?_
                  refine s_istore (lv' := [(0, _), (1, _), (2, _), (3, _), (4, _), (5, _), (6, _), (7, _), (8, _)]) d_Mo_isFound_84 (by decide) rfl ?_
                  refine x_iload d_Mo_isFound_86 rfl ?_
                  refine z_if_eq 111 d_Mo_isFound_88 rfl (by omega) (fun q => absurd q (by omega)) (fun hc88 => ?_)
                  refine x_iload d_Mo_isFound_91 rfl ?_
                  refine x_if_lt 107 d_Mo_isFound_93 rfl (fun hc93 => ?_) (fun q => absurd q (Classical.not_not.mpr (by decide +kernel)))
                  refine x_iconst (v := nI 1) d_Mo_isFound_107 (by decide +kernel) ?_
                  refine x_goto 112 d_Mo_isFound_108 rfl ?_
                  refine s_istore (lv' := [(0, _), (1, _), (2, _), (3, _), (4, _), (5, _), (6, _), (7, _), (8, _)]) d_Mo_isFound_112 (by decide) rfl ?_
                  refine x_iload d_Mo_isFound_114 rfl ?_
                  refine z_if_eq 129 d_Mo_isFound_116 rfl (by omega) (fun q => absurd q (by omega)) (fun hc116 => ?_)
                  refine x_aload_n d_Mo_isFound_119 rfl ?_
                  refine x_iload_n d_Mo_isFound_120 rfl ?_
                  refine w_callV (As := [_]) d_Mo_isFound_121 k_Mo_250 k_model rfl rfl rfl (c_Mo_fits hG hs h2.1 (by decide) h2.2) ?_
                  refine z_bif_eq 129 d_Mo_isFound_124 rfl (fun hc124 => ?_) (fun hc124 => ?_)
                  · skip
                    have ht : moTry s a (some b) none i j k P = (false, (moNm (moNm (uF P 186 36 (nI 0)) 0 a i).2 1 b j).2) := by simp only [moTry, hc62, hc76, hc124, if_true, if_false, Bool.true_eq_false]
                    refine s_iinc (lv' := [(0, _), (1, _), (2, _), (3, _), (4, _), (5, _), (6, _), (7, _), (8, _)]) d_Mo_isFound_129 rfl (xinc _) (by decide) rfl ?_
                    refine x_goto 30 d_Mo_isFound_132 rfl ?_
                    refine x_lv (lv' := [(0, _), (1, _), (2, _), (3, _), (4, _), (5, _), (6, _), (7, _)]) [0, 1, 2, 3, 4, 5, 6, 7] rfl ?_
                    rw [ht]
                    exact ihk _
                  · skip
                    have ht : moTry s a (some b) none i j k P = (true, (moNm (moNm (uF P 186 36 (nI 0)) 0 a i).2 1 b j).2) := by simp only [moTry, hc62, hc76, hc124, if_true, if_false, Bool.true_eq_false]
                    refine x_iconst (v := nI 1) d_Mo_isFound_127 (by decide +kernel) ?_
                    refine x_ireturn d_Mo_isFound_128 rfl (by decide +kernel) ?_
                    rw [ht]
                    exact ⟨rfl, rfl⟩
          refine x_lv (lv' := [(0, _), (1, _), (2, _), (3, _), (4, _), (5, _), (6, _), (7, _)]) [0, 1, 2, 3, 4, 5, 6, 7] rfl ?_
          exact L30 0 (Nat.zero_le _) P
      refine x_lv (lv' := [(0, _), (1, _), (2, _), (3, _), (4, _), (5, _), (6, _)]) [0, 1, 2, 3, 4, 5, 6] rfl ?_
      exact L12 0 (Nat.zero_le _) P
  refine x_lv (lv' := [(0, _), (1, _), (2, _), (3, _), (4, _), (5, _)]) [0, 1, 2, 3, 4, 5] rfl ?_
  exact L3 0 (Nat.zero_le _) S
set_option maxRecDepth 100000 in
set_option maxHeartbeats 1000000 in
theorem c_Mo_isFound11 {G : xG} {B d : Nat} {S : xS} (hG : xOkG G) {s a b c N : Nat} (hs : s < 8) (hN6 : N ≤ 6) (ha : a < N) (hbN : b < N) (hcN : c < N) : EX G m_Mo_isFound (d + 3) 0 [(0, .ref (B + 186)), (1, .int (nI s)), (2, .int (nI a)), (3, .int (nI b)), (4, .int (nI c))] [] (mk G B S) ((xRet G B (some (.int (bI (moLi s a (some b) (some c) 2 0 S).1))) (moLi s a (some b) (some c) 2 0 S).2)) := by
  refine x_iconst (v := nI 0) d_Mo_isFound_0 (by decide +kernel) ?_
  refine s_istore (lv' := [(0, _), (1, _), (2, _), (3, _), (4, _), (5, _)]) d_Mo_isFound_1 (by decide) rfl ?_
  have L3 : ∀ i, i ≤ 2 → ∀ P, EX G m_Mo_isFound (d + 3) 3 [(0, .ref (B + 186)), (1, .int (nI s)), (2, .int (nI a)), (3, .int (nI b)), (4, .int (nI c)), (5, .int (nI i))] [] (mk G B P) (xRet G B (some (.int (bI (moLi s a (some b) (some c) (2 - i) i P).1))) (moLi s a (some b) (some c) (2 - i) i P).2) := by
    refine x_down (2) ?_ ?_
    · skip
      rw [Nat.sub_self]
      intro P
      refine x_iload d_Mo_isFound_3 rfl ?_
      refine x_iconst (v := nI 2) d_Mo_isFound_5 (by decide +kernel) ?_
      refine z_icmp_ge 147 d_Mo_isFound_6 rfl (by omega) (by omega) (fun hc6 => ?_) (fun q => absurd q (by omega))
      refine x_iconst (v := nI 0) d_Mo_isFound_147 (by decide +kernel) ?_
      refine x_ireturn d_Mo_isFound_148 rfl (by decide +kernel) ?_
      exact ⟨rfl, rfl⟩
    · intro i hi ihi
      intro P
      rw [show 2 - (i + 1) = 1 - i by omega] at ihi
      rw [show 2 - i = 1 - i + 1 by omega]
      generalize 1 - i = Ki at ihi ⊢
      simp only [moLi]
      show EX _ _ _ _ _ _ _ (xRet G B (some (.int (bI (tiThen (moLj s a (some b) (some c) i 32 0 P) (moLi s a (some b) (some c) Ki (i + 1))).1))) (tiThen (moLj s a (some b) (some c) i 32 0 P) (moLi s a (some b) (some c) Ki (i + 1))).2)
      refine x_iload d_Mo_isFound_3 rfl ?_
      refine x_iconst (v := nI 2) d_Mo_isFound_5 (by decide +kernel) ?_
      refine z_icmp_ge 147 d_Mo_isFound_6 rfl (by omega) (by omega) (fun q => absurd q (by omega)) (fun hc6 => ?_)
      refine x_iconst (v := nI 0) d_Mo_isFound_9 (by decide +kernel) ?_
      refine s_istore (lv' := [(0, _), (1, _), (2, _), (3, _), (4, _), (5, _), (6, _)]) d_Mo_isFound_10 (by decide) rfl ?_
      have L12 : ∀ j, j ≤ 32 → ∀ P, EX G m_Mo_isFound (d + 3) 12 [(0, .ref (B + 186)), (1, .int (nI s)), (2, .int (nI a)), (3, .int (nI b)), (4, .int (nI c)), (5, .int (nI i)), (6, .int (nI j))] [] (mk G B P) (xRet G B (some (.int (bI (tiThen (moLj s a (some b) (some c) i (32 - j) j P) (moLi s a (some b) (some c) Ki (i + 1))).1))) (tiThen (moLj s a (some b) (some c) i (32 - j) j P) (moLi s a (some b) (some c) Ki (i + 1))).2) := by
        refine x_down (32) ?_ ?_
        · skip
          rw [Nat.sub_self]
          intro P
          refine x_iload d_Mo_isFound_12 rfl ?_
          refine x_iload_n d_Mo_isFound_14 rfl ?_
          refine z_if_ge 22 d_Mo_isFound_15 rfl (by omega) ?_
          refine x_bipush (v := nI 32) d_Mo_isFound_22 (by decide +kernel) ?_
          refine z_icmp_ge 141 d_Mo_isFound_24 rfl (by omega) (by omega) (fun hc24 => ?_) (fun q => absurd q (by omega))
          refine s_iinc (lv' := [(0, _), (1, _), (2, _), (3, _), (4, _), (5, _), (6, _)]) d_Mo_isFound_141 rfl (xinc _) (by decide) rfl ?_
          refine x_goto 3 d_Mo_isFound_144 rfl ?_
          refine x_lv (lv' := [(0, _), (1, _), (2, _), (3, _), (4, _), (5, _)]) [0, 1, 2, 3, 4, 5] rfl ?_
          exact ihi _
        · intro j hj ihj
          intro P
          rw [show 32 - (j + 1) = 31 - j by omega] at ihj
          rw [show 32 - j = 31 - j + 1 by omega]
          generalize 31 - j = Kj at ihj ⊢
          simp only [moLj]
          show EX _ _ _ _ _ _ _ (xRet G B (some (.int (bI (tiThen (tiThen (moLk3 s a (some b) (some c) i j 32 0 P) (moLj s a (some b) (some c) i Kj (j + 1))) (moLi s a (some b) (some c) Ki (i + 1))).1))) (tiThen (tiThen (moLk3 s a (some b) (some c) i j 32 0 P) (moLj s a (some b) (some c) i Kj (j + 1))) (moLi s a (some b) (some c) Ki (i + 1))).2)
          refine x_iload d_Mo_isFound_12 rfl ?_
          refine x_iload_n d_Mo_isFound_14 rfl ?_
          refine z_if_ge 22 d_Mo_isFound_15 rfl (by omega) ?_
          refine x_bipush (v := nI 32) d_Mo_isFound_22 (by decide +kernel) ?_
          refine z_icmp_ge 141 d_Mo_isFound_24 rfl (by omega) (by omega) (fun q => absurd q (by omega)) (fun hc24 => ?_)
          refine x_iconst (v := nI 0) d_Mo_isFound_27 (by decide +kernel) ?_
          refine s_istore (lv' := [(0, _), (1, _), (2, _), (3, _), (4, _), (5, _), (6, _), (7, _)]) d_Mo_isFound_28 (by decide) rfl ?_
          have L30 : ∀ k, k ≤ 32 → ∀ P, EX G m_Mo_isFound (d + 3) 30 [(0, .ref (B + 186)), (1, .int (nI s)), (2, .int (nI a)), (3, .int (nI b)), (4, .int (nI c)), (5, .int (nI i)), (6, .int (nI j)), (7, .int (nI k))] [] (mk G B P) (xRet G B (some (.int (bI (tiThen (tiThen (moLk3 s a (some b) (some c) i j (32 - k) k P) (moLj s a (some b) (some c) i Kj (j + 1))) (moLi s a (some b) (some c) Ki (i + 1))).1))) (tiThen (tiThen (moLk3 s a (some b) (some c) i j (32 - k) k P) (moLj s a (some b) (some c) i Kj (j + 1))) (moLi s a (some b) (some c) Ki (i + 1))).2) := by
            refine x_down (32) ?_ ?_
            · skip
              rw [Nat.sub_self]
              intro P
              refine x_iload d_Mo_isFound_30 rfl ?_
              refine x_iload d_Mo_isFound_32 rfl ?_
              refine z_if_ge 41 d_Mo_isFound_34 rfl (by omega) ?_
              refine x_bipush (v := nI 32) d_Mo_isFound_41 (by decide +kernel) ?_
              refine z_icmp_ge 135 d_Mo_isFound_43 rfl (by omega) (by omega) (fun hc43 => ?_) (fun q => absurd q (by omega))
              refine s_iinc (lv' := [(0, _), (1, _), (2, _), (3, _), (4, _), (5, _), (6, _), (7, _)]) d_Mo_isFound_135 rfl (xinc _) (by decide) rfl ?_
              refine x_goto 12 d_Mo_isFound_138 rfl ?_
              refine x_lv (lv' := [(0, _), (1, _), (2, _), (3, _), (4, _), (5, _), (6, _)]) [0, 1, 2, 3, 4, 5, 6] rfl ?_
              exact ihj _
            · intro k hk ihk
              intro P
              rw [show 32 - (k + 1) = 31 - k by omega] at ihk
              rw [show 32 - k = 31 - k + 1 by omega]
              generalize 31 - k = Kk at ihk ⊢
              simp only [moLk3]
              refine x_iload d_Mo_isFound_30 rfl ?_
              refine x_iload d_Mo_isFound_32 rfl ?_
              refine z_if_ge 41 d_Mo_isFound_34 rfl (by omega) ?_
              refine x_bipush (v := nI 32) d_Mo_isFound_41 (by decide +kernel) ?_
              refine z_icmp_ge 135 d_Mo_isFound_43 rfl (by omega) (by omega) (fun q => absurd q (by omega)) (fun hc43 => ?_)
              refine x_aload_n d_Mo_isFound_46 rfl ?_
              refine x_iconst (v := nI 0) d_Mo_isFound_47 (by decide +kernel) ?_
              refine y_puti d_Mo_isFound_48 pf_Mo_174 k_model (xBle rfl) rfl rfl rfl ?_
              have hU : sF (uF P 186 36 (nI 0)) 186 36 = nI 0 := by rw [sF_uF, va_up_self]
              refine x_aload_n d_Mo_isFound_51 rfl ?_
              refine x_iload_n d_Mo_isFound_52 rfl ?_
              refine x_iload d_Mo_isFound_53 rfl ?_
              refine w_callV (As := [_, _]) d_Mo_isFound_55 k_Mo_247 k_model rfl rfl rfl (c_Mo_name (S := uF P 186 36 (nI 0)) (n := 0) hG hU (by decide) (by omega) (by omega)) ?_
              refine s_istore (lv' := [(0, _), (1, _), (2, _), (3, _), (4, _), (5, _), (6, _), (7, _), (8, _)]) d_Mo_isFound_58 (by decide) rfl ?_
              refine x_iload d_Mo_isFound_60 rfl ?_
              refine z_bif_eq 83 d_Mo_isFound_62 rfl (fun hc62 => ?_) (fun hc62 => ?_)
              · skip
                have ht : moTry s a (some b) (some c) i j k P = (false, (moNm (uF P 186 36 (nI 0)) 0 a i).2) := by simp only [moTry, hc62, if_true, if_false, Bool.true_eq_false]
                refine x_iconst (v := nI 0) d_Mo_isFound_83 (by decide +kernel) ?_
                refine s_istore (lv' := [(0, _), (1, _), (2, _), (3, _), (4, _), (5, _), (6, _), (7, _), (8, _)]) d_Mo_isFound_84 (by decide) rfl ?_
                refine x_iload d_Mo_isFound_86 rfl ?_
                refine z_if_eq 111 d_Mo_isFound_88 rfl (by omega) (fun hc88 => ?_) (fun q => absurd q (by omega))
                refine x_iconst (v := nI 0) d_Mo_isFound_111 (by decide +kernel) ?_
                refine s_istore (lv' := [(0, _), (1, _), (2, _), (3, _), (4, _), (5, _), (6, _), (7, _), (8, _)]) d_Mo_isFound_112 (by decide) rfl ?_
                refine x_iload d_Mo_isFound_114 rfl ?_
                refine z_if_eq 129 d_Mo_isFound_116 rfl (by omega) (fun hc116 => ?_) (fun q => absurd q (by omega))
                refine s_iinc (lv' := [(0, _), (1, _), (2, _), (3, _), (4, _), (5, _), (6, _), (7, _), (8, _)]) d_Mo_isFound_129 rfl (xinc _) (by decide) rfl ?_
                refine x_goto 30 d_Mo_isFound_132 rfl ?_
                refine x_lv (lv' := [(0, _), (1, _), (2, _), (3, _), (4, _), (5, _), (6, _), (7, _)]) [0, 1, 2, 3, 4, 5, 6, 7] rfl ?_
                rw [ht]
                exact ihk _
              · skip
                have h1 := moNm_I (N := N) (P := uF P 186 36 (nI 0)) moLI_0 ha (by omega) hc62
                refine x_iload_n d_Mo_isFound_65 rfl ?_
                refine z_if_lt d_Mo_isFound_66 (tgt := 79) rfl (by omega) ?_
                refine x_aload_n d_Mo_isFound_69 rfl ?_
                refine x_iload_n d_Mo_isFound_70 rfl ?_
                refine x_iload d_Mo_isFound_71 rfl ?_
                refine w_callV (As := [_, _]) d_Mo_isFound_73 k_Mo_247 k_model rfl rfl rfl (c_Mo_name (n := 1) hG h1.1 (by decide) (by omega) (by omega)) ?_
                refine z_bif_eq 83 d_Mo_isFound_76 rfl (fun hc76 => ?_) (fun hc76 => ?_)
                · skip
                  have ht : moTry s a (some b) (some c) i j k P = (false, (moNm (moNm (uF P 186 36 (nI 0)) 0 a i).2 1 b j).2) := by simp only [moTry, hc62, hc76, if_true, if_false, Bool.true_eq_false]
                  refine x_iconst (v := nI 0) d_Mo_isFound_83 (by decide +kernel) ?_
                  refine s_istore (lv' := [(0, _), (1, _), (2, _), (3, _), (4, _), (5, _), (6, _), (7, _), (8, _)]) d_Mo_isFound_84 (by decide) rfl ?_
                  refine x_iload d_Mo_isFound_86 rfl ?_
                  refine z_if_eq 111 d_Mo_isFound_88 rfl (by omega) (fun hc88 => ?_) (fun q => absurd q (by omega))
                  refine x_iconst (v := nI 0) d_Mo_isFound_111 (by decide +kernel) ?_
                  refine s_istore (lv' := [(0, _), (1, _), (2, _), (3, _), (4, _), (5, _), (6, _), (7, _), (8, _)]) d_Mo_isFound_112 (by decide) rfl ?_
                  refine x_iload d_Mo_isFound_114 rfl ?_
                  refine z_if_eq 129 d_Mo_isFound_116 rfl (by omega) (fun hc116 => ?_) (fun q => absurd q (by omega))
                  refine s_iinc (lv' := [(0, _), (1, _), (2, _), (3, _), (4, _), (5, _), (6, _), (7, _), (8, _)]) d_Mo_isFound_129 rfl (xinc _) (by decide) rfl ?_
                  refine x_goto 30 d_Mo_isFound_132 rfl ?_
                  refine x_lv (lv' := [(0, _), (1, _), (2, _), (3, _), (4, _), (5, _), (6, _), (7, _)]) [0, 1, 2, 3, 4, 5, 6, 7] rfl ?_
                  rw [ht]
                  exact ihk _
                · skip
                  have h2 := moNm_I h1.2 hbN (by omega) hc76
                  refine x_iconst (v := nI 1) d_Mo_isFound_79 (by decide +kernel) ?_
                  refine x_goto 84 d_Mo_isFound_80 rfl ?_
                  refine s_istore (lv' := [(0, _), (1, _), (2, _), (3, _), (4, _), (5, _), (6, _), (7, _), (8, _)]) d_Mo_isFound_84 (by decide) rfl ?_
                  refine x_iload d_Mo_isFound_86 rfl ?_
                  refine z_if_eq 111 d_Mo_isFound_88 rfl (by omega) (fun q => absurd q (by omega)) (fun hc88 => ?_)
                  refine x_iload d_Mo_isFound_91 rfl ?_
                  refine z_if_lt d_Mo_isFound_93 (tgt := 107) rfl (by omega) ?_
                  refine x_aload_n d_Mo_isFound_96 rfl ?_
                  refine x_iload d_Mo_isFound_97 rfl ?_
                  refine x_iload d_Mo_isFound_99 rfl ?_
                  refine w_callV (As := [_, _]) d_Mo_isFound_101 k_Mo_247 k_model rfl rfl rfl (c_Mo_name (n := 2) hG h2.1 (by decide) (by omega) (by omega)) ?_
                  refine z_bif_eq 111 d_Mo_isFound_104 rfl (fun hc104 => ?_) (fun hc104 => ?_)
                  · skip
                    have ht : moTry s a (some b) (some c) i j k P = (false, (moNm (moNm (moNm (uF P 186 36 (nI 0)) 0 a i).2 1 b j).2 2 c k).2) := by simp only [moTry, hc62, hc76, hc104, if_true, if_false, Bool.true_eq_false]
                    refine x_iconst (v := nI 0) d_Mo_isFound_111 (by decide +kernel) ?_
                    refine s_istore (lv' := [(0, _), (1, _), (2, _), (3, _), (4, _), (5, _), (6, _), (7, _), (8, _)]) d_Mo_isFound_112 (by decide) rfl ?_
                    refine x_iload d_Mo_isFound_114 rfl ?_
                    refine z_if_eq 129 d_Mo_isFound_116 rfl (by omega) (fun hc116 => ?_) (fun q => absurd q (by omega))
                    refine s_iinc (lv' := [(0, _), (1, _), (2, _), (3, _), (4, _), (5, _), (6, _), (7, _), (8, _)]) d_Mo_isFound_129 rfl (xinc _) (by decide) rfl ?_
                    refine x_goto 30 d_Mo_isFound_132 rfl ?_
                    refine x_lv (lv' := [(0, _), (1, _), (2, _), (3, _), (4, _), (5, _), (6, _), (7, _)]) [0, 1, 2, 3, 4, 5, 6, 7] rfl ?_
                    rw [ht]
                    exact ihk _
                  · skip
                    have h3 := moNm_I h2.2 hcN (by omega) hc104
                    refine x_iconst (v := nI 1) d_Mo_isFound_107 (by decide +kernel) ?_
                    refine x_goto 112 d_Mo_isFound_108 rfl ?_
                    refine s_istore (lv' := [(0, _), (1, _), (2, _), (3, _), (4, _), (5, _), (6, _), (7, _), (8, _)]) d_Mo_isFound_112 (by decide) rfl ?_
                    refine x_iload d_Mo_isFound_114 rfl ?_
                    refine z_if_eq 129 d_Mo_isFound_116 rfl (by omega) (fun q => absurd q (by omega)) (fun hc116 => ?_)
                    refine x_aload_n d_Mo_isFound_119 rfl ?_
                    refine x_iload_n d_Mo_isFound_120 rfl ?_
                    refine w_callV (As := [_]) d_Mo_isFound_121 k_Mo_250 k_model rfl rfl rfl (c_Mo_fits hG hs h3.1 (by decide) h3.2) ?_
                    refine z_bif_eq 129 d_Mo_isFound_124 rfl (fun hc124 => ?_) (fun hc124 => ?_)
                    · skip
                      have ht : moTry s a (some b) (some c) i j k P = (false, (moNm (moNm (moNm (uF P 186 36 (nI 0)) 0 a i).2 1 b j).2 2 c k).2) := by simp only [moTry, hc62, hc76, hc104, hc124, if_true, if_false, Bool.true_eq_false]
                      refine s_iinc (lv' := [(0, _), (1, _), (2, _), (3, _), (4, _), (5, _), (6, _), (7, _), (8, _)]) d_Mo_isFound_129 rfl (xinc _) (by decide) rfl ?_
                      refine x_goto 30 d_Mo_isFound_132 rfl ?_
                      refine x_lv (lv' := [(0, _), (1, _), (2, _), (3, _), (4, _), (5, _), (6, _), (7, _)]) [0, 1, 2, 3, 4, 5, 6, 7] rfl ?_
                      rw [ht]
                      exact ihk _
                    · skip
                      have ht : moTry s a (some b) (some c) i j k P = (true, (moNm (moNm (moNm (uF P 186 36 (nI 0)) 0 a i).2 1 b j).2 2 c k).2) := by simp only [moTry, hc62, hc76, hc104, hc124, if_true, if_false, Bool.true_eq_false]
                      refine x_iconst (v := nI 1) d_Mo_isFound_127 (by decide +kernel) ?_
                      refine x_ireturn d_Mo_isFound_128 rfl (by decide +kernel) ?_
                      rw [ht]
                      exact ⟨rfl, rfl⟩
          refine x_lv (lv' := [(0, _), (1, _), (2, _), (3, _), (4, _), (5, _), (6, _), (7, _)]) [0, 1, 2, 3, 4, 5, 6, 7] rfl ?_
          exact L30 0 (Nat.zero_le _) P
      refine x_lv (lv' := [(0, _), (1, _), (2, _), (3, _), (4, _), (5, _), (6, _)]) [0, 1, 2, 3, 4, 5, 6] rfl ?_
      exact L12 0 (Nat.zero_le _) P
  refine x_lv (lv' := [(0, _), (1, _), (2, _), (3, _), (4, _), (5, _)]) [0, 1, 2, 3, 4, 5] rfl ?_
  exact L3 0 (Nat.zero_le _) S
