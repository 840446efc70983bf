/-! the reference's strips -/
def moPl2 (P : xS) (n v c row : Nat) : xS := uA (moLay P n (v / 2) (decide (v % 2 = 1)) (nI c) (nI row)) 220 (v / 2) (sA (moLay P n (v / 2) (decide (v % 2 = 1)) (nI c) (nI row)) 220 (v / 2) + nI 1)
def moY2 (P : xS) (n y : Nat) : Int32 := nI y + sA P 217 n
def moStR (s fl N c x : Nat) : Nat → xS → Nat → Nat → Nat → Int32 → Option (xS × Nat × Int32)
  | 0, _, _, _, _, _ => none
  | f + 1, P, n, y, row, room => match moCh P s fl x y room N with
    | none => some (P, n, room)
    | some v => if n < 40 ∧ moY2 (moPl2 P n v c row) n y = nI (moY2 (moPl2 P n v c row) n y).toNatClampNeg ∧ (moY2 (moPl2 P n v c row) n y).toNatClampNeg < 65536 then
        moStR s fl N c x f (moPl2 P n v c row) (n + 1) (moY2 (moPl2 P n v c row) n y).toNatClampNeg (row + 1) (if row = 0 then sA (moPl2 P n v c row) 216 n else room) else none
def moStC (s fl N : Nat) (W : Int32) : Nat → xS → Nat → Nat → Nat → Option xS
  | 0, _, _, _, _ => none
  | f + 1, P, c, x, n => if ¬ x < 8192 then none else match moStR s fl N c x 41 P n 0 0 (W - nI x) with
    | none => none
    | some q => if moCh P s fl x 0 (W - nI x) N = none then some q.1 else if nI x + q.2.2 = nI (nI x + q.2.2).toNatClampNeg then moStC s fl N W f q.1 (c + 1) (nI x + q.2.2).toNatClampNeg q.2.1 else none
def moTk (S : xS) : Nat → xS
  | 0 => uF S 186 36 (nI 0)
  | i + 1 => uA (moTk S i) 220 i (nI 0)
def moStrips (S : xS) (s fl N : Nat) : Option xS := moStC s fl N (sA S 189 s) 40 (moTk S 6) 0 0 0
def moStI (P : xS) (s fl N : Nat) (W : Int32) (n : Nat) : Prop := sA P 193 s = nI fl ∧ sF P 186 20 = nI N ∧ sF P 186 36 = nI n ∧ sA P 189 s = W
theorem moPl2_A {P : xS} {n v c row q : Nat} (h : q < 215 ∨ 221 ≤ q) : sA (moPl2 P n v c row) q = sA P q := by
  unfold moPl2
  rw [sA_uAn _ _ _ (by omega)]
  exact moLay_A.2.2.2.2.2 q (by omega)
theorem moPl2_I {P : xS} {s fl N n v c row : Nat} {W : Int32} (h : moStI P s fl N W n) : moStI (moPl2 P n v c row) s fl N W (n + 1) := by
  obtain ⟨h1, h2, h3, h4⟩ := h
  refine ⟨by rw [moPl2_A (by decide)]; exact h1, ?_, ?_, by rw [moPl2_A (by decide)]; exact h4⟩
  · rw [show sF (moPl2 P n v c row) = up2 (sF P) 186 36 (nI (n + 1)) from rfl, up2_self, va_up_ne _ _ (by decide)]; exact h2
  · rw [show sF (moPl2 P n v c row) = up2 (sF P) 186 36 (nI (n + 1)) from rfl, up2_self, va_up_self]
theorem moTk_I {S : xS} {s fl N : Nat} (hfl : sA S 193 s = nI fl) (hN : sF S 186 20 = nI N) : ∀ i, moStI (moTk S i) s fl N (sA S 189 s) 0
  | 0 => ⟨hfl, by show sF (uF S 186 36 _) 186 20 = _; rw [sF_uF, va_up_ne _ _ (by decide)]; exact hN, by show sF (uF S 186 36 _) 186 36 = _; rw [sF_uF, va_up_self], rfl⟩
  | i + 1 => by
    obtain ⟨h1, h2, h3, h4⟩ := moTk_I (S := S) (s := s) hfl hN i
    exact ⟨(congrFun (sA_uAn _ _ _ (by decide)) s).trans h1, h2, h3, (congrFun (sA_uAn _ _ _ (by decide)) s).trans h4⟩
theorem strips_end {G : xG} {B d : Nat} {P : xS} {u v w : Int32} : EX G m_Mo_strips d 33 [(0, .ref (B + 186)), (1, .int u), (2, .int v), (3, .int w), (4, .int (bI false))] [] (mk G B P) (xRet G B none P) := by
  refine x_iload d_Mo_strips_33 rfl ?_
  refine z_bif_eq 191 d_Mo_strips_35 rfl (fun _ => ?_) (fun q => by cases q)
  refine x_return d_Mo_strips_191 rfl ?_
  exact ⟨rfl, rfl⟩
theorem moStR_I {s fl N c x : Nat} {W : Int32} : ∀ {f : Nat} {P : xS} {n y row : Nat} {room : Int32} {Z : xS × Nat × Int32}, moStI P s fl N W n → moStR s fl N c x f P n y row room = some Z → moStI Z.1 s fl N W Z.2.1
  | 0, P, n, y, row, room, Z, _, h => by cases h
  | f + 1, P, n, y, row, room, Z, hI, h => by
    simp only [moStR] at h
    cases hq : moCh P s fl x y room N with
    | none => rw [hq] at h; cases h; exact hI
    | some v =>
      rw [hq] at h
      simp only [] at h
      split at h
      · exact moStR_I (moPl2_I hI) h
      · cases h
set_option maxRecDepth 100000 in
set_option maxHeartbeats 1000000 in
theorem c_Mo_strips {G : xG} {B d : Nat} {S : xS} (hG : xOkG G) {s fl N : Nat} {Z : xS} (hs : s < 8) (hfl : sA S 193 s = nI fl) (hf6 : fl ≤ 6) (hN : sF S 186 20 = nI N) (hN6 : N ≤ 6) (hZ : moStrips S s fl N = some Z) : EX G m_Mo_strips (d + 4) 0 [(0, .ref (B + 186)), (1, .int (nI s))] [] (mk G B S) ((xRet G B none Z)) := by
  unfold moStrips at hZ
  generalize hW : sA S 189 s = W at hZ
  refine x_aload_n d_Mo_strips_0 rfl ?_
  refine x_iconst (v := nI 0) d_Mo_strips_1 (by decide +kernel) ?_
  refine y_puti d_Mo_strips_2 pf_Mo_174 k_model (xBle rfl) rfl rfl rfl ?_
  refine x_iconst (v := nI 0) d_Mo_strips_5 (by decide +kernel) ?_
  refine s_istore_n (lv' := [(0, _), (1, _), (2, _)]) d_Mo_strips_6 (by decide) rfl ?_
  have L7 : ∀ i, i ≤ 6 →  EX G m_Mo_strips (d + 4) 7 [(0, .ref (B + 186)), (1, .int (nI s)), (2, .int (nI i))] [] (mk G B (moTk S i)) (xRet G B none Z) := by
    refine x_down (6) ?_ ?_
    · skip
      skip
      refine x_iload_n d_Mo_strips_7 rfl ?_
      refine x_bipush (v := nI 6) d_Mo_strips_8 (by decide +kernel) ?_
      refine z_icmp_ge 26 d_Mo_strips_10 rfl (by omega) (by omega) (fun hc10 => ?_) (fun q => absurd q (by omega))
      refine x_iconst (v := nI 0) d_Mo_strips_26 (by decide +kernel) ?_
      refine s_istore_n (lv' := [(0, _), (1, _), (2, _)]) d_Mo_strips_27 (by decide) rfl ?_
      refine x_iconst (v := nI 0) d_Mo_strips_28 (by decide +kernel) ?_
      refine s_istore_n (lv' := [(0, _), (1, _), (2, _), (3, _)]) d_Mo_strips_29 (by decide) rfl ?_
      refine x_iconst (v := nI 1) d_Mo_strips_30 (by decide +kernel) ?_
      refine s_istore (lv' := [(0, _), (1, _), (2, _), (3, _), (4, _)]) d_Mo_strips_31 (by decide) rfl ?_
      have L33 : ∀ f, f ≤ 40 → ∀ P c x n, moStI P s fl N W n → moStC s fl N W (40 - f) P c x n = some Z → EX G m_Mo_strips (d + 4) 33 [(0, .ref (B + 186)), (1, .int (nI s)), (2, .int (nI x)), (3, .int (nI c)), (4, .int (bI true))] [] (mk G B P) (xRet G B none Z) := by
        refine x_down (40) ?_ ?_
        · skip
          skip
          intro P c x n hI hZ
          rw [Nat.sub_self] at hZ
          cases hZ
        · intro f hf ihf
          intro P c x n hI hZ
          have hx : x < 8192 := Classical.byContradiction fun q => by
            rw [show 40 - f = (40 - (f + 1)) + 1 by omega] at hZ
            simp only [moStC] at hZ
            rw [if_pos q] at hZ
            cases hZ
          rw [show 40 - f = (40 - (f + 1)) + 1 by omega] at hZ
          simp only [moStC] at hZ
          rw [if_neg (Classical.not_not.mpr hx)] at hZ
          have hch := c_Mo_choose (G := G) (B := B) (d := d) (S := P) (room := W - nI x) hG hI.2.1 hN6 hs hI.1 hf6 hx (y := 0) (by decide)
          rw [show 8192 * 0 + x = x by omega] at hch
          generalize hq1 : moStR s fl N c x 41 P n 0 0 (W - nI x) = q1 at hZ
          cases q1 with
          | none => cases hZ
          | some Z1 =>
          simp only [] at hZ
          refine x_iload d_Mo_strips_33 rfl ?_
          refine z_bif_eq 191 d_Mo_strips_35 rfl (fun q => absurd q (by decide)) (fun hc35 => ?_)
          refine x_iconst (v := nI 0) d_Mo_strips_38 (by decide +kernel) ?_
          refine s_istore (lv' := [(0, _), (1, _), (2, _), (3, _), (4, _), (5, _)]) d_Mo_strips_39 (by decide) rfl ?_
          refine x_iconst (v := nI 0) d_Mo_strips_41 (by decide +kernel) ?_
          refine s_istore (lv' := [(0, _), (1, _), (2, _), (3, _), (4, _), (5, _), (6, _)]) d_Mo_strips_42 (by decide) rfl ?_
          refine x_aload_n d_Mo_strips_44 rfl ?_
          refine y_getf d_Mo_strips_45 gf_Mo_17 k_model rfl ?_
          refine x_iload_n d_Mo_strips_48 rfl ?_
          refine y_iald hG d_Mo_strips_49 k_m_widths _ rfl (by omega) ?_
          rw [hI.2.2.2]
          refine x_iload_n d_Mo_strips_50 rfl ?_
          refine x_isub d_Mo_strips_51 ?_
          refine s_istore (lv' := [(0, _), (1, _), (2, _), (3, _), (4, _), (5, _), (6, _), (7, _)]) d_Mo_strips_52 (by decide) rfl ?_
          refine x_aload_n d_Mo_strips_54 rfl ?_
          refine x_iload_n d_Mo_strips_55 rfl ?_
          refine x_iload_n d_Mo_strips_56 rfl ?_
          refine x_iload d_Mo_strips_57 rfl ?_
          refine w_callV (As := [_, _, _]) d_Mo_strips_59 k_Mo_208 k_model rfl rfl rfl hch ?_
          refine s_istore (lv' := [(0, _), (1, _), (2, _), (3, _), (4, _), (5, _), (6, _), (7, _), (8, _)]) d_Mo_strips_62 (by decide) rfl ?_
          by_cases hq : moCh P s fl x 0 (W - nI x) N = none
          · skip
            rw [if_pos hq] at hZ
            cases hZ
            have hz1 : Z1 = (P, n, W - nI x) := by
              simp only [moStR, hq] at hq1
              exact (Option.some.inj hq1).symm
            subst hz1
            refine x_iload d_Mo_strips_64 rfl ?_
            refine x_if_lt 73 d_Mo_strips_66 rfl (fun hc66 => ?_) (fun q => absurd q (Classical.not_not.mpr (by rw [hq]; decide +kernel)))
            refine x_iconst (v := nI 0) d_Mo_strips_73 (by decide +kernel) ?_
            refine s_istore (lv' := [(0, _), (1, _), (2, _), (3, _), (4, _), (5, _), (6, _), (7, _), (8, _)]) d_Mo_strips_74 (by decide) rfl ?_
            refine x_iload d_Mo_strips_76 rfl ?_
            refine x_if_lt 180 d_Mo_strips_78 rfl (fun hc78 => ?_) (fun q => absurd q (Classical.not_not.mpr (by rw [hq]; decide +kernel)))
            refine x_iload_n d_Mo_strips_180 rfl ?_
            refine x_iload d_Mo_strips_181 rfl ?_
            refine x_iadd d_Mo_strips_183 ?_
            refine s_istore_n (lv' := [(0, _), (1, _), (2, _), (3, _), (4, _), (5, _), (6, _), (7, _), (8, _)]) d_Mo_strips_184 (by decide) rfl ?_
            refine s_iinc (lv' := [(0, _), (1, _), (2, _), (3, _), (4, _), (5, _), (6, _), (7, _), (8, _)]) d_Mo_strips_185 rfl (xinc _) (by decide) rfl ?_
            refine x_goto 33 d_Mo_strips_188 rfl ?_
            refine x_lv (lv' := [(0, _), (1, _), (2, _), (3, _), (4, _)]) [0, 1, 2, 3, 4] rfl ?_
            first | exact hcont | exact strips_end
          · skip
            rw [if_neg hq] at hZ
            have hv0 : ¬ cI (moCh P s fl x 0 (W - nI x) N) < 0 := by
              obtain ⟨v, hv⟩ := Option.ne_none_iff_exists'.mp hq
              rw [hv]
              exact nI_pos (by have := moCh_lt hv; omega)
            refine x_iload d_Mo_strips_64 rfl ?_
            refine x_if_lt 73 d_Mo_strips_66 rfl (fun q => absurd q hv0) (fun hc66 => ?_)
            refine x_iconst (v := nI 1) d_Mo_strips_69 (by decide +kernel) ?_
            refine x_goto 74 d_Mo_strips_70 rfl ?_
            refine s_istore (lv' := [(0, _), (1, _), (2, _), (3, _), (4, _), (5, _), (6, _), (7, _), (8, _)]) d_Mo_strips_74 (by decide) rfl ?_
            have L76 : ∀ k, k ≤ 41 → ∀ P n y row room Z1, moStI P s fl N W n → moStR s fl N c x (41 - k) P n y row room = some Z1 → y < 65536 → row ≤ k → EX G m_Mo_strips (d + 4) 33 [(0, .ref (B + 186)), (1, .int (nI s)), (2, .int (nI x + Z1.2.2)), (3, .int (nI (c + 1))), (4, .int (bI true))] [] (mk G B Z1.1) (xRet G B none Z) → EX G m_Mo_strips (d + 4) 76 [(0, .ref (B + 186)), (1, .int (nI s)), (2, .int (nI x)), (3, .int (nI c)), (4, .int (bI true)), (5, .int (nI y)), (6, .int (nI row)), (7, .int room), (8, .int (cI (moCh P s fl x y room N)))] [] (mk G B P) (xRet G B none Z) := by
              refine x_down (41) ?_ ?_
              · skip
                skip
                intro P n y row room Z1 hI hq1 hy hrk hcont
                rw [Nat.sub_self] at hq1
                cases hq1
              · intro k hk ihk
                intro P n y row room Z1 hI hq1 hy hrk hcont
                rw [show 41 - k = (41 - (k + 1)) + 1 by omega] at hq1
                simp only [moStR] at hq1
                rcases hq2 : moCh P s fl x y room N with _ | v
                · skip
                  rw [hq2] at hq1
                  cases hq1
                  refine x_iload d_Mo_strips_76 rfl ?_
                  refine x_if_lt 180 d_Mo_strips_78 rfl (fun hc78 => ?_) (fun q => absurd q (Classical.not_not.mpr (by decide +kernel)))
                  refine x_iload_n d_Mo_strips_180 rfl ?_
                  refine x_iload d_Mo_strips_181 rfl ?_
                  refine x_iadd d_Mo_strips_183 ?_
                  refine s_istore_n (lv' := [(0, _), (1, _), (2, _), (3, _), (4, _), (5, _), (6, _), (7, _), (8, _)]) d_Mo_strips_184 (by decide) rfl ?_
                  refine s_iinc (lv' := [(0, _), (1, _), (2, _), (3, _), (4, _), (5, _), (6, _), (7, _), (8, _)]) d_Mo_strips_185 rfl (xinc _) (by decide) rfl ?_
                  refine x_goto 33 d_Mo_strips_188 rfl ?_
                  refine x_lv (lv' := [(0, _), (1, _), (2, _), (3, _), (4, _)]) [0, 1, 2, 3, 4] rfl ?_
                  first | exact hcont | exact strips_end
                · skip
                  rw [hq2] at hq1
                  simp only [] at hq1
                  have hv := moCh_lt hq2
                  rw [show cI (some v) = nI v from rfl]
                  have hgd : n < 40 ∧ moY2 (moPl2 P n v c row) n y = nI (moY2 (moPl2 P n v c row) n y).toNatClampNeg ∧ (moY2 (moPl2 P n v c row) n y).toNatClampNeg < 65536 := Classical.byContradiction fun q => by rw [if_neg q] at hq1; cases hq1
                  rw [if_pos hgd] at hq1
                  have hI2 := moPl2_I (v := v) (c := c) (row := row) hI
                  refine x_iload d_Mo_strips_76 rfl ?_
                  refine z_if_lt d_Mo_strips_78 (tgt := 180) rfl (by omega) ?_
                  refine x_aload_n d_Mo_strips_81 rfl ?_
                  refine x_iload d_Mo_strips_82 rfl ?_
                  refine x_iconst (v := nI 2) d_Mo_strips_84 (by decide +kernel) ?_
                  refine x_idiv d_Mo_strips_85 (by decide +kernel) ?_
                  rw [nI_div (by omega) (by decide) (by decide)]
                  refine x_join 99 (.int (bI (decide (v % 2 = 1)))) ?_ (fun J86 => ?_)
                  · skip
                    refine x_iload_n d_Mo_strips_99 rfl ?_
                    refine x_iload d_Mo_strips_100 rfl ?_
                    refine w_callV (As := [_, _, _, _]) d_Mo_strips_102 k_Mo_212 k_model rfl rfl rfl (c_Mo_lay hG hI.2.2.1 hgd.1 (by omega)) ?_
                    refine x_aload_n d_Mo_strips_105 rfl ?_
                    refine y_getf d_Mo_strips_106 gf_Mo_110 k_model rfl ?_
                    refine x_iload d_Mo_strips_109 rfl ?_
                    refine x_iconst (v := nI 2) d_Mo_strips_111 (by decide +kernel) ?_
                    refine x_idiv d_Mo_strips_112 (by decide +kernel) ?_
                    rw [nI_div (by omega) (by decide) (by decide)]
                    refine x_dup2 d_Mo_strips_113 rfl rfl ?_
                    refine y_iald hG d_Mo_strips_114 k_m_taken _ rfl (by omega) ?_
                    refine x_iconst (v := nI 1) d_Mo_strips_115 (by decide +kernel) ?_
                    refine x_iadd d_Mo_strips_116 ?_
                    refine y_iast hG d_Mo_strips_117 k_m_taken _ rfl (by omega) ?_
                    show EX _ _ _ _ _ _ (mk G B (moPl2 P n v c row)) _
                    refine x_join 139 (.int (if row = 0 then sA (moPl2 P n v c row) 216 n else room)) ?_ (fun J118 => ?_)
                    · skip
                      refine s_istore (lv' := [(0, _), (1, _), (2, _), (3, _), (4, _), (5, _), (6, _), (7, _), (8, _)]) d_Mo_strips_139 (by decide) rfl ?_
                      refine x_iload d_Mo_strips_141 rfl ?_
                      refine x_aload_n d_Mo_strips_143 rfl ?_
                      refine y_getf d_Mo_strips_144 gf_Mo_101 k_model rfl ?_
                      refine x_aload_n d_Mo_strips_147 rfl ?_
                      refine y_getf (v := .int (nI (n + 1))) d_Mo_strips_148 gf_Mo_174 k_model (congrArg (fun q => some (Value.int q)) hI2.2.2.1) ?_
                      refine x_iconst (v := nI 1) d_Mo_strips_151 (by decide +kernel) ?_
                      refine x_isub d_Mo_strips_152 ?_
                      rw [pk_sub (by omega), Nat.add_sub_cancel]
                      refine y_iald hG d_Mo_strips_153 k_m_paneH _ rfl (by omega) ?_
                      refine x_iadd d_Mo_strips_154 ?_
                      rw [show nI y + sA (moPl2 P n v c row) 217 n = nI (moY2 (moPl2 P n v c row) n y).toNatClampNeg from hgd.2.1]
                      refine s_istore (lv' := [(0, _), (1, _), (2, _), (3, _), (4, _), (5, _), (6, _), (7, _), (8, _)]) d_Mo_strips_155 (by decide) rfl ?_
                      refine s_iinc (lv' := [(0, _), (1, _), (2, _), (3, _), (4, _), (5, _), (6, _), (7, _), (8, _)]) d_Mo_strips_157 rfl (xinc _) (by decide) rfl ?_
                      refine x_aload_n d_Mo_strips_160 rfl ?_
                      refine x_iload_n d_Mo_strips_161 rfl ?_
                      refine x_sipush (v := nI 8192) d_Mo_strips_162 (by decide +kernel) ?_
                      refine x_iload d_Mo_strips_165 rfl ?_
                      refine x_imul d_Mo_strips_167 ?_
                      rw [nI_mul]
                      refine x_iload_n d_Mo_strips_168 rfl ?_
                      refine x_iadd d_Mo_strips_169 ?_
                      rw [nI_add]
                      refine x_iload d_Mo_strips_170 rfl ?_
                      refine w_callV (As := [_, _, _]) d_Mo_strips_172 k_Mo_208 k_model rfl rfl rfl (c_Mo_choose (S := (moPl2 P n v c row)) hG hI2.2.1 hN6 hs hI2.1 hf6 hx hgd.2.2) ?_
                      refine s_istore (lv' := [(0, _), (1, _), (2, _), (3, _), (4, _), (5, _), (6, _), (7, _), (8, _)]) d_Mo_strips_175 (by decide) rfl ?_
                      refine x_goto 76 d_Mo_strips_177 rfl ?_
                      refine x_lv (lv' := [(0, _), (1, _), (2, _), (3, _), (4, _), (5, _), (6, _), (7, _), (8, _)]) [0, 1, 2, 3, 4, 5, 6, 7, 8] rfl ?_
                      exact ihk _ _ _ _ _ _ hI2 hq1 hgd.2.2 (by omega) hcont
                    · skip
                      refine x_iload d_Mo_strips_118 rfl ?_
                      refine z_if_ne 137 d_Mo_strips_120 rfl (by omega) (fun hc120 => ?_) (fun hc120 => ?_)
                      · skip
                        skip
                        refine x_iload d_Mo_strips_137 rfl ?_
                        refine J118 _ ?_
                        first
                          | (rw [if_pos hc120]; done)
                          | (rw [if_neg hc120]; done)
                      · skip
                        skip
                        refine x_aload_n d_Mo_strips_123 rfl ?_
                        refine y_getf d_Mo_strips_124 gf_Mo_98 k_model rfl ?_
                        refine x_aload_n d_Mo_strips_127 rfl ?_
                        refine y_getf (v := .int (nI (n + 1))) d_Mo_strips_128 gf_Mo_174 k_model (congrArg (fun q => some (Value.int q)) hI2.2.2.1) ?_
                        refine x_iconst (v := nI 1) d_Mo_strips_131 (by decide +kernel) ?_
                        refine x_isub d_Mo_strips_132 ?_
                        rw [pk_sub (by omega), Nat.add_sub_cancel]
                        refine y_iald hG d_Mo_strips_133 k_m_paneW _ rfl (by omega) ?_
                        refine x_goto 139 d_Mo_strips_134 rfl ?_
                        refine J118 _ ?_
                        first
                          | (rw [if_pos hc120]; done)
                          | (rw [if_neg hc120]; done)
                  · skip
                    refine x_iload d_Mo_strips_86 rfl ?_
                    refine x_iconst (v := nI 2) d_Mo_strips_88 (by decide +kernel) ?_
                    refine x_irem d_Mo_strips_89 (by decide +kernel) ?_
                    rw [nI_rem (by omega) (by decide) (by decide)]
                    refine x_iconst (v := nI 1) d_Mo_strips_90 (by decide +kernel) ?_
                    refine z_icmp_ne 98 d_Mo_strips_91 rfl (by omega) (by omega) (fun hc91 => ?_) (fun hc91 => ?_)
                    · skip
                      skip
                      refine x_iconst (v := nI 0) d_Mo_strips_98 (by decide +kernel) ?_
                      refine J86 _ ?_
                      first
                        | (rw [decide_eq_true hc91]; rfl)
                        | (rw [decide_eq_false hc91]; rfl)
                    · skip
                      skip
                      refine x_iconst (v := nI 1) d_Mo_strips_94 (by decide +kernel) ?_
                      refine x_goto 99 d_Mo_strips_95 rfl ?_
                      refine J86 _ ?_
                      first
                        | (rw [decide_eq_true hc91]; rfl)
                        | (rw [decide_eq_false hc91]; rfl)
            refine x_lv (lv' := [(0, _), (1, _), (2, _), (3, _), (4, _), (5, _), (6, _), (7, _), (8, _)]) [0, 1, 2, 3, 4, 5, 6, 7, 8] rfl ?_
            refine L76 0 (Nat.zero_le _) P n 0 0 (W - nI x) Z1 hI hq1 (by decide) (Nat.le_refl _) ?_
            split at hZ
            · rename_i hx2
              rw [hx2]
              exact ihf _ _ _ _ (moStR_I hI hq1) hZ
            · cases hZ
      refine x_lv (lv' := [(0, _), (1, _), (2, _), (3, _), (4, _)]) [0, 1, 2, 3, 4] rfl ?_
      exact L33 0 (Nat.zero_le _) _ 0 0 0 (by rw [← hW]; exact moTk_I hfl hN 6) hZ
    · intro i hi ih
      refine x_iload_n d_Mo_strips_7 rfl ?_
      refine x_bipush (v := nI 6) d_Mo_strips_8 (by decide +kernel) ?_
      refine z_icmp_ge 26 d_Mo_strips_10 rfl (by omega) (by omega) (fun q => absurd q (by omega)) (fun hc10 => ?_)
      refine x_aload_n d_Mo_strips_13 rfl ?_
      refine y_getf d_Mo_strips_14 gf_Mo_110 k_model rfl ?_
      refine x_iload_n d_Mo_strips_17 rfl ?_
      refine x_iconst (v := nI 0) d_Mo_strips_18 (by decide +kernel) ?_
      refine y_iast hG d_Mo_strips_19 k_m_taken _ rfl (by omega) ?_
      refine s_iinc (lv' := [(0, _), (1, _), (2, _)]) d_Mo_strips_20 rfl (xinc _) (by decide) rfl ?_
      refine x_goto 7 d_Mo_strips_23 rfl ?_
      refine x_lv (lv' := [(0, _), (1, _), (2, _)]) [0, 1, 2] rfl ?_
      exact ih
  refine x_lv (lv' := [(0, _), (1, _), (2, _)]) [0, 1, 2] rfl ?_
  exact L7 0 (Nat.zero_le _)
