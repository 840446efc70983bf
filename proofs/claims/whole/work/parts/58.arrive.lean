/-! the reference's offcuts -/
def moL (S : xS) (s n k : Nat) : Int32 := mx (sA S 197 n) (sA S 194 (24 * s + 4 * k))
def moLo (S : xS) (s n k : Nat) : Int32 := mx (sA S 198 n) (sA S 194 (24 * s + 4 * k + 1))
def moRi (S : xS) (s n k : Nat) : Int32 := mn (sA S 197 n + sA S 199 n) (sA S 194 (24 * s + 4 * k) + sA S 194 (24 * s + 4 * k + 2))
def moHi (S : xS) (s n k : Nat) : Int32 := mn (sA S 198 n + sA S 200 n) (sA S 194 (24 * s + 4 * k + 1) + sA S 194 (24 * s + 4 * k + 3))
def moStA (P S : xS) (o n s k m : Nat) : xS := uA (uA (uA (uA (uA P 214 (24 * o + 4 * m) (moL S s n k - sA S 197 n)) 214 (24 * o + 4 * m + 1) (moLo S s n k - sA S 198 n)) 214 (24 * o + 4 * m + 2) (moRi S s n k - moL S s n k)) 214 (24 * o + 4 * m + 3) (moHi S s n k - moLo S s n k)) 213 o (nI (m + 1))
def moSt0 (S : xS) (o n : Nat) : xS := uA (uA (uA S 211 o (sA S 199 n)) 212 o (sA S 200 n)) 213 o (nI 0)
def moStL (S : xS) (o n s : Nat) : Nat → xS × Nat
  | 0 => (moSt0 S o n, 0)
  | k + 1 => if moMeets S s k (sA S 197 n) (sA S 198 n) (sA S 199 n) (sA S 200 n) = true then (moStA (moStL S o n s k).1 S o n s k (moStL S o n s k).2, (moStL S o n s k).2 + 1) else moStL S o n s k
def moStore (S : xS) (o n s fl : Nat) : xS := uF (moStL S o n s fl).1 186 27 (nI (o + 1))
theorem moStL_K {S : xS} {o n s : Nat} : ∀ k, sK 211 215 S (moStL S o n s k).1 ∧ sA (moStL S o n s k).1 213 o = nI (moStL S o n s k).2 ∧ (moStL S o n s k).2 ≤ k ∧ sF (moStL S o n s k).1 = sF S
  | 0 => ⟨((sK.rf.A (by omega)).A (by omega)).A (by omega), by show sA (moSt0 S o n) 213 o = _; unfold moSt0; rw [sA_uA, va_up_self]; rfl, Nat.le_refl _, rfl⟩
  | k + 1 => by
    obtain ⟨h1, h2, h3, h4⟩ := moStL_K (S := S) (o := o) (n := n) (s := s) k
    by_cases e : moMeets S s k (sA S 197 n) (sA S 198 n) (sA S 199 n) (sA S 200 n) = true
    · rw [show moStL S o n s (k + 1) = (moStA (moStL S o n s k).1 S o n s k (moStL S o n s k).2, (moStL S o n s k).2 + 1) from if_pos e]
      refine ⟨((((h1.A (by omega)).A (by omega)).A (by omega)).A (by omega)).A (by omega), ?_, by show (moStL S o n s k).2 + 1 ≤ k + 1; omega, h4⟩
      show sA (moStA _ S o n s k _) 213 o = _
      unfold moStA
      rw [sA_uA, va_up_self]
    · rw [show moStL S o n s (k + 1) = moStL S o n s k from if_neg e]
      exact ⟨h1, h2, by omega, h4⟩
theorem moMeets_c {S P : xS} {s k : Nat} {x y w h : Int32} (e : sA P 194 = sA S 194) : moMeets P s k x y w h = moMeets S s k x y w h := by unfold moMeets; rw [e]
set_option maxRecDepth 100000 in
set_option maxHeartbeats 1000000 in
theorem c_Mo_store {G : xG} {B d : Nat} {S : xS} (hG : xOkG G) {s n o fl : Nat} (hs : s < 8) (hn : n < 1280) (ho : sF S 186 27 = nI o) (ho10 : o < 10) (hfl : sA S 193 s = nI fl) (hf6 : fl ≤ 6) : EX G m_Mo_store (d + 2) 0 [(0, .ref (B + 186)), (1, .int (nI s)), (2, .int (nI n))] [] (mk G B S) (xRet G B none (moStore S o n s fl)) := by
  refine x_aload_n d_Mo_store_0 rfl ?_
  refine y_getf (v := .int (nI o)) d_Mo_store_1 gf_Mo_263 k_model (congrArg (fun q => some (Value.int q)) ho) ?_
  refine s_istore_n (lv' := [(0, _), (1, _), (2, _), (3, _)]) d_Mo_store_4 (by decide) rfl ?_
  refine x_aload_n d_Mo_store_5 rfl ?_
  refine y_getf d_Mo_store_6 gf_Mo_83 k_model rfl ?_
  refine x_iload_n d_Mo_store_9 rfl ?_
  refine x_aload_n d_Mo_store_10 rfl ?_
  refine y_getf d_Mo_store_11 gf_Mo_47 k_model rfl ?_
  refine x_iload_n d_Mo_store_14 rfl ?_
  refine y_iald hG d_Mo_store_15 k_m_ws _ rfl (by omega) ?_
  refine y_iast hG d_Mo_store_16 k_m_offW _ rfl (by omega) ?_
  refine x_aload_n d_Mo_store_17 rfl ?_
  refine y_getf d_Mo_store_18 gf_Mo_86 k_model rfl ?_
  refine x_iload_n d_Mo_store_21 rfl ?_
  refine x_aload_n d_Mo_store_22 rfl ?_
  refine y_getf d_Mo_store_23 gf_Mo_50 k_model rfl ?_
  refine x_iload_n d_Mo_store_26 rfl ?_
  refine y_iald hG d_Mo_store_27 k_m_hs _ rfl (by omega) ?_
  rw [sA_uAn _ _ _ (by decide)]
  refine y_iast hG d_Mo_store_28 k_m_offH _ rfl (by omega) ?_
  refine x_aload_n d_Mo_store_29 rfl ?_
  refine y_getf d_Mo_store_30 gf_Mo_89 k_model rfl ?_
  refine x_iload_n d_Mo_store_33 rfl ?_
  refine x_iconst (v := nI 0) d_Mo_store_34 (by decide +kernel) ?_
  refine y_iast hG d_Mo_store_35 k_m_offFlawCounts _ rfl (by omega) ?_
  refine x_iconst (v := nI 0) d_Mo_store_36 (by decide +kernel) ?_
  refine s_istore (lv' := [(0, _), (1, _), (2, _), (3, _), (4, _)]) d_Mo_store_37 (by decide) rfl ?_
  have L39 : ∀ i, i ≤ fl →  EX G m_Mo_store (d + 2) 39 [(0, .ref (B + 186)), (1, .int (nI s)), (2, .int (nI n)), (3, .int (nI o)), (4, .int (nI i))] [] (mk G B (moStL S o n s i).1) (xRet G B none (moStore S o n s fl)) := by
    refine x_down (fl) ?_ ?_
    · skip
      have hL := moStL_K (S := S) (o := o) (n := n) (s := s) fl
      have hA : ∀ q, q < 211 → sA (moStL S o n s fl).1 q = sA S q := fun q hq => (hL.1.1 q (by omega)).2.1
      refine x_iload d_Mo_store_39 rfl ?_
      refine x_aload_n d_Mo_store_41 rfl ?_
      refine y_getf d_Mo_store_42 gf_Mo_29 k_model rfl ?_
      refine x_iload_n d_Mo_store_45 rfl ?_
      refine y_iald hG d_Mo_store_46 k_m_flawCounts _ rfl (by omega) ?_
      rw [hA 193 (by decide), hfl]
      refine z_icmp_ge 376 d_Mo_store_47 rfl (by omega) (by omega) (fun hc47 => ?_) (fun q => absurd q (by omega))
      refine x_aload_n d_Mo_store_376 rfl ?_
      refine x_dup d_Mo_store_377 rfl ?_
      refine y_getf (v := .int (nI o)) d_Mo_store_378 gf_Mo_263 k_model (congrArg (fun q => some (Value.int q)) (by rw [hL.2.2.2]; exact ho)) ?_
      refine x_iconst (v := nI 1) d_Mo_store_381 (by decide +kernel) ?_
      refine x_iadd d_Mo_store_382 ?_
      rw [nI_add]
      refine y_puti d_Mo_store_383 pf_Mo_263 k_model (xBle rfl) rfl rfl rfl ?_
      refine x_return d_Mo_store_386 rfl ?_
      exact ⟨rfl, rfl⟩
    · intro i hi ih
      have hL := moStL_K (S := S) (o := o) (n := n) (s := s) i
      have hA : ∀ q, q < 211 → sA (moStL S o n s i).1 q = sA S q := fun q hq => (hL.1.1 q (by omega)).2.1
      have hm := hL.2.2.1
      generalize hM : (moStL S o n s i).2 = m at hL hm
      refine x_iload d_Mo_store_39 rfl ?_
      refine x_aload_n d_Mo_store_41 rfl ?_
      refine y_getf d_Mo_store_42 gf_Mo_29 k_model rfl ?_
      refine x_iload_n d_Mo_store_45 rfl ?_
      refine y_iald hG d_Mo_store_46 k_m_flawCounts _ rfl (by omega) ?_
      rw [hA 193 (by decide), hfl]
      refine z_icmp_ge 376 d_Mo_store_47 rfl (by omega) (by omega) (fun q => absurd q (by omega)) (fun hc47 => ?_)
      refine x_aload_n d_Mo_store_50 rfl ?_
      refine x_iload_n d_Mo_store_51 rfl ?_
      refine x_iload d_Mo_store_52 rfl ?_
      refine x_aload_n d_Mo_store_54 rfl ?_
      refine y_getf d_Mo_store_55 gf_Mo_41 k_model rfl ?_
      refine x_iload_n d_Mo_store_58 rfl ?_
      refine y_iald hG d_Mo_store_59 k_m_xs _ rfl (by omega) ?_
      rw [hA 197 (by decide)]
      refine x_aload_n d_Mo_store_60 rfl ?_
      refine y_getf d_Mo_store_61 gf_Mo_44 k_model rfl ?_
      refine x_iload_n d_Mo_store_64 rfl ?_
      refine y_iald hG d_Mo_store_65 k_m_ys _ rfl (by omega) ?_
      rw [hA 198 (by decide)]
      refine x_aload_n d_Mo_store_66 rfl ?_
      refine y_getf d_Mo_store_67 gf_Mo_47 k_model rfl ?_
      refine x_iload_n d_Mo_store_70 rfl ?_
      refine y_iald hG d_Mo_store_71 k_m_ws _ rfl (by omega) ?_
      rw [hA 199 (by decide)]
      refine x_aload_n d_Mo_store_72 rfl ?_
      refine y_getf d_Mo_store_73 gf_Mo_50 k_model rfl ?_
      refine x_iload_n d_Mo_store_76 rfl ?_
      refine y_iald hG d_Mo_store_77 k_m_hs _ rfl (by omega) ?_
      rw [hA 200 (by decide)]
      refine w_callV (As := [_, _, _, _, _, _]) d_Mo_store_78 k_Mo_196 k_model rfl rfl rfl (c_Mo_meets hG (by omega) (by omega) (by omega)) ?_
      rw [moMeets_c (hA 194 (by decide))]
      refine z_bif_eq 370 d_Mo_store_81 rfl (fun hc81 => ?_) (fun hc81 => ?_)
      · skip
        rw [show moStL S o n s (i + 1) = moStL S o n s i from if_neg (by rw [hc81]; decide)] at ih
        refine s_iinc (lv' := [(0, _), (1, _), (2, _), (3, _), (4, _)]) d_Mo_store_370 rfl (xinc _) (by decide) rfl ?_
        refine x_goto 39 d_Mo_store_373 rfl ?_
        refine x_lv (lv' := [(0, _), (1, _), (2, _), (3, _), (4, _)]) [0, 1, 2, 3, 4] rfl ?_
        exact ih
      · skip
        rw [show moStL S o n s (i + 1) = (moStA (moStL S o n s i).1 S o n s i (moStL S o n s i).2, (moStL S o n s i).2 + 1) from if_pos hc81, hM] at ih
        refine x_bipush (v := nI 24) d_Mo_store_84 (by decide +kernel) ?_
        refine x_iload_n d_Mo_store_86 rfl ?_
        refine x_imul d_Mo_store_87 ?_
        rw [nI_mul]
        refine x_iconst (v := nI 4) d_Mo_store_88 (by decide +kernel) ?_
        refine x_iload d_Mo_store_89 rfl ?_
        refine x_imul d_Mo_store_91 ?_
        rw [nI_mul]
        refine x_iadd d_Mo_store_92 ?_
        rw [nI_add]
        refine s_istore (lv' := [(0, _), (1, _), (2, _), (3, _), (4, _), (5, _)]) d_Mo_store_93 (by decide) rfl ?_
        refine x_bipush (v := nI 24) d_Mo_store_95 (by decide +kernel) ?_
        refine x_iload_n d_Mo_store_97 rfl ?_
        refine x_imul d_Mo_store_98 ?_
        rw [nI_mul]
        refine x_iconst (v := nI 4) d_Mo_store_99 (by decide +kernel) ?_
        refine x_aload_n d_Mo_store_100 rfl ?_
        refine y_getf d_Mo_store_101 gf_Mo_89 k_model rfl ?_
        refine x_iload_n d_Mo_store_104 rfl ?_
        refine y_iald hG d_Mo_store_105 k_m_offFlawCounts _ rfl (by omega) ?_
        rw [hL.2.1]
        refine x_imul d_Mo_store_106 ?_
        rw [nI_mul]
        refine x_iadd d_Mo_store_107 ?_
        rw [nI_add]
        refine s_istore (lv' := [(0, _), (1, _), (2, _), (3, _), (4, _), (5, _), (6, _)]) d_Mo_store_108 (by decide) rfl ?_
        refine x_join 142 (.int (moL S s n i)) ?_ (fun J110 => ?_)
        · skip
          refine s_istore (lv' := [(0, _), (1, _), (2, _), (3, _), (4, _), (5, _), (6, _), (7, _)]) d_Mo_store_142 (by decide) rfl ?_
          refine x_join 180 (.int (moLo S s n i)) ?_ (fun J144 => ?_)
          · skip
            refine s_istore (lv' := [(0, _), (1, _), (2, _), (3, _), (4, _), (5, _), (6, _), (7, _), (8, _)]) d_Mo_store_180 (by decide) rfl ?_
            refine x_aload_n d_Mo_store_182 rfl ?_
            refine y_getf d_Mo_store_183 gf_Mo_32 k_model rfl ?_
            refine x_iload d_Mo_store_186 rfl ?_
            refine y_iald hG d_Mo_store_188 k_m_flaws _ rfl (by omega) ?_
            rw [hA 194 (by decide)]
            refine x_aload_n d_Mo_store_189 rfl ?_
            refine y_getf d_Mo_store_190 gf_Mo_32 k_model rfl ?_
            refine x_iload d_Mo_store_193 rfl ?_
            refine x_iconst (v := nI 2) d_Mo_store_195 (by decide +kernel) ?_
            refine x_iadd d_Mo_store_196 ?_
            rw [nI_add]
            refine y_iald hG d_Mo_store_197 k_m_flaws _ rfl (by omega) ?_
            rw [hA 194 (by decide)]
            refine x_iadd d_Mo_store_198 ?_
            refine s_istore (lv' := [(0, _), (1, _), (2, _), (3, _), (4, _), (5, _), (6, _), (7, _), (8, _), (9, _)]) d_Mo_store_199 (by decide) rfl ?_
            refine x_aload_n d_Mo_store_201 rfl ?_
            refine y_getf d_Mo_store_202 gf_Mo_32 k_model rfl ?_
            refine x_iload d_Mo_store_205 rfl ?_
            refine x_iconst (v := nI 1) d_Mo_store_207 (by decide +kernel) ?_
            refine x_iadd d_Mo_store_208 ?_
            rw [nI_add]
            refine y_iald hG d_Mo_store_209 k_m_flaws _ rfl (by omega) ?_
            rw [hA 194 (by decide)]
            refine x_aload_n d_Mo_store_210 rfl ?_
            refine y_getf d_Mo_store_211 gf_Mo_32 k_model rfl ?_
            refine x_iload d_Mo_store_214 rfl ?_
            refine x_iconst (v := nI 3) d_Mo_store_216 (by decide +kernel) ?_
            refine x_iadd d_Mo_store_217 ?_
            rw [nI_add]
            refine y_iald hG d_Mo_store_218 k_m_flaws _ rfl (by omega) ?_
            rw [hA 194 (by decide)]
            refine x_iadd d_Mo_store_219 ?_
            refine s_istore (lv' := [(0, _), (1, _), (2, _), (3, _), (4, _), (5, _), (6, _), (7, _), (8, _), (9, _), (10, _)]) d_Mo_store_220 (by decide) rfl ?_
            refine x_join 258 (.int (moRi S s n i)) ?_ (fun J222 => ?_)
            · skip
              refine s_istore (lv' := [(0, _), (1, _), (2, _), (3, _), (4, _), (5, _), (6, _), (7, _), (8, _), (9, _), (10, _)]) d_Mo_store_258 (by decide) rfl ?_
              refine x_join 296 (.int (moHi S s n i)) ?_ (fun J260 => ?_)
              · skip
                refine s_istore (lv' := [(0, _), (1, _), (2, _), (3, _), (4, _), (5, _), (6, _), (7, _), (8, _), (9, _), (10, _)]) d_Mo_store_296 (by decide) rfl ?_
                refine x_aload_n d_Mo_store_298 rfl ?_
                refine y_getf d_Mo_store_299 gf_Mo_92 k_model rfl ?_
                refine x_iload d_Mo_store_302 rfl ?_
                refine x_iload d_Mo_store_304 rfl ?_
                refine x_aload_n d_Mo_store_306 rfl ?_
                refine y_getf d_Mo_store_307 gf_Mo_41 k_model rfl ?_
                refine x_iload_n d_Mo_store_310 rfl ?_
                refine y_iald hG d_Mo_store_311 k_m_xs _ rfl (by omega) ?_
                rw [hA 197 (by decide)]
                refine x_isub d_Mo_store_312 ?_
                refine y_iast hG d_Mo_store_313 k_m_offFlaws _ rfl (by omega) ?_
                refine x_aload_n d_Mo_store_314 rfl ?_
                refine y_getf d_Mo_store_315 gf_Mo_92 k_model rfl ?_
                refine x_iload d_Mo_store_318 rfl ?_
                refine x_iconst (v := nI 1) d_Mo_store_320 (by decide +kernel) ?_
                refine x_iadd d_Mo_store_321 ?_
                rw [nI_add]
                refine x_iload d_Mo_store_322 rfl ?_
                refine x_aload_n d_Mo_store_324 rfl ?_
                refine y_getf d_Mo_store_325 gf_Mo_44 k_model rfl ?_
                refine x_iload_n d_Mo_store_328 rfl ?_
                refine y_iald hG d_Mo_store_329 k_m_ys _ rfl (by omega) ?_
                rw [sA_uAn _ _ _ (by decide), hA 198 (by decide)]
                refine x_isub d_Mo_store_330 ?_
                refine y_iast hG d_Mo_store_331 k_m_offFlaws _ rfl (by omega) ?_
                refine x_aload_n d_Mo_store_332 rfl ?_
                refine y_getf d_Mo_store_333 gf_Mo_92 k_model rfl ?_
                refine x_iload d_Mo_store_336 rfl ?_
                refine x_iconst (v := nI 2) d_Mo_store_338 (by decide +kernel) ?_
                refine x_iadd d_Mo_store_339 ?_
                rw [nI_add]
                refine x_iload d_Mo_store_340 rfl ?_
                refine x_iload d_Mo_store_342 rfl ?_
                refine x_isub d_Mo_store_344 ?_
                refine y_iast hG d_Mo_store_345 k_m_offFlaws _ rfl (by omega) ?_
                refine x_aload_n d_Mo_store_346 rfl ?_
                refine y_getf d_Mo_store_347 gf_Mo_92 k_model rfl ?_
                refine x_iload d_Mo_store_350 rfl ?_
                refine x_iconst (v := nI 3) d_Mo_store_352 (by decide +kernel) ?_
                refine x_iadd d_Mo_store_353 ?_
                rw [nI_add]
                refine x_iload d_Mo_store_354 rfl ?_
                refine x_iload d_Mo_store_356 rfl ?_
                refine x_isub d_Mo_store_358 ?_
                refine y_iast hG d_Mo_store_359 k_m_offFlaws _ rfl (by omega) ?_
                refine x_aload_n d_Mo_store_360 rfl ?_
                refine y_getf d_Mo_store_361 gf_Mo_89 k_model rfl ?_
                refine x_iload_n d_Mo_store_364 rfl ?_
                refine x_dup2 d_Mo_store_365 rfl rfl ?_
                refine y_iald hG d_Mo_store_366 k_m_offFlawCounts _ rfl (by omega) ?_
                rw [sA_uAn _ _ _ (by decide), sA_uAn _ _ _ (by decide), sA_uAn _ _ _ (by decide), sA_uAn _ _ _ (by decide), hL.2.1]
                refine x_iconst (v := nI 1) d_Mo_store_367 (by decide +kernel) ?_
                refine x_iadd d_Mo_store_368 ?_
                rw [nI_add]
                refine y_iast hG d_Mo_store_369 k_m_offFlawCounts _ rfl (by omega) ?_
                refine s_iinc (lv' := [(0, _), (1, _), (2, _), (3, _), (4, _), (5, _), (6, _), (7, _), (8, _), (9, _), (10, _)]) d_Mo_store_370 rfl (xinc _) (by decide) rfl ?_
                refine x_goto 39 d_Mo_store_373 rfl ?_
                refine x_lv (lv' := [(0, _), (1, _), (2, _), (3, _), (4, _)]) [0, 1, 2, 3, 4] rfl ?_
                exact ih
              · skip
                refine x_iload d_Mo_store_260 rfl ?_
                refine x_aload_n d_Mo_store_262 rfl ?_
                refine y_getf d_Mo_store_263 gf_Mo_44 k_model rfl ?_
                refine x_iload_n d_Mo_store_266 rfl ?_
                refine y_iald hG d_Mo_store_267 k_m_ys _ rfl (by omega) ?_
                rw [hA 198 (by decide)]
                refine x_aload_n d_Mo_store_268 rfl ?_
                refine y_getf d_Mo_store_269 gf_Mo_50 k_model rfl ?_
                refine x_iload_n d_Mo_store_272 rfl ?_
                refine y_iald hG d_Mo_store_273 k_m_hs _ rfl (by omega) ?_
                rw [hA 200 (by decide)]
                refine x_iadd d_Mo_store_274 ?_
                refine x_icmp_ge 283 d_Mo_store_275 rfl (fun hc275 => ?_) (fun hc275 => ?_)
                · skip
                  skip
                  refine x_aload_n d_Mo_store_283 rfl ?_
                  refine y_getf d_Mo_store_284 gf_Mo_44 k_model rfl ?_
                  refine x_iload_n d_Mo_store_287 rfl ?_
                  refine y_iald hG d_Mo_store_288 k_m_ys _ rfl (by omega) ?_
                  rw [hA 198 (by decide)]
                  refine x_aload_n d_Mo_store_289 rfl ?_
                  refine y_getf d_Mo_store_290 gf_Mo_50 k_model rfl ?_
                  refine x_iload_n d_Mo_store_293 rfl ?_
                  refine y_iald hG d_Mo_store_294 k_m_hs _ rfl (by omega) ?_
                  rw [hA 200 (by decide)]
                  refine x_iadd d_Mo_store_295 ?_
                  refine J260 _ ?_
                  unfold moHi mn
                  first
                    | (rw [if_pos (Int32.not_le.mp hc275)]; done)
                    | (rw [if_neg (Int32.not_lt.mpr hc275)]; done)
                · skip
                  skip
                  refine x_iload d_Mo_store_278 rfl ?_
                  refine x_goto 296 d_Mo_store_280 rfl ?_
                  refine J260 _ ?_
                  unfold moHi mn
                  first
                    | (rw [if_pos (Int32.not_le.mp hc275)]; done)
                    | (rw [if_neg (Int32.not_lt.mpr hc275)]; done)
            · skip
              refine x_iload d_Mo_store_222 rfl ?_
              refine x_aload_n d_Mo_store_224 rfl ?_
              refine y_getf d_Mo_store_225 gf_Mo_41 k_model rfl ?_
              refine x_iload_n d_Mo_store_228 rfl ?_
              refine y_iald hG d_Mo_store_229 k_m_xs _ rfl (by omega) ?_
              rw [hA 197 (by decide)]
              refine x_aload_n d_Mo_store_230 rfl ?_
              refine y_getf d_Mo_store_231 gf_Mo_47 k_model rfl ?_
              refine x_iload_n d_Mo_store_234 rfl ?_
              refine y_iald hG d_Mo_store_235 k_m_ws _ rfl (by omega) ?_
              rw [hA 199 (by decide)]
              refine x_iadd d_Mo_store_236 ?_
              refine x_icmp_ge 245 d_Mo_store_237 rfl (fun hc237 => ?_) (fun hc237 => ?_)
              · skip
                skip
                refine x_aload_n d_Mo_store_245 rfl ?_
                refine y_getf d_Mo_store_246 gf_Mo_41 k_model rfl ?_
                refine x_iload_n d_Mo_store_249 rfl ?_
                refine y_iald hG d_Mo_store_250 k_m_xs _ rfl (by omega) ?_
                rw [hA 197 (by decide)]
                refine x_aload_n d_Mo_store_251 rfl ?_
                refine y_getf d_Mo_store_252 gf_Mo_47 k_model rfl ?_
                refine x_iload_n d_Mo_store_255 rfl ?_
                refine y_iald hG d_Mo_store_256 k_m_ws _ rfl (by omega) ?_
                rw [hA 199 (by decide)]
                refine x_iadd d_Mo_store_257 ?_
                refine J222 _ ?_
                unfold moRi mn
                first
                  | (rw [if_pos (Int32.not_le.mp hc237)]; done)
                  | (rw [if_neg (Int32.not_lt.mpr hc237)]; done)
              · skip
                skip
                refine x_iload d_Mo_store_240 rfl ?_
                refine x_goto 258 d_Mo_store_242 rfl ?_
                refine J222 _ ?_
                unfold moRi mn
                first
                  | (rw [if_pos (Int32.not_le.mp hc237)]; done)
                  | (rw [if_neg (Int32.not_lt.mpr hc237)]; done)
          · skip
            refine x_aload_n d_Mo_store_144 rfl ?_
            refine y_getf d_Mo_store_145 gf_Mo_32 k_model rfl ?_
            refine x_iload d_Mo_store_148 rfl ?_
            refine x_iconst (v := nI 1) d_Mo_store_150 (by decide +kernel) ?_
            refine x_iadd d_Mo_store_151 ?_
            rw [nI_add]
            refine y_iald hG d_Mo_store_152 k_m_flaws _ rfl (by omega) ?_
            rw [hA 194 (by decide)]
            refine x_aload_n d_Mo_store_153 rfl ?_
            refine y_getf d_Mo_store_154 gf_Mo_44 k_model rfl ?_
            refine x_iload_n d_Mo_store_157 rfl ?_
            refine y_iald hG d_Mo_store_158 k_m_ys _ rfl (by omega) ?_
            rw [hA 198 (by decide)]
            refine x_icmp_le 174 d_Mo_store_159 rfl (fun hc159 => ?_) (fun hc159 => ?_)
            · skip
              skip
              refine x_aload_n d_Mo_store_174 rfl ?_
              refine y_getf d_Mo_store_175 gf_Mo_44 k_model rfl ?_
              refine x_iload_n d_Mo_store_178 rfl ?_
              refine y_iald hG d_Mo_store_179 k_m_ys _ rfl (by omega) ?_
              rw [hA 198 (by decide)]
              refine J144 _ ?_
              unfold moLo
              first
                | (rw [mx_le hc159]; done)
                | (rw [mx_gt hc159]; done)
            · skip
              skip
              refine x_aload_n d_Mo_store_162 rfl ?_
              refine y_getf d_Mo_store_163 gf_Mo_32 k_model rfl ?_
              refine x_iload d_Mo_store_166 rfl ?_
              refine x_iconst (v := nI 1) d_Mo_store_168 (by decide +kernel) ?_
              refine x_iadd d_Mo_store_169 ?_
              rw [nI_add]
              refine y_iald hG d_Mo_store_170 k_m_flaws _ rfl (by omega) ?_
              rw [hA 194 (by decide)]
              refine x_goto 180 d_Mo_store_171 rfl ?_
              refine J144 _ ?_
              unfold moLo
              first
                | (rw [mx_le hc159]; done)
                | (rw [mx_gt hc159]; done)
        · skip
          refine x_aload_n d_Mo_store_110 rfl ?_
          refine y_getf d_Mo_store_111 gf_Mo_32 k_model rfl ?_
          refine x_iload d_Mo_store_114 rfl ?_
          refine y_iald hG d_Mo_store_116 k_m_flaws _ rfl (by omega) ?_
          rw [hA 194 (by decide)]
          refine x_aload_n d_Mo_store_117 rfl ?_
          refine y_getf d_Mo_store_118 gf_Mo_41 k_model rfl ?_
          refine x_iload_n d_Mo_store_121 rfl ?_
          refine y_iald hG d_Mo_store_122 k_m_xs _ rfl (by omega) ?_
          rw [hA 197 (by decide)]
          refine x_icmp_le 136 d_Mo_store_123 rfl (fun hc123 => ?_) (fun hc123 => ?_)
          · skip
            skip
            refine x_aload_n d_Mo_store_136 rfl ?_
            refine y_getf d_Mo_store_137 gf_Mo_41 k_model rfl ?_
            refine x_iload_n d_Mo_store_140 rfl ?_
            refine y_iald hG d_Mo_store_141 k_m_xs _ rfl (by omega) ?_
            rw [hA 197 (by decide)]
            refine J110 _ ?_
            unfold moL
            first
              | (rw [mx_le hc123]; done)
              | (rw [mx_gt hc123]; done)
          · skip
            skip
            refine x_aload_n d_Mo_store_126 rfl ?_
            refine y_getf d_Mo_store_127 gf_Mo_32 k_model rfl ?_
            refine x_iload d_Mo_store_130 rfl ?_
            refine y_iald hG d_Mo_store_132 k_m_flaws _ rfl (by omega) ?_
            rw [hA 194 (by decide)]
            refine x_goto 142 d_Mo_store_133 rfl ?_
            refine J110 _ ?_
            unfold moL
            first
              | (rw [mx_le hc123]; done)
              | (rw [mx_gt hc123]; done)
  refine x_lv (lv' := [(0, _), (1, _), (2, _), (3, _), (4, _)]) [0, 1, 2, 3, 4] rfl ?_
  exact L39 0 (Nat.zero_le _)
def moAr (S : xS) (n : Nat) : Int64 := (sA S 199 n).toInt64 * (sA S 200 n).toInt64
def moA1 (S : xS) (n : Nat) : xS := uA S 204 n (if sA S 196 n < nI 2 then nI 1 else nI 2)
def moArr (S : xS) (s n R fl : Nat) : xS :=
  if sA S 196 n = nI 2 then uJ (uA (uA (moA1 S n) 209 (sA S 201 n).toNatClampNeg (sA S 209 (sA S 201 n).toNatClampNeg - nI 1)) 210 (sA S 201 n).toNatClampNeg (sA S 210 (sA S 201 n).toNatClampNeg + nI 1)) 186 32 (sJ S 186 32 + moAr S n)
  else if sA S 196 n = nI 3 then (if nI 300 ≤ sA S 199 n ∧ nI 300 ≤ sA S 200 n ∧ R < 10 then moStore (moA1 S n) R n s fl else uJ (moA1 S n) 186 33 (sJ S 186 33 + moAr S n)) else moA1 S n
theorem moA1_A {S : xS} {n q : Nat} (h : q ≠ 204) : sA (moA1 S n) q = sA S q := sA_uAn _ _ _ h
set_option maxRecDepth 100000 in
set_option maxHeartbeats 1000000 in
theorem c_Mo_arrive {G : xG} {B d : Nat} {S : xS} (hG : xOkG G) {s n R fl N : Nat} (hs : s < 8) (hn : n < 1280) (hR : sF S 186 27 = nI R) (hR10 : R ≤ 10) (hfl : sA S 193 s = nI fl) (hf6 : fl ≤ 6) (hN6 : N ≤ 6) (hmk : sA S 196 n = nI 2 → ∃ x, x < N ∧ sA S 201 n = nI x) : EX G m_Mo_arrive (d + 3) 0 [(0, .ref (B + 186)), (1, .int (nI s)), (2, .int (nI n))] [] (mk G B S) (xRet G B none (moArr S s n R fl)) := by
  refine x_aload_n d_Mo_arrive_0 rfl ?_
  refine y_getf d_Mo_arrive_1 gf_Mo_47 k_model rfl ?_
  refine x_iload_n d_Mo_arrive_4 rfl ?_
  refine y_iald hG d_Mo_arrive_5 k_m_ws _ rfl (by omega) ?_
  refine x_i2l d_Mo_arrive_6 ?_
  refine x_aload_n d_Mo_arrive_7 rfl ?_
  refine y_getf d_Mo_arrive_8 gf_Mo_50 k_model rfl ?_
  refine x_iload_n d_Mo_arrive_11 rfl ?_
  refine y_iald hG d_Mo_arrive_12 k_m_hs _ rfl (by omega) ?_
  refine x_i2l d_Mo_arrive_13 ?_
  refine x_lmul d_Mo_arrive_14 ?_
  refine s_lstore_n (lv' := [(0, _), (1, _), (2, _), (3, _)]) d_Mo_arrive_15 (by decide) rfl ?_
  refine x_aload_n d_Mo_arrive_16 rfl ?_
  refine y_getf d_Mo_arrive_17 gf_Mo_62 k_model rfl ?_
  refine x_iload_n d_Mo_arrive_20 rfl ?_
  refine x_join 36 (.int (if sA S 196 n < nI 2 then nI 1 else nI 2)) ?_ (fun J21 => ?_)
  · skip
    refine y_iast hG d_Mo_arrive_36 k_m_states _ rfl (by omega) ?_
    show EX _ _ _ _ _ _ (mk G B (moA1 S n)) _
    refine x_aload_n d_Mo_arrive_37 rfl ?_
    refine y_getf d_Mo_arrive_38 gf_Mo_38 k_model rfl ?_
    refine x_iload_n d_Mo_arrive_41 rfl ?_
    refine y_iald hG d_Mo_arrive_42 k_m_kinds _ rfl (by omega) ?_
    rw [show sA (moA1 S n) 196 = sA S 196 from moA1_A (by decide)]
    refine x_iconst (v := nI 2) d_Mo_arrive_43 (by decide +kernel) ?_
    refine x_icmp_ne 90 d_Mo_arrive_44 rfl (fun hc44 => ?_) (fun hc44 => ?_)
    · skip
      skip
      refine x_aload_n d_Mo_arrive_90 rfl ?_
      refine y_getf d_Mo_arrive_91 gf_Mo_38 k_model rfl ?_
      refine x_iload_n d_Mo_arrive_94 rfl ?_
      refine y_iald hG d_Mo_arrive_95 k_m_kinds _ rfl (by omega) ?_
      rw [show sA (moA1 S n) 196 = sA S 196 from moA1_A (by decide)]
      refine x_iconst (v := nI 3) d_Mo_arrive_96 (by decide +kernel) ?_
      refine x_icmp_ne 142 d_Mo_arrive_97 rfl (fun hc97 => ?_) (fun hc97 => ?_)
      · skip
        skip
        refine x_aload_n d_Mo_arrive_142 rfl ?_
        refine y_getf d_Mo_arrive_143 gf_Mo_38 k_model rfl ?_
        refine x_iload_n d_Mo_arrive_146 rfl ?_
        refine y_iald hG d_Mo_arrive_147 k_m_kinds _ rfl (by omega) ?_
        rw [show sA (moA1 S n) 196 = sA S 196 from moA1_A (by decide)]
        refine x_iconst (v := nI 3) d_Mo_arrive_148 (by decide +kernel) ?_
        refine x_icmp_ne 162 d_Mo_arrive_149 rfl (fun hc149 => ?_) (fun hc149 => ?_)
        · skip
          skip
          refine x_return d_Mo_arrive_162 rfl ?_
          unfold moArr
          first
            | (rw [if_pos hc44, ex, nI_clamp (show x < 2 ^ 31 by omega)]; exact ⟨rfl, rfl⟩)
            | (rw [if_neg hc44, if_pos hc97, if_pos ⟨Int32.not_lt.mp hc109, Int32.not_lt.mp hc121, hc130⟩]; exact ⟨rfl, rfl⟩)
            | (rw [if_neg hc44, if_neg hc97]; exact ⟨rfl, rfl⟩)
            | (exact absurd hc97 hc149)
            | (exact absurd hc149 hc97)
            | (rw [if_neg hc44, if_pos hc97, if_neg (fun q => Int32.not_le.mpr hc109 q.1)]; exact ⟨rfl, rfl⟩)
            | (rw [if_neg hc44, if_pos hc97, if_neg (fun q => Int32.not_le.mpr hc121 q.2.1)]; exact ⟨rfl, rfl⟩)
            | (rw [if_neg hc44, if_pos hc97, if_neg (fun q => absurd q.2.2 (Nat.not_lt.mpr hc130))]; exact ⟨rfl, rfl⟩)
        · skip
          skip
          refine x_aload_n d_Mo_arrive_152 rfl ?_
          refine x_dup d_Mo_arrive_153 rfl ?_
          refine y_getf d_Mo_arrive_154 gf_Mo_273 k_model rfl ?_
          refine x_lload_n d_Mo_arrive_157 rfl ?_
          refine x_ladd d_Mo_arrive_158 ?_
          refine y_putl d_Mo_arrive_159 pf_Mo_273 k_model (xBle rfl) rfl ?_
          refine x_return d_Mo_arrive_162 rfl ?_
          unfold moArr
          first
            | (rw [if_pos hc44, ex, nI_clamp (show x < 2 ^ 31 by omega)]; exact ⟨rfl, rfl⟩)
            | (rw [if_neg hc44, if_pos hc97, if_pos ⟨Int32.not_lt.mp hc109, Int32.not_lt.mp hc121, hc130⟩]; exact ⟨rfl, rfl⟩)
            | (rw [if_neg hc44, if_neg hc97]; exact ⟨rfl, rfl⟩)
            | (exact absurd hc97 hc149)
            | (exact absurd hc149 hc97)
            | (rw [if_neg hc44, if_pos hc97, if_neg (fun q => Int32.not_le.mpr hc109 q.1)]; exact ⟨rfl, rfl⟩)
            | (rw [if_neg hc44, if_pos hc97, if_neg (fun q => Int32.not_le.mpr hc121 q.2.1)]; exact ⟨rfl, rfl⟩)
            | (rw [if_neg hc44, if_pos hc97, if_neg (fun q => absurd q.2.2 (Nat.not_lt.mpr hc130))]; exact ⟨rfl, rfl⟩)
      · skip
        skip
        refine x_aload_n d_Mo_arrive_100 rfl ?_
        refine y_getf d_Mo_arrive_101 gf_Mo_47 k_model rfl ?_
        refine x_iload_n d_Mo_arrive_104 rfl ?_
        refine y_iald hG d_Mo_arrive_105 k_m_ws _ rfl (by omega) ?_
        rw [show sA (moA1 S n) 199 = sA S 199 from moA1_A (by decide)]
        refine x_sipush (v := nI 300) d_Mo_arrive_106 (by decide +kernel) ?_
        refine x_icmp_lt 142 d_Mo_arrive_109 rfl (fun hc109 => ?_) (fun hc109 => ?_)
        · skip
          skip
          refine x_aload_n d_Mo_arrive_142 rfl ?_
          refine y_getf d_Mo_arrive_143 gf_Mo_38 k_model rfl ?_
          refine x_iload_n d_Mo_arrive_146 rfl ?_
          refine y_iald hG d_Mo_arrive_147 k_m_kinds _ rfl (by omega) ?_
          rw [show sA (moA1 S n) 196 = sA S 196 from moA1_A (by decide)]
          refine x_iconst (v := nI 3) d_Mo_arrive_148 (by decide +kernel) ?_
          refine x_icmp_ne 162 d_Mo_arrive_149 rfl (fun hc149 => ?_) (fun hc149 => ?_)
          · skip
            skip
            refine x_return d_Mo_arrive_162 rfl ?_
            unfold moArr
            first
              | (rw [if_pos hc44, ex, nI_clamp (show x < 2 ^ 31 by omega)]; exact ⟨rfl, rfl⟩)
              | (rw [if_neg hc44, if_pos hc97, if_pos ⟨Int32.not_lt.mp hc109, Int32.not_lt.mp hc121, hc130⟩]; exact ⟨rfl, rfl⟩)
              | (rw [if_neg hc44, if_neg hc97]; exact ⟨rfl, rfl⟩)
              | (exact absurd hc97 hc149)
              | (exact absurd hc149 hc97)
              | (rw [if_neg hc44, if_pos hc97, if_neg (fun q => Int32.not_le.mpr hc109 q.1)]; exact ⟨rfl, rfl⟩)
              | (rw [if_neg hc44, if_pos hc97, if_neg (fun q => Int32.not_le.mpr hc121 q.2.1)]; exact ⟨rfl, rfl⟩)
              | (rw [if_neg hc44, if_pos hc97, if_neg (fun q => absurd q.2.2 (Nat.not_lt.mpr hc130))]; exact ⟨rfl, rfl⟩)
          · skip
            skip
            refine x_aload_n d_Mo_arrive_152 rfl ?_
            refine x_dup d_Mo_arrive_153 rfl ?_
            refine y_getf d_Mo_arrive_154 gf_Mo_273 k_model rfl ?_
            refine x_lload_n d_Mo_arrive_157 rfl ?_
            refine x_ladd d_Mo_arrive_158 ?_
            refine y_putl d_Mo_arrive_159 pf_Mo_273 k_model (xBle rfl) rfl ?_
            refine x_return d_Mo_arrive_162 rfl ?_
            unfold moArr
            first
              | (rw [if_pos hc44, ex, nI_clamp (show x < 2 ^ 31 by omega)]; exact ⟨rfl, rfl⟩)
              | (rw [if_neg hc44, if_pos hc97, if_pos ⟨Int32.not_lt.mp hc109, Int32.not_lt.mp hc121, hc130⟩]; exact ⟨rfl, rfl⟩)
              | (rw [if_neg hc44, if_neg hc97]; exact ⟨rfl, rfl⟩)
              | (exact absurd hc97 hc149)
              | (exact absurd hc149 hc97)
              | (rw [if_neg hc44, if_pos hc97, if_neg (fun q => Int32.not_le.mpr hc109 q.1)]; exact ⟨rfl, rfl⟩)
              | (rw [if_neg hc44, if_pos hc97, if_neg (fun q => Int32.not_le.mpr hc121 q.2.1)]; exact ⟨rfl, rfl⟩)
              | (rw [if_neg hc44, if_pos hc97, if_neg (fun q => absurd q.2.2 (Nat.not_lt.mpr hc130))]; exact ⟨rfl, rfl⟩)
        · skip
          skip
          refine x_aload_n d_Mo_arrive_112 rfl ?_
          refine y_getf d_Mo_arrive_113 gf_Mo_50 k_model rfl ?_
          refine x_iload_n d_Mo_arrive_116 rfl ?_
          refine y_iald hG d_Mo_arrive_117 k_m_hs _ rfl (by omega) ?_
          rw [show sA (moA1 S n) 200 = sA S 200 from moA1_A (by decide)]
          refine x_sipush (v := nI 300) d_Mo_arrive_118 (by decide +kernel) ?_
          refine x_icmp_lt 142 d_Mo_arrive_121 rfl (fun hc121 => ?_) (fun hc121 => ?_)
          · skip
            skip
            refine x_aload_n d_Mo_arrive_142 rfl ?_
            refine y_getf d_Mo_arrive_143 gf_Mo_38 k_model rfl ?_
            refine x_iload_n d_Mo_arrive_146 rfl ?_
            refine y_iald hG d_Mo_arrive_147 k_m_kinds _ rfl (by omega) ?_
            rw [show sA (moA1 S n) 196 = sA S 196 from moA1_A (by decide)]
            refine x_iconst (v := nI 3) d_Mo_arrive_148 (by decide +kernel) ?_
            refine x_icmp_ne 162 d_Mo_arrive_149 rfl (fun hc149 => ?_) (fun hc149 => ?_)
            · skip
              skip
              refine x_return d_Mo_arrive_162 rfl ?_
              unfold moArr
              first
                | (rw [if_pos hc44, ex, nI_clamp (show x < 2 ^ 31 by omega)]; exact ⟨rfl, rfl⟩)
                | (rw [if_neg hc44, if_pos hc97, if_pos ⟨Int32.not_lt.mp hc109, Int32.not_lt.mp hc121, hc130⟩]; exact ⟨rfl, rfl⟩)
                | (rw [if_neg hc44, if_neg hc97]; exact ⟨rfl, rfl⟩)
                | (exact absurd hc97 hc149)
                | (exact absurd hc149 hc97)
                | (rw [if_neg hc44, if_pos hc97, if_neg (fun q => Int32.not_le.mpr hc109 q.1)]; exact ⟨rfl, rfl⟩)
                | (rw [if_neg hc44, if_pos hc97, if_neg (fun q => Int32.not_le.mpr hc121 q.2.1)]; exact ⟨rfl, rfl⟩)
                | (rw [if_neg hc44, if_pos hc97, if_neg (fun q => absurd q.2.2 (Nat.not_lt.mpr hc130))]; exact ⟨rfl, rfl⟩)
            · skip
              skip
              refine x_aload_n d_Mo_arrive_152 rfl ?_
              refine x_dup d_Mo_arrive_153 rfl ?_
              refine y_getf d_Mo_arrive_154 gf_Mo_273 k_model rfl ?_
              refine x_lload_n d_Mo_arrive_157 rfl ?_
              refine x_ladd d_Mo_arrive_158 ?_
              refine y_putl d_Mo_arrive_159 pf_Mo_273 k_model (xBle rfl) rfl ?_
              refine x_return d_Mo_arrive_162 rfl ?_
              unfold moArr
              first
                | (rw [if_pos hc44, ex, nI_clamp (show x < 2 ^ 31 by omega)]; exact ⟨rfl, rfl⟩)
                | (rw [if_neg hc44, if_pos hc97, if_pos ⟨Int32.not_lt.mp hc109, Int32.not_lt.mp hc121, hc130⟩]; exact ⟨rfl, rfl⟩)
                | (rw [if_neg hc44, if_neg hc97]; exact ⟨rfl, rfl⟩)
                | (exact absurd hc97 hc149)
                | (exact absurd hc149 hc97)
                | (rw [if_neg hc44, if_pos hc97, if_neg (fun q => Int32.not_le.mpr hc109 q.1)]; exact ⟨rfl, rfl⟩)
                | (rw [if_neg hc44, if_pos hc97, if_neg (fun q => Int32.not_le.mpr hc121 q.2.1)]; exact ⟨rfl, rfl⟩)
                | (rw [if_neg hc44, if_pos hc97, if_neg (fun q => absurd q.2.2 (Nat.not_lt.mpr hc130))]; exact ⟨rfl, rfl⟩)
          · skip
            skip
            refine x_aload_n d_Mo_arrive_124 rfl ?_
            refine y_getf (v := .int (nI R)) d_Mo_arrive_125 gf_Mo_263 k_model (congrArg (fun q => some (Value.int q)) hR) ?_
            refine x_bipush (v := nI 10) d_Mo_arrive_128 (by decide +kernel) ?_
            refine z_icmp_ge 142 d_Mo_arrive_130 rfl (by omega) (by omega) (fun hc130 => ?_) (fun hc130 => ?_)
            · skip
              skip
              refine x_aload_n d_Mo_arrive_142 rfl ?_
              refine y_getf d_Mo_arrive_143 gf_Mo_38 k_model rfl ?_
              refine x_iload_n d_Mo_arrive_146 rfl ?_
              refine y_iald hG d_Mo_arrive_147 k_m_kinds _ rfl (by omega) ?_
              rw [show sA (moA1 S n) 196 = sA S 196 from moA1_A (by decide)]
              refine x_iconst (v := nI 3) d_Mo_arrive_148 (by decide +kernel) ?_
              refine x_icmp_ne 162 d_Mo_arrive_149 rfl (fun hc149 => ?_) (fun hc149 => ?_)
              · skip
                skip
                refine x_return d_Mo_arrive_162 rfl ?_
                unfold moArr
                first
                  | (rw [if_pos hc44, ex, nI_clamp (show x < 2 ^ 31 by omega)]; exact ⟨rfl, rfl⟩)
                  | (rw [if_neg hc44, if_pos hc97, if_pos ⟨Int32.not_lt.mp hc109, Int32.not_lt.mp hc121, hc130⟩]; exact ⟨rfl, rfl⟩)
                  | (rw [if_neg hc44, if_neg hc97]; exact ⟨rfl, rfl⟩)
                  | (exact absurd hc97 hc149)
                  | (exact absurd hc149 hc97)
                  | (rw [if_neg hc44, if_pos hc97, if_neg (fun q => Int32.not_le.mpr hc109 q.1)]; exact ⟨rfl, rfl⟩)
                  | (rw [if_neg hc44, if_pos hc97, if_neg (fun q => Int32.not_le.mpr hc121 q.2.1)]; exact ⟨rfl, rfl⟩)
                  | (rw [if_neg hc44, if_pos hc97, if_neg (fun q => absurd q.2.2 (Nat.not_lt.mpr hc130))]; exact ⟨rfl, rfl⟩)
              · skip
                skip
                refine x_aload_n d_Mo_arrive_152 rfl ?_
                refine x_dup d_Mo_arrive_153 rfl ?_
                refine y_getf d_Mo_arrive_154 gf_Mo_273 k_model rfl ?_
                refine x_lload_n d_Mo_arrive_157 rfl ?_
                refine x_ladd d_Mo_arrive_158 ?_
                refine y_putl d_Mo_arrive_159 pf_Mo_273 k_model (xBle rfl) rfl ?_
                refine x_return d_Mo_arrive_162 rfl ?_
                unfold moArr
                first
                  | (rw [if_pos hc44, ex, nI_clamp (show x < 2 ^ 31 by omega)]; exact ⟨rfl, rfl⟩)
                  | (rw [if_neg hc44, if_pos hc97, if_pos ⟨Int32.not_lt.mp hc109, Int32.not_lt.mp hc121, hc130⟩]; exact ⟨rfl, rfl⟩)
                  | (rw [if_neg hc44, if_neg hc97]; exact ⟨rfl, rfl⟩)
                  | (exact absurd hc97 hc149)
                  | (exact absurd hc149 hc97)
                  | (rw [if_neg hc44, if_pos hc97, if_neg (fun q => Int32.not_le.mpr hc109 q.1)]; exact ⟨rfl, rfl⟩)
                  | (rw [if_neg hc44, if_pos hc97, if_neg (fun q => Int32.not_le.mpr hc121 q.2.1)]; exact ⟨rfl, rfl⟩)
                  | (rw [if_neg hc44, if_pos hc97, if_neg (fun q => absurd q.2.2 (Nat.not_lt.mpr hc130))]; exact ⟨rfl, rfl⟩)
            · skip
              skip
              refine x_aload_n d_Mo_arrive_133 rfl ?_
              refine x_iload_n d_Mo_arrive_134 rfl ?_
              refine x_iload_n d_Mo_arrive_135 rfl ?_
              refine w_callV (As := [_, _]) d_Mo_arrive_136 k_Mo_269 k_model rfl rfl rfl (c_Mo_store (S := moA1 S n) hG hs hn hR (by omega) (by rw [moA1_A (by decide)]; exact hfl) hf6) ?_
              refine x_goto 162 d_Mo_arrive_139 rfl ?_
              refine x_return d_Mo_arrive_162 rfl ?_
              unfold moArr
              first
                | (rw [if_pos hc44, ex, nI_clamp (show x < 2 ^ 31 by omega)]; exact ⟨rfl, rfl⟩)
                | (rw [if_neg hc44, if_pos hc97, if_pos ⟨Int32.not_lt.mp hc109, Int32.not_lt.mp hc121, hc130⟩]; exact ⟨rfl, rfl⟩)
                | (rw [if_neg hc44, if_neg hc97]; exact ⟨rfl, rfl⟩)
                | (exact absurd hc97 hc149)
                | (exact absurd hc149 hc97)
                | (rw [if_neg hc44, if_pos hc97, if_neg (fun q => Int32.not_le.mpr hc109 q.1)]; exact ⟨rfl, rfl⟩)
                | (rw [if_neg hc44, if_pos hc97, if_neg (fun q => Int32.not_le.mpr hc121 q.2.1)]; exact ⟨rfl, rfl⟩)
                | (rw [if_neg hc44, if_pos hc97, if_neg (fun q => absurd q.2.2 (Nat.not_lt.mpr hc130))]; exact ⟨rfl, rfl⟩)
    · skip
      obtain ⟨x, hx, ex⟩ := hmk hc44
      refine x_aload_n d_Mo_arrive_47 rfl ?_
      refine y_getf d_Mo_arrive_48 gf_Mo_77 k_model rfl ?_
      refine x_aload_n d_Mo_arrive_51 rfl ?_
      refine y_getf d_Mo_arrive_52 gf_Mo_53 k_model rfl ?_
      refine x_iload_n d_Mo_arrive_55 rfl ?_
      refine y_iald hG d_Mo_arrive_56 k_m_cuts _ rfl (by omega) ?_
      rw [show sA (moA1 S n) 201 = sA S 201 from moA1_A (by decide), ex]
      refine x_dup2 d_Mo_arrive_57 rfl rfl ?_
      refine y_iald hG d_Mo_arrive_58 k_m_coming _ rfl (by omega) ?_
      rw [show sA (moA1 S n) 209 = sA S 209 from moA1_A (by decide)]
      refine x_iconst (v := nI 1) d_Mo_arrive_59 (by decide +kernel) ?_
      refine x_isub d_Mo_arrive_60 ?_
      refine y_iast hG d_Mo_arrive_61 k_m_coming _ rfl (by omega) ?_
      refine x_aload_n d_Mo_arrive_62 rfl ?_
      refine y_getf d_Mo_arrive_63 gf_Mo_80 k_model rfl ?_
      refine x_aload_n d_Mo_arrive_66 rfl ?_
      refine y_getf d_Mo_arrive_67 gf_Mo_53 k_model rfl ?_
      refine x_iload_n d_Mo_arrive_70 rfl ?_
      refine y_iald hG d_Mo_arrive_71 k_m_cuts _ rfl (by omega) ?_
      rw [sA_uAn _ _ _ (by decide), show sA (moA1 S n) 201 = sA S 201 from moA1_A (by decide), ex]
      refine x_dup2 d_Mo_arrive_72 rfl rfl ?_
      refine y_iald hG d_Mo_arrive_73 k_m_done _ rfl (by omega) ?_
      rw [sA_uAn _ _ _ (by decide), show sA (moA1 S n) 210 = sA S 210 from moA1_A (by decide)]
      refine x_iconst (v := nI 1) d_Mo_arrive_74 (by decide +kernel) ?_
      refine x_iadd d_Mo_arrive_75 ?_
      refine y_iast hG d_Mo_arrive_76 k_m_done _ rfl (by omega) ?_
      refine x_aload_n d_Mo_arrive_77 rfl ?_
      refine x_dup d_Mo_arrive_78 rfl ?_
      refine y_getf d_Mo_arrive_79 gf_Mo_266 k_model rfl ?_
      refine x_lload_n d_Mo_arrive_82 rfl ?_
      refine x_ladd d_Mo_arrive_83 ?_
      refine y_putl d_Mo_arrive_84 pf_Mo_266 k_model (xBle rfl) rfl ?_
      refine x_goto 162 d_Mo_arrive_87 rfl ?_
      refine x_return d_Mo_arrive_162 rfl ?_
      unfold moArr
      first
        | (rw [if_pos hc44, ex, nI_clamp (show x < 2 ^ 31 by omega)]; exact ⟨rfl, rfl⟩)
        | (rw [if_neg hc44, if_pos hc97, if_pos ⟨Int32.not_lt.mp hc109, Int32.not_lt.mp hc121, hc130⟩]; exact ⟨rfl, rfl⟩)
        | (rw [if_neg hc44, if_neg hc97]; exact ⟨rfl, rfl⟩)
        | (exact absurd hc97 hc149)
        | (exact absurd hc149 hc97)
        | (rw [if_neg hc44, if_pos hc97, if_neg (fun q => Int32.not_le.mpr hc109 q.1)]; exact ⟨rfl, rfl⟩)
        | (rw [if_neg hc44, if_pos hc97, if_neg (fun q => Int32.not_le.mpr hc121 q.2.1)]; exact ⟨rfl, rfl⟩)
        | (rw [if_neg hc44, if_pos hc97, if_neg (fun q => absurd q.2.2 (Nat.not_lt.mpr hc130))]; exact ⟨rfl, rfl⟩)
  · skip
    refine x_aload_n d_Mo_arrive_21 rfl ?_
    refine y_getf d_Mo_arrive_22 gf_Mo_38 k_model rfl ?_
    refine x_iload_n d_Mo_arrive_25 rfl ?_
    refine y_iald hG d_Mo_arrive_26 k_m_kinds _ rfl (by omega) ?_
    refine x_iconst (v := nI 2) d_Mo_arrive_27 (by decide +kernel) ?_
    refine x_icmp_ge 35 d_Mo_arrive_28 rfl (fun hc28 => ?_) (fun hc28 => ?_)
    · skip
      skip
      refine x_iconst (v := nI 2) d_Mo_arrive_35 (by decide +kernel) ?_
      refine J21 _ ?_
      first
        | (rw [if_pos (Int32.not_le.mp hc28)]; done)
        | (rw [if_neg (Int32.not_lt.mpr hc28)]; done)
    · skip
      skip
      refine x_iconst (v := nI 1) d_Mo_arrive_31 (by decide +kernel) ?_
      refine x_goto 36 d_Mo_arrive_32 rfl ?_
      refine J21 _ ?_
      first
        | (rw [if_pos (Int32.not_le.mp hc28)]; done)
        | (rw [if_neg (Int32.not_lt.mpr hc28)]; done)
