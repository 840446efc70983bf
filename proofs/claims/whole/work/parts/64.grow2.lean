/-! the reference's tree -/
def moSp1 (S : xS) (n np has : Nat) (c r : Int32) (q : Nat) : xS := uA (uA S 196 n (nI (has % 2))) 201 n (moReach S np has c r q)
def moSp2 (S : xS) (n m np pcs has : Nat) (c r : Int32) (q : Nat) : xS :=
  moAt (moPush (moSp1 S n np has c r q) pcs (nI (if has = 3 then 4 else has)) (if has = 0 then c + nI 1 else c) (if has = 1 then r + nI 1 else r) (nI (if has = 2 then q + 1 else q)) (nI m)) pcs
    (if has % 2 = 0 then sA S 197 n + moReach S np has c r q else sA S 197 n) (if has % 2 = 0 then sA S 198 n else sA S 198 n + moReach S np has c r q) (if has % 2 = 0 then sA S 199 n - moReach S np has c r q else sA S 199 n) (if has % 2 = 0 then sA S 200 n else sA S 200 n - moReach S np has c r q)
def moSplit (S : xS) (n m np pcs has : Nat) (c r : Int32) (q : Nat) : xS :=
  moAt (moPush (moSp2 S n m np pcs has c r q) (pcs + 1) (nI (if has < 3 then has + 1 else 3)) c (if has = 0 then nI 0 else r) (nI (if has = 1 then 0 else q)) (nI m)) (pcs + 1)
    (sA S 197 n) (sA S 198 n) (if has % 2 = 0 then moReach S np has c r q else sA S 199 n) (if has % 2 = 0 then sA S 200 n else moReach S np has c r q)
theorem moPush_A {S : xS} {n k : Nat} {h c r p q : Int32} (e : k < 221 ∨ 230 ≤ k) : sA (moPush S n h c r p q) k = sA S k := by
  show sA (uA (uA (uA (uA (uA S 221 n h) 222 n c) 223 n r) 224 n p) 229 n q) k = _
  rw [sA_uAn _ _ _ (by omega), sA_uAn _ _ _ (by omega), sA_uAn _ _ _ (by omega), sA_uAn _ _ _ (by omega), sA_uAn _ _ _ (by omega)]
theorem moAt_A {S : xS} {n k : Nat} {x y w h : Int32} (e : k < 225 ∨ 229 ≤ k) : sA (moAt S n x y w h) k = sA S k := by
  unfold moAt
  rw [sA_uAn _ _ _ (by omega), sA_uAn _ _ _ (by omega), sA_uAn _ _ _ (by omega), sA_uAn _ _ _ (by omega)]
theorem moPush_n {S : xS} {n : Nat} {h c r p q : Int32} : sF (moPush S n h c r p q) 186 43 = nI (n + 1) := by
  show sF (uF _ 186 43 (nI (n + 1))) 186 43 = _
  rw [sF_uF, va_up_self]
theorem moSp2_n {S : xS} {n m np pcs has : Nat} {c r : Int32} {q : Nat} : sF (moSp2 S n m np pcs has c r q) 186 43 = nI (pcs + 1) := by
  rw [show sF (moSp2 S n m np pcs has c r q) = up2 (sF S) 186 43 (nI (pcs + 1)) from rfl, up2_self, va_up_self]
theorem moPush_F {S : xS} {n k : Nat} {h c r p q : Int32} (e : k ≠ 43) : sF (moPush S n h c r p q) 186 k = sF S 186 k := by
  rw [show sF (moPush S n h c r p q) = up2 (sF S) 186 43 (nI (n + 1)) from rfl, up2_self, va_up_ne _ _ e]
set_option maxRecDepth 100000 in
set_option maxHeartbeats 1000000 in
theorem c_Mo_split0 {G : xG} {B d : Nat} {S : xS} (hG : xOkG G) {s m n np pcs q : Nat} {c r : Int32} (hs : s < 8) (hm : m < 160) (hn : n = 160 * s + m) (hp : sF S 186 36 = nI np) (hp40 : np ≤ 40) (hq : sF S 186 43 = nI pcs) (hpc : pcs + 1 < 64) (hqq : q < 2 ^ 30) : EX G m_Mo_split (d + 3) 0 [(0, .ref (B + 186)), (1, .int (nI s)), (2, .int (nI n)), (3, .int (nI 0)), (4, .int c), (5, .int r), (6, .int (nI q))] [] (mk G B S) (xRet G B none (moSplit S n m np pcs 0 c r q)) := by
  refine x_aload_n d_Mo_split_0 rfl ?_
  refine x_iload_n d_Mo_split_1 rfl ?_
  refine x_iload d_Mo_split_2 rfl ?_
  refine x_iload d_Mo_split_4 rfl ?_
  refine x_iload d_Mo_split_6 rfl ?_
  refine w_callV (As := [_, _, _, _]) d_Mo_split_8 k_Mo_222 k_model rfl rfl rfl (c_Mo_reach0 hG hp hp40 (by omega)) ?_
  refine s_istore (lv' := [(0, _), (1, _), (2, _), (3, _), (4, _), (5, _), (6, _), (7, _)]) d_Mo_split_11 (by decide) rfl ?_
  refine x_iload_n d_Mo_split_13 rfl ?_
  refine x_iconst (v := nI 2) d_Mo_split_14 (by decide +kernel) ?_
  refine x_irem d_Mo_split_15 (by decide +kernel) ?_
  rw [nI_rem (by decide) (by decide) (by decide)]
  refine z_if_ne 23 d_Mo_split_16 rfl (by omega) (fun q => absurd q (by omega)) (fun hc16 => ?_)
  refine x_iconst (v := nI 1) d_Mo_split_19 (by decide +kernel) ?_
  refine x_goto 24 d_Mo_split_20 rfl ?_
  refine s_istore (lv' := [(0, _), (1, _), (2, _), (3, _), (4, _), (5, _), (6, _), (7, _), (8, _)]) d_Mo_split_24 (by decide) rfl ?_
  refine x_aload_n d_Mo_split_26 rfl ?_
  refine y_getf d_Mo_split_27 gf_Mo_38 k_model rfl ?_
  refine x_iload_n d_Mo_split_30 rfl ?_
  refine x_iload d_Mo_split_31 rfl ?_
  refine z_if_eq 40 d_Mo_split_33 rfl (by omega) (fun q => absurd q (by omega)) (fun hc33 => ?_)
  refine x_iconst (v := nI 0) d_Mo_split_36 (by decide +kernel) ?_
  refine x_goto 41 d_Mo_split_37 rfl ?_
  refine y_iast hG d_Mo_split_41 k_m_kinds _ rfl (by omega) ?_
  refine x_aload_n d_Mo_split_42 rfl ?_
  refine y_getf d_Mo_split_43 gf_Mo_53 k_model rfl ?_
  refine x_iload_n d_Mo_split_46 rfl ?_
  refine x_iload d_Mo_split_47 rfl ?_
  refine y_iast hG d_Mo_split_49 k_m_cuts _ rfl (by omega) ?_
  refine x_iload_n d_Mo_split_50 rfl ?_
  refine x_sipush (v := nI 160) d_Mo_split_51 (by decide +kernel) ?_
  refine x_iload_n d_Mo_split_54 rfl ?_
  refine x_imul d_Mo_split_55 ?_
  rw [nI_mul]
  refine x_isub d_Mo_split_56 ?_
  rw [pk_sub (by omega), show n - 160 * s = m by omega]
  refine s_istore (lv' := [(0, _), (1, _), (2, _), (3, _), (4, _), (5, _), (6, _), (7, _), (8, _), (9, _)]) d_Mo_split_57 (by decide) rfl ?_
  show EX _ _ _ _ _ _ (mk G B (moSp1 S n np 0 c r q)) _
  refine x_aload_n d_Mo_split_59 rfl ?_
  refine x_iload_n d_Mo_split_60 rfl ?_
  refine x_iconst (v := nI 3) d_Mo_split_61 (by decide +kernel) ?_
  refine z_icmp_ne 69 d_Mo_split_62 rfl (by omega) (by omega) (fun hc62 => ?_) (fun q => absurd q (by omega))
  refine x_iload_n d_Mo_split_69 rfl ?_
  refine x_iload_n d_Mo_split_70 rfl ?_
  refine z_if_ne 81 d_Mo_split_71 rfl (by omega) (fun q => absurd q (by omega)) (fun hc71 => ?_)
  refine x_iload d_Mo_split_74 rfl ?_
  refine x_iconst (v := nI 1) d_Mo_split_76 (by decide +kernel) ?_
  refine x_iadd d_Mo_split_77 ?_
  refine x_goto 83 d_Mo_split_78 rfl ?_
  refine x_iload_n d_Mo_split_83 rfl ?_
  refine x_iconst (v := nI 1) d_Mo_split_84 (by decide +kernel) ?_
  refine z_icmp_ne 95 d_Mo_split_85 rfl (by omega) (by omega) (fun hc85 => ?_) (fun q => absurd q (by omega))
  refine x_iload d_Mo_split_95 rfl ?_
  refine x_iload_n d_Mo_split_97 rfl ?_
  refine x_iconst (v := nI 2) d_Mo_split_98 (by decide +kernel) ?_
  refine z_icmp_ne 109 d_Mo_split_99 rfl (by omega) (by omega) (fun hc99 => ?_) (fun q => absurd q (by omega))
  refine x_iload d_Mo_split_109 rfl ?_
  refine x_iload d_Mo_split_111 rfl ?_
  refine w_callV (As := [_, _, _, _, _]) d_Mo_split_113 k_Mo_230 k_model rfl rfl rfl (c_Mo_push (S := moSp1 S n np 0 c r q) hG hq (by omega)) ?_
  refine x_aload_n d_Mo_split_116 rfl ?_
  refine x_iload d_Mo_split_117 rfl ?_
  refine z_if_eq 134 d_Mo_split_119 rfl (by omega) (fun q => absurd q (by omega)) (fun hc119 => ?_)
  refine x_aload_n d_Mo_split_122 rfl ?_
  refine y_getf d_Mo_split_123 gf_Mo_41 k_model rfl ?_
  refine x_iload_n d_Mo_split_126 rfl ?_
  refine y_iald hG d_Mo_split_127 k_m_xs _ rfl (by omega) ?_
  rw [moPush_A (by decide), show sA (moSp1 S n np 0 c r q) 197 = sA S 197 from (sA_uAn _ _ _ (by decide)).trans (sA_uAn _ _ _ (by decide))]
  refine x_iload d_Mo_split_128 rfl ?_
  refine x_iadd d_Mo_split_130 ?_
  refine x_goto 140 d_Mo_split_131 rfl ?_
  refine x_iload d_Mo_split_140 rfl ?_
  refine z_if_eq 154 d_Mo_split_142 rfl (by omega) (fun q => absurd q (by omega)) (fun hc142 => ?_)
  refine x_aload_n d_Mo_split_145 rfl ?_
  refine y_getf d_Mo_split_146 gf_Mo_44 k_model rfl ?_
  refine x_iload_n d_Mo_split_149 rfl ?_
  refine y_iald hG d_Mo_split_150 k_m_ys _ rfl (by omega) ?_
  rw [moPush_A (by decide), show sA (moSp1 S n np 0 c r q) 198 = sA S 198 from (sA_uAn _ _ _ (by decide)).trans (sA_uAn _ _ _ (by decide))]
  refine x_goto 163 d_Mo_split_151 rfl ?_
  refine x_iload d_Mo_split_163 rfl ?_
  refine z_if_eq 180 d_Mo_split_165 rfl (by omega) (fun q => absurd q (by omega)) (fun hc165 => ?_)
  refine x_aload_n d_Mo_split_168 rfl ?_
  refine y_getf d_Mo_split_169 gf_Mo_47 k_model rfl ?_
  refine x_iload_n d_Mo_split_172 rfl ?_
  refine y_iald hG d_Mo_split_173 k_m_ws _ rfl (by omega) ?_
  rw [moPush_A (by decide), show sA (moSp1 S n np 0 c r q) 199 = sA S 199 from (sA_uAn _ _ _ (by decide)).trans (sA_uAn _ _ _ (by decide))]
  refine x_iload d_Mo_split_174 rfl ?_
  refine x_isub d_Mo_split_176 ?_
  refine x_goto 186 d_Mo_split_177 rfl ?_
  refine x_iload d_Mo_split_186 rfl ?_
  refine z_if_eq 200 d_Mo_split_188 rfl (by omega) (fun q => absurd q (by omega)) (fun hc188 => ?_)
  refine x_aload_n d_Mo_split_191 rfl ?_
  refine y_getf d_Mo_split_192 gf_Mo_50 k_model rfl ?_
  refine x_iload_n d_Mo_split_195 rfl ?_
  refine y_iald hG d_Mo_split_196 k_m_hs _ rfl (by omega) ?_
  rw [moPush_A (by decide), show sA (moSp1 S n np 0 c r q) 200 = sA S 200 from (sA_uAn _ _ _ (by decide)).trans (sA_uAn _ _ _ (by decide))]
  refine x_goto 209 d_Mo_split_197 rfl ?_
  refine w_callV (As := [_, _, _, _]) d_Mo_split_209 k_Mo_233 k_model rfl rfl rfl (c_Mo_at hG moPush_n (by omega)) ?_
  show EX _ _ _ _ _ _ (mk G B (moSp2 S n m np pcs 0 c r q)) _
  refine x_aload_n d_Mo_split_212 rfl ?_
  refine x_iload_n d_Mo_split_213 rfl ?_
  refine x_iconst (v := nI 3) d_Mo_split_214 (by decide +kernel) ?_
  refine z_icmp_ge 224 d_Mo_split_215 rfl (by omega) (by omega) (fun q => absurd q (by omega)) (fun hc215 => ?_)
  refine x_iload_n d_Mo_split_218 rfl ?_
  refine x_iconst (v := nI 1) d_Mo_split_219 (by decide +kernel) ?_
  refine x_iadd d_Mo_split_220 ?_
  rw [nI_add]
  refine x_goto 225 d_Mo_split_221 rfl ?_
  refine x_iload d_Mo_split_225 rfl ?_
  refine x_iload_n d_Mo_split_227 rfl ?_
  refine z_if_ne 235 d_Mo_split_228 rfl (by omega) (fun q => absurd q (by omega)) (fun hc228 => ?_)
  refine x_iconst (v := nI 0) d_Mo_split_231 (by decide +kernel) ?_
  refine x_goto 237 d_Mo_split_232 rfl ?_
  refine x_iload_n d_Mo_split_237 rfl ?_
  refine x_iconst (v := nI 1) d_Mo_split_238 (by decide +kernel) ?_
  refine z_icmp_ne 246 d_Mo_split_239 rfl (by omega) (by omega) (fun hc239 => ?_) (fun q => absurd q (by omega))
  refine x_iload d_Mo_split_246 rfl ?_
  refine x_iload d_Mo_split_248 rfl ?_
  refine w_callV (As := [_, _, _, _, _]) d_Mo_split_250 k_Mo_230 k_model rfl rfl rfl (c_Mo_push (S := moSp2 S n m np pcs 0 c r q) hG moSp2_n (by omega)) ?_
  refine x_aload_n d_Mo_split_253 rfl ?_
  refine x_aload_n d_Mo_split_254 rfl ?_
  refine y_getf d_Mo_split_255 gf_Mo_41 k_model rfl ?_
  refine x_iload_n d_Mo_split_258 rfl ?_
  refine y_iald hG d_Mo_split_259 k_m_xs _ rfl (by omega) ?_
  rw [moPush_A (by decide), show sA (moSp2 S n m np pcs 0 c r q) 197 = sA S 197 from (moAt_A (by decide)).trans ((moPush_A (by decide)).trans ((sA_uAn _ _ _ (by decide)).trans (sA_uAn _ _ _ (by decide))))]
  refine x_aload_n d_Mo_split_260 rfl ?_
  refine y_getf d_Mo_split_261 gf_Mo_44 k_model rfl ?_
  refine x_iload_n d_Mo_split_264 rfl ?_
  refine y_iald hG d_Mo_split_265 k_m_ys _ rfl (by omega) ?_
  rw [moPush_A (by decide), show sA (moSp2 S n m np pcs 0 c r q) 198 = sA S 198 from (moAt_A (by decide)).trans ((moPush_A (by decide)).trans ((sA_uAn _ _ _ (by decide)).trans (sA_uAn _ _ _ (by decide))))]
  refine x_iload d_Mo_split_266 rfl ?_
  refine z_if_eq 276 d_Mo_split_268 rfl (by omega) (fun q => absurd q (by omega)) (fun hc268 => ?_)
  refine x_iload d_Mo_split_271 rfl ?_
  refine x_goto 282 d_Mo_split_273 rfl ?_
  refine x_iload d_Mo_split_282 rfl ?_
  refine z_if_eq 296 d_Mo_split_284 rfl (by omega) (fun q => absurd q (by omega)) (fun hc284 => ?_)
  refine x_aload_n d_Mo_split_287 rfl ?_
  refine y_getf d_Mo_split_288 gf_Mo_50 k_model rfl ?_
  refine x_iload_n d_Mo_split_291 rfl ?_
  refine y_iald hG d_Mo_split_292 k_m_hs _ rfl (by omega) ?_
  rw [moPush_A (by decide), show sA (moSp2 S n m np pcs 0 c r q) 200 = sA S 200 from (moAt_A (by decide)).trans ((moPush_A (by decide)).trans ((sA_uAn _ _ _ (by decide)).trans (sA_uAn _ _ _ (by decide))))]
  refine x_goto 298 d_Mo_split_293 rfl ?_
  refine w_callV (As := [_, _, _, _]) d_Mo_split_298 k_Mo_233 k_model rfl rfl rfl (c_Mo_at hG moPush_n (by omega)) ?_
  refine x_return d_Mo_split_301 rfl ?_
  exact ⟨rfl, rfl⟩
set_option maxRecDepth 100000 in
set_option maxHeartbeats 1000000 in
theorem c_Mo_split1 {G : xG} {B d : Nat} {S : xS} (hG : xOkG G) {s m n np pcs q : Nat} {c r : Int32} (hs : s < 8) (hm : m < 160) (hn : n = 160 * s + m) (hp : sF S 186 36 = nI np) (hp40 : np ≤ 40) (hq : sF S 186 43 = nI pcs) (hpc : pcs + 1 < 64) (hqq : q < 2 ^ 30) : EX G m_Mo_split (d + 3) 0 [(0, .ref (B + 186)), (1, .int (nI s)), (2, .int (nI n)), (3, .int (nI 1)), (4, .int c), (5, .int r), (6, .int (nI q))] [] (mk G B S) (xRet G B none (moSplit S n m np pcs 1 c r q)) := by
  refine x_aload_n d_Mo_split_0 rfl ?_
  refine x_iload_n d_Mo_split_1 rfl ?_
  refine x_iload d_Mo_split_2 rfl ?_
  refine x_iload d_Mo_split_4 rfl ?_
  refine x_iload d_Mo_split_6 rfl ?_
  refine w_callV (As := [_, _, _, _]) d_Mo_split_8 k_Mo_222 k_model rfl rfl rfl (c_Mo_reach1 hG hp hp40 (by omega)) ?_
  refine s_istore (lv' := [(0, _), (1, _), (2, _), (3, _), (4, _), (5, _), (6, _), (7, _)]) d_Mo_split_11 (by decide) rfl ?_
  refine x_iload_n d_Mo_split_13 rfl ?_
  refine x_iconst (v := nI 2) d_Mo_split_14 (by decide +kernel) ?_
  refine x_irem d_Mo_split_15 (by decide +kernel) ?_
  rw [nI_rem (by decide) (by decide) (by decide)]
  refine z_if_ne 23 d_Mo_split_16 rfl (by omega) (fun hc16 => ?_) (fun q => absurd q (by omega))
  refine x_iconst (v := nI 0) d_Mo_split_23 (by decide +kernel) ?_
  refine s_istore (lv' := [(0, _), (1, _), (2, _), (3, _), (4, _), (5, _), (6, _), (7, _), (8, _)]) d_Mo_split_24 (by decide) rfl ?_
  refine x_aload_n d_Mo_split_26 rfl ?_
  refine y_getf d_Mo_split_27 gf_Mo_38 k_model rfl ?_
  refine x_iload_n d_Mo_split_30 rfl ?_
  refine x_iload d_Mo_split_31 rfl ?_
  refine z_if_eq 40 d_Mo_split_33 rfl (by omega) (fun hc33 => ?_) (fun q => absurd q (by omega))
  refine x_iconst (v := nI 1) d_Mo_split_40 (by decide +kernel) ?_
  refine y_iast hG d_Mo_split_41 k_m_kinds _ rfl (by omega) ?_
  refine x_aload_n d_Mo_split_42 rfl ?_
  refine y_getf d_Mo_split_43 gf_Mo_53 k_model rfl ?_
  refine x_iload_n d_Mo_split_46 rfl ?_
  refine x_iload d_Mo_split_47 rfl ?_
  refine y_iast hG d_Mo_split_49 k_m_cuts _ rfl (by omega) ?_
  refine x_iload_n d_Mo_split_50 rfl ?_
  refine x_sipush (v := nI 160) d_Mo_split_51 (by decide +kernel) ?_
  refine x_iload_n d_Mo_split_54 rfl ?_
  refine x_imul d_Mo_split_55 ?_
  rw [nI_mul]
  refine x_isub d_Mo_split_56 ?_
  rw [pk_sub (by omega), show n - 160 * s = m by omega]
  refine s_istore (lv' := [(0, _), (1, _), (2, _), (3, _), (4, _), (5, _), (6, _), (7, _), (8, _), (9, _)]) d_Mo_split_57 (by decide) rfl ?_
  show EX _ _ _ _ _ _ (mk G B (moSp1 S n np 1 c r q)) _
  refine x_aload_n d_Mo_split_59 rfl ?_
  refine x_iload_n d_Mo_split_60 rfl ?_
  refine x_iconst (v := nI 3) d_Mo_split_61 (by decide +kernel) ?_
  refine z_icmp_ne 69 d_Mo_split_62 rfl (by omega) (by omega) (fun hc62 => ?_) (fun q => absurd q (by omega))
  refine x_iload_n d_Mo_split_69 rfl ?_
  refine x_iload_n d_Mo_split_70 rfl ?_
  refine z_if_ne 81 d_Mo_split_71 rfl (by omega) (fun hc71 => ?_) (fun q => absurd q (by omega))
  refine x_iload d_Mo_split_81 rfl ?_
  refine x_iload_n d_Mo_split_83 rfl ?_
  refine x_iconst (v := nI 1) d_Mo_split_84 (by decide +kernel) ?_
  refine z_icmp_ne 95 d_Mo_split_85 rfl (by omega) (by omega) (fun q => absurd q (by omega)) (fun hc85 => ?_)
  refine x_iload d_Mo_split_88 rfl ?_
  refine x_iconst (v := nI 1) d_Mo_split_90 (by decide +kernel) ?_
  refine x_iadd d_Mo_split_91 ?_
  refine x_goto 97 d_Mo_split_92 rfl ?_
  refine x_iload_n d_Mo_split_97 rfl ?_
  refine x_iconst (v := nI 2) d_Mo_split_98 (by decide +kernel) ?_
  refine z_icmp_ne 109 d_Mo_split_99 rfl (by omega) (by omega) (fun hc99 => ?_) (fun q => absurd q (by omega))
  refine x_iload d_Mo_split_109 rfl ?_
  refine x_iload d_Mo_split_111 rfl ?_
  refine w_callV (As := [_, _, _, _, _]) d_Mo_split_113 k_Mo_230 k_model rfl rfl rfl (c_Mo_push (S := moSp1 S n np 1 c r q) hG hq (by omega)) ?_
  refine x_aload_n d_Mo_split_116 rfl ?_
  refine x_iload d_Mo_split_117 rfl ?_
  refine z_if_eq 134 d_Mo_split_119 rfl (by omega) (fun hc119 => ?_) (fun q => absurd q (by omega))
  refine x_aload_n d_Mo_split_134 rfl ?_
  refine y_getf d_Mo_split_135 gf_Mo_41 k_model rfl ?_
  refine x_iload_n d_Mo_split_138 rfl ?_
  refine y_iald hG d_Mo_split_139 k_m_xs _ rfl (by omega) ?_
  rw [moPush_A (by decide), show sA (moSp1 S n np 1 c r q) 197 = sA S 197 from (sA_uAn _ _ _ (by decide)).trans (sA_uAn _ _ _ (by decide))]
  refine x_iload d_Mo_split_140 rfl ?_
  refine z_if_eq 154 d_Mo_split_142 rfl (by omega) (fun hc142 => ?_) (fun q => absurd q (by omega))
  refine x_aload_n d_Mo_split_154 rfl ?_
  refine y_getf d_Mo_split_155 gf_Mo_44 k_model rfl ?_
  refine x_iload_n d_Mo_split_158 rfl ?_
  refine y_iald hG d_Mo_split_159 k_m_ys _ rfl (by omega) ?_
  rw [moPush_A (by decide), show sA (moSp1 S n np 1 c r q) 198 = sA S 198 from (sA_uAn _ _ _ (by decide)).trans (sA_uAn _ _ _ (by decide))]
  refine x_iload d_Mo_split_160 rfl ?_
  refine x_iadd d_Mo_split_162 ?_
  refine x_iload d_Mo_split_163 rfl ?_
  refine z_if_eq 180 d_Mo_split_165 rfl (by omega) (fun hc165 => ?_) (fun q => absurd q (by omega))
  refine x_aload_n d_Mo_split_180 rfl ?_
  refine y_getf d_Mo_split_181 gf_Mo_47 k_model rfl ?_
  refine x_iload_n d_Mo_split_184 rfl ?_
  refine y_iald hG d_Mo_split_185 k_m_ws _ rfl (by omega) ?_
  rw [moPush_A (by decide), show sA (moSp1 S n np 1 c r q) 199 = sA S 199 from (sA_uAn _ _ _ (by decide)).trans (sA_uAn _ _ _ (by decide))]
  refine x_iload d_Mo_split_186 rfl ?_
  refine z_if_eq 200 d_Mo_split_188 rfl (by omega) (fun hc188 => ?_) (fun q => absurd q (by omega))
  refine x_aload_n d_Mo_split_200 rfl ?_
  refine y_getf d_Mo_split_201 gf_Mo_50 k_model rfl ?_
  refine x_iload_n d_Mo_split_204 rfl ?_
  refine y_iald hG d_Mo_split_205 k_m_hs _ rfl (by omega) ?_
  rw [moPush_A (by decide), show sA (moSp1 S n np 1 c r q) 200 = sA S 200 from (sA_uAn _ _ _ (by decide)).trans (sA_uAn _ _ _ (by decide))]
  refine x_iload d_Mo_split_206 rfl ?_
  refine x_isub d_Mo_split_208 ?_
  refine w_callV (As := [_, _, _, _]) d_Mo_split_209 k_Mo_233 k_model rfl rfl rfl (c_Mo_at hG moPush_n (by omega)) ?_
  show EX _ _ _ _ _ _ (mk G B (moSp2 S n m np pcs 1 c r q)) _
  refine x_aload_n d_Mo_split_212 rfl ?_
  refine x_iload_n d_Mo_split_213 rfl ?_
  refine x_iconst (v := nI 3) d_Mo_split_214 (by decide +kernel) ?_
  refine z_icmp_ge 224 d_Mo_split_215 rfl (by omega) (by omega) (fun q => absurd q (by omega)) (fun hc215 => ?_)
  refine x_iload_n d_Mo_split_218 rfl ?_
  refine x_iconst (v := nI 1) d_Mo_split_219 (by decide +kernel) ?_
  refine x_iadd d_Mo_split_220 ?_
  rw [nI_add]
  refine x_goto 225 d_Mo_split_221 rfl ?_
  refine x_iload d_Mo_split_225 rfl ?_
  refine x_iload_n d_Mo_split_227 rfl ?_
  refine z_if_ne 235 d_Mo_split_228 rfl (by omega) (fun hc228 => ?_) (fun q => absurd q (by omega))
  refine x_iload d_Mo_split_235 rfl ?_
  refine x_iload_n d_Mo_split_237 rfl ?_
  refine x_iconst (v := nI 1) d_Mo_split_238 (by decide +kernel) ?_
  refine z_icmp_ne 246 d_Mo_split_239 rfl (by omega) (by omega) (fun q => absurd q (by omega)) (fun hc239 => ?_)
  refine x_iconst (v := nI 0) d_Mo_split_242 (by decide +kernel) ?_
  refine x_goto 248 d_Mo_split_243 rfl ?_
  refine x_iload d_Mo_split_248 rfl ?_
  refine w_callV (As := [_, _, _, _, _]) d_Mo_split_250 k_Mo_230 k_model rfl rfl rfl (c_Mo_push (S := moSp2 S n m np pcs 1 c r q) hG moSp2_n (by omega)) ?_
  refine x_aload_n d_Mo_split_253 rfl ?_
  refine x_aload_n d_Mo_split_254 rfl ?_
  refine y_getf d_Mo_split_255 gf_Mo_41 k_model rfl ?_
  refine x_iload_n d_Mo_split_258 rfl ?_
  refine y_iald hG d_Mo_split_259 k_m_xs _ rfl (by omega) ?_
  rw [moPush_A (by decide), show sA (moSp2 S n m np pcs 1 c r q) 197 = sA S 197 from (moAt_A (by decide)).trans ((moPush_A (by decide)).trans ((sA_uAn _ _ _ (by decide)).trans (sA_uAn _ _ _ (by decide))))]
  refine x_aload_n d_Mo_split_260 rfl ?_
  refine y_getf d_Mo_split_261 gf_Mo_44 k_model rfl ?_
  refine x_iload_n d_Mo_split_264 rfl ?_
  refine y_iald hG d_Mo_split_265 k_m_ys _ rfl (by omega) ?_
  rw [moPush_A (by decide), show sA (moSp2 S n m np pcs 1 c r q) 198 = sA S 198 from (moAt_A (by decide)).trans ((moPush_A (by decide)).trans ((sA_uAn _ _ _ (by decide)).trans (sA_uAn _ _ _ (by decide))))]
  refine x_iload d_Mo_split_266 rfl ?_
  refine z_if_eq 276 d_Mo_split_268 rfl (by omega) (fun hc268 => ?_) (fun q => absurd q (by omega))
  refine x_aload_n d_Mo_split_276 rfl ?_
  refine y_getf d_Mo_split_277 gf_Mo_47 k_model rfl ?_
  refine x_iload_n d_Mo_split_280 rfl ?_
  refine y_iald hG d_Mo_split_281 k_m_ws _ rfl (by omega) ?_
  rw [moPush_A (by decide), show sA (moSp2 S n m np pcs 1 c r q) 199 = sA S 199 from (moAt_A (by decide)).trans ((moPush_A (by decide)).trans ((sA_uAn _ _ _ (by decide)).trans (sA_uAn _ _ _ (by decide))))]
  refine x_iload d_Mo_split_282 rfl ?_
  refine z_if_eq 296 d_Mo_split_284 rfl (by omega) (fun hc284 => ?_) (fun q => absurd q (by omega))
  refine x_iload d_Mo_split_296 rfl ?_
  refine w_callV (As := [_, _, _, _]) d_Mo_split_298 k_Mo_233 k_model rfl rfl rfl (c_Mo_at hG moPush_n (by omega)) ?_
  refine x_return d_Mo_split_301 rfl ?_
  exact ⟨rfl, rfl⟩
set_option maxRecDepth 100000 in
set_option maxHeartbeats 1000000 in
theorem c_Mo_split2 {G : xG} {B d : Nat} {S : xS} (hG : xOkG G) {s m n np pcs q : Nat} {c r : Int32} (hs : s < 8) (hm : m < 160) (hn : n = 160 * s + m) (hp : sF S 186 36 = nI np) (hp40 : np ≤ 40) (hq : sF S 186 43 = nI pcs) (hpc : pcs + 1 < 64) (hqq : q < 2 ^ 30) : EX G m_Mo_split (d + 3) 0 [(0, .ref (B + 186)), (1, .int (nI s)), (2, .int (nI n)), (3, .int (nI 2)), (4, .int c), (5, .int r), (6, .int (nI q))] [] (mk G B S) (xRet G B none (moSplit S n m np pcs 2 c r q)) := by
  refine x_aload_n d_Mo_split_0 rfl ?_
  refine x_iload_n d_Mo_split_1 rfl ?_
  refine x_iload d_Mo_split_2 rfl ?_
  refine x_iload d_Mo_split_4 rfl ?_
  refine x_iload d_Mo_split_6 rfl ?_
  refine w_callV (As := [_, _, _, _]) d_Mo_split_8 k_Mo_222 k_model rfl rfl rfl (c_Mo_reach2 hG hp hp40 (by omega)) ?_
  refine s_istore (lv' := [(0, _), (1, _), (2, _), (3, _), (4, _), (5, _), (6, _), (7, _)]) d_Mo_split_11 (by decide) rfl ?_
  refine x_iload_n d_Mo_split_13 rfl ?_
  refine x_iconst (v := nI 2) d_Mo_split_14 (by decide +kernel) ?_
  refine x_irem d_Mo_split_15 (by decide +kernel) ?_
  rw [nI_rem (by decide) (by decide) (by decide)]
  refine z_if_ne 23 d_Mo_split_16 rfl (by omega) (fun q => absurd q (by omega)) (fun hc16 => ?_)
  refine x_iconst (v := nI 1) d_Mo_split_19 (by decide +kernel) ?_
  refine x_goto 24 d_Mo_split_20 rfl ?_
  refine s_istore (lv' := [(0, _), (1, _), (2, _), (3, _), (4, _), (5, _), (6, _), (7, _), (8, _)]) d_Mo_split_24 (by decide) rfl ?_
  refine x_aload_n d_Mo_split_26 rfl ?_
  refine y_getf d_Mo_split_27 gf_Mo_38 k_model rfl ?_
  refine x_iload_n d_Mo_split_30 rfl ?_
  refine x_iload d_Mo_split_31 rfl ?_
  refine z_if_eq 40 d_Mo_split_33 rfl (by omega) (fun q => absurd q (by omega)) (fun hc33 => ?_)
  refine x_iconst (v := nI 0) d_Mo_split_36 (by decide +kernel) ?_
  refine x_goto 41 d_Mo_split_37 rfl ?_
  refine y_iast hG d_Mo_split_41 k_m_kinds _ rfl (by omega) ?_
  refine x_aload_n d_Mo_split_42 rfl ?_
  refine y_getf d_Mo_split_43 gf_Mo_53 k_model rfl ?_
  refine x_iload_n d_Mo_split_46 rfl ?_
  refine x_iload d_Mo_split_47 rfl ?_
  refine y_iast hG d_Mo_split_49 k_m_cuts _ rfl (by omega) ?_
  refine x_iload_n d_Mo_split_50 rfl ?_
  refine x_sipush (v := nI 160) d_Mo_split_51 (by decide +kernel) ?_
  refine x_iload_n d_Mo_split_54 rfl ?_
  refine x_imul d_Mo_split_55 ?_
  rw [nI_mul]
  refine x_isub d_Mo_split_56 ?_
  rw [pk_sub (by omega), show n - 160 * s = m by omega]
  refine s_istore (lv' := [(0, _), (1, _), (2, _), (3, _), (4, _), (5, _), (6, _), (7, _), (8, _), (9, _)]) d_Mo_split_57 (by decide) rfl ?_
  show EX _ _ _ _ _ _ (mk G B (moSp1 S n np 2 c r q)) _
  refine x_aload_n d_Mo_split_59 rfl ?_
  refine x_iload_n d_Mo_split_60 rfl ?_
  refine x_iconst (v := nI 3) d_Mo_split_61 (by decide +kernel) ?_
  refine z_icmp_ne 69 d_Mo_split_62 rfl (by omega) (by omega) (fun hc62 => ?_) (fun q => absurd q (by omega))
  refine x_iload_n d_Mo_split_69 rfl ?_
  refine x_iload_n d_Mo_split_70 rfl ?_
  refine z_if_ne 81 d_Mo_split_71 rfl (by omega) (fun hc71 => ?_) (fun q => absurd q (by omega))
  refine x_iload d_Mo_split_81 rfl ?_
  refine x_iload_n d_Mo_split_83 rfl ?_
  refine x_iconst (v := nI 1) d_Mo_split_84 (by decide +kernel) ?_
  refine z_icmp_ne 95 d_Mo_split_85 rfl (by omega) (by omega) (fun hc85 => ?_) (fun q => absurd q (by omega))
  refine x_iload d_Mo_split_95 rfl ?_
  refine x_iload_n d_Mo_split_97 rfl ?_
  refine x_iconst (v := nI 2) d_Mo_split_98 (by decide +kernel) ?_
  refine z_icmp_ne 109 d_Mo_split_99 rfl (by omega) (by omega) (fun q => absurd q (by omega)) (fun hc99 => ?_)
  refine x_iload d_Mo_split_102 rfl ?_
  refine x_iconst (v := nI 1) d_Mo_split_104 (by decide +kernel) ?_
  refine x_iadd d_Mo_split_105 ?_
  rw [nI_add]
  refine x_goto 111 d_Mo_split_106 rfl ?_
  refine x_iload d_Mo_split_111 rfl ?_
  refine w_callV (As := [_, _, _, _, _]) d_Mo_split_113 k_Mo_230 k_model rfl rfl rfl (c_Mo_push (S := moSp1 S n np 2 c r q) hG hq (by omega)) ?_
  refine x_aload_n d_Mo_split_116 rfl ?_
  refine x_iload d_Mo_split_117 rfl ?_
  refine z_if_eq 134 d_Mo_split_119 rfl (by omega) (fun q => absurd q (by omega)) (fun hc119 => ?_)
  refine x_aload_n d_Mo_split_122 rfl ?_
  refine y_getf d_Mo_split_123 gf_Mo_41 k_model rfl ?_
  refine x_iload_n d_Mo_split_126 rfl ?_
  refine y_iald hG d_Mo_split_127 k_m_xs _ rfl (by omega) ?_
  rw [moPush_A (by decide), show sA (moSp1 S n np 2 c r q) 197 = sA S 197 from (sA_uAn _ _ _ (by decide)).trans (sA_uAn _ _ _ (by decide))]
  refine x_iload d_Mo_split_128 rfl ?_
  refine x_iadd d_Mo_split_130 ?_
  refine x_goto 140 d_Mo_split_131 rfl ?_
  refine x_iload d_Mo_split_140 rfl ?_
  refine z_if_eq 154 d_Mo_split_142 rfl (by omega) (fun q => absurd q (by omega)) (fun hc142 => ?_)
  refine x_aload_n d_Mo_split_145 rfl ?_
  refine y_getf d_Mo_split_146 gf_Mo_44 k_model rfl ?_
  refine x_iload_n d_Mo_split_149 rfl ?_
  refine y_iald hG d_Mo_split_150 k_m_ys _ rfl (by omega) ?_
  rw [moPush_A (by decide), show sA (moSp1 S n np 2 c r q) 198 = sA S 198 from (sA_uAn _ _ _ (by decide)).trans (sA_uAn _ _ _ (by decide))]
  refine x_goto 163 d_Mo_split_151 rfl ?_
  refine x_iload d_Mo_split_163 rfl ?_
  refine z_if_eq 180 d_Mo_split_165 rfl (by omega) (fun q => absurd q (by omega)) (fun hc165 => ?_)
  refine x_aload_n d_Mo_split_168 rfl ?_
  refine y_getf d_Mo_split_169 gf_Mo_47 k_model rfl ?_
  refine x_iload_n d_Mo_split_172 rfl ?_
  refine y_iald hG d_Mo_split_173 k_m_ws _ rfl (by omega) ?_
  rw [moPush_A (by decide), show sA (moSp1 S n np 2 c r q) 199 = sA S 199 from (sA_uAn _ _ _ (by decide)).trans (sA_uAn _ _ _ (by decide))]
  refine x_iload d_Mo_split_174 rfl ?_
  refine x_isub d_Mo_split_176 ?_
  refine x_goto 186 d_Mo_split_177 rfl ?_
  refine x_iload d_Mo_split_186 rfl ?_
  refine z_if_eq 200 d_Mo_split_188 rfl (by omega) (fun q => absurd q (by omega)) (fun hc188 => ?_)
  refine x_aload_n d_Mo_split_191 rfl ?_
  refine y_getf d_Mo_split_192 gf_Mo_50 k_model rfl ?_
  refine x_iload_n d_Mo_split_195 rfl ?_
  refine y_iald hG d_Mo_split_196 k_m_hs _ rfl (by omega) ?_
  rw [moPush_A (by decide), show sA (moSp1 S n np 2 c r q) 200 = sA S 200 from (sA_uAn _ _ _ (by decide)).trans (sA_uAn _ _ _ (by decide))]
  refine x_goto 209 d_Mo_split_197 rfl ?_
  refine w_callV (As := [_, _, _, _]) d_Mo_split_209 k_Mo_233 k_model rfl rfl rfl (c_Mo_at hG moPush_n (by omega)) ?_
  show EX _ _ _ _ _ _ (mk G B (moSp2 S n m np pcs 2 c r q)) _
  refine x_aload_n d_Mo_split_212 rfl ?_
  refine x_iload_n d_Mo_split_213 rfl ?_
  refine x_iconst (v := nI 3) d_Mo_split_214 (by decide +kernel) ?_
  refine z_icmp_ge 224 d_Mo_split_215 rfl (by omega) (by omega) (fun q => absurd q (by omega)) (fun hc215 => ?_)
  refine x_iload_n d_Mo_split_218 rfl ?_
  refine x_iconst (v := nI 1) d_Mo_split_219 (by decide +kernel) ?_
  refine x_iadd d_Mo_split_220 ?_
  rw [nI_add]
  refine x_goto 225 d_Mo_split_221 rfl ?_
  refine x_iload d_Mo_split_225 rfl ?_
  refine x_iload_n d_Mo_split_227 rfl ?_
  refine z_if_ne 235 d_Mo_split_228 rfl (by omega) (fun hc228 => ?_) (fun q => absurd q (by omega))
  refine x_iload d_Mo_split_235 rfl ?_
  refine x_iload_n d_Mo_split_237 rfl ?_
  refine x_iconst (v := nI 1) d_Mo_split_238 (by decide +kernel) ?_
  refine z_icmp_ne 246 d_Mo_split_239 rfl (by omega) (by omega) (fun hc239 => ?_) (fun q => absurd q (by omega))
  refine x_iload d_Mo_split_246 rfl ?_
  refine x_iload d_Mo_split_248 rfl ?_
  refine w_callV (As := [_, _, _, _, _]) d_Mo_split_250 k_Mo_230 k_model rfl rfl rfl (c_Mo_push (S := moSp2 S n m np pcs 2 c r q) hG moSp2_n (by omega)) ?_
  refine x_aload_n d_Mo_split_253 rfl ?_
  refine x_aload_n d_Mo_split_254 rfl ?_
  refine y_getf d_Mo_split_255 gf_Mo_41 k_model rfl ?_
  refine x_iload_n d_Mo_split_258 rfl ?_
  refine y_iald hG d_Mo_split_259 k_m_xs _ rfl (by omega) ?_
  rw [moPush_A (by decide), show sA (moSp2 S n m np pcs 2 c r q) 197 = sA S 197 from (moAt_A (by decide)).trans ((moPush_A (by decide)).trans ((sA_uAn _ _ _ (by decide)).trans (sA_uAn _ _ _ (by decide))))]
  refine x_aload_n d_Mo_split_260 rfl ?_
  refine y_getf d_Mo_split_261 gf_Mo_44 k_model rfl ?_
  refine x_iload_n d_Mo_split_264 rfl ?_
  refine y_iald hG d_Mo_split_265 k_m_ys _ rfl (by omega) ?_
  rw [moPush_A (by decide), show sA (moSp2 S n m np pcs 2 c r q) 198 = sA S 198 from (moAt_A (by decide)).trans ((moPush_A (by decide)).trans ((sA_uAn _ _ _ (by decide)).trans (sA_uAn _ _ _ (by decide))))]
  refine x_iload d_Mo_split_266 rfl ?_
  refine z_if_eq 276 d_Mo_split_268 rfl (by omega) (fun q => absurd q (by omega)) (fun hc268 => ?_)
  refine x_iload d_Mo_split_271 rfl ?_
  refine x_goto 282 d_Mo_split_273 rfl ?_
  refine x_iload d_Mo_split_282 rfl ?_
  refine z_if_eq 296 d_Mo_split_284 rfl (by omega) (fun q => absurd q (by omega)) (fun hc284 => ?_)
  refine x_aload_n d_Mo_split_287 rfl ?_
  refine y_getf d_Mo_split_288 gf_Mo_50 k_model rfl ?_
  refine x_iload_n d_Mo_split_291 rfl ?_
  refine y_iald hG d_Mo_split_292 k_m_hs _ rfl (by omega) ?_
  rw [moPush_A (by decide), show sA (moSp2 S n m np pcs 2 c r q) 200 = sA S 200 from (moAt_A (by decide)).trans ((moPush_A (by decide)).trans ((sA_uAn _ _ _ (by decide)).trans (sA_uAn _ _ _ (by decide))))]
  refine x_goto 298 d_Mo_split_293 rfl ?_
  refine w_callV (As := [_, _, _, _]) d_Mo_split_298 k_Mo_233 k_model rfl rfl rfl (c_Mo_at hG moPush_n (by omega)) ?_
  refine x_return d_Mo_split_301 rfl ?_
  exact ⟨rfl, rfl⟩
set_option maxRecDepth 100000 in
set_option maxHeartbeats 1000000 in
theorem c_Mo_split3 {G : xG} {B d : Nat} {S : xS} (hG : xOkG G) {s m n np pcs q : Nat} {c r : Int32} (hs : s < 8) (hm : m < 160) (hn : n = 160 * s + m) (hp : sF S 186 36 = nI np) (hp40 : np ≤ 40) (hq : sF S 186 43 = nI pcs) (hpc : pcs + 1 < 64) (hqq : q < 2 ^ 30) : EX G m_Mo_split (d + 3) 0 [(0, .ref (B + 186)), (1, .int (nI s)), (2, .int (nI n)), (3, .int (nI 3)), (4, .int c), (5, .int r), (6, .int (nI q))] [] (mk G B S) (xRet G B none (moSplit S n m np pcs 3 c r q)) := by
  refine x_aload_n d_Mo_split_0 rfl ?_
  refine x_iload_n d_Mo_split_1 rfl ?_
  refine x_iload d_Mo_split_2 rfl ?_
  refine x_iload d_Mo_split_4 rfl ?_
  refine x_iload d_Mo_split_6 rfl ?_
  refine w_callV (As := [_, _, _, _]) d_Mo_split_8 k_Mo_222 k_model rfl rfl rfl (c_Mo_reach3 hG hp hp40 (by omega)) ?_
  refine s_istore (lv' := [(0, _), (1, _), (2, _), (3, _), (4, _), (5, _), (6, _), (7, _)]) d_Mo_split_11 (by decide) rfl ?_
  refine x_iload_n d_Mo_split_13 rfl ?_
  refine x_iconst (v := nI 2) d_Mo_split_14 (by decide +kernel) ?_
  refine x_irem d_Mo_split_15 (by decide +kernel) ?_
  rw [nI_rem (by decide) (by decide) (by decide)]
  refine z_if_ne 23 d_Mo_split_16 rfl (by omega) (fun hc16 => ?_) (fun q => absurd q (by omega))
  refine x_iconst (v := nI 0) d_Mo_split_23 (by decide +kernel) ?_
  refine s_istore (lv' := [(0, _), (1, _), (2, _), (3, _), (4, _), (5, _), (6, _), (7, _), (8, _)]) d_Mo_split_24 (by decide) rfl ?_
  refine x_aload_n d_Mo_split_26 rfl ?_
  refine y_getf d_Mo_split_27 gf_Mo_38 k_model rfl ?_
  refine x_iload_n d_Mo_split_30 rfl ?_
  refine x_iload d_Mo_split_31 rfl ?_
  refine z_if_eq 40 d_Mo_split_33 rfl (by omega) (fun hc33 => ?_) (fun q => absurd q (by omega))
  refine x_iconst (v := nI 1) d_Mo_split_40 (by decide +kernel) ?_
  refine y_iast hG d_Mo_split_41 k_m_kinds _ rfl (by omega) ?_
  refine x_aload_n d_Mo_split_42 rfl ?_
  refine y_getf d_Mo_split_43 gf_Mo_53 k_model rfl ?_
  refine x_iload_n d_Mo_split_46 rfl ?_
  refine x_iload d_Mo_split_47 rfl ?_
  refine y_iast hG d_Mo_split_49 k_m_cuts _ rfl (by omega) ?_
  refine x_iload_n d_Mo_split_50 rfl ?_
  refine x_sipush (v := nI 160) d_Mo_split_51 (by decide +kernel) ?_
  refine x_iload_n d_Mo_split_54 rfl ?_
  refine x_imul d_Mo_split_55 ?_
  rw [nI_mul]
  refine x_isub d_Mo_split_56 ?_
  rw [pk_sub (by omega), show n - 160 * s = m by omega]
  refine s_istore (lv' := [(0, _), (1, _), (2, _), (3, _), (4, _), (5, _), (6, _), (7, _), (8, _), (9, _)]) d_Mo_split_57 (by decide) rfl ?_
  show EX _ _ _ _ _ _ (mk G B (moSp1 S n np 3 c r q)) _
  refine x_aload_n d_Mo_split_59 rfl ?_
  refine x_iload_n d_Mo_split_60 rfl ?_
  refine x_iconst (v := nI 3) d_Mo_split_61 (by decide +kernel) ?_
  refine z_icmp_ne 69 d_Mo_split_62 rfl (by omega) (by omega) (fun q => absurd q (by omega)) (fun hc62 => ?_)
  refine x_iconst (v := nI 4) d_Mo_split_65 (by decide +kernel) ?_
  refine x_goto 70 d_Mo_split_66 rfl ?_
  refine x_iload_n d_Mo_split_70 rfl ?_
  refine z_if_ne 81 d_Mo_split_71 rfl (by omega) (fun hc71 => ?_) (fun q => absurd q (by omega))
  refine x_iload d_Mo_split_81 rfl ?_
  refine x_iload_n d_Mo_split_83 rfl ?_
  refine x_iconst (v := nI 1) d_Mo_split_84 (by decide +kernel) ?_
  refine z_icmp_ne 95 d_Mo_split_85 rfl (by omega) (by omega) (fun hc85 => ?_) (fun q => absurd q (by omega))
  refine x_iload d_Mo_split_95 rfl ?_
  refine x_iload_n d_Mo_split_97 rfl ?_
  refine x_iconst (v := nI 2) d_Mo_split_98 (by decide +kernel) ?_
  refine z_icmp_ne 109 d_Mo_split_99 rfl (by omega) (by omega) (fun hc99 => ?_) (fun q => absurd q (by omega))
  refine x_iload d_Mo_split_109 rfl ?_
  refine x_iload d_Mo_split_111 rfl ?_
  refine w_callV (As := [_, _, _, _, _]) d_Mo_split_113 k_Mo_230 k_model rfl rfl rfl (c_Mo_push (S := moSp1 S n np 3 c r q) hG hq (by omega)) ?_
  refine x_aload_n d_Mo_split_116 rfl ?_
  refine x_iload d_Mo_split_117 rfl ?_
  refine z_if_eq 134 d_Mo_split_119 rfl (by omega) (fun hc119 => ?_) (fun q => absurd q (by omega))
  refine x_aload_n d_Mo_split_134 rfl ?_
  refine y_getf d_Mo_split_135 gf_Mo_41 k_model rfl ?_
  refine x_iload_n d_Mo_split_138 rfl ?_
  refine y_iald hG d_Mo_split_139 k_m_xs _ rfl (by omega) ?_
  rw [moPush_A (by decide), show sA (moSp1 S n np 3 c r q) 197 = sA S 197 from (sA_uAn _ _ _ (by decide)).trans (sA_uAn _ _ _ (by decide))]
  refine x_iload d_Mo_split_140 rfl ?_
  refine z_if_eq 154 d_Mo_split_142 rfl (by omega) (fun hc142 => ?_) (fun q => absurd q (by omega))
  refine x_aload_n d_Mo_split_154 rfl ?_
  refine y_getf d_Mo_split_155 gf_Mo_44 k_model rfl ?_
  refine x_iload_n d_Mo_split_158 rfl ?_
  refine y_iald hG d_Mo_split_159 k_m_ys _ rfl (by omega) ?_
  rw [moPush_A (by decide), show sA (moSp1 S n np 3 c r q) 198 = sA S 198 from (sA_uAn _ _ _ (by decide)).trans (sA_uAn _ _ _ (by decide))]
  refine x_iload d_Mo_split_160 rfl ?_
  refine x_iadd d_Mo_split_162 ?_
  refine x_iload d_Mo_split_163 rfl ?_
  refine z_if_eq 180 d_Mo_split_165 rfl (by omega) (fun hc165 => ?_) (fun q => absurd q (by omega))
  refine x_aload_n d_Mo_split_180 rfl ?_
  refine y_getf d_Mo_split_181 gf_Mo_47 k_model rfl ?_
  refine x_iload_n d_Mo_split_184 rfl ?_
  refine y_iald hG d_Mo_split_185 k_m_ws _ rfl (by omega) ?_
  rw [moPush_A (by decide), show sA (moSp1 S n np 3 c r q) 199 = sA S 199 from (sA_uAn _ _ _ (by decide)).trans (sA_uAn _ _ _ (by decide))]
  refine x_iload d_Mo_split_186 rfl ?_
  refine z_if_eq 200 d_Mo_split_188 rfl (by omega) (fun hc188 => ?_) (fun q => absurd q (by omega))
  refine x_aload_n d_Mo_split_200 rfl ?_
  refine y_getf d_Mo_split_201 gf_Mo_50 k_model rfl ?_
  refine x_iload_n d_Mo_split_204 rfl ?_
  refine y_iald hG d_Mo_split_205 k_m_hs _ rfl (by omega) ?_
  rw [moPush_A (by decide), show sA (moSp1 S n np 3 c r q) 200 = sA S 200 from (sA_uAn _ _ _ (by decide)).trans (sA_uAn _ _ _ (by decide))]
  refine x_iload d_Mo_split_206 rfl ?_
  refine x_isub d_Mo_split_208 ?_
  refine w_callV (As := [_, _, _, _]) d_Mo_split_209 k_Mo_233 k_model rfl rfl rfl (c_Mo_at hG moPush_n (by omega)) ?_
  show EX _ _ _ _ _ _ (mk G B (moSp2 S n m np pcs 3 c r q)) _
  refine x_aload_n d_Mo_split_212 rfl ?_
  refine x_iload_n d_Mo_split_213 rfl ?_
  refine x_iconst (v := nI 3) d_Mo_split_214 (by decide +kernel) ?_
  refine z_icmp_ge 224 d_Mo_split_215 rfl (by omega) (by omega) (fun hc215 => ?_) (fun q => absurd q (by omega))
  refine x_iconst (v := nI 3) d_Mo_split_224 (by decide +kernel) ?_
  refine x_iload d_Mo_split_225 rfl ?_
  refine x_iload_n d_Mo_split_227 rfl ?_
  refine z_if_ne 235 d_Mo_split_228 rfl (by omega) (fun hc228 => ?_) (fun q => absurd q (by omega))
  refine x_iload d_Mo_split_235 rfl ?_
  refine x_iload_n d_Mo_split_237 rfl ?_
  refine x_iconst (v := nI 1) d_Mo_split_238 (by decide +kernel) ?_
  refine z_icmp_ne 246 d_Mo_split_239 rfl (by omega) (by omega) (fun hc239 => ?_) (fun q => absurd q (by omega))
  refine x_iload d_Mo_split_246 rfl ?_
  refine x_iload d_Mo_split_248 rfl ?_
  refine w_callV (As := [_, _, _, _, _]) d_Mo_split_250 k_Mo_230 k_model rfl rfl rfl (c_Mo_push (S := moSp2 S n m np pcs 3 c r q) hG moSp2_n (by omega)) ?_
  refine x_aload_n d_Mo_split_253 rfl ?_
  refine x_aload_n d_Mo_split_254 rfl ?_
  refine y_getf d_Mo_split_255 gf_Mo_41 k_model rfl ?_
  refine x_iload_n d_Mo_split_258 rfl ?_
  refine y_iald hG d_Mo_split_259 k_m_xs _ rfl (by omega) ?_
  rw [moPush_A (by decide), show sA (moSp2 S n m np pcs 3 c r q) 197 = sA S 197 from (moAt_A (by decide)).trans ((moPush_A (by decide)).trans ((sA_uAn _ _ _ (by decide)).trans (sA_uAn _ _ _ (by decide))))]
  refine x_aload_n d_Mo_split_260 rfl ?_
  refine y_getf d_Mo_split_261 gf_Mo_44 k_model rfl ?_
  refine x_iload_n d_Mo_split_264 rfl ?_
  refine y_iald hG d_Mo_split_265 k_m_ys _ rfl (by omega) ?_
  rw [moPush_A (by decide), show sA (moSp2 S n m np pcs 3 c r q) 198 = sA S 198 from (moAt_A (by decide)).trans ((moPush_A (by decide)).trans ((sA_uAn _ _ _ (by decide)).trans (sA_uAn _ _ _ (by decide))))]
  refine x_iload d_Mo_split_266 rfl ?_
  refine z_if_eq 276 d_Mo_split_268 rfl (by omega) (fun hc268 => ?_) (fun q => absurd q (by omega))
  refine x_aload_n d_Mo_split_276 rfl ?_
  refine y_getf d_Mo_split_277 gf_Mo_47 k_model rfl ?_
  refine x_iload_n d_Mo_split_280 rfl ?_
  refine y_iald hG d_Mo_split_281 k_m_ws _ rfl (by omega) ?_
  rw [moPush_A (by decide), show sA (moSp2 S n m np pcs 3 c r q) 199 = sA S 199 from (moAt_A (by decide)).trans ((moPush_A (by decide)).trans ((sA_uAn _ _ _ (by decide)).trans (sA_uAn _ _ _ (by decide))))]
  refine x_iload d_Mo_split_282 rfl ?_
  refine z_if_eq 296 d_Mo_split_284 rfl (by omega) (fun hc284 => ?_) (fun q => absurd q (by omega))
  refine x_iload d_Mo_split_296 rfl ?_
  refine w_callV (As := [_, _, _, _]) d_Mo_split_298 k_Mo_233 k_model rfl rfl rfl (c_Mo_at hG moPush_n (by omega)) ?_
  refine x_return d_Mo_split_301 rfl ?_
  exact ⟨rfl, rfl⟩
def moEnd (S : xS) (n m np pcs has : Nat) (c r : Int32) (q : Nat) : xS :=
  if moReach S np has c r q = 0 then uA (uA S 196 n (nI 3)) 201 n (-1)
  else if has = 3 ∧ moReach S np has c r q = sA S 200 n then uA (uA S 196 n (nI 2)) 201 n (sA S 215 ((moPA S c r q np 0 0).getD 0))
  else moSplit S n m np pcs has c r q
def moDown (S : xS) (n np has : Nat) (c r : Int32) (q : Nat) : Bool := decide (has < 3) && (!decide (moReach S np has c r q ≤ 0) && decide (moReach S np has c r q = (if has = 1 then sA S 200 n else sA S 199 n)))
def moGo (S : xS) (n m np pcs : Nat) (c : Int32) : Nat → Nat → Int32 → Nat → xS
  | 0, has, r, q => moEnd S n m np pcs has c r q
  | k + 1, has, r, q => if moDown S n np has c r q = true then moGo S n m np pcs c k (has + 1) (if has + 1 = 1 then nI 0 else r) (if has + 1 = 2 then 0 else q) else moEnd S n m np pcs has c r q
theorem moPA_c {S Z : xS} {c r : Int32} {p : Nat} (h1 : sA Z 218 = sA S 218) (h2 : sA Z 219 = sA S 219) : ∀ k i q, moPA Z c r p k i q = moPA S c r p k i q
  | 0, _, _ => rfl
  | k + 1, i, q => by
    have e : moInR Z i c r = moInR S i c r := by unfold moInR; rw [h1, h2]
    show (if moInR Z i c r = true then (if q = p then some i else moPA Z c r p k (i + 1) (q + 1)) else moPA Z c r p k (i + 1) q) = _
    rw [e, moPA_c h1 h2 k, moPA_c h1 h2 k]
    rfl
set_option maxRecDepth 100000 in
set_option maxHeartbeats 1000000 in
theorem c_Mo_grow298_4 {G : xG} {B d : Nat} {S : xS} (hG : xOkG G) {s m n np pcs q : Nat} {c r : Int32} (hs : s < 8) (hm : m < 160) (hn : n = 160 * s + m) (hp : sF S 186 36 = nI np) (hp40 : np ≤ 40) (hq : sF S 186 43 = nI pcs) (hpc : pcs + 1 < 64) (hqq : q < 2 ^ 30) : EX G m_Mo_grow (d + 4) 298 [(0, .ref (B + 186)), (1, .int (nI s)), (2, .int (nI 4)), (3, .int c), (4, .int r), (5, .int (nI q)), (6, .int (nI n)), (8, .int (moReach S np 4 c r q))] [] (mk G B S) (xRet G B none (moGo S n m np pcs c 0 4 r q)) := by
  have hn1280 : n < 1280 := by omega
  refine x_iload_n d_Mo_grow_298 rfl ?_
  refine x_iconst (v := nI 3) d_Mo_grow_299 (by decide +kernel) ?_
  refine z_icmp_ge 379 d_Mo_grow_300 rfl (by omega) (by omega) (fun hc300 => ?_) (fun q => absurd q (by omega))
  refine x_iload d_Mo_grow_379 rfl ?_
  refine x_if_ne 403 d_Mo_grow_381 rfl (fun q => absurd q (fun q => q rfl)) (fun hc381 => ?_)
  refine x_aload_n d_Mo_grow_384 rfl ?_
  refine y_getf d_Mo_grow_385 gf_Mo_38 k_model rfl ?_
  refine x_iload d_Mo_grow_388 rfl ?_
  refine x_iconst (v := nI 3) d_Mo_grow_390 (by decide +kernel) ?_
  refine y_iast hG d_Mo_grow_391 k_m_kinds _ rfl (by omega) ?_
  refine x_aload_n d_Mo_grow_392 rfl ?_
  refine y_getf d_Mo_grow_393 gf_Mo_53 k_model rfl ?_
  refine x_iload d_Mo_grow_396 rfl ?_
  refine x_iconst (v := -1) d_Mo_grow_398 (by decide +kernel) ?_
  refine y_iast hG d_Mo_grow_399 k_m_cuts _ rfl (by omega) ?_
  refine x_goto 465 d_Mo_grow_400 rfl ?_
  refine x_return d_Mo_grow_465 rfl ?_
  show xRet G B none (moEnd S n m np pcs 4 c r q) _ _
  unfold moEnd
  first
    | (rw [if_pos hc381]; exact ⟨rfl, rfl⟩)
    | (rw [if_neg hc381, if_pos ⟨rfl, hc417⟩, hpa]; exact ⟨rfl, rfl⟩)
    | (rw [if_neg hc381, if_neg (fun e => hc417 e.2)]; exact ⟨rfl, rfl⟩)
    | (rw [if_neg hc381, if_neg (fun e => absurd e.1 (by decide))]; exact ⟨rfl, rfl⟩)
set_option maxRecDepth 100000 in
set_option maxHeartbeats 1000000 in
theorem c_Mo_grow298_3 {G : xG} {B d : Nat} {S : xS} (hG : xOkG G) {s m n np pcs q : Nat} {c r : Int32} (hs : s < 8) (hm : m < 160) (hn : n = 160 * s + m) (hp : sF S 186 36 = nI np) (hp40 : np ≤ 40) (hq : sF S 186 43 = nI pcs) (hpc : pcs + 1 < 64) (hqq : q < 2 ^ 30) : EX G m_Mo_grow (d + 4) 298 [(0, .ref (B + 186)), (1, .int (nI s)), (2, .int (nI 3)), (3, .int c), (4, .int r), (5, .int (nI q)), (6, .int (nI n)), (8, .int (moReach S np 3 c r q))] [] (mk G B S) (xRet G B none (moGo S n m np pcs c 0 3 r q)) := by
  have hn1280 : n < 1280 := by omega
  refine x_iload_n d_Mo_grow_298 rfl ?_
  refine x_iconst (v := nI 3) d_Mo_grow_299 (by decide +kernel) ?_
  refine z_icmp_ge 379 d_Mo_grow_300 rfl (by omega) (by omega) (fun hc300 => ?_) (fun q => absurd q (by omega))
  refine x_iload d_Mo_grow_379 rfl ?_
  refine x_if_ne 403 d_Mo_grow_381 rfl (fun hc381 => ?_) (fun hc381 => ?_)
  · skip
    skip
    refine x_iload_n d_Mo_grow_403 rfl ?_
    refine x_iconst (v := nI 3) d_Mo_grow_404 (by decide +kernel) ?_
    refine z_icmp_ne 452 d_Mo_grow_405 rfl (by omega) (by omega) (fun q => absurd q (by omega)) (fun hc405 => ?_)
    refine x_iload d_Mo_grow_408 rfl ?_
    refine x_aload_n d_Mo_grow_410 rfl ?_
    refine y_getf d_Mo_grow_411 gf_Mo_50 k_model rfl ?_
    refine x_iload d_Mo_grow_414 rfl ?_
    refine y_iald hG d_Mo_grow_416 k_m_hs _ rfl (by omega) ?_
    refine x_icmp_ne 452 d_Mo_grow_417 rfl (fun hc417 => ?_) (fun hc417 => ?_)
    · skip
      skip
      refine x_aload_n d_Mo_grow_452 rfl ?_
      refine x_iload_n d_Mo_grow_453 rfl ?_
      refine x_iload d_Mo_grow_454 rfl ?_
      refine x_iload_n d_Mo_grow_456 rfl ?_
      refine x_iload_n d_Mo_grow_457 rfl ?_
      refine x_iload d_Mo_grow_458 rfl ?_
      refine x_iload d_Mo_grow_460 rfl ?_
      refine w_callV (As := [_, _, _, _, _, _]) d_Mo_grow_462 k_Mo_226 k_model rfl rfl rfl (c_Mo_split3 hG hs hm hn hp hp40 hq hpc (by omega)) ?_
      refine x_return d_Mo_grow_465 rfl ?_
      show xRet G B none (moEnd S n m np pcs 3 c r q) _ _
      unfold moEnd
      first
        | (rw [if_pos hc381]; exact ⟨rfl, rfl⟩)
        | (rw [if_neg hc381, if_pos ⟨rfl, hc417⟩, hpa]; exact ⟨rfl, rfl⟩)
        | (rw [if_neg hc381, if_neg (fun e => hc417 e.2)]; exact ⟨rfl, rfl⟩)
        | (rw [if_neg hc381, if_neg (fun e => absurd e.1 (by decide))]; exact ⟨rfl, rfl⟩)
    · skip
      obtain ⟨i, hpa⟩ : ∃ i, moPA S c r q np 0 0 = some i := by
        cases e : moPA S c r q np 0 0 with
        | none => exact absurd (by simp only [moReach, e]; rfl) hc381
        | some i => exact ⟨i, rfl⟩
      have hi := moPA_lt hpa
      refine x_aload_n d_Mo_grow_420 rfl ?_
      refine y_getf d_Mo_grow_421 gf_Mo_38 k_model rfl ?_
      refine x_iload d_Mo_grow_424 rfl ?_
      refine x_iconst (v := nI 2) d_Mo_grow_426 (by decide +kernel) ?_
      refine y_iast hG d_Mo_grow_427 k_m_kinds _ rfl (by omega) ?_
      refine x_aload_n d_Mo_grow_428 rfl ?_
      refine y_getf d_Mo_grow_429 gf_Mo_53 k_model rfl ?_
      refine x_iload d_Mo_grow_432 rfl ?_
      refine x_aload_n d_Mo_grow_434 rfl ?_
      refine y_getf d_Mo_grow_435 gf_Mo_95 k_model rfl ?_
      refine x_aload_n d_Mo_grow_438 rfl ?_
      refine x_iload_n d_Mo_grow_439 rfl ?_
      refine x_iload d_Mo_grow_440 rfl ?_
      refine x_iload d_Mo_grow_442 rfl ?_
      refine w_callV (As := [_, _, _]) d_Mo_grow_444 k_Mo_219 k_model rfl rfl rfl (c_Mo_paneAt (S := uA S 196 n (nI 2)) hG hp hp40 (by omega)) ?_
      rw [show moPA (uA S 196 n (nI 2)) c r q np 0 0 = moPA S c r q np 0 0 from moPA_c (sA_uAn _ _ _ (by decide)) (sA_uAn _ _ _ (by decide)) _ _ _, hpa, show cI (some i) = nI i from rfl]
      refine y_iald hG d_Mo_grow_447 k_m_paneOrder _ rfl (by omega) ?_
      rw [sA_uAn _ _ _ (by decide)]
      refine y_iast hG d_Mo_grow_448 k_m_cuts _ rfl (by omega) ?_
      refine x_goto 465 d_Mo_grow_449 rfl ?_
      refine x_return d_Mo_grow_465 rfl ?_
      show xRet G B none (moEnd S n m np pcs 3 c r q) _ _
      unfold moEnd
      first
        | (rw [if_pos hc381]; exact ⟨rfl, rfl⟩)
        | (rw [if_neg hc381, if_pos ⟨rfl, hc417⟩, hpa]; exact ⟨rfl, rfl⟩)
        | (rw [if_neg hc381, if_neg (fun e => hc417 e.2)]; exact ⟨rfl, rfl⟩)
        | (rw [if_neg hc381, if_neg (fun e => absurd e.1 (by decide))]; exact ⟨rfl, rfl⟩)
  · skip
    skip
    refine x_aload_n d_Mo_grow_384 rfl ?_
    refine y_getf d_Mo_grow_385 gf_Mo_38 k_model rfl ?_
    refine x_iload d_Mo_grow_388 rfl ?_
    refine x_iconst (v := nI 3) d_Mo_grow_390 (by decide +kernel) ?_
    refine y_iast hG d_Mo_grow_391 k_m_kinds _ rfl (by omega) ?_
    refine x_aload_n d_Mo_grow_392 rfl ?_
    refine y_getf d_Mo_grow_393 gf_Mo_53 k_model rfl ?_
    refine x_iload d_Mo_grow_396 rfl ?_
    refine x_iconst (v := -1) d_Mo_grow_398 (by decide +kernel) ?_
    refine y_iast hG d_Mo_grow_399 k_m_cuts _ rfl (by omega) ?_
    refine x_goto 465 d_Mo_grow_400 rfl ?_
    refine x_return d_Mo_grow_465 rfl ?_
    show xRet G B none (moEnd S n m np pcs 3 c r q) _ _
    unfold moEnd
    first
      | (rw [if_pos hc381]; exact ⟨rfl, rfl⟩)
      | (rw [if_neg hc381, if_pos ⟨rfl, hc417⟩, hpa]; exact ⟨rfl, rfl⟩)
      | (rw [if_neg hc381, if_neg (fun e => hc417 e.2)]; exact ⟨rfl, rfl⟩)
      | (rw [if_neg hc381, if_neg (fun e => absurd e.1 (by decide))]; exact ⟨rfl, rfl⟩)
set_option maxRecDepth 100000 in
set_option maxHeartbeats 1000000 in
theorem c_Mo_grow298_2 {G : xG} {B d : Nat} {S : xS} (hG : xOkG G) {s m n np pcs q : Nat} {c r : Int32} (hs : s < 8) (hm : m < 160) (hn : n = 160 * s + m) (hp : sF S 186 36 = nI np) (hp40 : np ≤ 40) (hq : sF S 186 43 = nI pcs) (hpc : pcs + 1 < 64) (hqq : q < 2 ^ 30) : EX G m_Mo_grow (d + 4) 298 [(0, .ref (B + 186)), (1, .int (nI s)), (2, .int (nI 2)), (3, .int c), (4, .int r), (5, .int (nI q)), (6, .int (nI n)), (8, .int (moReach S np 2 c r q))] [] (mk G B S) (xRet G B none (moGo S n m np pcs c 1 2 r q)) := by
  have hn1280 : n < 1280 := by omega
  refine x_iload_n d_Mo_grow_298 rfl ?_
  refine x_iconst (v := nI 3) d_Mo_grow_299 (by decide +kernel) ?_
  refine z_icmp_ge 379 d_Mo_grow_300 rfl (by omega) (by omega) (fun q => absurd q (by omega)) (fun hc300 => ?_)
  refine x_iload d_Mo_grow_303 rfl ?_
  refine x_if_le 379 d_Mo_grow_305 rfl (fun hc305 => ?_) (fun hc305 => ?_)
  · skip
    skip
    refine x_iload d_Mo_grow_379 rfl ?_
    refine x_if_ne 403 d_Mo_grow_381 rfl (fun hc381 => ?_) (fun hc381 => ?_)
    · skip
      skip
      refine x_iload_n d_Mo_grow_403 rfl ?_
      refine x_iconst (v := nI 3) d_Mo_grow_404 (by decide +kernel) ?_
      refine z_icmp_ne 452 d_Mo_grow_405 rfl (by omega) (by omega) (fun hc405 => ?_) (fun q => absurd q (by omega))
      refine x_aload_n d_Mo_grow_452 rfl ?_
      refine x_iload_n d_Mo_grow_453 rfl ?_
      refine x_iload d_Mo_grow_454 rfl ?_
      refine x_iload_n d_Mo_grow_456 rfl ?_
      refine x_iload_n d_Mo_grow_457 rfl ?_
      refine x_iload d_Mo_grow_458 rfl ?_
      refine x_iload d_Mo_grow_460 rfl ?_
      refine w_callV (As := [_, _, _, _, _, _]) d_Mo_grow_462 k_Mo_226 k_model rfl rfl rfl (c_Mo_split2 hG hs hm hn hp hp40 hq hpc (by omega)) ?_
      refine x_return d_Mo_grow_465 rfl ?_
      have hd : moDown S n np 2 c r q = false := by
        unfold moDown
        first
          | (rw [decide_eq_true hc305]; rfl)
          | (rw [decide_eq_false hc305, decide_eq_false (show ¬ moReach S np 2 c r q = (if 2 = 1 then sA S 200 n else sA S 199 n) from hc332)]; rfl)
      unfold moGo
      rw [if_neg (fun e => Bool.noConfusion (hd.symm.trans e))]
      unfold moEnd
      first
        | (rw [if_pos hc381]; exact ⟨rfl, rfl⟩)
        | (rw [if_neg hc381, if_pos ⟨rfl, hc417⟩, hpa]; exact ⟨rfl, rfl⟩)
        | (rw [if_neg hc381, if_neg (fun e => hc417 e.2)]; exact ⟨rfl, rfl⟩)
        | (rw [if_neg hc381, if_neg (fun e => absurd e.1 (by decide))]; exact ⟨rfl, rfl⟩)
    · skip
      skip
      refine x_aload_n d_Mo_grow_384 rfl ?_
      refine y_getf d_Mo_grow_385 gf_Mo_38 k_model rfl ?_
      refine x_iload d_Mo_grow_388 rfl ?_
      refine x_iconst (v := nI 3) d_Mo_grow_390 (by decide +kernel) ?_
      refine y_iast hG d_Mo_grow_391 k_m_kinds _ rfl (by omega) ?_
      refine x_aload_n d_Mo_grow_392 rfl ?_
      refine y_getf d_Mo_grow_393 gf_Mo_53 k_model rfl ?_
      refine x_iload d_Mo_grow_396 rfl ?_
      refine x_iconst (v := -1) d_Mo_grow_398 (by decide +kernel) ?_
      refine y_iast hG d_Mo_grow_399 k_m_cuts _ rfl (by omega) ?_
      refine x_goto 465 d_Mo_grow_400 rfl ?_
      refine x_return d_Mo_grow_465 rfl ?_
      have hd : moDown S n np 2 c r q = false := by
        unfold moDown
        first
          | (rw [decide_eq_true hc305]; rfl)
          | (rw [decide_eq_false hc305, decide_eq_false (show ¬ moReach S np 2 c r q = (if 2 = 1 then sA S 200 n else sA S 199 n) from hc332)]; rfl)
      unfold moGo
      rw [if_neg (fun e => Bool.noConfusion (hd.symm.trans e))]
      unfold moEnd
      first
        | (rw [if_pos hc381]; exact ⟨rfl, rfl⟩)
        | (rw [if_neg hc381, if_pos ⟨rfl, hc417⟩, hpa]; exact ⟨rfl, rfl⟩)
        | (rw [if_neg hc381, if_neg (fun e => hc417 e.2)]; exact ⟨rfl, rfl⟩)
        | (rw [if_neg hc381, if_neg (fun e => absurd e.1 (by decide))]; exact ⟨rfl, rfl⟩)
  · skip
    skip
    refine x_iload d_Mo_grow_308 rfl ?_
    refine x_iload_n d_Mo_grow_310 rfl ?_
    refine x_iconst (v := nI 1) d_Mo_grow_311 (by decide +kernel) ?_
    refine z_icmp_ne 325 d_Mo_grow_312 rfl (by omega) (by omega) (fun hc312 => ?_) (fun q => absurd q (by omega))
    refine x_aload_n d_Mo_grow_325 rfl ?_
    refine y_getf d_Mo_grow_326 gf_Mo_47 k_model rfl ?_
    refine x_iload d_Mo_grow_329 rfl ?_
    refine y_iald hG d_Mo_grow_331 k_m_ws _ rfl (by omega) ?_
    refine x_icmp_ne 379 d_Mo_grow_332 rfl (fun hc332 => ?_) (fun hc332 => ?_)
    · skip
      skip
      refine x_iload d_Mo_grow_379 rfl ?_
      refine x_if_ne 403 d_Mo_grow_381 rfl (fun hc381 => ?_) (fun hc381 => ?_)
      · skip
        skip
        refine x_iload_n d_Mo_grow_403 rfl ?_
        refine x_iconst (v := nI 3) d_Mo_grow_404 (by decide +kernel) ?_
        refine z_icmp_ne 452 d_Mo_grow_405 rfl (by omega) (by omega) (fun hc405 => ?_) (fun q => absurd q (by omega))
        refine x_aload_n d_Mo_grow_452 rfl ?_
        refine x_iload_n d_Mo_grow_453 rfl ?_
        refine x_iload d_Mo_grow_454 rfl ?_
        refine x_iload_n d_Mo_grow_456 rfl ?_
        refine x_iload_n d_Mo_grow_457 rfl ?_
        refine x_iload d_Mo_grow_458 rfl ?_
        refine x_iload d_Mo_grow_460 rfl ?_
        refine w_callV (As := [_, _, _, _, _, _]) d_Mo_grow_462 k_Mo_226 k_model rfl rfl rfl (c_Mo_split2 hG hs hm hn hp hp40 hq hpc (by omega)) ?_
        refine x_return d_Mo_grow_465 rfl ?_
        have hd : moDown S n np 2 c r q = false := by
          unfold moDown
          first
            | (rw [decide_eq_true hc305]; rfl)
            | (rw [decide_eq_false hc305, decide_eq_false (show ¬ moReach S np 2 c r q = (if 2 = 1 then sA S 200 n else sA S 199 n) from hc332)]; rfl)
        unfold moGo
        rw [if_neg (fun e => Bool.noConfusion (hd.symm.trans e))]
        unfold moEnd
        first
          | (rw [if_pos hc381]; exact ⟨rfl, rfl⟩)
          | (rw [if_neg hc381, if_pos ⟨rfl, hc417⟩, hpa]; exact ⟨rfl, rfl⟩)
          | (rw [if_neg hc381, if_neg (fun e => hc417 e.2)]; exact ⟨rfl, rfl⟩)
          | (rw [if_neg hc381, if_neg (fun e => absurd e.1 (by decide))]; exact ⟨rfl, rfl⟩)
      · skip
        skip
        refine x_aload_n d_Mo_grow_384 rfl ?_
        refine y_getf d_Mo_grow_385 gf_Mo_38 k_model rfl ?_
        refine x_iload d_Mo_grow_388 rfl ?_
        refine x_iconst (v := nI 3) d_Mo_grow_390 (by decide +kernel) ?_
        refine y_iast hG d_Mo_grow_391 k_m_kinds _ rfl (by omega) ?_
        refine x_aload_n d_Mo_grow_392 rfl ?_
        refine y_getf d_Mo_grow_393 gf_Mo_53 k_model rfl ?_
        refine x_iload d_Mo_grow_396 rfl ?_
        refine x_iconst (v := -1) d_Mo_grow_398 (by decide +kernel) ?_
        refine y_iast hG d_Mo_grow_399 k_m_cuts _ rfl (by omega) ?_
        refine x_goto 465 d_Mo_grow_400 rfl ?_
        refine x_return d_Mo_grow_465 rfl ?_
        have hd : moDown S n np 2 c r q = false := by
          unfold moDown
          first
            | (rw [decide_eq_true hc305]; rfl)
            | (rw [decide_eq_false hc305, decide_eq_false (show ¬ moReach S np 2 c r q = (if 2 = 1 then sA S 200 n else sA S 199 n) from hc332)]; rfl)
        unfold moGo
        rw [if_neg (fun e => Bool.noConfusion (hd.symm.trans e))]
        unfold moEnd
        first
          | (rw [if_pos hc381]; exact ⟨rfl, rfl⟩)
          | (rw [if_neg hc381, if_pos ⟨rfl, hc417⟩, hpa]; exact ⟨rfl, rfl⟩)
          | (rw [if_neg hc381, if_neg (fun e => hc417 e.2)]; exact ⟨rfl, rfl⟩)
          | (rw [if_neg hc381, if_neg (fun e => absurd e.1 (by decide))]; exact ⟨rfl, rfl⟩)
    · skip
      skip
      have hd : moDown S n np 2 c r q = true := by
        unfold moDown
        rw [decide_eq_false hc305, decide_eq_true (show moReach S np 2 c r q = (if 2 = 1 then sA S 200 n else sA S 199 n) from hc332)]; rfl
      unfold moGo
      rw [if_pos hd]
      refine s_iinc (lv' := [(0, _), (1, _), (2, _), (3, _), (4, _), (5, _), (6, _), (8, _)]) d_Mo_grow_335 rfl (xinc _) (by decide) rfl ?_
      refine x_iload_n d_Mo_grow_338 rfl ?_
      refine x_iconst (v := nI 1) d_Mo_grow_339 (by decide +kernel) ?_
      refine z_icmp_ne 347 d_Mo_grow_340 rfl (by omega) (by omega) (fun hc340 => ?_) (fun q => absurd q (by omega))
      refine x_iload d_Mo_grow_347 rfl ?_
      refine s_istore (lv' := [(0, _), (1, _), (2, _), (3, _), (4, _), (5, _), (6, _), (8, _)]) d_Mo_grow_349 (by decide) rfl ?_
      refine x_iload_n d_Mo_grow_351 rfl ?_
      refine x_iconst (v := nI 2) d_Mo_grow_352 (by decide +kernel) ?_
      refine z_icmp_ne 360 d_Mo_grow_353 rfl (by omega) (by omega) (fun hc353 => ?_) (fun q => absurd q (by omega))
      refine x_iload d_Mo_grow_360 rfl ?_
      refine s_istore (lv' := [(0, _), (1, _), (2, _), (3, _), (4, _), (5, _), (6, _), (8, _)]) d_Mo_grow_362 (by decide) rfl ?_
      refine x_aload_n d_Mo_grow_364 rfl ?_
      refine x_iload_n d_Mo_grow_365 rfl ?_
      refine x_iload_n d_Mo_grow_366 rfl ?_
      refine x_iload d_Mo_grow_367 rfl ?_
      refine x_iload d_Mo_grow_369 rfl ?_
      refine w_callV (As := [_, _, _, _]) d_Mo_grow_371 k_Mo_222 k_model rfl rfl rfl (c_Mo_reach3 hG hp hp40 (by omega)) ?_
      refine s_istore (lv' := [(0, _), (1, _), (2, _), (3, _), (4, _), (5, _), (6, _), (8, _)]) d_Mo_grow_374 (by decide) rfl ?_
      refine x_goto 298 d_Mo_grow_376 rfl ?_
      refine x_lv (lv' := [(0, _), (1, _), (2, _), (3, _), (4, _), (5, _), (6, _), (8, _)]) [0, 1, 2, 3, 4, 5, 6, 8] rfl ?_
      exact c_Mo_grow298_3 hG hs hm hn hp hp40 hq hpc (by omega)
set_option maxRecDepth 100000 in
set_option maxHeartbeats 1000000 in
theorem c_Mo_grow298_1 {G : xG} {B d : Nat} {S : xS} (hG : xOkG G) {s m n np pcs q : Nat} {c r : Int32} (hs : s < 8) (hm : m < 160) (hn : n = 160 * s + m) (hp : sF S 186 36 = nI np) (hp40 : np ≤ 40) (hq : sF S 186 43 = nI pcs) (hpc : pcs + 1 < 64) (hqq : q < 2 ^ 30) : EX G m_Mo_grow (d + 4) 298 [(0, .ref (B + 186)), (1, .int (nI s)), (2, .int (nI 1)), (3, .int c), (4, .int r), (5, .int (nI q)), (6, .int (nI n)), (8, .int (moReach S np 1 c r q))] [] (mk G B S) (xRet G B none (moGo S n m np pcs c 2 1 r q)) := by
  have hn1280 : n < 1280 := by omega
  refine x_iload_n d_Mo_grow_298 rfl ?_
  refine x_iconst (v := nI 3) d_Mo_grow_299 (by decide +kernel) ?_
  refine z_icmp_ge 379 d_Mo_grow_300 rfl (by omega) (by omega) (fun q => absurd q (by omega)) (fun hc300 => ?_)
  refine x_iload d_Mo_grow_303 rfl ?_
  refine x_if_le 379 d_Mo_grow_305 rfl (fun hc305 => ?_) (fun hc305 => ?_)
  · skip
    skip
    refine x_iload d_Mo_grow_379 rfl ?_
    refine x_if_ne 403 d_Mo_grow_381 rfl (fun hc381 => ?_) (fun hc381 => ?_)
    · skip
      skip
      refine x_iload_n d_Mo_grow_403 rfl ?_
      refine x_iconst (v := nI 3) d_Mo_grow_404 (by decide +kernel) ?_
      refine z_icmp_ne 452 d_Mo_grow_405 rfl (by omega) (by omega) (fun hc405 => ?_) (fun q => absurd q (by omega))
      refine x_aload_n d_Mo_grow_452 rfl ?_
      refine x_iload_n d_Mo_grow_453 rfl ?_
      refine x_iload d_Mo_grow_454 rfl ?_
      refine x_iload_n d_Mo_grow_456 rfl ?_
      refine x_iload_n d_Mo_grow_457 rfl ?_
      refine x_iload d_Mo_grow_458 rfl ?_
      refine x_iload d_Mo_grow_460 rfl ?_
      refine w_callV (As := [_, _, _, _, _, _]) d_Mo_grow_462 k_Mo_226 k_model rfl rfl rfl (c_Mo_split1 hG hs hm hn hp hp40 hq hpc (by omega)) ?_
      refine x_return d_Mo_grow_465 rfl ?_
      have hd : moDown S n np 1 c r q = false := by
        unfold moDown
        first
          | (rw [decide_eq_true hc305]; rfl)
          | (rw [decide_eq_false hc305, decide_eq_false (show ¬ moReach S np 1 c r q = (if 1 = 1 then sA S 200 n else sA S 199 n) from hc332)]; rfl)
      unfold moGo
      rw [if_neg (fun e => Bool.noConfusion (hd.symm.trans e))]
      unfold moEnd
      first
        | (rw [if_pos hc381]; exact ⟨rfl, rfl⟩)
        | (rw [if_neg hc381, if_pos ⟨rfl, hc417⟩, hpa]; exact ⟨rfl, rfl⟩)
        | (rw [if_neg hc381, if_neg (fun e => hc417 e.2)]; exact ⟨rfl, rfl⟩)
        | (rw [if_neg hc381, if_neg (fun e => absurd e.1 (by decide))]; exact ⟨rfl, rfl⟩)
    · skip
      skip
      refine x_aload_n d_Mo_grow_384 rfl ?_
      refine y_getf d_Mo_grow_385 gf_Mo_38 k_model rfl ?_
      refine x_iload d_Mo_grow_388 rfl ?_
      refine x_iconst (v := nI 3) d_Mo_grow_390 (by decide +kernel) ?_
      refine y_iast hG d_Mo_grow_391 k_m_kinds _ rfl (by omega) ?_
      refine x_aload_n d_Mo_grow_392 rfl ?_
      refine y_getf d_Mo_grow_393 gf_Mo_53 k_model rfl ?_
      refine x_iload d_Mo_grow_396 rfl ?_
      refine x_iconst (v := -1) d_Mo_grow_398 (by decide +kernel) ?_
      refine y_iast hG d_Mo_grow_399 k_m_cuts _ rfl (by omega) ?_
      refine x_goto 465 d_Mo_grow_400 rfl ?_
      refine x_return d_Mo_grow_465 rfl ?_
      have hd : moDown S n np 1 c r q = false := by
        unfold moDown
        first
          | (rw [decide_eq_true hc305]; rfl)
          | (rw [decide_eq_false hc305, decide_eq_false (show ¬ moReach S np 1 c r q = (if 1 = 1 then sA S 200 n else sA S 199 n) from hc332)]; rfl)
      unfold moGo
      rw [if_neg (fun e => Bool.noConfusion (hd.symm.trans e))]
      unfold moEnd
      first
        | (rw [if_pos hc381]; exact ⟨rfl, rfl⟩)
        | (rw [if_neg hc381, if_pos ⟨rfl, hc417⟩, hpa]; exact ⟨rfl, rfl⟩)
        | (rw [if_neg hc381, if_neg (fun e => hc417 e.2)]; exact ⟨rfl, rfl⟩)
        | (rw [if_neg hc381, if_neg (fun e => absurd e.1 (by decide))]; exact ⟨rfl, rfl⟩)
  · skip
    skip
    refine x_iload d_Mo_grow_308 rfl ?_
    refine x_iload_n d_Mo_grow_310 rfl ?_
    refine x_iconst (v := nI 1) d_Mo_grow_311 (by decide +kernel) ?_
    refine z_icmp_ne 325 d_Mo_grow_312 rfl (by omega) (by omega) (fun q => absurd q (by omega)) (fun hc312 => ?_)
    refine x_aload_n d_Mo_grow_315 rfl ?_
    refine y_getf d_Mo_grow_316 gf_Mo_50 k_model rfl ?_
    refine x_iload d_Mo_grow_319 rfl ?_
    refine y_iald hG d_Mo_grow_321 k_m_hs _ rfl (by omega) ?_
    refine x_goto 332 d_Mo_grow_322 rfl ?_
    refine x_icmp_ne 379 d_Mo_grow_332 rfl (fun hc332 => ?_) (fun hc332 => ?_)
    · skip
      skip
      refine x_iload d_Mo_grow_379 rfl ?_
      refine x_if_ne 403 d_Mo_grow_381 rfl (fun hc381 => ?_) (fun hc381 => ?_)
      · skip
        skip
        refine x_iload_n d_Mo_grow_403 rfl ?_
        refine x_iconst (v := nI 3) d_Mo_grow_404 (by decide +kernel) ?_
        refine z_icmp_ne 452 d_Mo_grow_405 rfl (by omega) (by omega) (fun hc405 => ?_) (fun q => absurd q (by omega))
        refine x_aload_n d_Mo_grow_452 rfl ?_
        refine x_iload_n d_Mo_grow_453 rfl ?_
        refine x_iload d_Mo_grow_454 rfl ?_
        refine x_iload_n d_Mo_grow_456 rfl ?_
        refine x_iload_n d_Mo_grow_457 rfl ?_
        refine x_iload d_Mo_grow_458 rfl ?_
        refine x_iload d_Mo_grow_460 rfl ?_
        refine w_callV (As := [_, _, _, _, _, _]) d_Mo_grow_462 k_Mo_226 k_model rfl rfl rfl (c_Mo_split1 hG hs hm hn hp hp40 hq hpc (by omega)) ?_
        refine x_return d_Mo_grow_465 rfl ?_
        have hd : moDown S n np 1 c r q = false := by
          unfold moDown
          first
            | (rw [decide_eq_true hc305]; rfl)
            | (rw [decide_eq_false hc305, decide_eq_false (show ¬ moReach S np 1 c r q = (if 1 = 1 then sA S 200 n else sA S 199 n) from hc332)]; rfl)
        unfold moGo
        rw [if_neg (fun e => Bool.noConfusion (hd.symm.trans e))]
        unfold moEnd
        first
          | (rw [if_pos hc381]; exact ⟨rfl, rfl⟩)
          | (rw [if_neg hc381, if_pos ⟨rfl, hc417⟩, hpa]; exact ⟨rfl, rfl⟩)
          | (rw [if_neg hc381, if_neg (fun e => hc417 e.2)]; exact ⟨rfl, rfl⟩)
          | (rw [if_neg hc381, if_neg (fun e => absurd e.1 (by decide))]; exact ⟨rfl, rfl⟩)
      · skip
        skip
        refine x_aload_n d_Mo_grow_384 rfl ?_
        refine y_getf d_Mo_grow_385 gf_Mo_38 k_model rfl ?_
        refine x_iload d_Mo_grow_388 rfl ?_
        refine x_iconst (v := nI 3) d_Mo_grow_390 (by decide +kernel) ?_
        refine y_iast hG d_Mo_grow_391 k_m_kinds _ rfl (by omega) ?_
        refine x_aload_n d_Mo_grow_392 rfl ?_
        refine y_getf d_Mo_grow_393 gf_Mo_53 k_model rfl ?_
        refine x_iload d_Mo_grow_396 rfl ?_
        refine x_iconst (v := -1) d_Mo_grow_398 (by decide +kernel) ?_
        refine y_iast hG d_Mo_grow_399 k_m_cuts _ rfl (by omega) ?_
        refine x_goto 465 d_Mo_grow_400 rfl ?_
        refine x_return d_Mo_grow_465 rfl ?_
        have hd : moDown S n np 1 c r q = false := by
          unfold moDown
          first
            | (rw [decide_eq_true hc305]; rfl)
            | (rw [decide_eq_false hc305, decide_eq_false (show ¬ moReach S np 1 c r q = (if 1 = 1 then sA S 200 n else sA S 199 n) from hc332)]; rfl)
        unfold moGo
        rw [if_neg (fun e => Bool.noConfusion (hd.symm.trans e))]
        unfold moEnd
        first
          | (rw [if_pos hc381]; exact ⟨rfl, rfl⟩)
          | (rw [if_neg hc381, if_pos ⟨rfl, hc417⟩, hpa]; exact ⟨rfl, rfl⟩)
          | (rw [if_neg hc381, if_neg (fun e => hc417 e.2)]; exact ⟨rfl, rfl⟩)
          | (rw [if_neg hc381, if_neg (fun e => absurd e.1 (by decide))]; exact ⟨rfl, rfl⟩)
    · skip
      skip
      have hd : moDown S n np 1 c r q = true := by
        unfold moDown
        rw [decide_eq_false hc305, decide_eq_true (show moReach S np 1 c r q = (if 1 = 1 then sA S 200 n else sA S 199 n) from hc332)]; rfl
      unfold moGo
      rw [if_pos hd]
      refine s_iinc (lv' := [(0, _), (1, _), (2, _), (3, _), (4, _), (5, _), (6, _), (8, _)]) d_Mo_grow_335 rfl (xinc _) (by decide) rfl ?_
      refine x_iload_n d_Mo_grow_338 rfl ?_
      refine x_iconst (v := nI 1) d_Mo_grow_339 (by decide +kernel) ?_
      refine z_icmp_ne 347 d_Mo_grow_340 rfl (by omega) (by omega) (fun hc340 => ?_) (fun q => absurd q (by omega))
      refine x_iload d_Mo_grow_347 rfl ?_
      refine s_istore (lv' := [(0, _), (1, _), (2, _), (3, _), (4, _), (5, _), (6, _), (8, _)]) d_Mo_grow_349 (by decide) rfl ?_
      refine x_iload_n d_Mo_grow_351 rfl ?_
      refine x_iconst (v := nI 2) d_Mo_grow_352 (by decide +kernel) ?_
      refine z_icmp_ne 360 d_Mo_grow_353 rfl (by omega) (by omega) (fun q => absurd q (by omega)) (fun hc353 => ?_)
      refine x_iconst (v := nI 0) d_Mo_grow_356 (by decide +kernel) ?_
      refine x_goto 362 d_Mo_grow_357 rfl ?_
      refine s_istore (lv' := [(0, _), (1, _), (2, _), (3, _), (4, _), (5, _), (6, _), (8, _)]) d_Mo_grow_362 (by decide) rfl ?_
      refine x_aload_n d_Mo_grow_364 rfl ?_
      refine x_iload_n d_Mo_grow_365 rfl ?_
      refine x_iload_n d_Mo_grow_366 rfl ?_
      refine x_iload d_Mo_grow_367 rfl ?_
      refine x_iload d_Mo_grow_369 rfl ?_
      refine w_callV (As := [_, _, _, _]) d_Mo_grow_371 k_Mo_222 k_model rfl rfl rfl (c_Mo_reach2 hG hp hp40 (by omega)) ?_
      refine s_istore (lv' := [(0, _), (1, _), (2, _), (3, _), (4, _), (5, _), (6, _), (8, _)]) d_Mo_grow_374 (by decide) rfl ?_
      refine x_goto 298 d_Mo_grow_376 rfl ?_
      refine x_lv (lv' := [(0, _), (1, _), (2, _), (3, _), (4, _), (5, _), (6, _), (8, _)]) [0, 1, 2, 3, 4, 5, 6, 8] rfl ?_
      exact c_Mo_grow298_2 hG hs hm hn hp hp40 hq hpc (by omega)
set_option maxRecDepth 100000 in
set_option maxHeartbeats 1000000 in
theorem c_Mo_grow298_0 {G : xG} {B d : Nat} {S : xS} (hG : xOkG G) {s m n np pcs q : Nat} {c r : Int32} (hs : s < 8) (hm : m < 160) (hn : n = 160 * s + m) (hp : sF S 186 36 = nI np) (hp40 : np ≤ 40) (hq : sF S 186 43 = nI pcs) (hpc : pcs + 1 < 64) (hqq : q < 2 ^ 30) : EX G m_Mo_grow (d + 4) 298 [(0, .ref (B + 186)), (1, .int (nI s)), (2, .int (nI 0)), (3, .int c), (4, .int r), (5, .int (nI q)), (6, .int (nI n)), (8, .int (moReach S np 0 c r q))] [] (mk G B S) (xRet G B none (moGo S n m np pcs c 3 0 r q)) := by
  have hn1280 : n < 1280 := by omega
  refine x_iload_n d_Mo_grow_298 rfl ?_
  refine x_iconst (v := nI 3) d_Mo_grow_299 (by decide +kernel) ?_
  refine z_icmp_ge 379 d_Mo_grow_300 rfl (by omega) (by omega) (fun q => absurd q (by omega)) (fun hc300 => ?_)
  refine x_iload d_Mo_grow_303 rfl ?_
  refine x_if_le 379 d_Mo_grow_305 rfl (fun hc305 => ?_) (fun hc305 => ?_)
  · skip
    skip
    refine x_iload d_Mo_grow_379 rfl ?_
    refine x_if_ne 403 d_Mo_grow_381 rfl (fun hc381 => ?_) (fun hc381 => ?_)
    · skip
      skip
      refine x_iload_n d_Mo_grow_403 rfl ?_
      refine x_iconst (v := nI 3) d_Mo_grow_404 (by decide +kernel) ?_
      refine z_icmp_ne 452 d_Mo_grow_405 rfl (by omega) (by omega) (fun hc405 => ?_) (fun q => absurd q (by omega))
      refine x_aload_n d_Mo_grow_452 rfl ?_
      refine x_iload_n d_Mo_grow_453 rfl ?_
      refine x_iload d_Mo_grow_454 rfl ?_
      refine x_iload_n d_Mo_grow_456 rfl ?_
      refine x_iload_n d_Mo_grow_457 rfl ?_
      refine x_iload d_Mo_grow_458 rfl ?_
      refine x_iload d_Mo_grow_460 rfl ?_
      refine w_callV (As := [_, _, _, _, _, _]) d_Mo_grow_462 k_Mo_226 k_model rfl rfl rfl (c_Mo_split0 hG hs hm hn hp hp40 hq hpc (by omega)) ?_
      refine x_return d_Mo_grow_465 rfl ?_
      have hd : moDown S n np 0 c r q = false := by
        unfold moDown
        first
          | (rw [decide_eq_true hc305]; rfl)
          | (rw [decide_eq_false hc305, decide_eq_false (show ¬ moReach S np 0 c r q = (if 0 = 1 then sA S 200 n else sA S 199 n) from hc332)]; rfl)
      unfold moGo
      rw [if_neg (fun e => Bool.noConfusion (hd.symm.trans e))]
      unfold moEnd
      first
        | (rw [if_pos hc381]; exact ⟨rfl, rfl⟩)
        | (rw [if_neg hc381, if_pos ⟨rfl, hc417⟩, hpa]; exact ⟨rfl, rfl⟩)
        | (rw [if_neg hc381, if_neg (fun e => hc417 e.2)]; exact ⟨rfl, rfl⟩)
        | (rw [if_neg hc381, if_neg (fun e => absurd e.1 (by decide))]; exact ⟨rfl, rfl⟩)
    · skip
      skip
      refine x_aload_n d_Mo_grow_384 rfl ?_
      refine y_getf d_Mo_grow_385 gf_Mo_38 k_model rfl ?_
      refine x_iload d_Mo_grow_388 rfl ?_
      refine x_iconst (v := nI 3) d_Mo_grow_390 (by decide +kernel) ?_
      refine y_iast hG d_Mo_grow_391 k_m_kinds _ rfl (by omega) ?_
      refine x_aload_n d_Mo_grow_392 rfl ?_
      refine y_getf d_Mo_grow_393 gf_Mo_53 k_model rfl ?_
      refine x_iload d_Mo_grow_396 rfl ?_
      refine x_iconst (v := -1) d_Mo_grow_398 (by decide +kernel) ?_
      refine y_iast hG d_Mo_grow_399 k_m_cuts _ rfl (by omega) ?_
      refine x_goto 465 d_Mo_grow_400 rfl ?_
      refine x_return d_Mo_grow_465 rfl ?_
      have hd : moDown S n np 0 c r q = false := by
        unfold moDown
        first
          | (rw [decide_eq_true hc305]; rfl)
          | (rw [decide_eq_false hc305, decide_eq_false (show ¬ moReach S np 0 c r q = (if 0 = 1 then sA S 200 n else sA S 199 n) from hc332)]; rfl)
      unfold moGo
      rw [if_neg (fun e => Bool.noConfusion (hd.symm.trans e))]
      unfold moEnd
      first
        | (rw [if_pos hc381]; exact ⟨rfl, rfl⟩)
        | (rw [if_neg hc381, if_pos ⟨rfl, hc417⟩, hpa]; exact ⟨rfl, rfl⟩)
        | (rw [if_neg hc381, if_neg (fun e => hc417 e.2)]; exact ⟨rfl, rfl⟩)
        | (rw [if_neg hc381, if_neg (fun e => absurd e.1 (by decide))]; exact ⟨rfl, rfl⟩)
  · skip
    skip
    refine x_iload d_Mo_grow_308 rfl ?_
    refine x_iload_n d_Mo_grow_310 rfl ?_
    refine x_iconst (v := nI 1) d_Mo_grow_311 (by decide +kernel) ?_
    refine z_icmp_ne 325 d_Mo_grow_312 rfl (by omega) (by omega) (fun hc312 => ?_) (fun q => absurd q (by omega))
    refine x_aload_n d_Mo_grow_325 rfl ?_
    refine y_getf d_Mo_grow_326 gf_Mo_47 k_model rfl ?_
    refine x_iload d_Mo_grow_329 rfl ?_
    refine y_iald hG d_Mo_grow_331 k_m_ws _ rfl (by omega) ?_
    refine x_icmp_ne 379 d_Mo_grow_332 rfl (fun hc332 => ?_) (fun hc332 => ?_)
    · skip
      skip
      refine x_iload d_Mo_grow_379 rfl ?_
      refine x_if_ne 403 d_Mo_grow_381 rfl (fun hc381 => ?_) (fun hc381 => ?_)
      · skip
        skip
        refine x_iload_n d_Mo_grow_403 rfl ?_
        refine x_iconst (v := nI 3) d_Mo_grow_404 (by decide +kernel) ?_
        refine z_icmp_ne 452 d_Mo_grow_405 rfl (by omega) (by omega) (fun hc405 => ?_) (fun q => absurd q (by omega))
        refine x_aload_n d_Mo_grow_452 rfl ?_
        refine x_iload_n d_Mo_grow_453 rfl ?_
        refine x_iload d_Mo_grow_454 rfl ?_
        refine x_iload_n d_Mo_grow_456 rfl ?_
        refine x_iload_n d_Mo_grow_457 rfl ?_
        refine x_iload d_Mo_grow_458 rfl ?_
        refine x_iload d_Mo_grow_460 rfl ?_
        refine w_callV (As := [_, _, _, _, _, _]) d_Mo_grow_462 k_Mo_226 k_model rfl rfl rfl (c_Mo_split0 hG hs hm hn hp hp40 hq hpc (by omega)) ?_
        refine x_return d_Mo_grow_465 rfl ?_
        have hd : moDown S n np 0 c r q = false := by
          unfold moDown
          first
            | (rw [decide_eq_true hc305]; rfl)
            | (rw [decide_eq_false hc305, decide_eq_false (show ¬ moReach S np 0 c r q = (if 0 = 1 then sA S 200 n else sA S 199 n) from hc332)]; rfl)
        unfold moGo
        rw [if_neg (fun e => Bool.noConfusion (hd.symm.trans e))]
        unfold moEnd
        first
          | (rw [if_pos hc381]; exact ⟨rfl, rfl⟩)
          | (rw [if_neg hc381, if_pos ⟨rfl, hc417⟩, hpa]; exact ⟨rfl, rfl⟩)
          | (rw [if_neg hc381, if_neg (fun e => hc417 e.2)]; exact ⟨rfl, rfl⟩)
          | (rw [if_neg hc381, if_neg (fun e => absurd e.1 (by decide))]; exact ⟨rfl, rfl⟩)
      · skip
        skip
        refine x_aload_n d_Mo_grow_384 rfl ?_
        refine y_getf d_Mo_grow_385 gf_Mo_38 k_model rfl ?_
        refine x_iload d_Mo_grow_388 rfl ?_
        refine x_iconst (v := nI 3) d_Mo_grow_390 (by decide +kernel) ?_
        refine y_iast hG d_Mo_grow_391 k_m_kinds _ rfl (by omega) ?_
        refine x_aload_n d_Mo_grow_392 rfl ?_
        refine y_getf d_Mo_grow_393 gf_Mo_53 k_model rfl ?_
        refine x_iload d_Mo_grow_396 rfl ?_
        refine x_iconst (v := -1) d_Mo_grow_398 (by decide +kernel) ?_
        refine y_iast hG d_Mo_grow_399 k_m_cuts _ rfl (by omega) ?_
        refine x_goto 465 d_Mo_grow_400 rfl ?_
        refine x_return d_Mo_grow_465 rfl ?_
        have hd : moDown S n np 0 c r q = false := by
          unfold moDown
          first
            | (rw [decide_eq_true hc305]; rfl)
            | (rw [decide_eq_false hc305, decide_eq_false (show ¬ moReach S np 0 c r q = (if 0 = 1 then sA S 200 n else sA S 199 n) from hc332)]; rfl)
        unfold moGo
        rw [if_neg (fun e => Bool.noConfusion (hd.symm.trans e))]
        unfold moEnd
        first
          | (rw [if_pos hc381]; exact ⟨rfl, rfl⟩)
          | (rw [if_neg hc381, if_pos ⟨rfl, hc417⟩, hpa]; exact ⟨rfl, rfl⟩)
          | (rw [if_neg hc381, if_neg (fun e => hc417 e.2)]; exact ⟨rfl, rfl⟩)
          | (rw [if_neg hc381, if_neg (fun e => absurd e.1 (by decide))]; exact ⟨rfl, rfl⟩)
    · skip
      skip
      have hd : moDown S n np 0 c r q = true := by
        unfold moDown
        rw [decide_eq_false hc305, decide_eq_true (show moReach S np 0 c r q = (if 0 = 1 then sA S 200 n else sA S 199 n) from hc332)]; rfl
      unfold moGo
      rw [if_pos hd]
      refine s_iinc (lv' := [(0, _), (1, _), (2, _), (3, _), (4, _), (5, _), (6, _), (8, _)]) d_Mo_grow_335 rfl (xinc _) (by decide) rfl ?_
      refine x_iload_n d_Mo_grow_338 rfl ?_
      refine x_iconst (v := nI 1) d_Mo_grow_339 (by decide +kernel) ?_
      refine z_icmp_ne 347 d_Mo_grow_340 rfl (by omega) (by omega) (fun q => absurd q (by omega)) (fun hc340 => ?_)
      refine x_iconst (v := nI 0) d_Mo_grow_343 (by decide +kernel) ?_
      refine x_goto 349 d_Mo_grow_344 rfl ?_
      refine s_istore (lv' := [(0, _), (1, _), (2, _), (3, _), (4, _), (5, _), (6, _), (8, _)]) d_Mo_grow_349 (by decide) rfl ?_
      refine x_iload_n d_Mo_grow_351 rfl ?_
      refine x_iconst (v := nI 2) d_Mo_grow_352 (by decide +kernel) ?_
      refine z_icmp_ne 360 d_Mo_grow_353 rfl (by omega) (by omega) (fun hc353 => ?_) (fun q => absurd q (by omega))
      refine x_iload d_Mo_grow_360 rfl ?_
      refine s_istore (lv' := [(0, _), (1, _), (2, _), (3, _), (4, _), (5, _), (6, _), (8, _)]) d_Mo_grow_362 (by decide) rfl ?_
      refine x_aload_n d_Mo_grow_364 rfl ?_
      refine x_iload_n d_Mo_grow_365 rfl ?_
      refine x_iload_n d_Mo_grow_366 rfl ?_
      refine x_iload d_Mo_grow_367 rfl ?_
      refine x_iload d_Mo_grow_369 rfl ?_
      refine w_callV (As := [_, _, _, _]) d_Mo_grow_371 k_Mo_222 k_model rfl rfl rfl (c_Mo_reach1 hG hp hp40 (by omega)) ?_
      refine s_istore (lv' := [(0, _), (1, _), (2, _), (3, _), (4, _), (5, _), (6, _), (8, _)]) d_Mo_grow_374 (by decide) rfl ?_
      refine x_goto 298 d_Mo_grow_376 rfl ?_
      refine x_lv (lv' := [(0, _), (1, _), (2, _), (3, _), (4, _), (5, _), (6, _), (8, _)]) [0, 1, 2, 3, 4, 5, 6, 8] rfl ?_
      exact c_Mo_grow298_1 hG hs hm hn hp hp40 hq hpc (by omega)
