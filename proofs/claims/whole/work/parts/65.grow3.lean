/-! a piece is taken up -/
def moNd (U : xS) (s m p : Nat) : xS := uA (uA (uA (uA (uA (uA (uA (uA U 195 s (nI (m + 1))) 197 (160 * s + m) (sA U 225 p)) 198 (160 * s + m) (sA U 226 p)) 199 (160 * s + m) (sA U 227 p)) 200 (160 * s + m) (sA U 228 p)) 202 (160 * s + m) (-1)) 203 (160 * s + m) (-1)) 204 (160 * s + m) (nI 0)
def moLk (V : xS) (s m : Nat) (g : Option Nat) : xS := match g with
  | none => V
  | some f => uA (uA V 202 (160 * s + f) (if f + 1 = m then nI m else sA V 202 (160 * s + f))) 203 (160 * s + f) (if f + 1 = m then sA V 203 (160 * s + f) else nI m)
def moU (S : xS) (p : Nat) : xS := uF S 186 43 (nI p)
def moGrow (S : xS) (s m p np has : Nat) (q : Nat) (g : Option Nat) : xS := moGo (moLk (moNd (moU S p) s m p) s m g) (160 * s + m) m np p (sA S 222 p) (3 - has) has (sA S 223 p) q
theorem moNd_A {U : xS} {s m p k : Nat} (h : k < 195 ∨ k = 196 ∨ k = 201 ∨ 205 ≤ k) : sA (moNd U s m p) k = sA U k := by
  unfold moNd
  rw [sA_uAn _ _ _ (by omega), sA_uAn _ _ _ (by omega), sA_uAn _ _ _ (by omega), sA_uAn _ _ _ (by omega), sA_uAn _ _ _ (by omega), sA_uAn _ _ _ (by omega), sA_uAn _ _ _ (by omega), sA_uAn _ _ _ (by omega)]
theorem moLk_F {V : xS} {s m : Nat} {g : Option Nat} : sF (moLk V s m g) = sF V := by
  cases g <;> rfl
set_option maxRecDepth 100000 in
set_option maxHeartbeats 1000000 in
theorem c_Mo_grow {G : xG} {B d : Nat} {S : xS} (hG : xOkG G) {s m p np has q : Nat} {g : Option Nat} (hs : s < 8) (hm : m < 160) (hm0 : sA S 195 s = nI m) (hq : sF S 186 43 = nI (p + 1)) (hpc : p + 1 < 64) (hp : sF S 186 36 = nI np) (hp40 : np ≤ 40) (hhas : sA S 221 p = nI has) (hh4 : has ≤ 4) (hpn : sA S 224 p = nI q) (hqq : q < 2 ^ 30) (hg0 : sA S 229 p = cI g) (hgl : ∀ f, g = some f → f < 160) : EX G m_Mo_grow (d + 4) 0 [(0, .ref (B + 186)), (1, .int (nI s))] [] (mk G B S) (xRet G B none (moGrow S s m p np has q g)) := by
  have hpp : sF (moNd (moU S p) s m p) 186 36 = nI np := by show sF (uF S 186 43 (nI p)) 186 36 = _; rw [sF_uF, va_up_ne _ _ (by decide)]; exact hp
  refine x_aload_n d_Mo_grow_0 rfl ?_
  refine x_dup d_Mo_grow_1 rfl ?_
  refine y_getf (v := .int (nI (p + 1))) d_Mo_grow_2 gf_Mo_216 k_model (congrArg (fun q => some (Value.int q)) hq) ?_
  refine x_iconst (v := nI 1) d_Mo_grow_5 (by decide +kernel) ?_
  refine x_isub d_Mo_grow_6 ?_
  rw [pk_sub (by omega), Nat.add_sub_cancel]
  refine y_puti d_Mo_grow_7 pf_Mo_216 k_model (xBle rfl) rfl rfl rfl ?_
  have hU : sF (moU S p) 186 43 = nI p := by unfold moU; rw [sF_uF, va_up_self]
  show EX _ _ _ _ _ _ (mk G B (moU S p)) _
  refine x_aload_n d_Mo_grow_10 rfl ?_
  refine y_getf d_Mo_grow_11 gf_Mo_113 k_model rfl ?_
  refine x_aload_n d_Mo_grow_14 rfl ?_
  refine y_getf (v := .int (nI p)) d_Mo_grow_15 gf_Mo_216 k_model (congrArg (fun q => some (Value.int q)) hU) ?_
  refine y_iald hG d_Mo_grow_18 k_m_pieceHas _ rfl (by omega) ?_
  rw [show sA (moU S p) 221 p = nI has from hhas]
  refine s_istore_n (lv' := [(0, _), (1, _), (2, _)]) d_Mo_grow_19 (by decide) rfl ?_
  refine x_aload_n d_Mo_grow_20 rfl ?_
  refine y_getf d_Mo_grow_21 gf_Mo_116 k_model rfl ?_
  refine x_aload_n d_Mo_grow_24 rfl ?_
  refine y_getf (v := .int (nI p)) d_Mo_grow_25 gf_Mo_216 k_model (congrArg (fun q => some (Value.int q)) hU) ?_
  refine y_iald hG d_Mo_grow_28 k_m_pieceColumn _ rfl (by omega) ?_
  rw [show sA (moU S p) 222 p = sA S 222 p from rfl]
  refine s_istore_n (lv' := [(0, _), (1, _), (2, _), (3, _)]) d_Mo_grow_29 (by decide) rfl ?_
  refine x_aload_n d_Mo_grow_30 rfl ?_
  refine y_getf d_Mo_grow_31 gf_Mo_119 k_model rfl ?_
  refine x_aload_n d_Mo_grow_34 rfl ?_
  refine y_getf (v := .int (nI p)) d_Mo_grow_35 gf_Mo_216 k_model (congrArg (fun q => some (Value.int q)) hU) ?_
  refine y_iald hG d_Mo_grow_38 k_m_pieceRow _ rfl (by omega) ?_
  rw [show sA (moU S p) 223 p = sA S 223 p from rfl]
  refine s_istore (lv' := [(0, _), (1, _), (2, _), (3, _), (4, _)]) d_Mo_grow_39 (by decide) rfl ?_
  refine x_aload_n d_Mo_grow_41 rfl ?_
  refine y_getf d_Mo_grow_42 gf_Mo_122 k_model rfl ?_
  refine x_aload_n d_Mo_grow_45 rfl ?_
  refine y_getf (v := .int (nI p)) d_Mo_grow_46 gf_Mo_216 k_model (congrArg (fun q => some (Value.int q)) hU) ?_
  refine y_iald hG d_Mo_grow_49 k_m_piecePane _ rfl (by omega) ?_
  rw [show sA (moU S p) 224 p = nI q from hpn]
  refine s_istore (lv' := [(0, _), (1, _), (2, _), (3, _), (4, _), (5, _)]) d_Mo_grow_50 (by decide) rfl ?_
  refine x_sipush (v := nI 160) d_Mo_grow_52 (by decide +kernel) ?_
  refine x_iload_n d_Mo_grow_55 rfl ?_
  refine x_imul d_Mo_grow_56 ?_
  rw [nI_mul]
  refine x_aload_n d_Mo_grow_57 rfl ?_
  refine y_getf d_Mo_grow_58 gf_Mo_35 k_model rfl ?_
  refine x_iload_n d_Mo_grow_61 rfl ?_
  refine y_iald hG d_Mo_grow_62 k_m_nodeCounts _ rfl (by omega) ?_
  rw [show sA (moU S p) 195 s = nI m from hm0]
  refine x_iadd d_Mo_grow_63 ?_
  rw [nI_add]
  refine s_istore (lv' := [(0, _), (1, _), (2, _), (3, _), (4, _), (5, _), (6, _)]) d_Mo_grow_64 (by decide) rfl ?_
  refine x_aload_n d_Mo_grow_66 rfl ?_
  refine y_getf d_Mo_grow_67 gf_Mo_35 k_model rfl ?_
  refine x_iload_n d_Mo_grow_70 rfl ?_
  refine x_dup2 d_Mo_grow_71 rfl rfl ?_
  refine y_iald hG d_Mo_grow_72 k_m_nodeCounts _ rfl (by omega) ?_
  rw [show sA (moU S p) 195 s = nI m from hm0]
  refine x_iconst (v := nI 1) d_Mo_grow_73 (by decide +kernel) ?_
  refine x_iadd d_Mo_grow_74 ?_
  rw [nI_add]
  refine y_iast hG d_Mo_grow_75 k_m_nodeCounts _ rfl (by omega) ?_
  refine x_aload_n d_Mo_grow_76 rfl ?_
  refine y_getf d_Mo_grow_77 gf_Mo_41 k_model rfl ?_
  refine x_iload d_Mo_grow_80 rfl ?_
  refine x_aload_n d_Mo_grow_82 rfl ?_
  refine y_getf d_Mo_grow_83 gf_Mo_125 k_model rfl ?_
  refine x_aload_n d_Mo_grow_86 rfl ?_
  refine y_getf (v := .int (nI p)) d_Mo_grow_87 gf_Mo_216 k_model (congrArg (fun q => some (Value.int q)) hU) ?_
  refine y_iald hG d_Mo_grow_90 k_m_pieceX _ rfl (by omega) ?_
  rw [sA_uAn _ _ _ (by decide)]
  refine y_iast hG d_Mo_grow_91 k_m_xs _ rfl (by omega) ?_
  refine x_aload_n d_Mo_grow_92 rfl ?_
  refine y_getf d_Mo_grow_93 gf_Mo_44 k_model rfl ?_
  refine x_iload d_Mo_grow_96 rfl ?_
  refine x_aload_n d_Mo_grow_98 rfl ?_
  refine y_getf d_Mo_grow_99 gf_Mo_128 k_model rfl ?_
  refine x_aload_n d_Mo_grow_102 rfl ?_
  refine y_getf (v := .int (nI p)) d_Mo_grow_103 gf_Mo_216 k_model (congrArg (fun q => some (Value.int q)) hU) ?_
  refine y_iald hG d_Mo_grow_106 k_m_pieceY _ rfl (by omega) ?_
  rw [sA_uAn _ _ _ (by decide), sA_uAn _ _ _ (by decide)]
  refine y_iast hG d_Mo_grow_107 k_m_ys _ rfl (by omega) ?_
  refine x_aload_n d_Mo_grow_108 rfl ?_
  refine y_getf d_Mo_grow_109 gf_Mo_47 k_model rfl ?_
  refine x_iload d_Mo_grow_112 rfl ?_
  refine x_aload_n d_Mo_grow_114 rfl ?_
  refine y_getf d_Mo_grow_115 gf_Mo_131 k_model rfl ?_
  refine x_aload_n d_Mo_grow_118 rfl ?_
  refine y_getf (v := .int (nI p)) d_Mo_grow_119 gf_Mo_216 k_model (congrArg (fun q => some (Value.int q)) hU) ?_
  refine y_iald hG d_Mo_grow_122 k_m_pieceW _ rfl (by omega) ?_
  rw [sA_uAn _ _ _ (by decide), sA_uAn _ _ _ (by decide), sA_uAn _ _ _ (by decide)]
  refine y_iast hG d_Mo_grow_123 k_m_ws _ rfl (by omega) ?_
  refine x_aload_n d_Mo_grow_124 rfl ?_
  refine y_getf d_Mo_grow_125 gf_Mo_50 k_model rfl ?_
  refine x_iload d_Mo_grow_128 rfl ?_
  refine x_aload_n d_Mo_grow_130 rfl ?_
  refine y_getf d_Mo_grow_131 gf_Mo_134 k_model rfl ?_
  refine x_aload_n d_Mo_grow_134 rfl ?_
  refine y_getf (v := .int (nI p)) d_Mo_grow_135 gf_Mo_216 k_model (congrArg (fun q => some (Value.int q)) hU) ?_
  refine y_iald hG d_Mo_grow_138 k_m_pieceH _ rfl (by omega) ?_
  rw [sA_uAn _ _ _ (by decide), sA_uAn _ _ _ (by decide), sA_uAn _ _ _ (by decide), sA_uAn _ _ _ (by decide)]
  refine y_iast hG d_Mo_grow_139 k_m_hs _ rfl (by omega) ?_
  refine x_aload_n d_Mo_grow_140 rfl ?_
  refine y_getf d_Mo_grow_141 gf_Mo_56 k_model rfl ?_
  refine x_iload d_Mo_grow_144 rfl ?_
  refine x_iconst (v := -1) d_Mo_grow_146 (by decide +kernel) ?_
  refine y_iast hG d_Mo_grow_147 k_m_firsts _ rfl (by omega) ?_
  refine x_aload_n d_Mo_grow_148 rfl ?_
  refine y_getf d_Mo_grow_149 gf_Mo_59 k_model rfl ?_
  refine x_iload d_Mo_grow_152 rfl ?_
  refine x_iconst (v := -1) d_Mo_grow_154 (by decide +kernel) ?_
  refine y_iast hG d_Mo_grow_155 k_m_seconds _ rfl (by omega) ?_
  refine x_aload_n d_Mo_grow_156 rfl ?_
  refine y_getf d_Mo_grow_157 gf_Mo_62 k_model rfl ?_
  refine x_iload d_Mo_grow_160 rfl ?_
  refine x_iconst (v := nI 0) d_Mo_grow_162 (by decide +kernel) ?_
  refine y_iast hG d_Mo_grow_163 k_m_states _ rfl (by omega) ?_
  show EX _ _ _ _ _ _ (mk G B (moNd (moU S p) s m p)) _
  refine x_aload_n d_Mo_grow_164 rfl ?_
  refine y_getf d_Mo_grow_165 gf_Mo_137 k_model rfl ?_
  refine x_aload_n d_Mo_grow_168 rfl ?_
  refine y_getf (v := .int (nI p)) d_Mo_grow_169 gf_Mo_216 k_model (congrArg (fun q => some (Value.int q)) hU) ?_
  refine y_iald hG d_Mo_grow_172 k_m_pieceOf _ rfl (by omega) ?_
  rw [moNd_A (by decide), show sA (moU S p) 229 p = cI g from hg0]
  refine s_istore (lv' := [(0, _), (1, _), (2, _), (3, _), (4, _), (5, _), (6, _), (7, _)]) d_Mo_grow_173 (by decide) rfl ?_
  rcases g with _ | f
  · skip
    rw [show cI none = -1 from rfl]
    refine x_iload d_Mo_grow_175 rfl ?_
    refine x_if_lt 286 d_Mo_grow_177 rfl (fun hc177 => ?_) (fun q => absurd q (Classical.not_not.mpr (by decide +kernel)))
    show EX _ _ _ _ _ _ (mk G B (moLk (moNd (moU S p) s m p) s m none)) _
    have hPp : sF (moLk (moNd (moU S p) s m p) s m none) 186 36 = nI np := by rw [moLk_F]; exact hpp
    have hPq : sF (moLk (moNd (moU S p) s m p) s m none) 186 43 = nI p := by rw [moLk_F]; exact hU
    have hcs : has = 0 ∨ has = 1 ∨ has = 2 ∨ has = 3 ∨ has = 4 := by omega
    rcases hcs with rfl | rfl | rfl | rfl | rfl
    · skip
      refine x_aload_n d_Mo_grow_286 rfl ?_
      refine x_iload_n d_Mo_grow_287 rfl ?_
      refine x_iload_n d_Mo_grow_288 rfl ?_
      refine x_iload d_Mo_grow_289 rfl ?_
      refine x_iload d_Mo_grow_291 rfl ?_
      refine w_callV (As := [_, _, _, _]) d_Mo_grow_293 k_Mo_222 k_model rfl rfl rfl (c_Mo_reach0 (S := (moLk (moNd (moU S p) s m p) s m none)) hG hPp hp40 (by omega)) ?_
      refine s_istore (lv' := [(0, _), (1, _), (2, _), (3, _), (4, _), (5, _), (6, _), (7, _), (8, _)]) d_Mo_grow_296 (by decide) rfl ?_
      refine x_lv (lv' := [(0, _), (1, _), (2, _), (3, _), (4, _), (5, _), (6, _), (8, _)]) [0, 1, 2, 3, 4, 5, 6, 8] rfl ?_
      exact c_Mo_grow298_0 hG hs hm rfl hPp hp40 hPq (by omega) hqq
    · skip
      refine x_aload_n d_Mo_grow_286 rfl ?_
      refine x_iload_n d_Mo_grow_287 rfl ?_
      refine x_iload_n d_Mo_grow_288 rfl ?_
      refine x_iload d_Mo_grow_289 rfl ?_
      refine x_iload d_Mo_grow_291 rfl ?_
      refine w_callV (As := [_, _, _, _]) d_Mo_grow_293 k_Mo_222 k_model rfl rfl rfl (c_Mo_reach1 (S := (moLk (moNd (moU S p) s m p) s m none)) hG hPp hp40 (by omega)) ?_
      refine s_istore (lv' := [(0, _), (1, _), (2, _), (3, _), (4, _), (5, _), (6, _), (7, _), (8, _)]) d_Mo_grow_296 (by decide) rfl ?_
      refine x_lv (lv' := [(0, _), (1, _), (2, _), (3, _), (4, _), (5, _), (6, _), (8, _)]) [0, 1, 2, 3, 4, 5, 6, 8] rfl ?_
      exact c_Mo_grow298_1 hG hs hm rfl hPp hp40 hPq (by omega) hqq
    · skip
      refine x_aload_n d_Mo_grow_286 rfl ?_
      refine x_iload_n d_Mo_grow_287 rfl ?_
      refine x_iload_n d_Mo_grow_288 rfl ?_
      refine x_iload d_Mo_grow_289 rfl ?_
      refine x_iload d_Mo_grow_291 rfl ?_
      refine w_callV (As := [_, _, _, _]) d_Mo_grow_293 k_Mo_222 k_model rfl rfl rfl (c_Mo_reach2 (S := (moLk (moNd (moU S p) s m p) s m none)) hG hPp hp40 (by omega)) ?_
      refine s_istore (lv' := [(0, _), (1, _), (2, _), (3, _), (4, _), (5, _), (6, _), (7, _), (8, _)]) d_Mo_grow_296 (by decide) rfl ?_
      refine x_lv (lv' := [(0, _), (1, _), (2, _), (3, _), (4, _), (5, _), (6, _), (8, _)]) [0, 1, 2, 3, 4, 5, 6, 8] rfl ?_
      exact c_Mo_grow298_2 hG hs hm rfl hPp hp40 hPq (by omega) hqq
    · skip
      refine x_aload_n d_Mo_grow_286 rfl ?_
      refine x_iload_n d_Mo_grow_287 rfl ?_
      refine x_iload_n d_Mo_grow_288 rfl ?_
      refine x_iload d_Mo_grow_289 rfl ?_
      refine x_iload d_Mo_grow_291 rfl ?_
      refine w_callV (As := [_, _, _, _]) d_Mo_grow_293 k_Mo_222 k_model rfl rfl rfl (c_Mo_reach3 (S := (moLk (moNd (moU S p) s m p) s m none)) hG hPp hp40 (by omega)) ?_
      refine s_istore (lv' := [(0, _), (1, _), (2, _), (3, _), (4, _), (5, _), (6, _), (7, _), (8, _)]) d_Mo_grow_296 (by decide) rfl ?_
      refine x_lv (lv' := [(0, _), (1, _), (2, _), (3, _), (4, _), (5, _), (6, _), (8, _)]) [0, 1, 2, 3, 4, 5, 6, 8] rfl ?_
      exact c_Mo_grow298_3 hG hs hm rfl hPp hp40 hPq (by omega) hqq
    · skip
      refine x_aload_n d_Mo_grow_286 rfl ?_
      refine x_iload_n d_Mo_grow_287 rfl ?_
      refine x_iload_n d_Mo_grow_288 rfl ?_
      refine x_iload d_Mo_grow_289 rfl ?_
      refine x_iload d_Mo_grow_291 rfl ?_
      refine w_callV (As := [_, _, _, _]) d_Mo_grow_293 k_Mo_222 k_model rfl rfl rfl (c_Mo_reach4 (S := (moLk (moNd (moU S p) s m p) s m none)) hG hPp hp40 (by omega)) ?_
      refine s_istore (lv' := [(0, _), (1, _), (2, _), (3, _), (4, _), (5, _), (6, _), (7, _), (8, _)]) d_Mo_grow_296 (by decide) rfl ?_
      refine x_lv (lv' := [(0, _), (1, _), (2, _), (3, _), (4, _), (5, _), (6, _), (8, _)]) [0, 1, 2, 3, 4, 5, 6, 8] rfl ?_
      exact c_Mo_grow298_4 hG hs hm rfl hPp hp40 hPq (by omega) hqq
  · skip
    rw [show cI (some f) = nI f from rfl]
    have hf := hgl f rfl
    refine x_iload d_Mo_grow_175 rfl ?_
    refine z_if_lt d_Mo_grow_177 (tgt := 286) rfl (by omega) ?_
    refine x_join 200 (.int (bI (decide (f + 1 = m)))) ?_ (fun J180 => ?_)
    · skip
      refine s_istore (lv' := [(0, _), (1, _), (2, _), (3, _), (4, _), (5, _), (6, _), (7, _), (8, _)]) d_Mo_grow_200 (by decide) rfl ?_
      refine x_aload_n d_Mo_grow_202 rfl ?_
      refine y_getf d_Mo_grow_203 gf_Mo_56 k_model rfl ?_
      refine x_sipush (v := nI 160) d_Mo_grow_206 (by decide +kernel) ?_
      refine x_iload_n d_Mo_grow_209 rfl ?_
      refine x_imul d_Mo_grow_210 ?_
      rw [nI_mul]
      refine x_iload d_Mo_grow_211 rfl ?_
      refine x_iadd d_Mo_grow_213 ?_
      rw [nI_add]
      refine x_join 243 (.int (if f + 1 = m then nI m else sA (moNd (moU S p) s m p) 202 (160 * s + f))) ?_ (fun J214 => ?_)
      · skip
        refine y_iast hG d_Mo_grow_243 k_m_firsts _ rfl (by omega) ?_
        refine x_aload_n d_Mo_grow_244 rfl ?_
        refine y_getf d_Mo_grow_245 gf_Mo_59 k_model rfl ?_
        refine x_sipush (v := nI 160) d_Mo_grow_248 (by decide +kernel) ?_
        refine x_iload_n d_Mo_grow_251 rfl ?_
        refine x_imul d_Mo_grow_252 ?_
        rw [nI_mul]
        refine x_iload d_Mo_grow_253 rfl ?_
        refine x_iadd d_Mo_grow_255 ?_
        rw [nI_add]
        refine x_join 285 (.int (if f + 1 = m then sA (moNd (moU S p) s m p) 203 (160 * s + f) else nI m)) ?_ (fun J256 => ?_)
        · skip
          refine y_iast hG d_Mo_grow_285 k_m_seconds _ rfl (by omega) ?_
          show EX _ _ _ _ _ _ (mk G B (moLk (moNd (moU S p) s m p) s m (some f))) _
          have hPp : sF (moLk (moNd (moU S p) s m p) s m (some f)) 186 36 = nI np := by rw [moLk_F]; exact hpp
          have hPq : sF (moLk (moNd (moU S p) s m p) s m (some f)) 186 43 = nI p := by rw [moLk_F]; exact hU
          have hcs : has = 0 ∨ has = 1 ∨ has = 2 ∨ has = 3 ∨ has = 4 := by omega
          rcases hcs with rfl | rfl | rfl | rfl | rfl
          · skip
            refine x_aload_n d_Mo_grow_286 rfl ?_
            refine x_iload_n d_Mo_grow_287 rfl ?_
            refine x_iload_n d_Mo_grow_288 rfl ?_
            refine x_iload d_Mo_grow_289 rfl ?_
            refine x_iload d_Mo_grow_291 rfl ?_
            refine w_callV (As := [_, _, _, _]) d_Mo_grow_293 k_Mo_222 k_model rfl rfl rfl (c_Mo_reach0 (S := (moLk (moNd (moU S p) s m p) s m (some f))) hG hPp hp40 (by omega)) ?_
            refine s_istore (lv' := [(0, _), (1, _), (2, _), (3, _), (4, _), (5, _), (6, _), (7, _), (8, _)]) d_Mo_grow_296 (by decide) rfl ?_
            refine x_lv (lv' := [(0, _), (1, _), (2, _), (3, _), (4, _), (5, _), (6, _), (8, _)]) [0, 1, 2, 3, 4, 5, 6, 8] rfl ?_
            exact c_Mo_grow298_0 hG hs hm rfl hPp hp40 hPq (by omega) hqq
          · skip
            refine x_aload_n d_Mo_grow_286 rfl ?_
            refine x_iload_n d_Mo_grow_287 rfl ?_
            refine x_iload_n d_Mo_grow_288 rfl ?_
            refine x_iload d_Mo_grow_289 rfl ?_
            refine x_iload d_Mo_grow_291 rfl ?_
            refine w_callV (As := [_, _, _, _]) d_Mo_grow_293 k_Mo_222 k_model rfl rfl rfl (c_Mo_reach1 (S := (moLk (moNd (moU S p) s m p) s m (some f))) hG hPp hp40 (by omega)) ?_
            refine s_istore (lv' := [(0, _), (1, _), (2, _), (3, _), (4, _), (5, _), (6, _), (7, _), (8, _)]) d_Mo_grow_296 (by decide) rfl ?_
            refine x_lv (lv' := [(0, _), (1, _), (2, _), (3, _), (4, _), (5, _), (6, _), (8, _)]) [0, 1, 2, 3, 4, 5, 6, 8] rfl ?_
            exact c_Mo_grow298_1 hG hs hm rfl hPp hp40 hPq (by omega) hqq
          · skip
            refine x_aload_n d_Mo_grow_286 rfl ?_
            refine x_iload_n d_Mo_grow_287 rfl ?_
            refine x_iload_n d_Mo_grow_288 rfl ?_
            refine x_iload d_Mo_grow_289 rfl ?_
            refine x_iload d_Mo_grow_291 rfl ?_
            refine w_callV (As := [_, _, _, _]) d_Mo_grow_293 k_Mo_222 k_model rfl rfl rfl (c_Mo_reach2 (S := (moLk (moNd (moU S p) s m p) s m (some f))) hG hPp hp40 (by omega)) ?_
            refine s_istore (lv' := [(0, _), (1, _), (2, _), (3, _), (4, _), (5, _), (6, _), (7, _), (8, _)]) d_Mo_grow_296 (by decide) rfl ?_
            refine x_lv (lv' := [(0, _), (1, _), (2, _), (3, _), (4, _), (5, _), (6, _), (8, _)]) [0, 1, 2, 3, 4, 5, 6, 8] rfl ?_
            exact c_Mo_grow298_2 hG hs hm rfl hPp hp40 hPq (by omega) hqq
          · skip
            refine x_aload_n d_Mo_grow_286 rfl ?_
            refine x_iload_n d_Mo_grow_287 rfl ?_
            refine x_iload_n d_Mo_grow_288 rfl ?_
            refine x_iload d_Mo_grow_289 rfl ?_
            refine x_iload d_Mo_grow_291 rfl ?_
            refine w_callV (As := [_, _, _, _]) d_Mo_grow_293 k_Mo_222 k_model rfl rfl rfl (c_Mo_reach3 (S := (moLk (moNd (moU S p) s m p) s m (some f))) hG hPp hp40 (by omega)) ?_
            refine s_istore (lv' := [(0, _), (1, _), (2, _), (3, _), (4, _), (5, _), (6, _), (7, _), (8, _)]) d_Mo_grow_296 (by decide) rfl ?_
            refine x_lv (lv' := [(0, _), (1, _), (2, _), (3, _), (4, _), (5, _), (6, _), (8, _)]) [0, 1, 2, 3, 4, 5, 6, 8] rfl ?_
            exact c_Mo_grow298_3 hG hs hm rfl hPp hp40 hPq (by omega) hqq
          · skip
            refine x_aload_n d_Mo_grow_286 rfl ?_
            refine x_iload_n d_Mo_grow_287 rfl ?_
            refine x_iload_n d_Mo_grow_288 rfl ?_
            refine x_iload d_Mo_grow_289 rfl ?_
            refine x_iload d_Mo_grow_291 rfl ?_
            refine w_callV (As := [_, _, _, _]) d_Mo_grow_293 k_Mo_222 k_model rfl rfl rfl (c_Mo_reach4 (S := (moLk (moNd (moU S p) s m p) s m (some f))) hG hPp hp40 (by omega)) ?_
            refine s_istore (lv' := [(0, _), (1, _), (2, _), (3, _), (4, _), (5, _), (6, _), (7, _), (8, _)]) d_Mo_grow_296 (by decide) rfl ?_
            refine x_lv (lv' := [(0, _), (1, _), (2, _), (3, _), (4, _), (5, _), (6, _), (8, _)]) [0, 1, 2, 3, 4, 5, 6, 8] rfl ?_
            exact c_Mo_grow298_4 hG hs hm rfl hPp hp40 hPq (by omega) hqq
        · skip
          refine x_iload d_Mo_grow_256 rfl ?_
          refine z_bif_eq 277 d_Mo_grow_258 rfl (fun hc258 => ?_) (fun hc258 => ?_)
          · skip
            skip
            refine x_iload d_Mo_grow_277 rfl ?_
            refine x_sipush (v := nI 160) d_Mo_grow_279 (by decide +kernel) ?_
            refine x_iload_n d_Mo_grow_282 rfl ?_
            refine x_imul d_Mo_grow_283 ?_
            rw [nI_mul]
            refine x_isub d_Mo_grow_284 ?_
            rw [pk_sub (by omega), show 160 * s + m - 160 * s = m by omega]
            refine J256 _ ?_
            first
              | (rw [if_pos (of_decide_eq_true hc258)]; done)
              | (rw [if_neg (of_decide_eq_false hc258)]; done)
          · skip
            skip
            refine x_aload_n d_Mo_grow_261 rfl ?_
            refine y_getf d_Mo_grow_262 gf_Mo_59 k_model rfl ?_
            refine x_sipush (v := nI 160) d_Mo_grow_265 (by decide +kernel) ?_
            refine x_iload_n d_Mo_grow_268 rfl ?_
            refine x_imul d_Mo_grow_269 ?_
            rw [nI_mul]
            refine x_iload d_Mo_grow_270 rfl ?_
            refine x_iadd d_Mo_grow_272 ?_
            rw [nI_add]
            refine y_iald hG d_Mo_grow_273 k_m_seconds _ rfl (by omega) ?_
            rw [sA_uAn _ _ _ (by decide)]
            refine x_goto 285 d_Mo_grow_274 rfl ?_
            refine J256 _ ?_
            first
              | (rw [if_pos (of_decide_eq_true hc258)]; done)
              | (rw [if_neg (of_decide_eq_false hc258)]; done)
      · skip
        refine x_iload d_Mo_grow_214 rfl ?_
        refine z_bif_eq 230 d_Mo_grow_216 rfl (fun hc216 => ?_) (fun hc216 => ?_)
        · skip
          skip
          refine x_aload_n d_Mo_grow_230 rfl ?_
          refine y_getf d_Mo_grow_231 gf_Mo_56 k_model rfl ?_
          refine x_sipush (v := nI 160) d_Mo_grow_234 (by decide +kernel) ?_
          refine x_iload_n d_Mo_grow_237 rfl ?_
          refine x_imul d_Mo_grow_238 ?_
          rw [nI_mul]
          refine x_iload d_Mo_grow_239 rfl ?_
          refine x_iadd d_Mo_grow_241 ?_
          rw [nI_add]
          refine y_iald hG d_Mo_grow_242 k_m_firsts _ rfl (by omega) ?_
          refine J214 _ ?_
          first
            | (rw [if_pos (of_decide_eq_true hc216)]; done)
            | (rw [if_neg (of_decide_eq_false hc216)]; done)
        · skip
          skip
          refine x_iload d_Mo_grow_219 rfl ?_
          refine x_sipush (v := nI 160) d_Mo_grow_221 (by decide +kernel) ?_
          refine x_iload_n d_Mo_grow_224 rfl ?_
          refine x_imul d_Mo_grow_225 ?_
          rw [nI_mul]
          refine x_isub d_Mo_grow_226 ?_
          rw [pk_sub (by omega), show 160 * s + m - 160 * s = m by omega]
          refine x_goto 243 d_Mo_grow_227 rfl ?_
          refine J214 _ ?_
          first
            | (rw [if_pos (of_decide_eq_true hc216)]; done)
            | (rw [if_neg (of_decide_eq_false hc216)]; done)
    · skip
      refine x_sipush (v := nI 160) d_Mo_grow_180 (by decide +kernel) ?_
      refine x_iload_n d_Mo_grow_183 rfl ?_
      refine x_imul d_Mo_grow_184 ?_
      rw [nI_mul]
      refine x_iload d_Mo_grow_185 rfl ?_
      refine x_iadd d_Mo_grow_187 ?_
      rw [nI_add]
      refine x_iconst (v := nI 1) d_Mo_grow_188 (by decide +kernel) ?_
      refine x_iadd d_Mo_grow_189 ?_
      rw [nI_add]
      refine x_iload d_Mo_grow_190 rfl ?_
      refine z_icmp_ne 199 d_Mo_grow_192 rfl (by omega) (by omega) (fun hc192 => ?_) (fun hc192 => ?_)
      · skip
        skip
        refine x_iconst (v := nI 0) d_Mo_grow_199 (by decide +kernel) ?_
        refine J180 _ ?_
        first
          | (rw [decide_eq_true (show f + 1 = m by omega)]; rfl)
          | (rw [decide_eq_false (show ¬ f + 1 = m by omega)]; rfl)
      · skip
        skip
        refine x_iconst (v := nI 1) d_Mo_grow_195 (by decide +kernel) ?_
        refine x_goto 200 d_Mo_grow_196 rfl ?_
        refine J180 _ ?_
        first
          | (rw [decide_eq_true (show f + 1 = m by omega)]; rfl)
          | (rw [decide_eq_false (show ¬ f + 1 = m by omega)]; rfl)
