/-! the law: reading the script; a call of the class beside the reference's -/
def scO (G : xG) (L : Nat) (xs : Nat → Int32) : Prop := (gX G).vm ≠ .unknown ∧ (gX G).slots.size = L ∧ ∀ j : Nat, j < L → (gX G).slots[j]? = some (.int (xs j))
section SL
variable {G : xG} {M : xM} {d pc : Nat} {lv : List (Nat × Value)} {st : List Value} {h : xH} {Q : xR → xH → Prop} {L : Nat} {xs : Nat → Int32}
theorem x_sld {j : Nat} {i : Int32} (hx : scO G L xs) (hd : decode M.2.1 pc = .ok (.iaload, 1)) (hi : i = nI j) (hj : j < L) (hL : L < 2 ^ 31) (kk : EX G M d (pc + 1) lv (.int (xs j) :: st) h Q) : EX G M d pc lv (.int i :: .ref (gB G) :: st) h Q := by
  subst hi
  intro p e R s m args below meth c n0 ls H locs hF hl hr hz ho h1 h2
  have K := kk p e R s m args below meth c n0 ls H locs hF hl hr hz ho h1 h2
  obtain ⟨x1, x2, x3⟩ := hx
  have hcl := nI_clamp (n := j) (by omega)
  exact W.iald (v := .int (xs j)) hF.1 hF.2.1 hr.2.2.2.2.1.2 hF.2.2.2.2.2.2.2.2.2.2.1 x1 (by rw [x2]; exact vp_in_nI hj hL) (by rw [hcl]; exact x3 j hj) rfl rfl hd K
theorem x_slen (hx : scO G L xs) (hd : decode M.2.1 pc = .ok (.arraylength, 1)) (kk : EX G M d (pc + 1) lv (.int (nI L) :: st) h Q) : EX G M d pc lv (.ref (gB G) :: st) h Q := by
  intro p e R s m args below meth c n0 ls H locs hF hl hr hz ho h1 h2
  have K := kk p e R s m args below meth c n0 ls H locs hF hl hr hz ho h1 h2
  obtain ⟨x1, x2, x3⟩ := hx
  exact W.alen (n := nI L) hF.1 hF.2.1 hr.2.2.2.2.1.2 hF.2.2.2.2.2.2.2.2.2.2.1 (by rw [x2]; rfl) rfl rfl hd K
/-- 'v != 0' as a boolean -/
theorem x_nz {v : Int32} (d0 : decode M.2.1 pc = .ok (.ifCond .eq 7, 3)) (d3 : decode M.2.1 (pc + 3) = .ok (.iconst 1, 1)) (d4 : decode M.2.1 (pc + 3 + 1) = .ok (.goto 4, 3)) (d7 : decode M.2.1 (pc + 7) = .ok (.iconst 0, 1)) (kk : EX G M d (pc + 8) lv (.int (bI (!decide (v = 0))) :: st) h Q) : EX G M d pc lv (.int v :: st) h Q := by
  refine x_if_eq (pc + 7) d0 (by omega) (fun hv => ?_) (fun hv => ?_)
  · refine x_iconst (v := nI 0) d7 (by decide +kernel) ?_
    rw [show bI (!decide (v = 0)) = nI 0 by rw [decide_eq_true hv]; rfl] at kk
    exact kk
  · refine x_iconst (v := nI 1) d3 (by decide +kernel) ?_
    refine x_goto (pc + 8) d4 (by omega) ?_
    rw [show bI (!decide (v = 0)) = nI 1 by rw [decide_eq_false hv]; rfl] at kk
    exact kk
end SL
theorem cmp_eq {a : Int64} : lg_cmp a a = 0 := by
  unfold lg_cmp
  rw [if_neg (show ¬ a > a from fun z => Int64.lt_irrefl z), if_pos rfl]
theorem xDo_ret {G : xG} {B : Nat} {v : Option Value} {S : xS} {r : xR} {h : xH} (q : xDo G B (.inl v, S) r h) : xRet G B v S r h := by
  rcases q with ⟨u, a1, a2, a3⟩ | ⟨ce, a1, -⟩
  · cases a1; exact ⟨a2, a3⟩
  · cases a1
/-- a call that may throw, told on both sides alike -/
def opW (G : xG) (B t : Nat) (LI : Nat → xS → Prop) (S : xS) (mH mM : xM) (As : List Value) (l : List Nat) : Prop := ∃ (p : xO × xS) (q : Int32 × xS), EX G mH 18 0 (lv_args 0 (.ref (B + 0) :: As)) [] (mk G B S) (xDo G B p) ∧ EX G mM 19 0 (lv_args 0 (.ref (B + 186) :: As)) [] (mk G B (lwV p l).2) (moRet G B q) ∧ B + 231 ≤ sN p.2 ∧
  ((∃ v, p.1 = .inl (some (.int v))) ∨ ∃ ce, p.1 = .inr ce ∧ ce ∈ l) ∧ sF q.2 186 0 = (lwV p l).1 ∧ ((lwV p l).1 = 0 → sJ q.2 230 0 = q.1.toInt64) ∧ LI (t + 1) q.2
/-- a call that only answers -/
def opI (G : xG) (B t : Nat) (LI : Nat → xS → Prop) (S : xS) (mH mM : xM) (As : List Value) : Prop := ∃ (v : Int32) (S' : xS), EX G mH 19 0 (lv_args 0 (.ref (B + 0) :: As)) [] (mk G B S) (xDo G B (rI v, S)) ∧ EX G mM 19 0 (lv_args 0 (.ref (B + 186) :: As)) [] (mk G B S) (xRet G B (some (.int v)) S') ∧ LI (t + 1) S'
def opJ (G : xG) (B t : Nat) (LI : Nat → xS → Prop) (S : xS) (mH mM : xM) (As : List Value) : Prop := ∃ (v : Int64) (S' : xS), EX G mH 19 0 (lv_args 0 (.ref (B + 0) :: As)) [] (mk G B S) (xDo G B (.inl (some (.long v)), S)) ∧ EX G mM 19 0 (lv_args 0 (.ref (B + 186) :: As)) [] (mk G B S) (xRet G B (some (.long v)) S') ∧ LI (t + 1) S'
abbrev lwL (G : xG) (B k : Nat) : List (Nat × Value) := [(0, .ref (gB G)), (1, .ref (B + 0)), (2, .ref (B + 186)), (3, .ref (B + 230)), (4, .int (nI (6 * k)))]
set_option maxRecDepth 100000 in
set_option maxHeartbeats 1000000 in
theorem lc_sheet {G : xG} {B t k L : Nat} {xs : Nat → Int32} {LI : Nat → xS → Prop} {S : xS} {Q : xR → xH → Prop} (hG : xOkG G) (hx : scO G L xs) (hk : 6 * k + 6 ≤ L) (hL : L ≤ 3072) (hop : opW G B t LI S m_Ha_sheet m_Mo_sheet [.int (xs (6 * k + 1)), .int (xs (6 * k + 2))] [12, 13]) (ih : ∀ S', LI (t + 1) S' → EX G m_Lw_law 20 1228 (lwL G B k) [] (mk G B S') Q) : EX G m_Lw_law 20 124 (lwL G B k) [] (mk G B S) Q := by
  obtain ⟨p, q, hH, hM, hsn, hp, e1, e2, hLI⟩ := hop
  have hp2 : (∃ v, p.1 = .inl (some (.int v))) ∨ p.1 = .inr 12 ∨ p.1 = .inr 13 := by
    rcases hp with hp | ⟨ce, hp, hm⟩
    · exact Or.inl hp
    · simp only [List.mem_cons, List.not_mem_nil, or_false] at hm
      rcases hm with rfl | rfl <;> simp [hp]
  refine x_aload_n d_Lw_law_124 rfl ?_
  refine x_aload_n d_Lw_law_125 rfl ?_
  refine x_iload d_Lw_law_126 rfl ?_
  refine x_iconst (v := nI 1) d_Lw_law_128 (by decide +kernel) ?_
  refine x_iadd d_Lw_law_129 ?_
  refine x_sld hx d_Lw_law_130 (nI_add _ _) (by omega) (by omega) ?_
  refine x_aload_n d_Lw_law_131 rfl ?_
  refine x_iload d_Lw_law_132 rfl ?_
  refine x_iconst (v := nI 2) d_Lw_law_134 (by decide +kernel) ?_
  refine x_iadd d_Lw_law_135 ?_
  refine x_sld hx d_Lw_law_136 (nI_add _ _) (by omega) (by omega) ?_
  refine x_aload_n d_Lw_law_137 rfl ?_
  refine w_callS (As := [_, _, _, _]) d_Lw_law_138 k_Lw_69 rfl rfl rfl (c_Lw_sheet hG hsn hH hp2) ?_
  refine s_istore d_Lw_law_141 (by decide) rfl ?_
  refine x_aload_n d_Lw_law_143 rfl ?_
  refine x_aload_n d_Lw_law_144 rfl ?_
  refine x_iload d_Lw_law_145 rfl ?_
  refine x_iconst (v := nI 1) d_Lw_law_147 (by decide +kernel) ?_
  refine x_iadd d_Lw_law_148 ?_
  refine x_sld hx d_Lw_law_149 (nI_add _ _) (by omega) (by omega) ?_
  refine x_aload_n d_Lw_law_150 rfl ?_
  refine x_iload d_Lw_law_151 rfl ?_
  refine x_iconst (v := nI 2) d_Lw_law_153 (by decide +kernel) ?_
  refine x_iadd d_Lw_law_154 ?_
  refine x_sld hx d_Lw_law_155 (nI_add _ _) (by omega) (by omega) ?_
  refine w_callV (As := [_, _]) d_Lw_law_156 k_Lw_74 k_model rfl rfl rfl hM ?_
  refine s_istore d_Lw_law_159 (by decide) rfl ?_
  refine x_aload_n d_Lw_law_161 rfl ?_
  refine w_callV (As := []) d_Lw_law_162 k_Lw_75 k_model rfl rfl rfl (c_Mo_thrown hG) ?_
  refine x_iload d_Lw_law_165 rfl ?_
  refine x_icmp_eq 172 d_Lw_law_167 rfl (fun _ => ?_) (fun z => absurd e1 z)
  have fin : EX G m_Lw_law 20 189 [(0, .ref (gB G)), (1, .ref (B + 0)), (2, .ref (B + 186)), (3, .ref (B + 230)), (4, .int (nI (6 * k))), (5, .int (lwV p [12, 13]).1), (6, .int q.1)] [] (mk G B q.2) Q := by
    refine x_goto 1228 d_Lw_law_189 rfl ?_
    exact x_lv [0, 1, 2, 3, 4] rfl (ih _ hLI)
  refine x_iload d_Lw_law_172 rfl ?_
  refine x_if_ne 189 d_Lw_law_174 rfl (fun _ => fin) (fun hz => ?_)
  refine x_aload_n d_Lw_law_177 rfl ?_
  refine x_iconst (v := nI 0) d_Lw_law_178 (by decide +kernel) ?_
  refine y_lald hG d_Lw_law_179 k_out 0 rfl (by decide) ?_
  refine x_iload d_Lw_law_180 rfl ?_
  refine x_i2l d_Lw_law_182 ?_
  refine x_lcmp d_Lw_law_183 ?_
  have hz2 : (lwV p [12, 13]).1 = 0 := by
    first | exact hz | exact Classical.not_not.mp hz | (simp only [Classical.not_not] at hz; exact hz)
  rw [e2 hz2, cmp_eq]
  exact x_if_eq 189 d_Lw_law_184 rfl (fun _ => fin) (fun z => absurd rfl z)
set_option maxRecDepth 100000 in
set_option maxHeartbeats 1000000 in
theorem lc_flaw {G : xG} {B t k L : Nat} {xs : Nat → Int32} {LI : Nat → xS → Prop} {S : xS} {Q : xR → xH → Prop} (hG : xOkG G) (hx : scO G L xs) (hk : 6 * k + 6 ≤ L) (hL : L ≤ 3072) (hop : opW G B t LI S m_Ha_flaw m_Mo_flaw [.int (xs (6 * k + 1)), .int (xs (6 * k + 2)), .int (xs (6 * k + 3)), .int (xs (6 * k + 4)), .int (xs (6 * k + 5))] [11, 12, 13]) (ih : ∀ S', LI (t + 1) S' → EX G m_Lw_law 20 1228 (lwL G B k) [] (mk G B S') Q) : EX G m_Lw_law 20 192 (lwL G B k) [] (mk G B S) Q := by
  obtain ⟨p, q, hH, hM, hsn, hp, e1, e2, hLI⟩ := hop
  have hp2 : (∃ v, p.1 = .inl (some (.int v))) ∨ p.1 = .inr 11 ∨ p.1 = .inr 12 ∨ p.1 = .inr 13 := by
    rcases hp with hp | ⟨ce, hp, hm⟩
    · exact Or.inl hp
    · simp only [List.mem_cons, List.not_mem_nil, or_false] at hm
      rcases hm with rfl | rfl | rfl <;> simp [hp]
  refine x_aload_n d_Lw_law_192 rfl ?_
  refine x_aload_n d_Lw_law_193 rfl ?_
  refine x_iload d_Lw_law_194 rfl ?_
  refine x_iconst (v := nI 1) d_Lw_law_196 (by decide +kernel) ?_
  refine x_iadd d_Lw_law_197 ?_
  refine x_sld hx d_Lw_law_198 (nI_add _ _) (by omega) (by omega) ?_
  refine x_aload_n d_Lw_law_199 rfl ?_
  refine x_iload d_Lw_law_200 rfl ?_
  refine x_iconst (v := nI 2) d_Lw_law_202 (by decide +kernel) ?_
  refine x_iadd d_Lw_law_203 ?_
  refine x_sld hx d_Lw_law_204 (nI_add _ _) (by omega) (by omega) ?_
  refine x_aload_n d_Lw_law_205 rfl ?_
  refine x_iload d_Lw_law_206 rfl ?_
  refine x_iconst (v := nI 3) d_Lw_law_208 (by decide +kernel) ?_
  refine x_iadd d_Lw_law_209 ?_
  refine x_sld hx d_Lw_law_210 (nI_add _ _) (by omega) (by omega) ?_
  refine x_aload_n d_Lw_law_211 rfl ?_
  refine x_iload d_Lw_law_212 rfl ?_
  refine x_iconst (v := nI 4) d_Lw_law_214 (by decide +kernel) ?_
  refine x_iadd d_Lw_law_215 ?_
  refine x_sld hx d_Lw_law_216 (nI_add _ _) (by omega) (by omega) ?_
  refine x_aload_n d_Lw_law_217 rfl ?_
  refine x_iload d_Lw_law_218 rfl ?_
  refine x_iconst (v := nI 5) d_Lw_law_220 (by decide +kernel) ?_
  refine x_iadd d_Lw_law_221 ?_
  refine x_sld hx d_Lw_law_222 (nI_add _ _) (by omega) (by omega) ?_
  refine x_aload_n d_Lw_law_223 rfl ?_
  refine w_callS (As := [_, _, _, _, _, _, _]) d_Lw_law_224 k_Lw_79 rfl rfl rfl (c_Lw_flaw hG hsn hH hp2) ?_
  refine s_istore d_Lw_law_227 (by decide) rfl ?_
  refine x_aload_n d_Lw_law_229 rfl ?_
  refine x_aload_n d_Lw_law_230 rfl ?_
  refine x_iload d_Lw_law_231 rfl ?_
  refine x_iconst (v := nI 1) d_Lw_law_233 (by decide +kernel) ?_
  refine x_iadd d_Lw_law_234 ?_
  refine x_sld hx d_Lw_law_235 (nI_add _ _) (by omega) (by omega) ?_
  refine x_aload_n d_Lw_law_236 rfl ?_
  refine x_iload d_Lw_law_237 rfl ?_
  refine x_iconst (v := nI 2) d_Lw_law_239 (by decide +kernel) ?_
  refine x_iadd d_Lw_law_240 ?_
  refine x_sld hx d_Lw_law_241 (nI_add _ _) (by omega) (by omega) ?_
  refine x_aload_n d_Lw_law_242 rfl ?_
  refine x_iload d_Lw_law_243 rfl ?_
  refine x_iconst (v := nI 3) d_Lw_law_245 (by decide +kernel) ?_
  refine x_iadd d_Lw_law_246 ?_
  refine x_sld hx d_Lw_law_247 (nI_add _ _) (by omega) (by omega) ?_
  refine x_aload_n d_Lw_law_248 rfl ?_
  refine x_iload d_Lw_law_249 rfl ?_
  refine x_iconst (v := nI 4) d_Lw_law_251 (by decide +kernel) ?_
  refine x_iadd d_Lw_law_252 ?_
  refine x_sld hx d_Lw_law_253 (nI_add _ _) (by omega) (by omega) ?_
  refine x_aload_n d_Lw_law_254 rfl ?_
  refine x_iload d_Lw_law_255 rfl ?_
  refine x_iconst (v := nI 5) d_Lw_law_257 (by decide +kernel) ?_
  refine x_iadd d_Lw_law_258 ?_
  refine x_sld hx d_Lw_law_259 (nI_add _ _) (by omega) (by omega) ?_
  refine w_callV (As := [_, _, _, _, _]) d_Lw_law_260 k_Lw_82 k_model rfl rfl rfl hM ?_
  refine s_istore d_Lw_law_263 (by decide) rfl ?_
  refine x_aload_n d_Lw_law_265 rfl ?_
  refine w_callV (As := []) d_Lw_law_266 k_Lw_75 k_model rfl rfl rfl (c_Mo_thrown hG) ?_
  refine x_iload d_Lw_law_269 rfl ?_
  refine x_icmp_eq 276 d_Lw_law_271 rfl (fun _ => ?_) (fun z => absurd e1 z)
  have fin : EX G m_Lw_law 20 293 [(0, .ref (gB G)), (1, .ref (B + 0)), (2, .ref (B + 186)), (3, .ref (B + 230)), (4, .int (nI (6 * k))), (5, .int (lwV p [11, 12, 13]).1), (6, .int q.1)] [] (mk G B q.2) Q := by
    refine x_goto 1228 d_Lw_law_293 rfl ?_
    exact x_lv [0, 1, 2, 3, 4] rfl (ih _ hLI)
  refine x_iload d_Lw_law_276 rfl ?_
  refine x_if_ne 293 d_Lw_law_278 rfl (fun _ => fin) (fun hz => ?_)
  refine x_aload_n d_Lw_law_281 rfl ?_
  refine x_iconst (v := nI 0) d_Lw_law_282 (by decide +kernel) ?_
  refine y_lald hG d_Lw_law_283 k_out 0 rfl (by decide) ?_
  refine x_iload d_Lw_law_284 rfl ?_
  refine x_i2l d_Lw_law_286 ?_
  refine x_lcmp d_Lw_law_287 ?_
  have hz2 : (lwV p [11, 12, 13]).1 = 0 := by
    first | exact hz | exact Classical.not_not.mp hz | (simp only [Classical.not_not] at hz; exact hz)
  rw [e2 hz2, cmp_eq]
  exact x_if_eq 293 d_Lw_law_288 rfl (fun _ => fin) (fun z => absurd rfl z)
set_option maxRecDepth 100000 in
set_option maxHeartbeats 1000000 in
theorem lc_order {G : xG} {B t k L : Nat} {xs : Nat → Int32} {LI : Nat → xS → Prop} {S : xS} {Q : xR → xH → Prop} (hG : xOkG G) (hx : scO G L xs) (hk : 6 * k + 6 ≤ L) (hL : L ≤ 3072) (hop : opW G B t LI S m_Ha_order m_Mo_order [.int (xs (6 * k + 1)), .int (xs (6 * k + 2)), .int (bI (!decide (xs (6 * k + 3) = 0))), .int (xs (6 * k + 4))] [12, 13]) (ih : ∀ S', LI (t + 1) S' → EX G m_Lw_law 20 1228 (lwL G B k) [] (mk G B S') Q) : EX G m_Lw_law 20 296 (lwL G B k) [] (mk G B S) Q := by
  obtain ⟨p, q, hH, hM, hsn, hp, e1, e2, hLI⟩ := hop
  have hp2 : (∃ v, p.1 = .inl (some (.int v))) ∨ p.1 = .inr 12 ∨ p.1 = .inr 13 := by
    rcases hp with hp | ⟨ce, hp, hm⟩
    · exact Or.inl hp
    · simp only [List.mem_cons, List.not_mem_nil, or_false] at hm
      rcases hm with rfl | rfl <;> simp [hp]
  refine x_aload_n d_Lw_law_296 rfl ?_
  refine x_aload_n d_Lw_law_297 rfl ?_
  refine x_iload d_Lw_law_298 rfl ?_
  refine x_iconst (v := nI 1) d_Lw_law_300 (by decide +kernel) ?_
  refine x_iadd d_Lw_law_301 ?_
  refine x_sld hx d_Lw_law_302 (nI_add _ _) (by omega) (by omega) ?_
  refine x_aload_n d_Lw_law_303 rfl ?_
  refine x_iload d_Lw_law_304 rfl ?_
  refine x_iconst (v := nI 2) d_Lw_law_306 (by decide +kernel) ?_
  refine x_iadd d_Lw_law_307 ?_
  refine x_sld hx d_Lw_law_308 (nI_add _ _) (by omega) (by omega) ?_
  refine x_aload_n d_Lw_law_309 rfl ?_
  refine x_iload d_Lw_law_310 rfl ?_
  refine x_iconst (v := nI 3) d_Lw_law_312 (by decide +kernel) ?_
  refine x_iadd d_Lw_law_313 ?_
  refine x_sld hx d_Lw_law_314 (nI_add _ _) (by omega) (by omega) ?_
  refine x_nz d_Lw_law_315 d_Lw_law_318 d_Lw_law_319 d_Lw_law_322 ?_
  refine x_aload_n d_Lw_law_323 rfl ?_
  refine x_iload d_Lw_law_324 rfl ?_
  refine x_iconst (v := nI 4) d_Lw_law_326 (by decide +kernel) ?_
  refine x_iadd d_Lw_law_327 ?_
  refine x_sld hx d_Lw_law_328 (nI_add _ _) (by omega) (by omega) ?_
  refine x_aload_n d_Lw_law_329 rfl ?_
  refine w_callS (As := [_, _, _, _, _, _]) d_Lw_law_330 k_Lw_83 rfl rfl rfl (c_Lw_order hG hsn hH hp2) ?_
  refine s_istore d_Lw_law_333 (by decide) rfl ?_
  refine x_aload_n d_Lw_law_335 rfl ?_
  refine x_aload_n d_Lw_law_336 rfl ?_
  refine x_iload d_Lw_law_337 rfl ?_
  refine x_iconst (v := nI 1) d_Lw_law_339 (by decide +kernel) ?_
  refine x_iadd d_Lw_law_340 ?_
  refine x_sld hx d_Lw_law_341 (nI_add _ _) (by omega) (by omega) ?_
  refine x_aload_n d_Lw_law_342 rfl ?_
  refine x_iload d_Lw_law_343 rfl ?_
  refine x_iconst (v := nI 2) d_Lw_law_345 (by decide +kernel) ?_
  refine x_iadd d_Lw_law_346 ?_
  refine x_sld hx d_Lw_law_347 (nI_add _ _) (by omega) (by omega) ?_
  refine x_aload_n d_Lw_law_348 rfl ?_
  refine x_iload d_Lw_law_349 rfl ?_
  refine x_iconst (v := nI 3) d_Lw_law_351 (by decide +kernel) ?_
  refine x_iadd d_Lw_law_352 ?_
  refine x_sld hx d_Lw_law_353 (nI_add _ _) (by omega) (by omega) ?_
  refine x_nz d_Lw_law_354 d_Lw_law_357 d_Lw_law_358 d_Lw_law_361 ?_
  refine x_aload_n d_Lw_law_362 rfl ?_
  refine x_iload d_Lw_law_363 rfl ?_
  refine x_iconst (v := nI 4) d_Lw_law_365 (by decide +kernel) ?_
  refine x_iadd d_Lw_law_366 ?_
  refine x_sld hx d_Lw_law_367 (nI_add _ _) (by omega) (by omega) ?_
  refine w_callV (As := [_, _, _, _]) d_Lw_law_368 k_Lw_86 k_model rfl rfl rfl hM ?_
  refine s_istore d_Lw_law_371 (by decide) rfl ?_
  refine x_aload_n d_Lw_law_373 rfl ?_
  refine w_callV (As := []) d_Lw_law_374 k_Lw_75 k_model rfl rfl rfl (c_Mo_thrown hG) ?_
  refine x_iload d_Lw_law_377 rfl ?_
  refine x_icmp_eq 384 d_Lw_law_379 rfl (fun _ => ?_) (fun z => absurd e1 z)
  have fin : EX G m_Lw_law 20 401 [(0, .ref (gB G)), (1, .ref (B + 0)), (2, .ref (B + 186)), (3, .ref (B + 230)), (4, .int (nI (6 * k))), (5, .int (lwV p [12, 13]).1), (6, .int q.1)] [] (mk G B q.2) Q := by
    refine x_goto 1228 d_Lw_law_401 rfl ?_
    exact x_lv [0, 1, 2, 3, 4] rfl (ih _ hLI)
  refine x_iload d_Lw_law_384 rfl ?_
  refine x_if_ne 401 d_Lw_law_386 rfl (fun _ => fin) (fun hz => ?_)
  refine x_aload_n d_Lw_law_389 rfl ?_
  refine x_iconst (v := nI 0) d_Lw_law_390 (by decide +kernel) ?_
  refine y_lald hG d_Lw_law_391 k_out 0 rfl (by decide) ?_
  refine x_iload d_Lw_law_392 rfl ?_
  refine x_i2l d_Lw_law_394 ?_
  refine x_lcmp d_Lw_law_395 ?_
  have hz2 : (lwV p [12, 13]).1 = 0 := by
    first | exact hz | exact Classical.not_not.mp hz | (simp only [Classical.not_not] at hz; exact hz)
  rw [e2 hz2, cmp_eq]
  exact x_if_eq 401 d_Lw_law_396 rfl (fun _ => fin) (fun z => absurd rfl z)
set_option maxRecDepth 100000 in
set_option maxHeartbeats 1000000 in
theorem lc_plan {G : xG} {B t k L : Nat} {xs : Nat → Int32} {LI : Nat → xS → Prop} {S : xS} {Q : xR → xH → Prop} (hG : xOkG G) (hx : scO G L xs) (hk : 6 * k + 6 ≤ L) (hL : L ≤ 3072) (hop : opW G B t LI S m_Ha_plan m_Mo_plan [.int (xs (6 * k + 1))] [11, 13]) (ih : ∀ S', LI (t + 1) S' → EX G m_Lw_law 20 1228 (lwL G B k) [] (mk G B S') Q) : EX G m_Lw_law 20 404 (lwL G B k) [] (mk G B S) Q := by
  obtain ⟨p, q, hH, hM, hsn, hp, e1, e2, hLI⟩ := hop
  have hp2 : (∃ v, p.1 = .inl (some (.int v))) ∨ p.1 = .inr 11 ∨ p.1 = .inr 13 := by
    rcases hp with hp | ⟨ce, hp, hm⟩
    · exact Or.inl hp
    · simp only [List.mem_cons, List.not_mem_nil, or_false] at hm
      rcases hm with rfl | rfl <;> simp [hp]
  refine x_aload_n d_Lw_law_404 rfl ?_
  refine x_aload_n d_Lw_law_405 rfl ?_
  refine x_iload d_Lw_law_406 rfl ?_
  refine x_iconst (v := nI 1) d_Lw_law_408 (by decide +kernel) ?_
  refine x_iadd d_Lw_law_409 ?_
  refine x_sld hx d_Lw_law_410 (nI_add _ _) (by omega) (by omega) ?_
  refine x_aload_n d_Lw_law_411 rfl ?_
  refine w_callS (As := [_, _, _]) d_Lw_law_412 k_Lw_87 rfl rfl rfl (c_Lw_plan hG hsn hH hp2) ?_
  refine s_istore d_Lw_law_415 (by decide) rfl ?_
  refine x_aload_n d_Lw_law_417 rfl ?_
  refine x_aload_n d_Lw_law_418 rfl ?_
  refine x_iload d_Lw_law_419 rfl ?_
  refine x_iconst (v := nI 1) d_Lw_law_421 (by decide +kernel) ?_
  refine x_iadd d_Lw_law_422 ?_
  refine x_sld hx d_Lw_law_423 (nI_add _ _) (by omega) (by omega) ?_
  refine w_callV (As := [_]) d_Lw_law_424 k_Lw_90 k_model rfl rfl rfl hM ?_
  refine s_istore d_Lw_law_427 (by decide) rfl ?_
  refine x_aload_n d_Lw_law_429 rfl ?_
  refine w_callV (As := []) d_Lw_law_430 k_Lw_75 k_model rfl rfl rfl (c_Mo_thrown hG) ?_
  refine x_iload d_Lw_law_433 rfl ?_
  refine x_icmp_eq 440 d_Lw_law_435 rfl (fun _ => ?_) (fun z => absurd e1 z)
  have fin : EX G m_Lw_law 20 457 [(0, .ref (gB G)), (1, .ref (B + 0)), (2, .ref (B + 186)), (3, .ref (B + 230)), (4, .int (nI (6 * k))), (5, .int (lwV p [11, 13]).1), (6, .int q.1)] [] (mk G B q.2) Q := by
    refine x_goto 1228 d_Lw_law_457 rfl ?_
    exact x_lv [0, 1, 2, 3, 4] rfl (ih _ hLI)
  refine x_iload d_Lw_law_440 rfl ?_
  refine x_if_ne 457 d_Lw_law_442 rfl (fun _ => fin) (fun hz => ?_)
  refine x_aload_n d_Lw_law_445 rfl ?_
  refine x_iconst (v := nI 0) d_Lw_law_446 (by decide +kernel) ?_
  refine y_lald hG d_Lw_law_447 k_out 0 rfl (by decide) ?_
  refine x_iload d_Lw_law_448 rfl ?_
  refine x_i2l d_Lw_law_450 ?_
  refine x_lcmp d_Lw_law_451 ?_
  have hz2 : (lwV p [11, 13]).1 = 0 := by
    first | exact hz | exact Classical.not_not.mp hz | (simp only [Classical.not_not] at hz; exact hz)
  rw [e2 hz2, cmp_eq]
  exact x_if_eq 457 d_Lw_law_452 rfl (fun _ => fin) (fun z => absurd rfl z)
set_option maxRecDepth 100000 in
set_option maxHeartbeats 1000000 in
theorem lc_exact {G : xG} {B t k L : Nat} {xs : Nat → Int32} {LI : Nat → xS → Prop} {S : xS} {Q : xR → xH → Prop} (hG : xOkG G) (hx : scO G L xs) (hk : 6 * k + 6 ≤ L) (hL : L ≤ 3072) (hop : opW G B t LI S m_Ha_exact m_Mo_exact [.int (xs (6 * k + 1)), .int (xs (6 * k + 2)), .int (xs (6 * k + 3)), .int (xs (6 * k + 4))] [11, 13]) (ih : ∀ S', LI (t + 1) S' → EX G m_Lw_law 20 1228 (lwL G B k) [] (mk G B S') Q) : EX G m_Lw_law 20 460 (lwL G B k) [] (mk G B S) Q := by
  obtain ⟨p, q, hH, hM, hsn, hp, e1, e2, hLI⟩ := hop
  have hp2 : (∃ v, p.1 = .inl (some (.int v))) ∨ p.1 = .inr 11 ∨ p.1 = .inr 13 := by
    rcases hp with hp | ⟨ce, hp, hm⟩
    · exact Or.inl hp
    · simp only [List.mem_cons, List.not_mem_nil, or_false] at hm
      rcases hm with rfl | rfl <;> simp [hp]
  refine x_aload_n d_Lw_law_460 rfl ?_
  refine x_aload_n d_Lw_law_461 rfl ?_
  refine x_iload d_Lw_law_462 rfl ?_
  refine x_iconst (v := nI 1) d_Lw_law_464 (by decide +kernel) ?_
  refine x_iadd d_Lw_law_465 ?_
  refine x_sld hx d_Lw_law_466 (nI_add _ _) (by omega) (by omega) ?_
  refine x_aload_n d_Lw_law_467 rfl ?_
  refine x_iload d_Lw_law_468 rfl ?_
  refine x_iconst (v := nI 2) d_Lw_law_470 (by decide +kernel) ?_
  refine x_iadd d_Lw_law_471 ?_
  refine x_sld hx d_Lw_law_472 (nI_add _ _) (by omega) (by omega) ?_
  refine x_aload_n d_Lw_law_473 rfl ?_
  refine x_iload d_Lw_law_474 rfl ?_
  refine x_iconst (v := nI 3) d_Lw_law_476 (by decide +kernel) ?_
  refine x_iadd d_Lw_law_477 ?_
  refine x_sld hx d_Lw_law_478 (nI_add _ _) (by omega) (by omega) ?_
  refine x_aload_n d_Lw_law_479 rfl ?_
  refine x_iload d_Lw_law_480 rfl ?_
  refine x_iconst (v := nI 4) d_Lw_law_482 (by decide +kernel) ?_
  refine x_iadd d_Lw_law_483 ?_
  refine x_sld hx d_Lw_law_484 (nI_add _ _) (by omega) (by omega) ?_
  refine x_aload_n d_Lw_law_485 rfl ?_
  refine w_callS (As := [_, _, _, _, _, _]) d_Lw_law_486 k_Lw_91 rfl rfl rfl (c_Lw_exact hG hsn hH hp2) ?_
  refine s_istore d_Lw_law_489 (by decide) rfl ?_
  refine x_aload_n d_Lw_law_491 rfl ?_
  refine x_aload_n d_Lw_law_492 rfl ?_
  refine x_iload d_Lw_law_493 rfl ?_
  refine x_iconst (v := nI 1) d_Lw_law_495 (by decide +kernel) ?_
  refine x_iadd d_Lw_law_496 ?_
  refine x_sld hx d_Lw_law_497 (nI_add _ _) (by omega) (by omega) ?_
  refine x_aload_n d_Lw_law_498 rfl ?_
  refine x_iload d_Lw_law_499 rfl ?_
  refine x_iconst (v := nI 2) d_Lw_law_501 (by decide +kernel) ?_
  refine x_iadd d_Lw_law_502 ?_
  refine x_sld hx d_Lw_law_503 (nI_add _ _) (by omega) (by omega) ?_
  refine x_aload_n d_Lw_law_504 rfl ?_
  refine x_iload d_Lw_law_505 rfl ?_
  refine x_iconst (v := nI 3) d_Lw_law_507 (by decide +kernel) ?_
  refine x_iadd d_Lw_law_508 ?_
  refine x_sld hx d_Lw_law_509 (nI_add _ _) (by omega) (by omega) ?_
  refine x_aload_n d_Lw_law_510 rfl ?_
  refine x_iload d_Lw_law_511 rfl ?_
  refine x_iconst (v := nI 4) d_Lw_law_513 (by decide +kernel) ?_
  refine x_iadd d_Lw_law_514 ?_
  refine x_sld hx d_Lw_law_515 (nI_add _ _) (by omega) (by omega) ?_
  refine w_callV (As := [_, _, _, _]) d_Lw_law_516 k_Lw_94 k_model rfl rfl rfl hM ?_
  refine s_istore d_Lw_law_519 (by decide) rfl ?_
  refine x_aload_n d_Lw_law_521 rfl ?_
  refine w_callV (As := []) d_Lw_law_522 k_Lw_75 k_model rfl rfl rfl (c_Mo_thrown hG) ?_
  refine x_iload d_Lw_law_525 rfl ?_
  refine x_icmp_eq 532 d_Lw_law_527 rfl (fun _ => ?_) (fun z => absurd e1 z)
  have fin : EX G m_Lw_law 20 549 [(0, .ref (gB G)), (1, .ref (B + 0)), (2, .ref (B + 186)), (3, .ref (B + 230)), (4, .int (nI (6 * k))), (5, .int (lwV p [11, 13]).1), (6, .int q.1)] [] (mk G B q.2) Q := by
    refine x_goto 1228 d_Lw_law_549 rfl ?_
    exact x_lv [0, 1, 2, 3, 4] rfl (ih _ hLI)
  refine x_iload d_Lw_law_532 rfl ?_
  refine x_if_ne 549 d_Lw_law_534 rfl (fun _ => fin) (fun hz => ?_)
  refine x_aload_n d_Lw_law_537 rfl ?_
  refine x_iconst (v := nI 0) d_Lw_law_538 (by decide +kernel) ?_
  refine y_lald hG d_Lw_law_539 k_out 0 rfl (by decide) ?_
  refine x_iload d_Lw_law_540 rfl ?_
  refine x_i2l d_Lw_law_542 ?_
  refine x_lcmp d_Lw_law_543 ?_
  have hz2 : (lwV p [11, 13]).1 = 0 := by
    first | exact hz | exact Classical.not_not.mp hz | (simp only [Classical.not_not] at hz; exact hz)
  rw [e2 hz2, cmp_eq]
  exact x_if_eq 549 d_Lw_law_544 rfl (fun _ => fin) (fun z => absurd rfl z)
set_option maxRecDepth 100000 in
set_option maxHeartbeats 1000000 in
theorem lc_node {G : xG} {B t k L : Nat} {xs : Nat → Int32} {LI : Nat → xS → Prop} {S : xS} {Q : xR → xH → Prop} (hG : xOkG G) (hx : scO G L xs) (hk : 6 * k + 6 ≤ L) (hL : L ≤ 3072) (hop : opW G B t LI S m_Ha_node m_Mo_node [.int (xs (6 * k + 1)), .int (xs (6 * k + 2)), .int (xs (6 * k + 3))] [11, 13, 14, 12]) (ih : ∀ S', LI (t + 1) S' → EX G m_Lw_law 20 1228 (lwL G B k) [] (mk G B S') Q) : EX G m_Lw_law 20 552 (lwL G B k) [] (mk G B S) Q := by
  obtain ⟨p, q, hH, hM, hsn, hp, e1, e2, hLI⟩ := hop
  have hp2 : (∃ v, p.1 = .inl (some (.int v))) ∨ p.1 = .inr 11 ∨ p.1 = .inr 13 ∨ p.1 = .inr 14 ∨ p.1 = .inr 12 := by
    rcases hp with hp | ⟨ce, hp, hm⟩
    · exact Or.inl hp
    · simp only [List.mem_cons, List.not_mem_nil, or_false] at hm
      rcases hm with rfl | rfl | rfl | rfl <;> simp [hp]
  refine x_aload_n d_Lw_law_552 rfl ?_
  refine x_aload_n d_Lw_law_553 rfl ?_
  refine x_iload d_Lw_law_554 rfl ?_
  refine x_iconst (v := nI 1) d_Lw_law_556 (by decide +kernel) ?_
  refine x_iadd d_Lw_law_557 ?_
  refine x_sld hx d_Lw_law_558 (nI_add _ _) (by omega) (by omega) ?_
  refine x_aload_n d_Lw_law_559 rfl ?_
  refine x_iload d_Lw_law_560 rfl ?_
  refine x_iconst (v := nI 2) d_Lw_law_562 (by decide +kernel) ?_
  refine x_iadd d_Lw_law_563 ?_
  refine x_sld hx d_Lw_law_564 (nI_add _ _) (by omega) (by omega) ?_
  refine x_aload_n d_Lw_law_565 rfl ?_
  refine x_iload d_Lw_law_566 rfl ?_
  refine x_iconst (v := nI 3) d_Lw_law_568 (by decide +kernel) ?_
  refine x_iadd d_Lw_law_569 ?_
  refine x_sld hx d_Lw_law_570 (nI_add _ _) (by omega) (by omega) ?_
  refine x_aload_n d_Lw_law_571 rfl ?_
  refine w_callS (As := [_, _, _, _, _]) d_Lw_law_572 k_Lw_95 rfl rfl rfl (c_Lw_node hG hsn hH hp2) ?_
  refine s_istore d_Lw_law_575 (by decide) rfl ?_
  refine x_aload_n d_Lw_law_577 rfl ?_
  refine x_aload_n d_Lw_law_578 rfl ?_
  refine x_iload d_Lw_law_579 rfl ?_
  refine x_iconst (v := nI 1) d_Lw_law_581 (by decide +kernel) ?_
  refine x_iadd d_Lw_law_582 ?_
  refine x_sld hx d_Lw_law_583 (nI_add _ _) (by omega) (by omega) ?_
  refine x_aload_n d_Lw_law_584 rfl ?_
  refine x_iload d_Lw_law_585 rfl ?_
  refine x_iconst (v := nI 2) d_Lw_law_587 (by decide +kernel) ?_
  refine x_iadd d_Lw_law_588 ?_
  refine x_sld hx d_Lw_law_589 (nI_add _ _) (by omega) (by omega) ?_
  refine x_aload_n d_Lw_law_590 rfl ?_
  refine x_iload d_Lw_law_591 rfl ?_
  refine x_iconst (v := nI 3) d_Lw_law_593 (by decide +kernel) ?_
  refine x_iadd d_Lw_law_594 ?_
  refine x_sld hx d_Lw_law_595 (nI_add _ _) (by omega) (by omega) ?_
  refine w_callV (As := [_, _, _]) d_Lw_law_596 k_Lw_98 k_model rfl rfl rfl hM ?_
  refine s_istore d_Lw_law_599 (by decide) rfl ?_
  refine x_aload_n d_Lw_law_601 rfl ?_
  refine w_callV (As := []) d_Lw_law_602 k_Lw_75 k_model rfl rfl rfl (c_Mo_thrown hG) ?_
  refine x_iload d_Lw_law_605 rfl ?_
  refine x_icmp_eq 612 d_Lw_law_607 rfl (fun _ => ?_) (fun z => absurd e1 z)
  have fin : EX G m_Lw_law 20 629 [(0, .ref (gB G)), (1, .ref (B + 0)), (2, .ref (B + 186)), (3, .ref (B + 230)), (4, .int (nI (6 * k))), (5, .int (lwV p [11, 13, 14, 12]).1), (6, .int q.1)] [] (mk G B q.2) Q := by
    refine x_goto 1228 d_Lw_law_629 rfl ?_
    exact x_lv [0, 1, 2, 3, 4] rfl (ih _ hLI)
  refine x_iload d_Lw_law_612 rfl ?_
  refine x_if_ne 629 d_Lw_law_614 rfl (fun _ => fin) (fun hz => ?_)
  refine x_aload_n d_Lw_law_617 rfl ?_
  refine x_iconst (v := nI 0) d_Lw_law_618 (by decide +kernel) ?_
  refine y_lald hG d_Lw_law_619 k_out 0 rfl (by decide) ?_
  refine x_iload d_Lw_law_620 rfl ?_
  refine x_i2l d_Lw_law_622 ?_
  refine x_lcmp d_Lw_law_623 ?_
  have hz2 : (lwV p [11, 13, 14, 12]).1 = 0 := by
    first | exact hz | exact Classical.not_not.mp hz | (simp only [Classical.not_not] at hz; exact hz)
  rw [e2 hz2, cmp_eq]
  exact x_if_eq 629 d_Lw_law_624 rfl (fun _ => fin) (fun z => absurd rfl z)
set_option maxRecDepth 100000 in
set_option maxHeartbeats 1000000 in
theorem lc_nodes {G : xG} {B t k L : Nat} {xs : Nat → Int32} {LI : Nat → xS → Prop} {S : xS} {Q : xR → xH → Prop} (hG : xOkG G) (hx : scO G L xs) (hk : 6 * k + 6 ≤ L) (hL : L ≤ 3072) (hop : opW G B t LI S m_Ha_nodes m_Mo_nodes [.int (xs (6 * k + 1))] [11, 13]) (ih : ∀ S', LI (t + 1) S' → EX G m_Lw_law 20 1228 (lwL G B k) [] (mk G B S') Q) : EX G m_Lw_law 20 632 (lwL G B k) [] (mk G B S) Q := by
  obtain ⟨p, q, hH, hM, hsn, hp, e1, e2, hLI⟩ := hop
  have hp2 : (∃ v, p.1 = .inl (some (.int v))) ∨ p.1 = .inr 11 ∨ p.1 = .inr 13 := by
    rcases hp with hp | ⟨ce, hp, hm⟩
    · exact Or.inl hp
    · simp only [List.mem_cons, List.not_mem_nil, or_false] at hm
      rcases hm with rfl | rfl <;> simp [hp]
  refine x_aload_n d_Lw_law_632 rfl ?_
  refine x_aload_n d_Lw_law_633 rfl ?_
  refine x_iload d_Lw_law_634 rfl ?_
  refine x_iconst (v := nI 1) d_Lw_law_636 (by decide +kernel) ?_
  refine x_iadd d_Lw_law_637 ?_
  refine x_sld hx d_Lw_law_638 (nI_add _ _) (by omega) (by omega) ?_
  refine x_aload_n d_Lw_law_639 rfl ?_
  refine w_callS (As := [_, _, _]) d_Lw_law_640 k_Lw_99 rfl rfl rfl (c_Lw_nodes hG hsn hH hp2) ?_
  refine s_istore d_Lw_law_643 (by decide) rfl ?_
  refine x_aload_n d_Lw_law_645 rfl ?_
  refine x_aload_n d_Lw_law_646 rfl ?_
  refine x_iload d_Lw_law_647 rfl ?_
  refine x_iconst (v := nI 1) d_Lw_law_649 (by decide +kernel) ?_
  refine x_iadd d_Lw_law_650 ?_
  refine x_sld hx d_Lw_law_651 (nI_add _ _) (by omega) (by omega) ?_
  refine w_callV (As := [_]) d_Lw_law_652 k_Lw_101 k_model rfl rfl rfl hM ?_
  refine s_istore d_Lw_law_655 (by decide) rfl ?_
  refine x_aload_n d_Lw_law_657 rfl ?_
  refine w_callV (As := []) d_Lw_law_658 k_Lw_75 k_model rfl rfl rfl (c_Mo_thrown hG) ?_
  refine x_iload d_Lw_law_661 rfl ?_
  refine x_icmp_eq 668 d_Lw_law_663 rfl (fun _ => ?_) (fun z => absurd e1 z)
  have fin : EX G m_Lw_law 20 685 [(0, .ref (gB G)), (1, .ref (B + 0)), (2, .ref (B + 186)), (3, .ref (B + 230)), (4, .int (nI (6 * k))), (5, .int (lwV p [11, 13]).1), (6, .int q.1)] [] (mk G B q.2) Q := by
    refine x_goto 1228 d_Lw_law_685 rfl ?_
    exact x_lv [0, 1, 2, 3, 4] rfl (ih _ hLI)
  refine x_iload d_Lw_law_668 rfl ?_
  refine x_if_ne 685 d_Lw_law_670 rfl (fun _ => fin) (fun hz => ?_)
  refine x_aload_n d_Lw_law_673 rfl ?_
  refine x_iconst (v := nI 0) d_Lw_law_674 (by decide +kernel) ?_
  refine y_lald hG d_Lw_law_675 k_out 0 rfl (by decide) ?_
  refine x_iload d_Lw_law_676 rfl ?_
  refine x_i2l d_Lw_law_678 ?_
  refine x_lcmp d_Lw_law_679 ?_
  have hz2 : (lwV p [11, 13]).1 = 0 := by
    first | exact hz | exact Classical.not_not.mp hz | (simp only [Classical.not_not] at hz; exact hz)
  rw [e2 hz2, cmp_eq]
  exact x_if_eq 685 d_Lw_law_680 rfl (fun _ => fin) (fun z => absurd rfl z)
set_option maxRecDepth 100000 in
set_option maxHeartbeats 1000000 in
theorem lc_score {G : xG} {B t k L : Nat} {xs : Nat → Int32} {LI : Nat → xS → Prop} {S : xS} {Q : xR → xH → Prop} (hG : xOkG G) (hx : scO G L xs) (hk : 6 * k + 6 ≤ L) (hL : L ≤ 3072) (hop : opW G B t LI S m_Ha_score m_Mo_score [.int (xs (6 * k + 1))] [11, 13]) (ih : ∀ S', LI (t + 1) S' → EX G m_Lw_law 20 1228 (lwL G B k) [] (mk G B S') Q) : EX G m_Lw_law 20 688 (lwL G B k) [] (mk G B S) Q := by
  obtain ⟨p, q, hH, hM, hsn, hp, e1, e2, hLI⟩ := hop
  have hp2 : (∃ v, p.1 = .inl (some (.int v))) ∨ p.1 = .inr 11 ∨ p.1 = .inr 13 := by
    rcases hp with hp | ⟨ce, hp, hm⟩
    · exact Or.inl hp
    · simp only [List.mem_cons, List.not_mem_nil, or_false] at hm
      rcases hm with rfl | rfl <;> simp [hp]
  refine x_aload_n d_Lw_law_688 rfl ?_
  refine x_aload_n d_Lw_law_689 rfl ?_
  refine x_iload d_Lw_law_690 rfl ?_
  refine x_iconst (v := nI 1) d_Lw_law_692 (by decide +kernel) ?_
  refine x_iadd d_Lw_law_693 ?_
  refine x_sld hx d_Lw_law_694 (nI_add _ _) (by omega) (by omega) ?_
  refine x_aload_n d_Lw_law_695 rfl ?_
  refine w_callS (As := [_, _, _]) d_Lw_law_696 k_Lw_102 rfl rfl rfl (c_Lw_score hG hsn hH hp2) ?_
  refine s_istore d_Lw_law_699 (by decide) rfl ?_
  refine x_aload_n d_Lw_law_701 rfl ?_
  refine x_aload_n d_Lw_law_702 rfl ?_
  refine x_iload d_Lw_law_703 rfl ?_
  refine x_iconst (v := nI 1) d_Lw_law_705 (by decide +kernel) ?_
  refine x_iadd d_Lw_law_706 ?_
  refine x_sld hx d_Lw_law_707 (nI_add _ _) (by omega) (by omega) ?_
  refine w_callV (As := [_]) d_Lw_law_708 k_Lw_104 k_model rfl rfl rfl hM ?_
  refine s_istore d_Lw_law_711 (by decide) rfl ?_
  refine x_aload_n d_Lw_law_713 rfl ?_
  refine w_callV (As := []) d_Lw_law_714 k_Lw_75 k_model rfl rfl rfl (c_Mo_thrown hG) ?_
  refine x_iload d_Lw_law_717 rfl ?_
  refine x_icmp_eq 724 d_Lw_law_719 rfl (fun _ => ?_) (fun z => absurd e1 z)
  have fin : EX G m_Lw_law 20 741 [(0, .ref (gB G)), (1, .ref (B + 0)), (2, .ref (B + 186)), (3, .ref (B + 230)), (4, .int (nI (6 * k))), (5, .int (lwV p [11, 13]).1), (6, .int q.1)] [] (mk G B q.2) Q := by
    refine x_goto 1228 d_Lw_law_741 rfl ?_
    exact x_lv [0, 1, 2, 3, 4] rfl (ih _ hLI)
  refine x_iload d_Lw_law_724 rfl ?_
  refine x_if_ne 741 d_Lw_law_726 rfl (fun _ => fin) (fun hz => ?_)
  refine x_aload_n d_Lw_law_729 rfl ?_
  refine x_iconst (v := nI 0) d_Lw_law_730 (by decide +kernel) ?_
  refine y_lald hG d_Lw_law_731 k_out 0 rfl (by decide) ?_
  refine x_iload d_Lw_law_732 rfl ?_
  refine x_i2l d_Lw_law_734 ?_
  refine x_lcmp d_Lw_law_735 ?_
  have hz2 : (lwV p [11, 13]).1 = 0 := by
    first | exact hz | exact Classical.not_not.mp hz | (simp only [Classical.not_not] at hz; exact hz)
  rw [e2 hz2, cmp_eq]
  exact x_if_eq 741 d_Lw_law_736 rfl (fun _ => fin) (fun z => absurd rfl z)
set_option maxRecDepth 100000 in
set_option maxHeartbeats 1000000 in
theorem lc_broke {G : xG} {B t k L : Nat} {xs : Nat → Int32} {LI : Nat → xS → Prop} {S : xS} {Q : xR → xH → Prop} (hG : xOkG G) (hx : scO G L xs) (hk : 6 * k + 6 ≤ L) (hL : L ≤ 3072) (hop : opW G B t LI S m_Ha_broke m_Mo_broke [.int (xs (6 * k + 1)), .int (xs (6 * k + 2))] [11, 13, 14]) (ih : ∀ S', LI (t + 1) S' → EX G m_Lw_law 20 1228 (lwL G B k) [] (mk G B S') Q) : EX G m_Lw_law 20 744 (lwL G B k) [] (mk G B S) Q := by
  obtain ⟨p, q, hH, hM, hsn, hp, e1, e2, hLI⟩ := hop
  have hp2 : (∃ v, p.1 = .inl (some (.int v))) ∨ p.1 = .inr 11 ∨ p.1 = .inr 13 ∨ p.1 = .inr 14 := by
    rcases hp with hp | ⟨ce, hp, hm⟩
    · exact Or.inl hp
    · simp only [List.mem_cons, List.not_mem_nil, or_false] at hm
      rcases hm with rfl | rfl | rfl <;> simp [hp]
  refine x_aload_n d_Lw_law_744 rfl ?_
  refine x_aload_n d_Lw_law_745 rfl ?_
  refine x_iload d_Lw_law_746 rfl ?_
  refine x_iconst (v := nI 1) d_Lw_law_748 (by decide +kernel) ?_
  refine x_iadd d_Lw_law_749 ?_
  refine x_sld hx d_Lw_law_750 (nI_add _ _) (by omega) (by omega) ?_
  refine x_aload_n d_Lw_law_751 rfl ?_
  refine x_iload d_Lw_law_752 rfl ?_
  refine x_iconst (v := nI 2) d_Lw_law_754 (by decide +kernel) ?_
  refine x_iadd d_Lw_law_755 ?_
  refine x_sld hx d_Lw_law_756 (nI_add _ _) (by omega) (by omega) ?_
  refine x_aload_n d_Lw_law_757 rfl ?_
  refine w_callS (As := [_, _, _, _]) d_Lw_law_758 k_Lw_105 rfl rfl rfl (c_Lw_broke hG hsn hH hp2) ?_
  refine s_istore d_Lw_law_761 (by decide) rfl ?_
  refine x_aload_n d_Lw_law_763 rfl ?_
  refine x_aload_n d_Lw_law_764 rfl ?_
  refine x_iload d_Lw_law_765 rfl ?_
  refine x_iconst (v := nI 1) d_Lw_law_767 (by decide +kernel) ?_
  refine x_iadd d_Lw_law_768 ?_
  refine x_sld hx d_Lw_law_769 (nI_add _ _) (by omega) (by omega) ?_
  refine x_aload_n d_Lw_law_770 rfl ?_
  refine x_iload d_Lw_law_771 rfl ?_
  refine x_iconst (v := nI 2) d_Lw_law_773 (by decide +kernel) ?_
  refine x_iadd d_Lw_law_774 ?_
  refine x_sld hx d_Lw_law_775 (nI_add _ _) (by omega) (by omega) ?_
  refine w_callV (As := [_, _]) d_Lw_law_776 k_Lw_107 k_model rfl rfl rfl hM ?_
  refine s_istore d_Lw_law_779 (by decide) rfl ?_
  refine x_aload_n d_Lw_law_781 rfl ?_
  refine w_callV (As := []) d_Lw_law_782 k_Lw_75 k_model rfl rfl rfl (c_Mo_thrown hG) ?_
  refine x_iload d_Lw_law_785 rfl ?_
  refine x_icmp_eq 792 d_Lw_law_787 rfl (fun _ => ?_) (fun z => absurd e1 z)
  have fin : EX G m_Lw_law 20 809 [(0, .ref (gB G)), (1, .ref (B + 0)), (2, .ref (B + 186)), (3, .ref (B + 230)), (4, .int (nI (6 * k))), (5, .int (lwV p [11, 13, 14]).1), (6, .int q.1)] [] (mk G B q.2) Q := by
    refine x_goto 1228 d_Lw_law_809 rfl ?_
    exact x_lv [0, 1, 2, 3, 4] rfl (ih _ hLI)
  refine x_iload d_Lw_law_792 rfl ?_
  refine x_if_ne 809 d_Lw_law_794 rfl (fun _ => fin) (fun hz => ?_)
  refine x_aload_n d_Lw_law_797 rfl ?_
  refine x_iconst (v := nI 0) d_Lw_law_798 (by decide +kernel) ?_
  refine y_lald hG d_Lw_law_799 k_out 0 rfl (by decide) ?_
  refine x_iload d_Lw_law_800 rfl ?_
  refine x_i2l d_Lw_law_802 ?_
  refine x_lcmp d_Lw_law_803 ?_
  have hz2 : (lwV p [11, 13, 14]).1 = 0 := by
    first | exact hz | exact Classical.not_not.mp hz | (simp only [Classical.not_not] at hz; exact hz)
  rw [e2 hz2, cmp_eq]
  exact x_if_eq 809 d_Lw_law_804 rfl (fun _ => fin) (fun z => absurd rfl z)
set_option maxRecDepth 100000 in
set_option maxHeartbeats 1000000 in
theorem lc_cancel {G : xG} {B t k L : Nat} {xs : Nat → Int32} {LI : Nat → xS → Prop} {S : xS} {Q : xR → xH → Prop} (hG : xOkG G) (hx : scO G L xs) (hk : 6 * k + 6 ≤ L) (hL : L ≤ 3072) (hop : opW G B t LI S m_Ha_cancel m_Mo_cancel [.int (xs (6 * k + 1))] [11, 13]) (ih : ∀ S', LI (t + 1) S' → EX G m_Lw_law 20 1228 (lwL G B k) [] (mk G B S') Q) : EX G m_Lw_law 20 812 (lwL G B k) [] (mk G B S) Q := by
  obtain ⟨p, q, hH, hM, hsn, hp, e1, e2, hLI⟩ := hop
  have hp2 : (∃ v, p.1 = .inl (some (.int v))) ∨ p.1 = .inr 11 ∨ p.1 = .inr 13 := by
    rcases hp with hp | ⟨ce, hp, hm⟩
    · exact Or.inl hp
    · simp only [List.mem_cons, List.not_mem_nil, or_false] at hm
      rcases hm with rfl | rfl <;> simp [hp]
  refine x_aload_n d_Lw_law_812 rfl ?_
  refine x_aload_n d_Lw_law_813 rfl ?_
  refine x_iload d_Lw_law_814 rfl ?_
  refine x_iconst (v := nI 1) d_Lw_law_816 (by decide +kernel) ?_
  refine x_iadd d_Lw_law_817 ?_
  refine x_sld hx d_Lw_law_818 (nI_add _ _) (by omega) (by omega) ?_
  refine x_aload_n d_Lw_law_819 rfl ?_
  refine w_callS (As := [_, _, _]) d_Lw_law_820 k_Lw_108 rfl rfl rfl (c_Lw_cancel hG hsn hH hp2) ?_
  refine s_istore d_Lw_law_823 (by decide) rfl ?_
  refine x_aload_n d_Lw_law_825 rfl ?_
  refine x_aload_n d_Lw_law_826 rfl ?_
  refine x_iload d_Lw_law_827 rfl ?_
  refine x_iconst (v := nI 1) d_Lw_law_829 (by decide +kernel) ?_
  refine x_iadd d_Lw_law_830 ?_
  refine x_sld hx d_Lw_law_831 (nI_add _ _) (by omega) (by omega) ?_
  refine w_callV (As := [_]) d_Lw_law_832 k_Lw_110 k_model rfl rfl rfl hM ?_
  refine s_istore d_Lw_law_835 (by decide) rfl ?_
  refine x_aload_n d_Lw_law_837 rfl ?_
  refine w_callV (As := []) d_Lw_law_838 k_Lw_75 k_model rfl rfl rfl (c_Mo_thrown hG) ?_
  refine x_iload d_Lw_law_841 rfl ?_
  refine x_icmp_eq 848 d_Lw_law_843 rfl (fun _ => ?_) (fun z => absurd e1 z)
  have fin : EX G m_Lw_law 20 865 [(0, .ref (gB G)), (1, .ref (B + 0)), (2, .ref (B + 186)), (3, .ref (B + 230)), (4, .int (nI (6 * k))), (5, .int (lwV p [11, 13]).1), (6, .int q.1)] [] (mk G B q.2) Q := by
    refine x_goto 1228 d_Lw_law_865 rfl ?_
    exact x_lv [0, 1, 2, 3, 4] rfl (ih _ hLI)
  refine x_iload d_Lw_law_848 rfl ?_
  refine x_if_ne 865 d_Lw_law_850 rfl (fun _ => fin) (fun hz => ?_)
  refine x_aload_n d_Lw_law_853 rfl ?_
  refine x_iconst (v := nI 0) d_Lw_law_854 (by decide +kernel) ?_
  refine y_lald hG d_Lw_law_855 k_out 0 rfl (by decide) ?_
  refine x_iload d_Lw_law_856 rfl ?_
  refine x_i2l d_Lw_law_858 ?_
  refine x_lcmp d_Lw_law_859 ?_
  have hz2 : (lwV p [11, 13]).1 = 0 := by
    first | exact hz | exact Classical.not_not.mp hz | (simp only [Classical.not_not] at hz; exact hz)
  rw [e2 hz2, cmp_eq]
  exact x_if_eq 865 d_Lw_law_860 rfl (fun _ => fin) (fun z => absurd rfl z)
set_option maxRecDepth 100000 in
set_option maxHeartbeats 1000000 in
theorem lc_use {G : xG} {B t k L : Nat} {xs : Nat → Int32} {LI : Nat → xS → Prop} {S : xS} {Q : xR → xH → Prop} (hG : xOkG G) (hx : scO G L xs) (hk : 6 * k + 6 ≤ L) (hL : L ≤ 3072) (hop : opW G B t LI S m_Ha_use m_Mo_use [.int (xs (6 * k + 1))] [11, 13]) (ih : ∀ S', LI (t + 1) S' → EX G m_Lw_law 20 1228 (lwL G B k) [] (mk G B S') Q) : EX G m_Lw_law 20 868 (lwL G B k) [] (mk G B S) Q := by
  obtain ⟨p, q, hH, hM, hsn, hp, e1, e2, hLI⟩ := hop
  have hp2 : (∃ v, p.1 = .inl (some (.int v))) ∨ p.1 = .inr 11 ∨ p.1 = .inr 13 := by
    rcases hp with hp | ⟨ce, hp, hm⟩
    · exact Or.inl hp
    · simp only [List.mem_cons, List.not_mem_nil, or_false] at hm
      rcases hm with rfl | rfl <;> simp [hp]
  refine x_aload_n d_Lw_law_868 rfl ?_
  refine x_aload_n d_Lw_law_869 rfl ?_
  refine x_iload d_Lw_law_870 rfl ?_
  refine x_iconst (v := nI 1) d_Lw_law_872 (by decide +kernel) ?_
  refine x_iadd d_Lw_law_873 ?_
  refine x_sld hx d_Lw_law_874 (nI_add _ _) (by omega) (by omega) ?_
  refine x_aload_n d_Lw_law_875 rfl ?_
  refine w_callS (As := [_, _, _]) d_Lw_law_876 k_Lw_111 rfl rfl rfl (c_Lw_use hG hsn hH hp2) ?_
  refine s_istore d_Lw_law_879 (by decide) rfl ?_
  refine x_aload_n d_Lw_law_881 rfl ?_
  refine x_aload_n d_Lw_law_882 rfl ?_
  refine x_iload d_Lw_law_883 rfl ?_
  refine x_iconst (v := nI 1) d_Lw_law_885 (by decide +kernel) ?_
  refine x_iadd d_Lw_law_886 ?_
  refine x_sld hx d_Lw_law_887 (nI_add _ _) (by omega) (by omega) ?_
  refine w_callV (As := [_]) d_Lw_law_888 k_Lw_113 k_model rfl rfl rfl hM ?_
  refine s_istore d_Lw_law_891 (by decide) rfl ?_
  refine x_aload_n d_Lw_law_893 rfl ?_
  refine w_callV (As := []) d_Lw_law_894 k_Lw_75 k_model rfl rfl rfl (c_Mo_thrown hG) ?_
  refine x_iload d_Lw_law_897 rfl ?_
  refine x_icmp_eq 904 d_Lw_law_899 rfl (fun _ => ?_) (fun z => absurd e1 z)
  have fin : EX G m_Lw_law 20 921 [(0, .ref (gB G)), (1, .ref (B + 0)), (2, .ref (B + 186)), (3, .ref (B + 230)), (4, .int (nI (6 * k))), (5, .int (lwV p [11, 13]).1), (6, .int q.1)] [] (mk G B q.2) Q := by
    refine x_goto 1228 d_Lw_law_921 rfl ?_
    exact x_lv [0, 1, 2, 3, 4] rfl (ih _ hLI)
  refine x_iload d_Lw_law_904 rfl ?_
  refine x_if_ne 921 d_Lw_law_906 rfl (fun _ => fin) (fun hz => ?_)
  refine x_aload_n d_Lw_law_909 rfl ?_
  refine x_iconst (v := nI 0) d_Lw_law_910 (by decide +kernel) ?_
  refine y_lald hG d_Lw_law_911 k_out 0 rfl (by decide) ?_
  refine x_iload d_Lw_law_912 rfl ?_
  refine x_i2l d_Lw_law_914 ?_
  refine x_lcmp d_Lw_law_915 ?_
  have hz2 : (lwV p [11, 13]).1 = 0 := by
    first | exact hz | exact Classical.not_not.mp hz | (simp only [Classical.not_not] at hz; exact hz)
  rw [e2 hz2, cmp_eq]
  exact x_if_eq 921 d_Lw_law_916 rfl (fun _ => fin) (fun z => absurd rfl z)
set_option maxRecDepth 100000 in
set_option maxHeartbeats 1000000 in
theorem lc_rack {G : xG} {B t k L : Nat} {xs : Nat → Int32} {LI : Nat → xS → Prop} {S : xS} {Q : xR → xH → Prop} (hG : xOkG G) (hx : scO G L xs) (hk : 6 * k + 6 ≤ L) (hL : L ≤ 3072) (hop : opW G B t LI S m_Ha_rack m_Mo_rack [.int (xs (6 * k + 1)), .int (xs (6 * k + 2))] [11, 12]) (ih : ∀ S', LI (t + 1) S' → EX G m_Lw_law 20 1228 (lwL G B k) [] (mk G B S') Q) : EX G m_Lw_law 20 924 (lwL G B k) [] (mk G B S) Q := by
  obtain ⟨p, q, hH, hM, hsn, hp, e1, e2, hLI⟩ := hop
  have hp2 : (∃ v, p.1 = .inl (some (.int v))) ∨ p.1 = .inr 11 ∨ p.1 = .inr 12 := by
    rcases hp with hp | ⟨ce, hp, hm⟩
    · exact Or.inl hp
    · simp only [List.mem_cons, List.not_mem_nil, or_false] at hm
      rcases hm with rfl | rfl <;> simp [hp]
  refine x_aload_n d_Lw_law_924 rfl ?_
  refine x_aload_n d_Lw_law_925 rfl ?_
  refine x_iload d_Lw_law_926 rfl ?_
  refine x_iconst (v := nI 1) d_Lw_law_928 (by decide +kernel) ?_
  refine x_iadd d_Lw_law_929 ?_
  refine x_sld hx d_Lw_law_930 (nI_add _ _) (by omega) (by omega) ?_
  refine x_aload_n d_Lw_law_931 rfl ?_
  refine x_iload d_Lw_law_932 rfl ?_
  refine x_iconst (v := nI 2) d_Lw_law_934 (by decide +kernel) ?_
  refine x_iadd d_Lw_law_935 ?_
  refine x_sld hx d_Lw_law_936 (nI_add _ _) (by omega) (by omega) ?_
  refine x_aload_n d_Lw_law_937 rfl ?_
  refine w_callS (As := [_, _, _, _]) d_Lw_law_938 k_Lw_114 rfl rfl rfl (c_Lw_rack hG hsn hH hp2) ?_
  refine s_istore d_Lw_law_941 (by decide) rfl ?_
  refine x_aload_n d_Lw_law_943 rfl ?_
  refine x_aload_n d_Lw_law_944 rfl ?_
  refine x_iload d_Lw_law_945 rfl ?_
  refine x_iconst (v := nI 1) d_Lw_law_947 (by decide +kernel) ?_
  refine x_iadd d_Lw_law_948 ?_
  refine x_sld hx d_Lw_law_949 (nI_add _ _) (by omega) (by omega) ?_
  refine x_aload_n d_Lw_law_950 rfl ?_
  refine x_iload d_Lw_law_951 rfl ?_
  refine x_iconst (v := nI 2) d_Lw_law_953 (by decide +kernel) ?_
  refine x_iadd d_Lw_law_954 ?_
  refine x_sld hx d_Lw_law_955 (nI_add _ _) (by omega) (by omega) ?_
  refine w_callV (As := [_, _]) d_Lw_law_956 k_Lw_116 k_model rfl rfl rfl hM ?_
  refine s_istore d_Lw_law_959 (by decide) rfl ?_
  refine x_aload_n d_Lw_law_961 rfl ?_
  refine w_callV (As := []) d_Lw_law_962 k_Lw_75 k_model rfl rfl rfl (c_Mo_thrown hG) ?_
  refine x_iload d_Lw_law_965 rfl ?_
  refine x_icmp_eq 972 d_Lw_law_967 rfl (fun _ => ?_) (fun z => absurd e1 z)
  have fin : EX G m_Lw_law 20 989 [(0, .ref (gB G)), (1, .ref (B + 0)), (2, .ref (B + 186)), (3, .ref (B + 230)), (4, .int (nI (6 * k))), (5, .int (lwV p [11, 12]).1), (6, .int q.1)] [] (mk G B q.2) Q := by
    refine x_goto 1228 d_Lw_law_989 rfl ?_
    exact x_lv [0, 1, 2, 3, 4] rfl (ih _ hLI)
  refine x_iload d_Lw_law_972 rfl ?_
  refine x_if_ne 989 d_Lw_law_974 rfl (fun _ => fin) (fun hz => ?_)
  refine x_aload_n d_Lw_law_977 rfl ?_
  refine x_iconst (v := nI 0) d_Lw_law_978 (by decide +kernel) ?_
  refine y_lald hG d_Lw_law_979 k_out 0 rfl (by decide) ?_
  refine x_iload d_Lw_law_980 rfl ?_
  refine x_i2l d_Lw_law_982 ?_
  refine x_lcmp d_Lw_law_983 ?_
  have hz2 : (lwV p [11, 12]).1 = 0 := by
    first | exact hz | exact Classical.not_not.mp hz | (simp only [Classical.not_not] at hz; exact hz)
  rw [e2 hz2, cmp_eq]
  exact x_if_eq 989 d_Lw_law_984 rfl (fun _ => fin) (fun z => absurd rfl z)
set_option maxRecDepth 100000 in
set_option maxHeartbeats 1000000 in
theorem lc_fit {G : xG} {B t k L : Nat} {xs : Nat → Int32} {LI : Nat → xS → Prop} {S : xS} {Q : xR → xH → Prop} (hG : xOkG G) (hx : scO G L xs) (hk : 6 * k + 6 ≤ L) (hL : L ≤ 3072) (hop : opI G B t LI S m_Ha_fit m_Mo_fit [.int (xs (6 * k + 1)), .int (xs (6 * k + 2))]) (ih : ∀ S', LI (t + 1) S' → EX G m_Lw_law 20 1228 (lwL G B k) [] (mk G B S') Q) : EX G m_Lw_law 20 992 (lwL G B k) [] (mk G B S) Q := by
  obtain ⟨v, S1, hH, hM, hLI⟩ := hop
  refine x_aload_n d_Lw_law_992 rfl ?_
  refine x_aload_n d_Lw_law_993 rfl ?_
  refine x_iload d_Lw_law_994 rfl ?_
  refine x_iconst (v := nI 1) d_Lw_law_996 (by decide +kernel) ?_
  refine x_iadd d_Lw_law_997 ?_
  refine x_sld hx d_Lw_law_998 (nI_add _ _) (by omega) (by omega) ?_
  refine x_aload_n d_Lw_law_999 rfl ?_
  refine x_iload d_Lw_law_1000 rfl ?_
  refine x_iconst (v := nI 2) d_Lw_law_1002 (by decide +kernel) ?_
  refine x_iadd d_Lw_law_1003 ?_
  refine x_sld hx d_Lw_law_1004 (nI_add _ _) (by omega) (by omega) ?_
  refine w_callV (As := [_, _]) (S' := S) (v := some (.int v)) d_Lw_law_1005 k_Lw_117 k_hall rfl rfl rfl (x_post (fun r h hq => xDo_ret hq) hH) ?_
  refine x_aload_n d_Lw_law_1008 rfl ?_
  refine x_aload_n d_Lw_law_1009 rfl ?_
  refine x_iload d_Lw_law_1010 rfl ?_
  refine x_iconst (v := nI 1) d_Lw_law_1012 (by decide +kernel) ?_
  refine x_iadd d_Lw_law_1013 ?_
  refine x_sld hx d_Lw_law_1014 (nI_add _ _) (by omega) (by omega) ?_
  refine x_aload_n d_Lw_law_1015 rfl ?_
  refine x_iload d_Lw_law_1016 rfl ?_
  refine x_iconst (v := nI 2) d_Lw_law_1018 (by decide +kernel) ?_
  refine x_iadd d_Lw_law_1019 ?_
  refine x_sld hx d_Lw_law_1020 (nI_add _ _) (by omega) (by omega) ?_
  refine w_callV (As := [_, _]) d_Lw_law_1021 k_Lw_120 k_model rfl rfl rfl hM ?_
  exact x_icmp_eq 1228 d_Lw_law_1024 rfl (fun _ => ih _ hLI) (fun z => absurd rfl z)
set_option maxRecDepth 100000 in
set_option maxHeartbeats 1000000 in
theorem lc_flawed {G : xG} {B t k L : Nat} {xs : Nat → Int32} {LI : Nat → xS → Prop} {S : xS} {Q : xR → xH → Prop} (hG : xOkG G) (hx : scO G L xs) (hk : 6 * k + 6 ≤ L) (hL : L ≤ 3072) (hop : opW G B t LI S m_Ha_flawed m_Mo_flawed [.int (xs (6 * k + 1)), .int (xs (6 * k + 2)), .int (xs (6 * k + 3))] [11, 14, 12]) (ih : ∀ S', LI (t + 1) S' → EX G m_Lw_law 20 1228 (lwL G B k) [] (mk G B S') Q) : EX G m_Lw_law 20 1029 (lwL G B k) [] (mk G B S) Q := by
  obtain ⟨p, q, hH, hM, hsn, hp, e1, e2, hLI⟩ := hop
  have hp2 : (∃ v, p.1 = .inl (some (.int v))) ∨ p.1 = .inr 11 ∨ p.1 = .inr 14 ∨ p.1 = .inr 12 := by
    rcases hp with hp | ⟨ce, hp, hm⟩
    · exact Or.inl hp
    · simp only [List.mem_cons, List.not_mem_nil, or_false] at hm
      rcases hm with rfl | rfl | rfl <;> simp [hp]
  refine x_aload_n d_Lw_law_1029 rfl ?_
  refine x_aload_n d_Lw_law_1030 rfl ?_
  refine x_iload d_Lw_law_1031 rfl ?_
  refine x_iconst (v := nI 1) d_Lw_law_1033 (by decide +kernel) ?_
  refine x_iadd d_Lw_law_1034 ?_
  refine x_sld hx d_Lw_law_1035 (nI_add _ _) (by omega) (by omega) ?_
  refine x_aload_n d_Lw_law_1036 rfl ?_
  refine x_iload d_Lw_law_1037 rfl ?_
  refine x_iconst (v := nI 2) d_Lw_law_1039 (by decide +kernel) ?_
  refine x_iadd d_Lw_law_1040 ?_
  refine x_sld hx d_Lw_law_1041 (nI_add _ _) (by omega) (by omega) ?_
  refine x_aload_n d_Lw_law_1042 rfl ?_
  refine x_iload d_Lw_law_1043 rfl ?_
  refine x_iconst (v := nI 3) d_Lw_law_1045 (by decide +kernel) ?_
  refine x_iadd d_Lw_law_1046 ?_
  refine x_sld hx d_Lw_law_1047 (nI_add _ _) (by omega) (by omega) ?_
  refine x_aload_n d_Lw_law_1048 rfl ?_
  refine w_callS (As := [_, _, _, _, _]) d_Lw_law_1049 k_Lw_121 rfl rfl rfl (c_Lw_flawed hG hsn hH hp2) ?_
  refine s_istore d_Lw_law_1052 (by decide) rfl ?_
  refine x_aload_n d_Lw_law_1054 rfl ?_
  refine x_aload_n d_Lw_law_1055 rfl ?_
  refine x_iload d_Lw_law_1056 rfl ?_
  refine x_iconst (v := nI 1) d_Lw_law_1058 (by decide +kernel) ?_
  refine x_iadd d_Lw_law_1059 ?_
  refine x_sld hx d_Lw_law_1060 (nI_add _ _) (by omega) (by omega) ?_
  refine x_aload_n d_Lw_law_1061 rfl ?_
  refine x_iload d_Lw_law_1062 rfl ?_
  refine x_iconst (v := nI 2) d_Lw_law_1064 (by decide +kernel) ?_
  refine x_iadd d_Lw_law_1065 ?_
  refine x_sld hx d_Lw_law_1066 (nI_add _ _) (by omega) (by omega) ?_
  refine x_aload_n d_Lw_law_1067 rfl ?_
  refine x_iload d_Lw_law_1068 rfl ?_
  refine x_iconst (v := nI 3) d_Lw_law_1070 (by decide +kernel) ?_
  refine x_iadd d_Lw_law_1071 ?_
  refine x_sld hx d_Lw_law_1072 (nI_add _ _) (by omega) (by omega) ?_
  refine w_callV (As := [_, _, _]) d_Lw_law_1073 k_Lw_123 k_model rfl rfl rfl hM ?_
  refine s_istore d_Lw_law_1076 (by decide) rfl ?_
  refine x_aload_n d_Lw_law_1078 rfl ?_
  refine w_callV (As := []) d_Lw_law_1079 k_Lw_75 k_model rfl rfl rfl (c_Mo_thrown hG) ?_
  refine x_iload d_Lw_law_1082 rfl ?_
  refine x_icmp_eq 1089 d_Lw_law_1084 rfl (fun _ => ?_) (fun z => absurd e1 z)
  have fin : EX G m_Lw_law 20 1106 [(0, .ref (gB G)), (1, .ref (B + 0)), (2, .ref (B + 186)), (3, .ref (B + 230)), (4, .int (nI (6 * k))), (5, .int (lwV p [11, 14, 12]).1), (6, .int q.1)] [] (mk G B q.2) Q := by
    refine x_goto 1228 d_Lw_law_1106 rfl ?_
    exact x_lv [0, 1, 2, 3, 4] rfl (ih _ hLI)
  refine x_iload d_Lw_law_1089 rfl ?_
  refine x_if_ne 1106 d_Lw_law_1091 rfl (fun _ => fin) (fun hz => ?_)
  refine x_aload_n d_Lw_law_1094 rfl ?_
  refine x_iconst (v := nI 0) d_Lw_law_1095 (by decide +kernel) ?_
  refine y_lald hG d_Lw_law_1096 k_out 0 rfl (by decide) ?_
  refine x_iload d_Lw_law_1097 rfl ?_
  refine x_i2l d_Lw_law_1099 ?_
  refine x_lcmp d_Lw_law_1100 ?_
  have hz2 : (lwV p [11, 14, 12]).1 = 0 := by
    first | exact hz | exact Classical.not_not.mp hz | (simp only [Classical.not_not] at hz; exact hz)
  rw [e2 hz2, cmp_eq]
  exact x_if_eq 1106 d_Lw_law_1101 rfl (fun _ => fin) (fun z => absurd rfl z)
set_option maxRecDepth 100000 in
set_option maxHeartbeats 1000000 in
theorem lc_panes {G : xG} {B t k L : Nat} {xs : Nat → Int32} {LI : Nat → xS → Prop} {S : xS} {Q : xR → xH → Prop} (hG : xOkG G) (hx : scO G L xs) (hk : 6 * k + 6 ≤ L) (hL : L ≤ 3072) (hop : opW G B t LI S m_Ha_panes m_Mo_panes [.int (xs (6 * k + 1)), .int (xs (6 * k + 2))] [11, 12]) (ih : ∀ S', LI (t + 1) S' → EX G m_Lw_law 20 1228 (lwL G B k) [] (mk G B S') Q) : EX G m_Lw_law 20 1109 (lwL G B k) [] (mk G B S) Q := by
  obtain ⟨p, q, hH, hM, hsn, hp, e1, e2, hLI⟩ := hop
  have hp2 : (∃ v, p.1 = .inl (some (.int v))) ∨ p.1 = .inr 11 ∨ p.1 = .inr 12 := by
    rcases hp with hp | ⟨ce, hp, hm⟩
    · exact Or.inl hp
    · simp only [List.mem_cons, List.not_mem_nil, or_false] at hm
      rcases hm with rfl | rfl <;> simp [hp]
  refine x_aload_n d_Lw_law_1109 rfl ?_
  refine x_aload_n d_Lw_law_1110 rfl ?_
  refine x_iload d_Lw_law_1111 rfl ?_
  refine x_iconst (v := nI 1) d_Lw_law_1113 (by decide +kernel) ?_
  refine x_iadd d_Lw_law_1114 ?_
  refine x_sld hx d_Lw_law_1115 (nI_add _ _) (by omega) (by omega) ?_
  refine x_aload_n d_Lw_law_1116 rfl ?_
  refine x_iload d_Lw_law_1117 rfl ?_
  refine x_iconst (v := nI 2) d_Lw_law_1119 (by decide +kernel) ?_
  refine x_iadd d_Lw_law_1120 ?_
  refine x_sld hx d_Lw_law_1121 (nI_add _ _) (by omega) (by omega) ?_
  refine x_aload_n d_Lw_law_1122 rfl ?_
  refine w_callS (As := [_, _, _, _]) d_Lw_law_1123 k_Lw_124 rfl rfl rfl (c_Lw_panes hG hsn hH hp2) ?_
  refine s_istore d_Lw_law_1126 (by decide) rfl ?_
  refine x_aload_n d_Lw_law_1128 rfl ?_
  refine x_aload_n d_Lw_law_1129 rfl ?_
  refine x_iload d_Lw_law_1130 rfl ?_
  refine x_iconst (v := nI 1) d_Lw_law_1132 (by decide +kernel) ?_
  refine x_iadd d_Lw_law_1133 ?_
  refine x_sld hx d_Lw_law_1134 (nI_add _ _) (by omega) (by omega) ?_
  refine x_aload_n d_Lw_law_1135 rfl ?_
  refine x_iload d_Lw_law_1136 rfl ?_
  refine x_iconst (v := nI 2) d_Lw_law_1138 (by decide +kernel) ?_
  refine x_iadd d_Lw_law_1139 ?_
  refine x_sld hx d_Lw_law_1140 (nI_add _ _) (by omega) (by omega) ?_
  refine w_callV (As := [_, _]) d_Lw_law_1141 k_Lw_126 k_model rfl rfl rfl hM ?_
  refine s_istore d_Lw_law_1144 (by decide) rfl ?_
  refine x_aload_n d_Lw_law_1146 rfl ?_
  refine w_callV (As := []) d_Lw_law_1147 k_Lw_75 k_model rfl rfl rfl (c_Mo_thrown hG) ?_
  refine x_iload d_Lw_law_1150 rfl ?_
  refine x_icmp_eq 1157 d_Lw_law_1152 rfl (fun _ => ?_) (fun z => absurd e1 z)
  have fin : EX G m_Lw_law 20 1174 [(0, .ref (gB G)), (1, .ref (B + 0)), (2, .ref (B + 186)), (3, .ref (B + 230)), (4, .int (nI (6 * k))), (5, .int (lwV p [11, 12]).1), (6, .int q.1)] [] (mk G B q.2) Q := by
    refine x_goto 1228 d_Lw_law_1174 rfl ?_
    exact x_lv [0, 1, 2, 3, 4] rfl (ih _ hLI)
  refine x_iload d_Lw_law_1157 rfl ?_
  refine x_if_ne 1174 d_Lw_law_1159 rfl (fun _ => fin) (fun hz => ?_)
  refine x_aload_n d_Lw_law_1162 rfl ?_
  refine x_iconst (v := nI 0) d_Lw_law_1163 (by decide +kernel) ?_
  refine y_lald hG d_Lw_law_1164 k_out 0 rfl (by decide) ?_
  refine x_iload d_Lw_law_1165 rfl ?_
  refine x_i2l d_Lw_law_1167 ?_
  refine x_lcmp d_Lw_law_1168 ?_
  have hz2 : (lwV p [11, 12]).1 = 0 := by
    first | exact hz | exact Classical.not_not.mp hz | (simp only [Classical.not_not] at hz; exact hz)
  rw [e2 hz2, cmp_eq]
  exact x_if_eq 1174 d_Lw_law_1169 rfl (fun _ => fin) (fun z => absurd rfl z)
set_option maxRecDepth 100000 in
set_option maxHeartbeats 1000000 in
theorem lc_area {G : xG} {B t k L : Nat} {xs : Nat → Int32} {LI : Nat → xS → Prop} {S : xS} {Q : xR → xH → Prop} (hG : xOkG G) (hx : scO G L xs) (hk : 6 * k + 6 ≤ L) (hL : L ≤ 3072) (hop : opJ G B t LI S m_Ha_area m_Mo_area [.int (xs (6 * k + 1))]) (ih : ∀ S', LI (t + 1) S' → EX G m_Lw_law 20 1228 (lwL G B k) [] (mk G B S') Q) : EX G m_Lw_law 20 1177 (lwL G B k) [] (mk G B S) Q := by
  obtain ⟨v, S1, hH, hM, hLI⟩ := hop
  refine x_aload_n d_Lw_law_1177 rfl ?_
  refine x_aload_n d_Lw_law_1178 rfl ?_
  refine x_iload d_Lw_law_1179 rfl ?_
  refine x_iconst (v := nI 1) d_Lw_law_1181 (by decide +kernel) ?_
  refine x_iadd d_Lw_law_1182 ?_
  refine x_sld hx d_Lw_law_1183 (nI_add _ _) (by omega) (by omega) ?_
  refine w_callV (As := [_]) (S' := S) (v := some (.long v)) d_Lw_law_1184 k_Lw_127 k_hall rfl rfl rfl (x_post (fun r h hq => xDo_ret hq) hH) ?_
  refine x_aload_n d_Lw_law_1187 rfl ?_
  refine x_aload_n d_Lw_law_1188 rfl ?_
  refine x_iload d_Lw_law_1189 rfl ?_
  refine x_iconst (v := nI 1) d_Lw_law_1191 (by decide +kernel) ?_
  refine x_iadd d_Lw_law_1192 ?_
  refine x_sld hx d_Lw_law_1193 (nI_add _ _) (by omega) (by omega) ?_
  refine w_callV (As := [_]) d_Lw_law_1194 k_Lw_131 k_model rfl rfl rfl hM ?_
  refine x_lcmp d_Lw_law_1197 ?_
  rw [cmp_eq]
  exact x_if_eq 1228 d_Lw_law_1198 rfl (fun _ => ih _ hLI) (fun z => absurd rfl z)
set_option maxRecDepth 100000 in
set_option maxHeartbeats 1000000 in
theorem lc_total {G : xG} {B t k L : Nat} {xs : Nat → Int32} {LI : Nat → xS → Prop} {S : xS} {Q : xR → xH → Prop} (hG : xOkG G) (hx : scO G L xs) (hk : 6 * k + 6 ≤ L) (hL : L ≤ 3072) (hop : opI G B t LI S m_Ha_total m_Mo_total [.int (xs (6 * k + 1))]) (ih : ∀ S', LI (t + 1) S' → EX G m_Lw_law 20 1228 (lwL G B k) [] (mk G B S') Q) : EX G m_Lw_law 20 1203 (lwL G B k) [] (mk G B S) Q := by
  obtain ⟨v, S1, hH, hM, hLI⟩ := hop
  refine x_aload_n d_Lw_law_1203 rfl ?_
  refine x_aload_n d_Lw_law_1204 rfl ?_
  refine x_iload d_Lw_law_1205 rfl ?_
  refine x_iconst (v := nI 1) d_Lw_law_1207 (by decide +kernel) ?_
  refine x_iadd d_Lw_law_1208 ?_
  refine x_sld hx d_Lw_law_1209 (nI_add _ _) (by omega) (by omega) ?_
  refine w_callV (As := [_]) (S' := S) (v := some (.int v)) d_Lw_law_1210 k_Lw_132 k_hall rfl rfl rfl (x_post (fun r h hq => xDo_ret hq) hH) ?_
  refine x_aload_n d_Lw_law_1213 rfl ?_
  refine x_aload_n d_Lw_law_1214 rfl ?_
  refine x_iload d_Lw_law_1215 rfl ?_
  refine x_iconst (v := nI 1) d_Lw_law_1217 (by decide +kernel) ?_
  refine x_iadd d_Lw_law_1218 ?_
  refine x_sld hx d_Lw_law_1219 (nI_add _ _) (by omega) (by omega) ?_
  refine w_callV (As := [_]) d_Lw_law_1220 k_Lw_135 k_model rfl rfl rfl hM ?_
  exact x_icmp_eq 1228 d_Lw_law_1223 rfl (fun _ => ih _ hLI) (fun z => absurd rfl z)
