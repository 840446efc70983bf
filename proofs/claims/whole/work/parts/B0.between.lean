/-! what holds between two calls -/
/-- what is not yet ordered is neither planned nor done -/
def zQ (S : xS) (N : Nat) : Prop := ∀ k, N ≤ k → sA S 209 k = nI 0 ∧ sA S 210 k = nI 0
def liP (S : xS) (B t N R E : Nat) (oa : Nat → Nat) (D : Nat → Nat → Int32) (rk g tn fl nc : Nat → Nat) : Prop := haI S B N R oa D rk g tn fl ∧ mEq S N R E D rk g tn fl nc ∧ ((∀ k, k < N → oa k < sN S) ∧ zQ S N) ∧ (B + 231 ≤ sN S ∧ sN S ≤ B + 231 + t) ∧ sL S ≤ 23106 + 6 * t ∧ E ≤ t
def liA (B t : Nat) (S : xS) : Prop := ∃ N R E oa D rk g tn fl nc, liP S B t N R E oa D rk g tn fl nc
theorem liA.skip {B t : Nat} {S : xS} (h : liA B t S) : liA B (t + 1) S := by
  obtain ⟨N, R, E, oa, D, rk, g, tn, fl, nc, h1, h2, h3, h4, h5, h6⟩ := h
  exact ⟨N, R, E, oa, D, rk, g, tn, fl, nc, h1, h2, h3, ⟨h4.1, by omega⟩, by omega, by omega⟩
section LP
variable {G : xG} {S : xS} {B t N R E : Nat} {oa : Nat → Nat} {D : Nat → Nat → Int32} {rk g tn fl nc : Nat → Nat}
theorem liP.rm (h : liP S B t N R E oa D rk g tn fl nc) (hc : B + 1000 ≤ gC G) (hs : 30000 ≤ gS G) (ht : t < 512) : xRm G B S := by
  obtain ⟨-, -, -, ⟨h4, h5⟩, h6, -⟩ := h
  exact ⟨h4, by omega, by omega⟩
theorem haI_186 (h : haI S B N R oa D rk g tn fl) {o k : Nat} {v : Int32} (ho : 186 ≤ o) : haI (uF S o k v) B N R oa D rk g tn fl := by
  have hg : ∀ k, k < 10 → ∃ t, t < 10 ∧ g k = 7 + 5 * t := fun k hk => rkGl h hk
  obtain ⟨a1, a2, a3, a4, a5, a6, a7, a8, a9, a10, a11, a12, a13⟩ := h
  refine ⟨a1, ?_, a3, a4, a5, ?_, a7, a8, fun k hk => ?_, fun k hk => ?_, fun k hk => ?_, a12, ?_⟩
  · rw [sF_uFn _ _ _ (by omega)]; exact a2
  · rw [sF_uFn _ _ _ (by omega)]; exact a6
  · rw [sF_uFn _ _ _ (by omega)]; exact a9 k hk
  · rw [sF_uFn _ _ _ (by omega)]; exact a10 k hk
  · obtain ⟨t', ht', et'⟩ := hg k hk
    rw [sF_uFn _ _ _ (by omega)]; exact a11 k hk
  · rw [sF_uFn _ _ _ (by omega)]; exact a13
theorem mEq.thr (h : mEq S N R E D rk g tn fl nc) {v : Int32} : mEq (uF S 186 0 v) N R E D rk g tn fl nc := by
  obtain ⟨⟨⟨c1, c2⟩, ⟨c3, c4⟩, c5, c6⟩, h2, h3, h4, h5, h6, h7, h8⟩ := h
  have e : ∀ o, o ≠ 186 → sF (uF S 186 0 v) o = sF S o := fun o ho => sF_uFn _ _ _ ho
  have e6 : ∀ k, k ≠ 0 → sF (uF S 186 0 v) 186 k = sF S 186 k := fun k hk => by rw [sF_uF, va_up_ne _ _ hk]
  have et : ∀ j, j < 8 → thB (uF S 186 0 v) j = thB S j := fun j hj => by unfold thB; rw [e _ (by omega)]
  refine ⟨⟨⟨(e6 _ (by decide)).trans c1, (e6 _ (by decide)).trans c2⟩, ⟨by rw [e _ (by decide)]; exact c3, (e6 _ (by decide)).trans c4⟩, fun j hj ht => ?_, fun i j hi hj t1 t2 q => ?_⟩, h2, fun j hj => ?_, fun j hj => ?_, h5, h6, fun k hk => ?_, h8⟩
  · rw [et j hj] at ht
    rw [e _ (by omega)]; exact c5 j hj ht
  · rw [et i hi] at t1
    rw [et j hj] at t2
    rw [e _ (by omega), e _ (by omega)] at q
    exact c6 i j hi hj t1 t2 q
  · obtain ⟨w, z, q1, q2, q3, q4, q5, q6⟩ := h3 j hj
    refine ⟨w, z, q1, ?_, by rw [et j hj]; exact q3, q4, by rw [et j hj]; exact q5, by rw [e _ (by omega)]; exact q6⟩
    rw [e _ (by omega)]; exact q2
  · obtain ⟨q1, q2, q3, q4, q5⟩ := h4 j hj
    exact ⟨by rw [et j hj]; exact q1, by rw [et j hj]; exact q2, q3, q4, q5⟩
  · by_cases z : g k = 186
    · obtain ⟨w, u, n, q1, ⟨a1, a2, a3⟩, q3⟩ := h7 k hk
      refine ⟨w, u, n, q1, ?_, q3⟩
      rw [z] at a1 a2 a3 ⊢
      exact ⟨(e6 _ (by decide)).trans a1, (e6 _ (by decide)).trans a2, (e6 _ (by decide)).trans a3⟩
    · obtain ⟨w, u, n, q1, q2, q3⟩ := h7 k hk
      refine ⟨w, u, n, q1, ?_, q3⟩
      rw [e _ z]; exact q2
theorem mEq.J (h : mEq S N R E D rk g tn fl nc) {v : Int64} : mEq (uJ S 230 0 v) N R E D rk g tn fl nc := by
  obtain ⟨h1, ⟨a1, a2, a3, a4⟩, h3⟩ := h
  refine ⟨h1, ⟨?_, ?_, ?_, ?_⟩, h3⟩
  · rw [sJ_uJn _ _ _ (by decide), sJ_uJn _ _ _ (by decide)]; exact a1
  · rw [sJ_uJn _ _ _ (by decide), sJ_uJn _ _ _ (by decide)]; exact a2
  · rw [sJ_uJn _ _ _ (by decide), sJ_uJn _ _ _ (by decide)]; exact a3
  · rw [sJ_uJn _ _ _ (by decide), sJ_uJn _ _ _ (by decide)]; exact a4
theorem mEq.new (h : mEq S N R E D rk g tn fl nc) {c : Nat} {e : va_E} : mEq (uN S c e) N R E D rk g tn fl nc := h
/-- behind a throw -/
theorem liP.thrown (h : liP S B t N R E oa D rk g tn fl nc) {ce k : Nat} : liA B (t + 1) (moThr (uN S 6 (.inr (ce, []))) k) := by
  obtain ⟨h1, h2, ⟨h3, hz⟩, ⟨h4, h5⟩, h6, h7⟩ := h
  exact ⟨N, R, E, oa, D, rk, g, tn, fl, nc, haI_186 (haI_N h1 h3) (by decide), h2.new.thr, ⟨fun k hk => by show oa k < sN S + 1; have := h3 k hk; omega, hz⟩, ⟨by show _ ≤ sN S + 1; omega, by show sN S + 1 ≤ _; omega⟩, by show sL S + 6 ≤ _; omega, by omega⟩
/-- behind an answer that changed nothing -/
theorem liP.told (h : liP S B t N R E oa D rk g tn fl nc) {v : Int64} {k : Nat} : liA B (t + 1) (moThr (uJ S 230 0 v) k) := by
  obtain ⟨h1, h2, h3, ⟨h4, h5⟩, h6, h7⟩ := h
  exact ⟨N, R, E, oa, D, rk, g, tn, fl, nc, haI_186 (haI_J h1) (by decide), h2.J.thr, h3, ⟨h4, by show sN S ≤ _; omega⟩, by show sL S ≤ _; omega, by omega⟩
theorem liP.told0 (h : liP S B t N R E oa D rk g tn fl nc) {k : Nat} : liA B (t + 1) (moThr S k) := by
  obtain ⟨h1, h2, h3, ⟨h4, h5⟩, h6, h7⟩ := h
  exact ⟨N, R, E, oa, D, rk, g, tn, fl, nc, haI_186 h1 (by decide), h2.thr, h3, ⟨h4, by show sN S ≤ _; omega⟩, by show sL S ≤ _; omega, by omega⟩
end LP
section OW
variable {G : xG} {S : xS} {B t : Nat} {LI : Nat → xS → Prop} {mH mM : xM} {As : List Value} {l : List Nat} {p : xO × xS}
theorem op_thr {ce k : Nat} (hH : EX G mH 18 0 (lv_args 0 (.ref (B + 0) :: As)) [] (mk G B S) (xDo G B p)) (hp : p.1 = .inr ce) (hce : ce ∈ l) (hk : cdOf l ce = k) (hk1 : k ≠ 0 ∧ k < 100) (hM : EX G mM 19 0 (lv_args 0 (.ref (B + 186) :: As)) [] (mk G B (uN p.2 6 (.inr (ce, [])))) (moRet G B (0, moThr (uN p.2 6 (.inr (ce, []))) k))) (hsn : B + 231 ≤ sN p.2) (hL : LI (t + 1) (moThr (uN p.2 6 (.inr (ce, []))) k)) : opW G B t LI S mH mM As l := by
  refine ⟨p, (0, moThr (uN p.2 6 (.inr (ce, []))) k), hH, by rw [lwV_thr hp]; exact hM, hsn, Or.inr ⟨ce, hp, hce⟩, ?_, fun z => ?_, hL⟩
  · rw [lwV_thr hp, moThr_0, hk]
  · rw [lwV_thr hp, hk] at z
    exact absurd z (nI_ne0 (by omega) (by omega))
theorem op_ret {v : Int32} {q : Int32 × xS} (hH : EX G mH 18 0 (lv_args 0 (.ref (B + 0) :: As)) [] (mk G B S) (xDo G B p)) (hp : p.1 = .inl (some (.int v))) (hM : EX G mM 19 0 (lv_args 0 (.ref (B + 186) :: As)) [] (mk G B (uJ p.2 230 0 v.toInt64)) (moRet G B q)) (hv : q.1 = v) (h0 : sF q.2 186 0 = nI 0) (hj : sJ q.2 230 0 = v.toInt64) (hsn : B + 231 ≤ sN p.2) (hL : LI (t + 1) q.2) : opW G B t LI S mH mM As l :=
  ⟨p, q, hH, by rw [lwV_ok hp]; exact hM, hsn, Or.inl ⟨v, hp⟩, by rw [lwV_ok hp]; exact h0, fun _ => by rw [hj, hv], hL⟩
end OW
theorem told_J {S : xS} {v : Int64} {k : Nat} : sJ (moThr (uJ S 230 0 v) k) 230 0 = v := by
  show sJ (uJ S 230 0 v) 230 0 = v
  rw [sJ_uJ, va_up_self]
