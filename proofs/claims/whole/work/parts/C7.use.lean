/-! use -/
set_option maxHeartbeats 2000000 in
theorem op_use {G : xG} {S : xS} {B t N R E : Nat} {oa : Nat → Nat} {D : Nat → Nat → Int32} {rk g tn fl nc : Nat → Nat} (hG : xOkG G) (hc : B + 1000 ≤ gC G) (hs : 30000 ≤ gS G) (ht : t < 512) (h : liP S B t N R E oa D rk g tn fl nc) {x : Int32} : opW G B t (liA B) S m_Ha_use m_Mo_use [.int x] [11, 13] := by
  have hH := c_Ha_use (d := 13) hG h.1 (h.rm hc hs ht) (k := x)
  have hsn := h.2.2.2.1.1
  obtain ⟨r1, ⟨⟨⟨c1, c2⟩, ⟨c3, c4⟩, c5, c6⟩, m2, m3, m4, m5, m6, m7, m8⟩, ⟨r3, rz⟩, ⟨r4, r5⟩, r6, r7⟩ := id h
  have hR10 : R ≤ 10 := r1.2.2.2.2.2.1.2
  have hfree : fstN (fun s => decide (sA S 187 s = 0)) 8 = fstN (fun j => !thB S j) 8 := free_eq h.2.1.id
  have thr : ∀ (ce q : Nat), haUse S B R g x = (.inr ce, S) → moUseC S R x = q → ce ∈ [11, 13] → cdOf [11, 13] ce = q → q ≠ 0 ∧ q < 100 → opW G B t (liA B) S m_Ha_use m_Mo_use [.int x] [11, 13] := by
    intro ce q hp hC h1 h2 h3
    rw [hp] at hH
    refine op_thr (ce := ce) (k := q) hH rfl h1 h2 h3 ?_ hsn h.thrown
    have hq : moUse (uN S 6 (.inr (ce, []))) R 0 (fun _ => 0) x = (0, moThr (uN S 6 (.inr (ce, []))) q) := by
      unfold moUse
      show moP (moUseC S R x) _ _ _ = _
      rw [hC]; exact if_neg h3.1
    rw [← hq]
    exact c_Mo_useT (S := uN S 6 (.inr (ce, []))) hG c2 hR10 (by show moUseC S R x ≠ 0; rw [hC]; exact h3.1)
  rcases inB_cases (N := R) (by omega) x with ⟨k, hk, rfl, hb⟩ | hb
  · cases e : fstN (fun j => !thB S j) 8 with
    | none =>
      refine thr 13 2 (by unfold haUse; rw [if_neg (by rw [hb]; decide), e]) ?_ (by decide) rfl (by decide)
      unfold moUseC
      rw [if_neg (by rw [hb]; decide), if_pos (full_iff.mpr (hfree.trans e))]
    | some j =>
      obtain ⟨hj, hnt, -⟩ := fstN_spec e
      have hnt : thB S j = false := by simpa using hnt
      obtain ⟨tk, htk, etk⟩ := rkGl r1 (show k < 10 by omega)
      obtain ⟨a, b, n, ⟨⟨ha1, ha6⟩, ⟨hb1, hb6⟩, hn6⟩, ⟨o1, o2, o3⟩, ⟨o4, o5, o6⟩, ofl⟩ := m7 k hk
      obtain ⟨S1, hS1⟩ : ∃ Z, Z = (glPart S (67 + 15 * j) (g k) (nI 0) (nI 0) (nI a) (nI b) n).1 := ⟨_, rfl⟩
      obtain ⟨P, hP⟩ : ∃ Z, Z = haIn (rkRem S1 B g k R) j := ⟨_, rfl⟩
      have hp : haUse S B R g (nI k) = (rI (sF S 0 6), P) := by
        unfold haUse; rw [if_neg (by rw [hb]; decide), e]
        simp only []
        rw [nI_clamp (by omega), o1, o2, o3, nI_clamp (by omega), hP, hS1]
      rw [hp] at hH
      obtain ⟨K, K6, K7⟩ := glPart_ok (S := S) (b := 67 + 15 * j) (a := g k) (x := nI 0) (y := nI 0) (w := nI a) (h := nI b) n
      obtain ⟨f, hf⟩ : ∃ f : Nat → qd, f = fun q => ((sA S (g k + 1) q).toNatClampNeg, (sA S (g k + 2) q).toNatClampNeg, (sA S (g k + 3) q).toNatClampNeg, (sA S (g k + 4) q).toNatClampNeg) := ⟨_, rfl⟩
      have hfc : ∀ q, q < n → (sA S (g k + 1) q = nI (f q).1 ∧ sA S (g k + 2) q = nI (f q).2.1 ∧ sA S (g k + 3) q = nI (f q).2.2.1 ∧ sA S (g k + 4) q = nI (f q).2.2.2) ∧ (sA S 214 (24 * k + 4 * q) = nI (f q).1 ∧ sA S 214 (24 * k + 4 * q + 1) = nI (f q).2.1 ∧ sA S 214 (24 * k + 4 * q + 2) = nI (f q).2.2.1 ∧ sA S 214 (24 * k + 4 * q + 3) = nI (f q).2.2.2) ∧ ((f q).1 + (f q).2.2.1 ≤ a ∧ (f q).2.1 + (f q).2.2.2 ≤ b) ∧ 1 ≤ (f q).2.2.1 ∧ 1 ≤ (f q).2.2.2 := fun q hq => by
        obtain ⟨x, y, u, w, ⟨q1, q2, q3, q4⟩, ⟨e1, e2, e3, e4⟩, e5, e6, e7, e8⟩ := ofl q hq
        rw [hf]
        simp only []
        rw [e1, e2, e3, e4, nI_clamp (by omega), nI_clamp (by omega), nI_clamp (by omega), nI_clamp (by omega)]
        exact ⟨⟨rfl, rfl, rfl, rfl⟩, ⟨e5, e6, e7, e8⟩, ⟨q1, q2⟩, q3, q4⟩
      obtain ⟨C1, C2, C3, C4⟩ := glPart_L (S := S) (b := 67 + 15 * j) (a := g k) (x := 0) (y := 0) (w := a) (h := b) (m := n) (f := f) (by omega) (fun q hq => (hfc q hq).1) (fun q hq => by have := (hfc q hq).2.2; omega) (by omega) hn6 n (Nat.le_refl _)
      obtain ⟨A1, A2⟩ := prt_all (w := a) (h := b) (m := n) (f := f) (fun q hq => (hfc q hq).2.2) n (Nat.le_refl _)
      rw [A1] at C1
      rw [C1] at K6
      rw [← hS1] at K K6 C2 C3 C4
      have hI1 : haI S1 B N R oa D rk g tn (va_up fl j n) := haI_gl r1 hj K K6 hn6
      have hIP : haI P B N (R - 1) oa D rk (fun q => g (rmX k R q)) tn (va_up fl j n) := by rw [hP]; exact haI_in (haI_rem hI1 hk) hj
      obtain ⟨R1, R2, R3, R4, R5, R6⟩ := rkRem_all (S := S1) (B := B) (k := k) (n := R) (g := g)
      have PF : ∀ o, o ≠ 0 → o ≠ 5 → o ≠ 66 + 15 * j → (o < 67 + 15 * j ∨ 67 + 15 * j + 5 ≤ o) → sF P o = sF S o := fun o q1 q2 q3 q4 => by
        rw [hP]; unfold haIn
        rw [sF_uFn _ _ _ q1, sF_uFn _ _ _ q3, sF_uFn _ _ _ q3, rkRem_F q2]
        exact (K.1 o q4).1
      have S06 : sF (rkRem S1 B g k R) 0 6 = nI E := by
        rw [rkRem_F (by decide), (K.1 0 (by omega)).1, c3]
      have P06 : sF P 0 6 = nI (E + 1) := by
        rw [hP]; unfold haIn
        rw [sF_uF, va_up_self, S06, nI_add]
      have P66 : sF P (66 + 15 * j) 2 = nI 1 ∧ sF P (66 + 15 * j) 3 = nI E := by
        rw [hP]; unfold haIn
        rw [sF_uFn _ _ _ (by omega), sF_uF, va_up_ne _ _ (by decide), sF_uF, va_up_self, va_up_self]
        exact ⟨rfl, S06⟩
      have P67 : sF P (67 + 15 * j) = sF S1 (67 + 15 * j) := by
        rw [hP]; unfold haIn
        rw [sF_uFn _ _ _ (by omega), sF_uFn _ _ _ (by omega), sF_uFn _ _ _ (by omega), rkRem_F (by omega)]
      have PA0 : sA P = sA S1 := by rw [hP]; exact R1
      have PA : ∀ o, (o < 67 + 15 * j ∨ 67 + 15 * j + 5 ≤ o) → sA P o = sA S o := fun o ho => by rw [PA0]; exact (K.1 o ho).2.1
      have PJ : ∀ o, (o < 67 + 15 * j ∨ 67 + 15 * j + 5 ≤ o) → sJ P o = sJ S o := fun o ho => by
        rw [hP]
        show sJ (rkRem S1 B g k R) o = _
        rw [R2]; exact (K.1 o ho).2.2.1
      have PN : sN P = sN S ∧ sL P = sL S := by
        rw [hP]
        exact ⟨R4.trans K.2.2.1, R5.trans K.2.2.2⟩
      obtain ⟨w, hw⟩ : ∃ w, w = (sF S 0 6).toInt64 := ⟨_, rfl⟩
      obtain ⟨X, hX⟩ : ∃ X, X = uJ P 230 0 w := ⟨_, rfl⟩
      have XA : sA X = sA P := by rw [hX]; rfl
      have XF : sF X = sF P := by rw [hX]; rfl
      have X186 : ∀ q, sF X 186 q = sF S 186 q := fun q => by rw [XF, PF 186 (by decide) (by decide) (by omega) (by omega)]
      obtain ⟨Y1, hY1⟩ : ∃ Z, Z = moUs1 X k j := ⟨_, rfl⟩
      obtain ⟨k1, k2, k3, k4, k5, k6, k7, k8, k9⟩ := moMake_A (S := moThr X 0) (s := j) (w := sA X 211 k) (h := sA X 212 k)
      have hY1' : moMake (moThr X 0) j (sA X 211 k) (sA X 212 k) = Y1 := by rw [hY1]; rfl
      rw [hY1'] at k1 k2 k3 k4 k5 k6 k7 k8 k9
      have tA : sA (moThr X 0) = sA P := by rw [← XA]; rfl
      rw [tA] at k1 k2
      obtain ⟨Y2, hY2⟩ : ∃ Z, Z = moUsL Y1 k j n := ⟨_, rfl⟩
      obtain ⟨u1, u2, u3⟩ := moUsL_at (S := Y1) (k := k) (s := j) n
      obtain ⟨v1, v2, v3⟩ := moUsL_K (S := Y1) (k := k) (s := j) k9 n
      obtain ⟨x1, x2⟩ := moUsL_lo (S := Y1) (k := k) (s := j) n
      rw [← hY2] at u1 u2 u3 v1 v2 v3 x1 x2
      obtain ⟨Y3, hY3⟩ : ∃ Z, Z = uF Y2 186 27 (nI (R - 1)) := ⟨_, rfl⟩
      have Y3A : sA Y3 = sA Y2 := by rw [hY3]; rfl
      obtain ⟨Q2, hQ2⟩ : ∃ Z, Z = moUsM Y3 k (R - 1 - k) := ⟨_, rfl⟩
      obtain ⟨w1, w2⟩ := moUsM_at (S := Y3) (k := k) (R - 1 - k)
      obtain ⟨w3, w4⟩ := moUsM_F (S := Y3) (k := k) (R - 1 - k)
      obtain ⟨w5, w6⟩ := moUsM_lo (S := Y3) (k := k) (R - 1 - k)
      rw [← hQ2] at w1 w2 w3 w4 w5 w6
      rw [Y3A] at w1 w2
      have lo : loE P Q2 := by
        refine loE.trans ?_ w5
        rw [hY3]
        refine loE.F (loE.trans ?_ x1) (by decide)
        rw [hY1, hX]
        exact ((loE.rf.J (by decide)).F (by decide)).trans moMake_lo
      have QlF : ∀ o, o < 186 → sF Q2 o = sF P o := fun o ho => (lo.1 o ho).1
      have QlA : ∀ o, o < 186 → sA Q2 o = sA P o := fun o ho => (lo.1 o ho).2.1
      have QlJ : ∀ o, o < 186 → sJ Q2 o = sJ P o := fun o ho => (lo.1 o ho).2.2
      -- arrays of the reference
      have Y2o : ∀ o, (o < 193 ∨ 195 ≤ o) → sA Y2 o = sA Y1 o := fun o ho => (v1.1 o ho).2.1
      have Q2o : ∀ o, (o < 211 ∨ 215 ≤ o) → sA Q2 o = sA Y2 o := fun o ho => by rw [(w4.1 o ho).2.1, Y3A]
      have QA1 : ∀ o, (o < 187 ∨ (193 < o ∧ o < 211 ∧ o ≠ 194) ∨ 215 ≤ o) → (o < 67 + 15 * j ∨ 67 + 15 * j + 5 ≤ o) → sA Q2 o = sA S o := fun o ho h2 => by
        rw [Q2o o (by omega), Y2o o (by omega), k1 o (by omega), PA o h2]
      have QA2 : ∀ o q, 187 ≤ o → o ≤ 193 → q ≠ j → sA Q2 o q = sA S o q := fun o q h1 h2 hq => by
        rw [Q2o o (by omega)]
        by_cases z : o = 193
        · subst z
          rw [u3 q hq, k2 _ q hq, PA 193 (by omega)]
        · rw [Y2o o (by omega), k2 o q hq, PA o (by omega)]
      have Q194 : ∀ q, (q < 24 * j ∨ 24 * j + 24 ≤ q) → sA Q2 194 q = sA S 194 q := fun q hq => by
        rw [Q2o 194 (by omega), u1 q (by omega), k1 194 (by omega), PA 194 (by omega)]
      have Q194j : ∀ c, c < 4 * n → sA Q2 194 (24 * j + c) = sA S 214 (24 * k + c) := fun c hc => by
        rw [Q2o 194 (by omega), u2 c hc, k1 214 (by omega), PA 214 (by omega)]
      have Y214 : ∀ o, 211 ≤ o → o ≤ 214 → sA Y2 o = sA S o := fun o h1 h2 => by rw [Y2o o (by omega), k1 o (by omega), PA o (by omega)]
      have y1F : ∀ q, sF Y1 186 q = if q = 1 then nI (E + 1) else if q = 0 then nI 0 else sF S 186 q := fun q => by
        rw [← hY1']; unfold moMake
        have th : ∀ q, sF (moThr X 0) 186 q = if q = 0 then nI 0 else sF S 186 q := fun q => by
          unfold moThr
          rw [sF_uF]
          by_cases z : q = 0
          · subst z; rw [va_up_self, if_pos rfl]
          · rw [va_up_ne _ _ z, if_neg z]; exact X186 q
        rw [sF_uF]
        by_cases z : q = 1
        · subst z
          rw [va_up_self, if_pos rfl, th, if_neg (by decide), c4, nI_add]
        · rw [va_up_ne _ _ z, if_neg z]
          exact th q
      have QF : ∀ q, sF Q2 186 q = if q = 27 then nI (R - 1) else if q = 1 then nI (E + 1) else if q = 0 then nI 0 else sF S 186 q := fun q => by
        rw [w3, hY3, sF_uF]
        by_cases z : q = 27
        · subst z; rw [va_up_self, if_pos rfl]
        · rw [va_up_ne _ _ z, if_neg z, v2]; exact y1F q
      have QJ : ∀ o, 186 ≤ o → sJ Q2 o = sJ X o := fun o ho => by
        rw [w6, hY3]
        show sJ Y2 o = _
        rw [x2, hY1]; rfl
      have hL2 : liA B (t + 1) Q2 := by
        have hth : ∀ i, i < 8 → i ≠ j → thB Q2 i = thB S i := fun i hi hij => by
          unfold thB; rw [QlF _ (by omega), PF _ (by omega) (by omega) (by omega) (by omega)]
        have hthj : thB Q2 j = true := by
          unfold thB; rw [QlF _ (by omega), P66.1]; decide +kernel
        have h6 : ∀ i, i < 8 → fl i ≤ 6 := fun i hi => (r1.2.2.2.2.2.2.2.2.2.1 i hi).2
        have un : ∀ k, unA Q2 tn k = unA S tn k := fun k => sumN_c (fun i hi => unJ_c rfl (fun q hq => QA1 _ (by omega) (by omega)))
        have idv : ∀ y, y < 8 → y ≠ j → thB Q2 y = true → ∃ e', e' < E ∧ sF Q2 (66 + 15 * y) 3 = nI e' := fun y hy hyj ty => by
          rw [hth y hy hyj] at ty
          obtain ⟨e', h1, h2⟩ := c5 y hy ty
          exact ⟨e', h1, by rw [QlF _ (by omega), PF _ (by omega) (by omega) (by omega) (by omega)]; exact h2⟩
        have idj : sF Q2 (66 + 15 * j) 3 = nI E := by rw [QlF _ (by omega)]; exact P66.2
        have PJ0 : sJ Q2 0 = sJ S 0 := by rw [QlJ _ (by decide), PJ 0 (by omega)]
        have PJ6 : sJ Q2 186 = sJ S 186 := by rw [QJ _ (by decide), hX, sJ_uJn _ _ _ (by decide), PJ 186 (by omega)]
        refine ⟨N, R - 1, E + 1, oa, D, rk, fun q => g (rmX k R q), tn, va_up fl j n, nc, haI_lo lo hIP, ⟨⟨⟨by rw [QF, if_neg (by decide), if_neg (by decide), if_neg (by decide)]; exact c1, by rw [QF, if_pos rfl]⟩, ⟨by rw [QlF _ (by decide)]; exact P06, by rw [QF, if_neg (by decide), if_pos rfl]⟩, fun i hi hti => ?_, fun i i' hi hi' t1 t2 q => ?_⟩, by rw [arQ, PJ0, PJ6]; exact m2, fun i hi => ?_, fun i hi => ?_, fun q hq => ?_, ?_, fun q hq => ?_, fun q q' hq hq' z => ?_⟩, ⟨fun q hq => ?_, fun q hq => ?_⟩, ⟨?_, ?_⟩, ?_, by omega⟩
        · by_cases u : i = j
          · subst u
            exact ⟨E, by omega, idj⟩
          · obtain ⟨e', h1, h2⟩ := idv i hi u hti
            exact ⟨e', by omega, h2⟩
        · by_cases u : i = j
          · by_cases u' : i' = j
            · omega
            · subst u
              obtain ⟨e', h1, h2⟩ := idv i' hi' u' t2
              rw [idj, h2] at q
              have := (nI_eq (by omega) (by omega)).mp q
              omega
          · by_cases u' : i' = j
            · subst u'
              obtain ⟨e', h1, h2⟩ := idv i hi u t1
              rw [idj, h2] at q
              have := (nI_eq (by omega) (by omega)).mp q
              omega
            · rw [hth i hi u] at t1
              rw [hth i' hi' u'] at t2
              rw [QlF _ (by omega), QlF _ (by omega), PF _ (by omega) (by omega) (by omega) (by omega), PF _ (by omega) (by omega) (by omega) (by omega)] at q
              exact c6 i i' hi hi' t1 t2 q
        · by_cases u : i = j
          · subst u
            have y2i : ∀ o, 187 ≤ o → o ≤ 192 → sA Q2 o i = sA Y1 o i := fun o h1 h2 => by rw [Q2o o (by omega), Y2o o (by omega)]
            refine ⟨a, b, ⟨ha6, hb6⟩, ⟨⟨by rw [QlF _ (by omega), P67]; exact C3, by rw [QlF _ (by omega), P67]; exact C4⟩, by rw [y2i 189 (by decide) (by decide), k5, XA, PA 211 (by omega)]; exact o4, by rw [y2i 190 (by decide) (by decide), k6, XA, PA 212 (by omega)]; exact o5⟩, fun _ => ⟨ha1, hb1⟩, ⟨by rw [va_up_self, Q2o 193 (by omega), v3], fun c hc => ?_⟩, ⟨fun _ => by rw [y2i 187 (by decide) (by decide), k3]; decide +kernel, fun _ => hthj⟩, ?_⟩
            · rw [va_up_self] at hc
              obtain ⟨-, ⟨d1, d2, d3, d4⟩, ⟨d5, d6⟩, d7, d8⟩ := hfc c hc
              obtain ⟨e1, e2, e3, e4⟩ := C2 c _ (A2 c hc)
              refine ⟨(f c).1, (f c).2.1, (f c).2.2.1, (f c).2.2.2, ⟨d5, d6, d7, d8⟩, ⟨by rw [QlA _ (by omega), PA0]; exact e1, by rw [QlA _ (by omega), PA0]; exact e2, by rw [QlA _ (by omega), PA0]; exact e3, by rw [QlA _ (by omega), PA0]; exact e4⟩, ?_, ?_, ?_, ?_⟩
              · rw [Q194j (4 * c) (by omega)]; exact d1
              · rw [show 24 * i + 4 * c + 1 = 24 * i + (4 * c + 1) by omega, Q194j (4 * c + 1) (by omega)]; exact d2
              · rw [show 24 * i + 4 * c + 2 = 24 * i + (4 * c + 2) by omega, Q194j (4 * c + 2) (by omega)]; exact d3
              · rw [show 24 * i + 4 * c + 3 = 24 * i + (4 * c + 3) by omega, Q194j (4 * c + 3) (by omega)]; exact d4
            · rw [y2i 188 (by decide) (by decide), k4, idj]
              unfold moThr
              rw [sF_uF, va_up_ne _ _ (by decide), X186, c4]
          · exact (m3 i hi).c (va_up_ne _ _ u) (h6 i hi) (by rw [QlF _ (by omega), PF _ (by omega) (by omega) (by omega) (by omega)]) (fun q _ => by rw [QlF _ (by omega), PF _ (by omega) (by omega) (by omega) (by omega)]) (fun q q1 q4 => QA1 _ (by omega) (by omega)) (fun q hq => QA2 _ _ (by omega) (by omega) u) (fun q _ => Q194 _ (by omega))
        · by_cases u : i = j
          · subst u
            obtain ⟨t1, t2, t3, t4, t5⟩ := m4 i hi
            have h0 := t2 hnt
            refine ⟨fun _ => ⟨fun z => by omega, fun z => absurd (by rw [Q2o 191 (by omega), Y2o 191 (by omega), k7]; rfl) z⟩, (fun z => by rw [hthj] at z; cases z), ⟨by rw [QA1 195 (by omega) (by omega)]; exact t3.1, t3.2⟩, fun q hq => by rw [QA1 196 (by omega) (by omega), QA1 201 (by omega) (by omega)]; exact t4 q hq, fun z => by omega⟩
          · exact (m4 i hi).c (Nat.le_refl _) rfl rfl (hth i hi u) (QA2 _ _ (by omega) (by omega) u) (by rw [QA1 195 (by omega) (by omega)]) (fun q q1 q8 => QA1 _ (by omega) (by omega)) (fun o q o1 o2 _ => by rw [QA1 o (by omega) (by omega)]) (QA2 _ _ (by omega) (by omega) u)
        · rw [un]
          exact (m5 q hq).c (fun o o1 o2 => by rw [QA1 o (by omega) (by omega)])
        · exact m6.c (fun k _ => ⟨by rw [QA1 205 (by omega) (by omega)], by rw [QA1 206 (by omega) (by omega)]⟩)
        · -- an offcut that stays
          show rkQ Q2 (g (rmX k R q)) q
          have hq10 : rmX k R q < R := by have := rmX_is k R q; omega
          obtain ⟨tq, htq, etq⟩ := rkGl r1 (show rmX k R q < 10 by omega)
          obtain ⟨a', b', n', z1, ⟨z2, z3, z4⟩, ⟨z5, z6, z7⟩, z8⟩ := m7 _ hq10
          have gF : sF Q2 (g (rmX k R q)) = sF S (g (rmX k R q)) := by rw [QlF _ (by omega), PF _ (by omega) (by omega) (by omega) (by omega)]
          have gA : ∀ w, w ≤ 4 → sA Q2 (g (rmX k R q) + w) = sA S (g (rmX k R q) + w) := fun w hw => by rw [QlA _ (by omega), PA _ (by omega)]
          have oA : ∀ o, 211 ≤ o → o ≤ 213 → sA Q2 o q = sA S o (rmX k R q) := fun o h1 h2 => by
            rw [w1 o q h1 h2, Y214 o h1 (by omega)]
            rcases rmX_is k R q with ⟨y1, y2⟩ | ⟨y1, y2, y3⟩ | ⟨y1, y2, y3⟩ | ⟨y1, y2, y3⟩
            · rw [y2, if_neg (by omega)]
            · rw [y3, if_pos (by omega)]
            · omega
            · omega
          have oA4 : ∀ c, c < 24 → sA Q2 214 (24 * q + c) = sA S 214 (24 * rmX k R q + c) := fun c hc => by
            rw [w2, Y214 214 (by decide) (by decide)]
            rcases rmX_is k R q with ⟨y1, y2⟩ | ⟨y1, y2, y3⟩ | ⟨y1, y2, y3⟩ | ⟨y1, y2, y3⟩
            · rw [y2, if_neg (by omega)]
            · rw [y3, if_pos (by omega)]
              congr 1
              omega
            · omega
            · omega
          refine ⟨a', b', n', z1, ⟨by rw [gF]; exact z2, by rw [gF]; exact z3, by rw [gF]; exact z4⟩, ⟨by rw [oA 211 (by decide) (by decide)]; exact z5, by rw [oA 212 (by decide) (by decide)]; exact z6, by rw [oA 213 (by decide) (by decide)]; exact z7⟩, fun c hc => ?_⟩
          obtain ⟨x, y, u, v, f1, ⟨f2, f3, f4, f5⟩, f6, f7, f8, f9⟩ := z8 c hc
          refine ⟨x, y, u, v, f1, ⟨by rw [gA 1 (by omega)]; exact f2, by rw [gA 2 (by omega)]; exact f3, by rw [gA 3 (by omega)]; exact f4, by rw [gA 4 (by omega)]; exact f5⟩, ?_, ?_, ?_, ?_⟩
          · rw [oA4 (4 * c) (by omega)]; exact f6
          · rw [show 24 * q + 4 * c + 1 = 24 * q + (4 * c + 1) by omega, oA4 (4 * c + 1) (by omega)]; exact f7
          · rw [show 24 * q + 4 * c + 2 = 24 * q + (4 * c + 2) by omega, oA4 (4 * c + 2) (by omega)]; exact f8
          · rw [show 24 * q + 4 * c + 3 = 24 * q + (4 * c + 3) by omega, oA4 (4 * c + 3) (by omega)]; exact f9
        · exact rmX_inj hk (m8 _ _ (rmX_lt hk hR10 hq) (rmX_lt hk hR10 hq') z)
        · rw [lo.2.2.2.1, PN.1]; exact r3 q hq
        · rw [QA1 209 (by omega) (by omega), QA1 210 (by omega) (by omega)]; exact rz q hq
        · rw [lo.2.2.2.1, PN.1]; exact r4
        · rw [lo.2.2.2.1, PN.1]; omega
        · rw [lo.2.2.2.2, PN.2]; omega
      have hfX : fstN (fun s => decide (sA X 187 s = 0)) 8 = some j := by rw [XA, PA 187 (by omega), hfree, e]
      have hC : moUseC X R (nI k) = 0 := by
        unfold moUseC
        rw [if_neg (by rw [hb]; decide), if_neg]
        intro u
        have := full_iff.mp u
        rw [hfX] at this
        cases this
      have hq : moUse X R j (fun _ => n) (nI k) = (sF S 0 6, Q2) := by
        unfold moUse
        rw [hC, nI_clamp (by omega)]
        show (sF X 186 1, moUsM (moUs3 X R k j n) k (R - 1 - k)) = _
        rw [X186, c4, ← c3, hQ2, hY3, hY2, hY1]
        rfl
      refine op_ret (v := sF S 0 6) (q := moUse X R j (fun _ => n) (nI k)) hH rfl ?_ (by rw [hq]) (by rw [hq]; show sF Q2 186 0 = _; rw [QF, if_neg (by decide), if_neg (by decide), if_pos rfl]) ?_ ?_ ?_
      · show EX G m_Mo_use 19 0 _ [] (mk G B (uJ P 230 0 (sF S 0 6).toInt64)) _
        rw [← hw, ← hX]
        exact c_Mo_use1 (S := X) hG (by rw [X186]; exact c2) hR10 hk hC hfX ⟨by rw [XA, PA 213 (by omega)]; exact o6, hn6⟩
      · rw [hq]
        show sJ Q2 230 0 = _
        rw [QJ _ (by decide), hX, sJ_uJ, va_up_self, hw]
      · show B + 231 ≤ sN P
        rw [PN.1]; exact r4
      · rw [hq]; exact hL2
  · refine thr 11 1 (by unfold haUse; rw [if_pos hb]) (by unfold moUseC; rw [if_pos hb]) (by decide) rfl (by decide)
