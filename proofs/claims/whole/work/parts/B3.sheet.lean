/-! a sheet comes in -/
/-- the class's half is as it was -/
def loE (S S' : xS) : Prop := (∀ o, o < 186 → sF S' o = sF S o ∧ sA S' o = sA S o ∧ sJ S' o = sJ S o) ∧ sR S' = sR S ∧ sE S' = sE S ∧ sN S' = sN S ∧ sL S' = sL S
theorem loE.rf {S : xS} : loE S S := ⟨fun _ _ => ⟨rfl, rfl, rfl⟩, rfl, rfl, rfl, rfl⟩
theorem loE.trans {S S1 S2 : xS} (h : loE S S1) (k : loE S1 S2) : loE S S2 := ⟨fun o ho => ⟨(k.1 o ho).1.trans (h.1 o ho).1, (k.1 o ho).2.1.trans (h.1 o ho).2.1, (k.1 o ho).2.2.trans (h.1 o ho).2.2⟩, k.2.1.trans h.2.1, k.2.2.1.trans h.2.2.1, k.2.2.2.1.trans h.2.2.2.1, k.2.2.2.2.trans h.2.2.2.2⟩
theorem loE.F {S S1 : xS} {o k : Nat} {v : Int32} (h : loE S S1) (ho : 186 ≤ o) : loE S (uF S1 o k v) := ⟨fun q hq => ⟨by rw [sF_uFn _ _ _ (by omega)]; exact (h.1 q hq).1, (h.1 q hq).2.1, (h.1 q hq).2.2⟩, h.2⟩
theorem loE.A {S S1 : xS} {o k : Nat} {v : Int32} (h : loE S S1) (ho : 186 ≤ o) : loE S (uA S1 o k v) := ⟨fun q hq => ⟨(h.1 q hq).1, by rw [sA_uAn _ _ _ (by omega)]; exact (h.1 q hq).2.1, (h.1 q hq).2.2⟩, h.2⟩
theorem loE.J {S S1 : xS} {o k : Nat} {v : Int64} (h : loE S S1) (ho : 186 ≤ o) : loE S (uJ S1 o k v) := ⟨fun q hq => ⟨(h.1 q hq).1, (h.1 q hq).2.1, by rw [sJ_uJn _ _ _ (by omega)]; exact (h.1 q hq).2.2⟩, h.2⟩
theorem haI_lo {S S' : xS} {B N R : Nat} {oa : Nat → Nat} {D : Nat → Nat → Int32} {rk g tn fl : Nat → Nat} (hE : loE S S') (h : haI S B N R oa D rk g tn fl) : haI S' B N R oa D rk g tn fl := by
  have hg : ∀ k, k < 10 → ∃ t, t < 10 ∧ g k = 7 + 5 * t := fun k hk => rkGl h hk
  obtain ⟨hE1, eR, eE, eN, eL⟩ := hE
  have eF : ∀ o, o < 186 → sF S' o = sF S o := fun o ho => (hE1 o ho).1
  have eA : ∀ o, o < 186 → sA S' o = sA S o := fun o ho => (hE1 o ho).2.1
  obtain ⟨a1, a2, a3, a4, a5, a6, a7, a8, a9, a10, a11, a12, a13⟩ := h
  refine ⟨?_, ?_, ?_, a4, ?_, ?_, ?_, a8, fun k hk => ?_, fun k hk => ?_, fun k hk => ?_, fun j i hj hi => ?_, ?_⟩
  · intro j hj; rw [eR]; exact a1 j hj
  · rw [eF _ (by decide)]; exact a2
  · intro k hk
    obtain ⟨q1, q2, q3⟩ := a3 k hk
    exact ⟨by rw [eR]; exact q1, q2, by rw [eE]; exact q3⟩
  · intro q hq; rw [eA _ (by decide)]; exact a5 q hq
  · rw [eF _ (by decide)]; exact a6
  · intro k hk; rw [eR]; exact a7 k hk
  · rw [eF _ (by omega)]; exact a9 k hk
  · rw [eF _ (by omega)]; exact a10 k hk
  · obtain ⟨t', ht', et'⟩ := hg k hk
    rw [eF _ (by omega)]; exact a11 k hk
  · rw [eA _ (by omega), eA _ (by omega)]; exact a12 j i hj hi
  · rw [eF _ (by decide)]; exact a13
theorem haLen_N {w : Int32} (h : haLen w = true) : ∃ a, (1 ≤ a ∧ a ≤ 6000) ∧ w = nI a := by
  unfold haLen at h
  obtain ⟨h1, h2⟩ := (Bool.and_eq_true _ _).mp h
  have h1 := of_decide_eq_true h1
  have h2 := of_decide_eq_true h2
  have h0 : ¬ w < 0 := fun z => by
    have a := Int32.lt_iff_toInt_lt.mp z
    have b := Int32.le_iff_toInt_le.mp h1
    rw [nI_toInt (by decide)] at b
    have e : (0 : Int32).toInt = 0 := by decide +kernel
    omega
  obtain ⟨a, ha, rfl⟩ := nI_of h0
  exact ⟨a, ⟨(nI_leI (by decide) ha).mp h1, (nI_leI ha (by decide)).mp h2⟩, rfl⟩
theorem moMake_lo {S : xS} {s : Nat} {w h : Int32} : loE S (moMake S s w h) := by
  unfold moMake
  exact (((((((loE.rf.A (by decide)).A (by decide)).A (by decide)).A (by decide)).A (by decide)).A (by decide)).A (by decide)).F (by decide)
theorem moMake_A {S : xS} {s : Nat} {w h : Int32} : (∀ o, (o < 187 ∨ 193 < o) → sA (moMake S s w h) o = sA S o) ∧ (∀ o i, i ≠ s → sA (moMake S s w h) o i = sA S o i) ∧ (sA (moMake S s w h) 187 s = nI 1 ∧ sA (moMake S s w h) 188 s = sF S 186 1 ∧ sA (moMake S s w h) 189 s = w ∧ sA (moMake S s w h) 190 s = h ∧ sA (moMake S s w h) 191 s = nI 0 ∧ sA (moMake S s w h) 192 s = nI 0 ∧ sA (moMake S s w h) 193 s = nI 0) := by
  unfold moMake
  refine ⟨fun o ho => ?_, fun o i hi => ?_, ?_⟩
  · show sA (uA _ 193 _ _) o = _
    rw [sA_uAn _ _ _ (by omega), sA_uAn _ _ _ (by omega), sA_uAn _ _ _ (by omega), sA_uAn _ _ _ (by omega), sA_uAn _ _ _ (by omega), sA_uAn _ _ _ (by omega), sA_uAn _ _ _ (by omega)]
  · have e1 : ∀ (Z : xS) (u : Nat) (z : Int32), sA (uA Z u s z) o i = sA Z o i := fun Z u z => by
      by_cases e : o = u
      · subst e
        rw [sA_uA, va_up_ne _ _ hi]
      · rw [sA_uAn _ _ _ e]
    show sA (uA _ 193 _ _) o i = _
    rw [e1, e1, e1, e1, e1, e1, e1]
  · refine ⟨?_, ?_, ?_, ?_, ?_, ?_, ?_⟩ <;> simp [uA, uF, sA, sF, up2, va_up]
set_option maxHeartbeats 1000000 in
theorem op_sheet {G : xG} {S : xS} {B t N R E : Nat} {oa : Nat → Nat} {D : Nat → Nat → Int32} {rk g tn fl nc : Nat → Nat} (hG : xOkG G) (hc : B + 1000 ≤ gC G) (hs : 30000 ≤ gS G) (ht : t < 512) (h : liP S B t N R E oa D rk g tn fl nc) {w z : Int32} : opW G B t (liA B) S m_Ha_sheet m_Mo_sheet [.int w, .int z] [12, 13] := by
  have hH := c_Ha_sheet (d := 17) hG h.1 (h.rm hc hs ht) (w := w) (h := z)
  have hsn := h.2.2.2.1.1
  have hfree : fstN (fun s => decide (sA S 187 s = 0)) 8 = fstN (fun j => !thB S j) 8 := free_eq h.2.1.id
  have thr : ∀ (ce q : Nat), haSheet S w z = (.inr ce, S) → moSheetC S w z = q → ce ∈ [12, 13] → cdOf [12, 13] ce = q → q ≠ 0 ∧ q < 100 → opW G B t (liA B) S m_Ha_sheet m_Mo_sheet [.int w, .int z] [12, 13] := by
    intro ce q hp hC h1 h2 h3
    rw [hp] at hH
    refine op_thr (ce := ce) (k := q) hH rfl h1 h2 h3 ?_ hsn h.thrown
    have hs' : moSh S 8 ≠ 8 → fstN (fun s => decide (sA S 187 s = 0)) 8 = some ((fstN (fun s => decide (sA S 187 s = 0)) 8).getD 0) := fun u => by
      cases e : fstN (fun s => decide (sA S 187 s = 0)) 8 with
      | none => exact absurd (full_iff.mpr e) u
      | some s => rfl
    have hq : moSheet (uN S 6 (.inr (ce, []))) ((fstN (fun s => decide (sA S 187 s = 0)) 8).getD 0) w z = (0, moThr (uN S 6 (.inr (ce, []))) q) := by
      unfold moSheet
      show moP (moSheetC S w z) _ _ _ = _
      rw [hC]; exact if_neg h3.1
    rw [← hq]; exact c_Mo_sheet (S := uN S 6 (.inr (ce, []))) hG hs'
  by_cases hw : haLen w = true
  · by_cases hz : haLen z = true
    · cases e : fstN (fun j => !thB S j) 8 with
      | none =>
        refine thr 13 2 (by unfold haSheet; rw [if_neg (by rw [hw]; decide), if_neg (by rw [hz]; decide), e]) ?_ (by decide) rfl (by decide)
        unfold moSheetC
        rw [if_neg (by rw [hw]; decide), if_neg (by rw [hz]; decide), if_pos (full_iff.mpr (hfree.trans e))]
      | some j =>
        obtain ⟨hj, hnt, -⟩ := fstN_spec e
        have hnt : thB S j = false := by simpa using hnt
        obtain ⟨a, ⟨a1, a6⟩, rfl⟩ := haLen_N hw
        obtain ⟨b, ⟨b1, b6⟩, rfl⟩ := haLen_N hz
        obtain ⟨P, hP⟩ : ∃ P, P = haIn (uJ (glBec S (67 + 15 * j) (nI a) (nI b)) 0 7 (sJ S 0 7 + glSurf (glBec S (67 + 15 * j) (nI a) (nI b)) (67 + 15 * j))) j := ⟨_, rfl⟩
        have hp : haSheet S (nI a) (nI b) = (rI (sF S 0 6), P) := by
          unfold haSheet; rw [if_neg (by rw [hw]; decide), if_neg (by rw [hz]; decide), e, hP]
        rw [hp] at hH
        obtain ⟨⟨⟨c1, c2⟩, ⟨c3, c4⟩, c5, c6⟩, m2, m3, m4, m5, m6, m7, m8⟩ := h.2.1
        obtain ⟨r1, r2, ⟨r3, rz⟩, ⟨r4, r5⟩, r6, r7⟩ := id h
        obtain ⟨Q2, hQ2⟩ : ∃ Q2, Q2 = moMake (uJ (moThr (uJ P 230 0 (sF S 0 6).toInt64) 0) 186 35 (sJ (uJ P 230 0 (sF S 0 6).toInt64) 186 35 + (nI a).toInt64 * (nI b).toInt64)) j (nI a) (nI b) := ⟨_, rfl⟩
        -- the class's half
        have PF : ∀ o, o ≠ 0 → o ≠ 66 + 15 * j → o ≠ 67 + 15 * j → sF P o = sF S o := fun o o1 o2 o3 => by
          rw [hP]; unfold haIn
          rw [sF_uFn _ _ _ o1, sF_uFn _ _ _ o2, sF_uFn _ _ _ o2]
          show sF (glBec S (67 + 15 * j) (nI a) (nI b)) o = _
          unfold glBec
          rw [sF_uFn _ _ _ o3, sF_uFn _ _ _ o3, sF_uFn _ _ _ o3]
        have P0 : ∀ k, k ≠ 6 → sF P 0 k = sF S 0 k := fun k hk => by
          rw [hP]; unfold haIn
          rw [sF_uF, va_up_ne _ _ hk, sF_uFn _ _ _ (by omega), sF_uFn _ _ _ (by omega)]
          show sF (glBec S (67 + 15 * j) (nI a) (nI b)) 0 k = _
          exact glBec_0
        have P06 : sF P 0 6 = nI (E + 1) := by
          rw [hP]; unfold haIn
          rw [sF_uF, va_up_self]
          show sF (glBec S (67 + 15 * j) (nI a) (nI b)) 0 6 + nI 1 = _
          rw [glBec_0, c3, nI_add]
        have P66 : sF P (66 + 15 * j) 2 = nI 1 ∧ sF P (66 + 15 * j) 3 = nI E := by
          rw [hP]; unfold haIn
          rw [sF_uFn _ _ _ (by omega), sF_uF, va_up_ne _ _ (by decide), sF_uF, va_up_self, va_up_self]
          refine ⟨rfl, ?_⟩
          show sF (glBec S (67 + 15 * j) (nI a) (nI b)) 0 6 = _
          rw [glBec_0, c3]
        have P67 : sF P (67 + 15 * j) 4 = nI a ∧ sF P (67 + 15 * j) 5 = nI b := by
          rw [hP]; unfold haIn
          rw [sF_uFn _ _ _ (by omega), sF_uFn _ _ _ (by omega), sF_uFn _ _ _ (by omega)]
          show sF (glBec S (67 + 15 * j) (nI a) (nI b)) (67 + 15 * j) 4 = nI a ∧ sF (glBec S (67 + 15 * j) (nI a) (nI b)) (67 + 15 * j) 5 = nI b
          unfold glBec
          refine ⟨?_, ?_⟩ <;> simp [uF, sF, up2, va_up]
        have PA : sA P = sA S := by rw [hP]; rfl
        have PJ : sJ P 0 7 = sJ S 0 7 + (nI a).toInt64 * (nI b).toInt64 := by
          rw [hP]
          show sJ (uJ _ 0 7 _) 0 7 = _
          rw [sJ_uJ, va_up_self]
          congr 1
          unfold glSurf glBec
          congr 1 <;> simp [uF, sF, up2, va_up]
        have PJ2 : ∀ o k, (o ≠ 0 ∨ k ≠ 7) → sJ P o k = sJ S o k := fun o k ok => by
          rw [hP]
          show sJ (uJ _ 0 7 _) o k = _
          by_cases z : o = 0
          · subst z
            rw [sJ_uJ, va_up_ne _ _ (by omega)]; rfl
          · rw [sJ_uJn _ _ _ z]; rfl
        have hIP : haI P B N R oa D rk g tn (va_up fl j 0) := by
          rw [hP]; exact haI_in (haI_J (haI_bec r1 hj)) hj
        -- both
        have lo : loE P Q2 := by
          rw [hQ2]
          exact (((loE.rf.J (by decide)).F (by decide)).J (by decide)).trans moMake_lo
        obtain ⟨k1, k2, k3, k4, k5, k6, k7, k8, k9⟩ := moMake_A (S := uJ (moThr (uJ P 230 0 (sF S 0 6).toInt64) 0) 186 35 (sJ (uJ P 230 0 (sF S 0 6).toInt64) 186 35 + (nI a).toInt64 * (nI b).toInt64)) (s := j) (w := nI a) (h := nI b)
        rw [← hQ2] at k1 k2 k3 k4 k5 k6 k7 k8 k9
        have QA1 : ∀ o, (o < 187 ∨ 193 < o) → sA Q2 o = sA S o := fun o ho => (k1 o ho).trans (by show sA P o = _; rw [PA])
        have QA2 : ∀ o i, i ≠ j → sA Q2 o i = sA S o i := fun o i hi => (k2 o i hi).trans (by show sA P o i = _; rw [PA])
        have S186 : ∀ k, sF P 186 k = sF S 186 k := fun k => by rw [PF 186 (by decide) (by omega) (by omega)]
        have QF : ∀ k, k ≠ 0 → k ≠ 1 → sF Q2 186 k = sF S 186 k := fun k q0 q1 => by
          rw [hQ2]; unfold moMake
          rw [sF_uF, va_up_ne _ _ q1]
          show sF (moThr (uJ P 230 0 (sF S 0 6).toInt64) 0) 186 k = _
          unfold moThr
          rw [sF_uF, va_up_ne _ _ q0]
          exact S186 k
        have QF1 : sF Q2 186 1 = nI (E + 1) := by
          rw [hQ2]; unfold moMake
          rw [sF_uF, va_up_self]
          show sF (moThr (uJ P 230 0 (sF S 0 6).toInt64) 0) 186 1 + nI 1 = _
          unfold moThr
          rw [sF_uF, va_up_ne _ _ (by decide)]
          show sF P 186 1 + nI 1 = _
          rw [S186, c4, nI_add]
        have QF0 : sF Q2 186 0 = nI 0 := by
          rw [hQ2]; unfold moMake
          rw [sF_uF, va_up_ne _ _ (by decide)]
          exact moThr_0 (S := uJ P 230 0 (sF S 0 6).toInt64)
        have QJ : ∀ k, sJ Q2 186 k = if k = 35 then sJ S 186 35 + (nI a).toInt64 * (nI b).toInt64 else sJ S 186 k := fun k => by
          rw [hQ2]
          show sJ (uJ (moThr (uJ P 230 0 (sF S 0 6).toInt64) 0) 186 35 _) 186 k = _
          have e9 : ∀ q, sJ (uJ P 230 0 (sF S 0 6).toInt64) 186 q = sJ S 186 q := fun q => by rw [sJ_uJn _ _ _ (by decide)]; exact PJ2 186 q (by omega)
          by_cases u : k = 35
          · subst u
            rw [sJ_uJ, va_up_self, if_pos rfl, e9]
          · rw [sJ_uJ, va_up_ne _ _ u, if_neg u]
            exact e9 k
        have hL2 : liA B (t + 1) Q2 := by
          have QlF : ∀ o, o < 186 → sF Q2 o = sF P o := fun o ho => (lo.1 o ho).1
          have QlJ : ∀ o, o < 186 → sJ Q2 o = sJ P o := fun o ho => (lo.1 o ho).2.2
          have hth : ∀ i, i < 8 → i ≠ j → thB Q2 i = thB S i := fun i hi hij => by
            unfold thB; rw [QlF _ (by omega), PF _ (by omega) (by omega) (by omega)]
          have hthj : thB Q2 j = true := by
            unfold thB; rw [QlF _ (by omega), P66.1]; decide +kernel
          have h6 : ∀ i, i < 8 → fl i ≤ 6 := fun i hi => (r1.2.2.2.2.2.2.2.2.2.1 i hi).2
          have un : ∀ k, unA Q2 tn k = unA S tn k := fun k => sumN_c (fun i hi => unJ_c rfl (fun q hq => QA1 _ (by omega)))
          refine ⟨N, R, E + 1, oa, D, rk, g, tn, va_up fl j 0, nc, haI_lo lo hIP, ⟨⟨⟨?_, ?_⟩, ⟨?_, QF1⟩, fun i hi hti => ?_, fun i i' hi hi' t1 t2 q => ?_⟩, ⟨?_, ?_, ?_, ?_⟩, fun i hi => ?_, fun i hi => ?_, fun k hk => ?_, ?_, fun k hk => ?_, m8⟩, ⟨fun k hk => ?_, fun k hk => ?_⟩, ⟨?_, ?_⟩, ?_, by omega⟩
          · rw [QF _ (by decide) (by decide)]; exact c1
          · rw [QF _ (by decide) (by decide)]; exact c2
          · rw [QlF _ (by decide)]; exact P06
          · by_cases u : i = j
            · subst u
              exact ⟨E, by omega, by rw [QlF _ (by omega)]; exact P66.2⟩
            · rw [hth i hi u] at hti
              obtain ⟨e', h1, h2⟩ := c5 i hi hti
              exact ⟨e', by omega, by rw [QlF _ (by omega), PF _ (by omega) (by omega) (by omega)]; exact h2⟩
          · have idv : ∀ y, y < 8 → y ≠ j → thB Q2 y = true → ∃ e', e' < E ∧ sF Q2 (66 + 15 * y) 3 = nI e' := fun y hy hyj ty => by
              rw [hth y hy hyj] at ty
              obtain ⟨e', h1, h2⟩ := c5 y hy ty
              exact ⟨e', h1, by rw [QlF _ (by omega), PF _ (by omega) (by omega) (by omega)]; exact h2⟩
            have idj : sF Q2 (66 + 15 * j) 3 = nI E := by rw [QlF _ (by omega)]; exact P66.2
            by_cases u : i = j
            · by_cases u' : i' = j
              · omega
              · subst u
                obtain ⟨e', h1, h2⟩ := idv i' hi' u' t2
                rw [idj, h2] at q
                have := (nI_eq (by omega) (by omega)).mp q
                omega
            · by_cases u' : i' = j
              · subst u'
                obtain ⟨e', h1, h2⟩ := idv i hi u t1
                rw [idj, h2] at q
                have := (nI_eq (by omega) (by omega)).mp q
                omega
              · rw [hth i hi u] at t1
                rw [hth i' hi' u'] at t2
                rw [QlF _ (by omega), QlF _ (by omega), PF _ (by omega) (by omega) (by omega), PF _ (by omega) (by omega) (by omega)] at q
                exact c6 i i' hi hi' t1 t2 q
          · rw [QlJ _ (by decide), PJ, QJ, if_pos rfl, m2.1]
          · rw [QlJ _ (by decide), PJ2 _ _ (by omega), QJ, if_neg (by decide)]; exact m2.2.1
          · rw [QlJ _ (by decide), PJ2 _ _ (by omega), QJ, if_neg (by decide)]; exact m2.2.2.1
          · rw [QlJ _ (by decide), PJ2 _ _ (by omega), QJ, if_neg (by decide)]; exact m2.2.2.2
          · by_cases u : i = j
            · subst u
              refine ⟨a, b, ⟨a6, b6⟩, ⟨⟨by rw [QlF _ (by omega)]; exact P67.1, by rw [QlF _ (by omega)]; exact P67.2⟩, k5, k6⟩, fun _ => ⟨a1, b1⟩, ⟨by rw [k9, va_up_self], fun k hk => by rw [va_up_self] at hk; omega⟩, ⟨fun _ => by rw [k3]; decide +kernel, fun _ => hthj⟩, ?_⟩
              rw [k4, QlF _ (by omega), P66.2]
              show _ = sF (moThr (uJ P 230 0 (sF S 0 6).toInt64) 0) 186 1
              unfold moThr
              rw [sF_uF, va_up_ne _ _ (by decide)]
              show _ = sF P 186 1
              rw [S186, c4]
            · exact (m3 i hi).c (va_up_ne _ _ u) (h6 i hi) (by rw [QlF _ (by omega), PF _ (by omega) (by omega) (by omega)]) (fun q _ => by rw [QlF _ (by omega), PF _ (by omega) (by omega) (by omega)]) (fun q q1 q4 => QA1 _ (by omega)) (fun q _ => QA2 _ _ u) (fun q _ => by rw [QA1 194 (by omega)])
          · by_cases u : i = j
            · subst u
              obtain ⟨t1, t2, t3, t4, t5⟩ := m4 i hi
              have h0 := t2 hnt
              refine ⟨fun _ => ⟨fun z => by omega, fun z => absurd (by rw [k7]; rfl) z⟩, (fun z => by rw [hthj] at z; cases z), ⟨by rw [QA1 195 (by omega)]; exact t3.1, t3.2⟩, fun q hq => by rw [QA1 196 (by omega), QA1 201 (by omega)]; exact t4 q hq, fun z => by omega⟩
            · exact (m4 i hi).c (Nat.le_refl _) rfl rfl (hth i hi u) (QA2 _ _ u) (by rw [QA1 195 (by omega)]) (fun q q1 q8 => QA1 _ (by omega)) (fun o q o1 o2 _ => by rw [QA1 o (by omega)]) (QA2 _ _ u)
          · rw [un]
            exact (m5 k hk).c (fun o o1 o2 => by rw [QA1 o (by omega)])
          · exact m6.c (fun k _ => ⟨by rw [QA1 205 (by omega)], by rw [QA1 206 (by omega)]⟩)
          · obtain ⟨q, hq, eq⟩ := rkGl r1 (show k < 10 by have := r1.2.2.2.2.2.1.2; omega)
            exact (m7 k hk).c (by rw [QlF _ (by omega), PF _ (by omega) (by omega) (by omega)]) (fun q q1 q4 => QA1 _ (by omega)) (fun o o1 o2 => by rw [QA1 o (by omega)]) (fun i _ => by rw [QA1 214 (by omega)])
          · rw [lo.2.2.2.1, hP]; exact r3 k hk
          · rw [QA1 209 (by omega), QA1 210 (by omega)]; exact rz k hk
          · rw [lo.2.2.2.1, hP]; exact r4
          · rw [lo.2.2.2.1, hP]; show sN S ≤ _; omega
          · rw [lo.2.2.2.2, hP]; show sL S ≤ _; omega
        have hq : moSheet (uJ P 230 0 (sF S 0 6).toInt64) j (nI a) (nI b) = (sF S 0 6, Q2) := by
          have hC : moSheetC (uJ P 230 0 (sF S 0 6).toInt64) (nI a) (nI b) = 0 := by
            unfold moSheetC
            rw [if_neg (by rw [hw]; decide), if_neg (by rw [hz]; decide), if_neg]
            intro u
            have := full_iff.mp u
            have u2 : fstN (fun s => decide (sA (uJ P 230 0 (sF S 0 6).toInt64) 187 s = 0)) 8 = fstN (fun s => decide (sA S 187 s = 0)) 8 := by
              show fstN (fun s => decide (sA P 187 s = 0)) 8 = _; rw [PA]
            rw [u2, hfree, e] at this
            cases this
          unfold moSheet
          rw [hC, hQ2]
          show (sF P 186 1, _) = (sF S 0 6, _)
          rw [S186, c4, c3]
        refine op_ret (v := sF S 0 6) (q := moSheet (uJ P 230 0 (sF S 0 6).toInt64) j (nI a) (nI b)) hH rfl (c_Mo_sheet hG (fun _ => by show fstN (fun s => decide (sA P 187 s = 0)) 8 = _; rw [PA, hfree, e])) (by rw [hq]) (by rw [hq]; exact QF0) ?_ ?_ ?_
        · rw [hq, hQ2]
          show sJ (uJ (moThr (uJ P 230 0 (sF S 0 6).toInt64) 0) 186 35 _) 230 0 = _
          rw [sJ_uJn _ _ _ (by decide)]
          show sJ (uJ P 230 0 (sF S 0 6).toInt64) 230 0 = _
          rw [sJ_uJ, va_up_self]
        · show B + 231 ≤ sN P
          rw [hP]; exact r4
        · rw [hq]; exact hL2
    · have hz : haLen z = false := by cases q : haLen z with
        | true => exact absurd q hz
        | false => rfl
      exact thr 12 1 (by unfold haSheet; rw [if_neg (by rw [hw]; decide), if_pos hz]) (by unfold moSheetC; rw [if_neg (by rw [hw]; decide), if_pos hz]) (by decide) rfl (by decide)
  · have hw : haLen w = false := by cases q : haLen w with
      | true => exact absurd q hw
      | false => rfl
    exact thr 12 1 (by unfold haSheet; rw [if_pos hw]) (by unfold moSheetC; rw [if_pos hw]) (by decide) rfl (by decide)
