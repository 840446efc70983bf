/-! a flaw is marked -/
theorem cmp_le {a b : Int64} : lg_cmp a b ≤ 0 ↔ a ≤ b := by
  unfold lg_cmp
  by_cases h : a > b
  · rw [if_pos h]
    exact ⟨fun z => absurd z (by decide +kernel), fun z => absurd (Int64.lt_of_lt_of_le h z) (fun q => Int64.lt_irrefl q)⟩
  · rw [if_neg h]
    refine ⟨fun _ => Int64.not_lt.mp h, fun _ => ?_⟩
    split <;> decide +kernel
theorem bm_id {n : Int} (h1 : -2147483648 ≤ n) (h2 : n < 2147483648) : n.bmod (2 ^ 32) = n := by
  have e : (2 : Nat) ^ 32 = 4294967296 := by decide +kernel
  rw [e]
  exact Int.bmod_eq_of_le (by omega) (by omega)
theorem sub_toInt {W b : Nat} (hW : W ≤ 6000) (hb : b < 2 ^ 31) : (nI W - nI b).toInt = (W : Int) - (b : Int) := by
  rw [Int32.toInt_sub, nI_toInt (by omega), nI_toInt hb]
  exact bm_id (by omega) (by omega)
theorem lies_eq {x l : Int32} {W : Nat} (hW : W ≤ 6000) (hl : nI 1 ≤ l) : haLies x l (nI W) = (decide (0 ≤ x) && decide (lg_cmp (x.toInt64 + l.toInt64) (nI W).toInt64 ≤ 0)) := by
  unfold haLies
  by_cases h0 : x < 0
  · rw [decide_eq_false (Int32.not_le.mpr h0), Bool.false_and, Bool.false_and]
  · obtain ⟨a, ha, rfl⟩ := nI_of h0
    have hl0 : ¬ l < 0 := fun z => by
      have p := Int32.lt_iff_toInt_lt.mp z
      have q := Int32.le_iff_toInt_le.mp hl
      rw [nI_toInt (by decide)] at q
      have e : (0 : Int32).toInt = 0 := by decide +kernel
      omega
    obtain ⟨b, hb, rfl⟩ := nI_of hl0
    congr 1
    apply decide_eq_decide.mpr
    rw [cmp_le, nI_l ha, nI_l hb, nI_l (by omega), lN_add, Int64.le_iff_toInt_le, show (lN (a + b)).toInt = ((a + b : Nat) : Int) from lg_ofNat_toInt (by omega), lN_toInt (by omega), Int32.le_iff_toInt_le, nI_toInt ha, sub_toInt hW hb]
    omega
theorem lies_N {x l : Int32} {W : Nat} (hW : W ≤ 6000) (hl : nI 1 ≤ l) (h : haLies x l (nI W) = true) : ∃ a b, x = nI a ∧ l = nI b ∧ a + b ≤ W ∧ 1 ≤ b := by
  rw [lies_eq hW hl] at h
  obtain ⟨h1, h2⟩ := (Bool.and_eq_true _ _).mp h
  have h1 := of_decide_eq_true h1
  have h2 := of_decide_eq_true h2
  obtain ⟨a, ha, rfl⟩ := nI_of (Int32.not_lt.mpr h1)
  have hl0 : ¬ l < 0 := fun z => by
    have p := Int32.lt_iff_toInt_lt.mp z
    have q := Int32.le_iff_toInt_le.mp hl
    rw [nI_toInt (by decide)] at q
    have e : (0 : Int32).toInt = 0 := by decide +kernel
    omega
  obtain ⟨b, hb, rfl⟩ := nI_of hl0
  rw [cmp_le, nI_l ha, nI_l hb, nI_l (by omega), lN_add, Int64.le_iff_toInt_le, show (lN (a + b)).toInt = ((a + b : Nat) : Int) from lg_ofNat_toInt (by omega), lN_toInt (by omega)] at h2
  exact ⟨a, b, rfl, rfl, by omega, (nI_leI (by decide) hb).mp hl⟩
theorem moPutFlaw_A {S : xS} {s n : Nat} {x y w h : Int32} : (∀ o, o ≠ 193 → o ≠ 194 → sA (moPutFlaw S s n x y w h) o = sA S o) ∧ (∀ i, i ≠ s → sA (moPutFlaw S s n x y w h) 193 i = sA S 193 i) ∧ (∀ i, (i < 24 * s + 4 * n ∨ 24 * s + 4 * n + 4 ≤ i) → sA (moPutFlaw S s n x y w h) 194 i = sA S 194 i) ∧ (sA (moPutFlaw S s n x y w h) 193 s = nI (n + 1) ∧ sA (moPutFlaw S s n x y w h) 194 (24 * s + 4 * n) = x ∧ sA (moPutFlaw S s n x y w h) 194 (24 * s + 4 * n + 1) = y ∧ sA (moPutFlaw S s n x y w h) 194 (24 * s + 4 * n + 2) = w ∧ sA (moPutFlaw S s n x y w h) 194 (24 * s + 4 * n + 3) = h) := by
  unfold moPutFlaw
  refine ⟨fun o h1 h2 => ?_, fun i hi => ?_, fun i hi => ?_, ?_⟩
  · rw [sA_uAn _ _ _ h1, sA_uAn _ _ _ h2, sA_uAn _ _ _ h2, sA_uAn _ _ _ h2, sA_uAn _ _ _ h2]
  · rw [sA_uA, va_up_ne _ _ hi, sA_uAn _ _ _ (by decide), sA_uAn _ _ _ (by decide), sA_uAn _ _ _ (by decide), sA_uAn _ _ _ (by decide)]
  · rw [sA_uAn _ _ _ (by decide), sA_uA, va_up_ne _ _ (by omega), sA_uA, va_up_ne _ _ (by omega), sA_uA, va_up_ne _ _ (by omega), sA_uA, va_up_ne _ _ (by omega)]
  · refine ⟨?_, ?_, ?_, ?_, ?_⟩
    · rw [sA_uA, va_up_self]
    · rw [sA_uAn _ _ _ (by decide), sA_uA, va_up_ne _ _ (by omega), sA_uA, va_up_ne _ _ (by omega), sA_uA, va_up_ne _ _ (by omega), sA_uA, va_up_self]
    · rw [sA_uAn _ _ _ (by decide), sA_uA, va_up_ne _ _ (by omega), sA_uA, va_up_ne _ _ (by omega), sA_uA, va_up_self]
    · rw [sA_uAn _ _ _ (by decide), sA_uA, va_up_ne _ _ (by omega), sA_uA, va_up_self]
    · rw [sA_uAn _ _ _ (by decide), sA_uA, va_up_self]
theorem moPutFlaw_lo {S : xS} {s n : Nat} {x y w h : Int32} : loE S (moPutFlaw S s n x y w h) := by
  unfold moPutFlaw
  exact ((((loE.rf.A (by decide)).A (by decide)).A (by decide)).A (by decide)).A (by decide)
theorem glFl_A {S : xS} {b n : Nat} {x y w h : Int32} : (∀ o, (o < b + 1 ∨ b + 4 < o) → sA (glFl S b n x y w h) o = sA S o) ∧ (∀ t i, i ≠ n → sA (glFl S b n x y w h) t i = sA S t i) ∧ (sA (glFl S b n x y w h) (b + 1) n = x ∧ sA (glFl S b n x y w h) (b + 2) n = y ∧ sA (glFl S b n x y w h) (b + 3) n = w ∧ sA (glFl S b n x y w h) (b + 4) n = h) := by
  unfold glFl
  refine ⟨fun o h1 => ?_, fun q i hi => ?_, ?_⟩
  · show sA (uA _ _ _ _) o = _
    rw [sA_uAn _ _ _ (by omega), sA_uAn _ _ _ (by omega), sA_uAn _ _ _ (by omega), sA_uAn _ _ _ (by omega)]
  · have e1 : ∀ (Z : xS) (u : Nat) (z : Int32), sA (uA Z u n z) q i = sA Z q i := fun Z u z => by
      by_cases e : q = u
      · subst e
        rw [sA_uA, va_up_ne _ _ hi]
      · rw [sA_uAn _ _ _ e]
    show sA (uA _ _ _ _) q i = _
    rw [e1, e1, e1, e1]
  · refine ⟨?_, ?_, ?_, ?_⟩ <;> simp [uA, uF, sA, sF, up2, va_up]
theorem moIn_w {S : xS} {s : Nat} {x y w z : Int32} (h : ¬ nI 1 ≤ w) : moIn S s x y w z = false := by
  unfold moIn; simp [h]
theorem moIn_z {S : xS} {s : Nat} {x y w z : Int32} (h : ¬ nI 1 ≤ z) : moIn S s x y w z = false := by
  unfold moIn; simp [h]
theorem moIn_eq {S : xS} {s W H : Nat} {x y w z : Int32} (hw : nI 1 ≤ w) (hz : nI 1 ≤ z) (hW : W ≤ 6000) (hH : H ≤ 6000) (e1 : sA S 189 s = nI W) (e2 : sA S 190 s = nI H) : moIn S s x y w z = (haLies x w (nI W) && haLies y z (nI H)) := by
  rw [lies_eq hW hw, lies_eq hH hz]
  unfold moIn
  rw [e1, e2, decide_eq_true hw, decide_eq_true hz]
  cases decide (0 ≤ x) <;> cases decide (0 ≤ y) <;> cases decide (lg_cmp (x.toInt64 + w.toInt64) (nI W).toInt64 ≤ 0) <;> rfl
set_option maxHeartbeats 1000000 in
theorem op_flaw {G : xG} {S : xS} {B t N R E : Nat} {oa : Nat → Nat} {D : Nat → Nat → Int32} {rk g tn fl nc : Nat → Nat} (hG : xOkG G) (hc : B + 1000 ≤ gC G) (hs : 30000 ≤ gS G) (ht : t < 512) (h : liP S B t N R E oa D rk g tn fl nc) {x a b w z : Int32} : opW G B t (liA B) S m_Ha_flaw m_Mo_flaw [.int x, .int a, .int b, .int w, .int z] [11, 12, 13] := by
  have hH := c_Ha_flaw (d := 17) hG h.1 (h.rm hc hs ht) (x := x) (a := a) (b := b) (w := w) (h := z)
  have hsn := h.2.2.2.1.1
  cases e : fstN (idB S x) 8 with
  | none =>
    have hp : haFlaw S tn fl x a b w z = (.inr 11, S) := by unfold haFlaw; rw [e]
    rw [hp] at hH
    refine op_thr (ce := 11) (k := 1) hH rfl (by decide) rfl (by decide) ?_ hsn h.thrown
    exact c_Mo_flawN hG ((h.2.1.new.find x).trans e)
  | some j =>
    obtain ⟨hj, hth⟩ := h.2.1.there e
    obtain ⟨r1, ⟨⟨⟨c1, c2⟩, ⟨c3, c4⟩, c5, c6⟩, m2, m3, m4, m5, m6, m7, m8⟩, ⟨r3, rz⟩, ⟨r4, r5⟩, r6, r7⟩ := id h
    have h6 : ∀ i, i < 8 → fl i ≤ 6 := fun i hi => (r1.2.2.2.2.2.2.2.2.2.1 i hi).2
    have h6j := h6 j hj
    obtain ⟨W, H, ⟨hW, hHH⟩, ⟨⟨q1, q2⟩, q3, q4⟩, q5, ⟨q6, q7⟩, q8, q9⟩ := m3 j hj
    have thr : ∀ (ce k : Nat), haFlaw S tn fl x a b w z = (.inr ce, S) → moFlawC S j a b w z = k → ce ∈ [11, 12, 13] → cdOf [11, 12, 13] ce = k → k ≠ 0 ∧ k < 100 → opW G B t (liA B) S m_Ha_flaw m_Mo_flaw [.int x, .int a, .int b, .int w, .int z] [11, 12, 13] := by
      intro ce k hp hC h1 h2 h3
      rw [hp] at hH
      refine op_thr (ce := ce) (k := k) hH rfl h1 h2 h3 ?_ hsn h.thrown
      have hq : moFlaw (uN S 6 (.inr (ce, []))) (some j) (fl j) a b w z = (0, moThr (uN S 6 (.inr (ce, []))) k) := by
        unfold moFlaw
        show moP (moFlawC S j a b w z) _ _ _ = _
        rw [hC]; exact if_neg h3.1
      rw [← hq]; exact c_Mo_flaw (S := uN S 6 (.inr (ce, []))) hG ((h.2.1.new.find x).trans e) q6 h6j
    have lt1 : ∀ u : Int32, u < nI 1 ↔ ¬ nI 1 ≤ u := fun u => Int32.not_le.symm
    by_cases hw : nI 1 ≤ w
    · by_cases hz : nI 1 ≤ z
      · have hin := moIn_eq (S := S) (s := j) (x := a) (y := b) hw hz hW hHH q3 q4
        cases l1 : haLies a w (nI W) with
        | false => exact thr 12 2 (by unfold haFlaw; rw [e]; simp only []; rw [if_neg (fun u => (lt1 w).mp u hw), if_neg (fun u => (lt1 z).mp u hz), q1, if_pos l1]) (by unfold moFlawC; rw [hin, l1]; rfl) (by decide) rfl (by decide)
        | true =>
          cases l2 : haLies b z (nI H) with
          | false => exact thr 12 2 (by unfold haFlaw; rw [e]; simp only []; rw [if_neg (fun u => (lt1 w).mp u hw), if_neg (fun u => (lt1 z).mp u hz), q1, if_neg (by rw [l1]; decide), q2, if_pos l2]) (by unfold moFlawC; rw [hin, l1, l2]; rfl) (by decide) rfl (by decide)
          | true =>
            have hinT : ¬ moIn S j a b w z = false := by rw [hin, l1, l2]; decide
            by_cases h0 : 0 < tn j
            · have h191 : ¬ sA S 191 j = 0 := (h.2.1.plan hj hth).mp h0
              exact thr 13 3 (by unfold haFlaw; rw [e]; simp only []; rw [if_neg (fun u => (lt1 w).mp u hw), if_neg (fun u => (lt1 z).mp u hz), q1, if_neg (by rw [l1]; decide), q2, if_neg (by rw [l2]; decide), if_pos h0]) (by unfold moFlawC; rw [if_neg hinT, if_pos h191]) (by decide) rfl (by decide)
            · have h191 : ¬ ¬ sA S 191 j = 0 := fun u => h0 ((h.2.1.plan hj hth).mpr u)
              by_cases hf : 6 ≤ fl j
              · exact thr 13 3 (by unfold haFlaw; rw [e]; simp only []; rw [if_neg (fun u => (lt1 w).mp u hw), if_neg (fun u => (lt1 z).mp u hz), q1, if_neg (by rw [l1]; decide), q2, if_neg (by rw [l2]; decide), if_neg h0, if_pos hf]) (by unfold moFlawC; rw [if_neg hinT, if_neg h191, q6, if_pos (by rw [show fl j = 6 by omega])]) (by decide) rfl (by decide)
              · obtain ⟨a', w', rfl, rfl, b1, b2⟩ := lies_N hW hw l1
                obtain ⟨b', z', rfl, rfl, b3, b4⟩ := lies_N hHH hz l2
                obtain ⟨P, hP⟩ : ∃ P, P = glFl S (67 + 15 * j) (fl j) (nI a') (nI b') (nI w') (nI z') := ⟨_, rfl⟩
                have hp : haFlaw S tn fl x (nI a') (nI b') (nI w') (nI z') = (rI (nI (fl j + 1)), P) := by
                  unfold haFlaw; rw [e]; simp only []
                  rw [if_neg (fun u => (lt1 _).mp u hw), if_neg (fun u => (lt1 _).mp u hz), q1, if_neg (by rw [l1]; decide), q2, if_neg (by rw [l2]; decide), if_neg h0, if_neg hf, hP]
                  unfold glAdd
                  rw [if_pos (by omega)]
                rw [hp] at hH
                obtain ⟨Q2, hQ2⟩ : ∃ Q2, Q2 = moPutFlaw (moThr (uJ P 230 0 (nI (fl j + 1)).toInt64) 0) j (fl j) (nI a') (nI b') (nI w') (nI z') := ⟨_, rfl⟩
                obtain ⟨g1, g2, g3, g4, g5, g6⟩ := glFl_A (S := S) (b := 67 + 15 * j) (n := fl j) (x := nI a') (y := nI b') (w := nI w') (h := nI z')
                rw [← hP] at g1 g2 g3 g4 g5 g6
                obtain ⟨k1, k2, k3, k4, k5, k6, k7, k8⟩ := moPutFlaw_A (S := moThr (uJ P 230 0 (nI (fl j + 1)).toInt64) 0) (s := j) (n := fl j) (x := nI a') (y := nI b') (w := nI w') (h := nI z')
                rw [← hQ2] at k1 k2 k3 k4 k5 k6 k7 k8
                have hIP : haI P B N R oa D rk g tn (va_up fl j (fl j + 1)) := by
                  have := haI_addF r1 hj (x := nI a') (y := nI b') (w := nI w') (z := nI z')
                  unfold glAdd glN at this
                  rw [if_pos (by omega), if_pos (by omega), ← hP] at this
                  exact this
                have lo : loE P Q2 := by
                  rw [hQ2]
                  exact ((loE.rf.J (by decide)).F (by decide)).trans moPutFlaw_lo
                have PF : ∀ o k, (o ≠ 67 + 15 * j ∨ k ≠ 6) → sF P o k = sF S o k := fun o k ok => by
                  rw [hP]; unfold glFl
                  by_cases u : o = 67 + 15 * j
                  · subst u
                    rw [sF_uF, va_up_ne _ _ (by omega)]; rfl
                  · rw [sF_uFn _ _ _ u]; rfl
                have QlF : ∀ o, o < 186 → sF Q2 o = sF P o := fun o ho => (lo.1 o ho).1
                have QlA : ∀ o, o < 186 → sA Q2 o = sA P o := fun o ho => (lo.1 o ho).2.1
                have QhF : ∀ k, k ≠ 0 → sF Q2 186 k = sF S 186 k := fun k hk => by
                  rw [hQ2]
                  show sF (moThr (uJ P 230 0 (nI (fl j + 1)).toInt64) 0) 186 k = _
                  unfold moThr
                  rw [sF_uF, va_up_ne _ _ hk]
                  exact PF 186 k (by omega)
                have QhA : ∀ o, 186 ≤ o → o ≠ 193 → o ≠ 194 → sA Q2 o = sA S o := fun o ho h1 h2 => (k1 o h1 h2).trans (g1 o (by omega))
                have Q193 : ∀ i, i ≠ j → sA Q2 193 i = sA S 193 i := fun i hi => (k2 i hi).trans (by show sA P 193 i = _; rw [g1 193 (by omega)])
                have Q194 : ∀ i, (i < 24 * j + 4 * fl j ∨ 24 * j + 4 * fl j + 4 ≤ i) → sA Q2 194 i = sA S 194 i := fun i hi => (k3 i hi).trans (by show sA P 194 i = _; rw [g1 194 (by omega)])
                have hth2 : ∀ i, i < 8 → thB Q2 i = thB S i := fun i hi => by
                  unfold thB; rw [QlF _ (by omega), PF _ _ (by omega)]
                have QA : ∀ o, o < 186 → (o < 68 + 15 * j ∨ 71 + 15 * j < o) → sA Q2 o = sA S o := fun o h1 h2 => (QlA o h1).trans (g1 o (by omega))
                have un : ∀ k, unA Q2 tn k = unA S tn k := fun k => sumN_c (fun i hi => unJ_c rfl (fun q hq => QA _ (by omega) (by omega)))
                have eq : ∀ o, o ≠ 67 + 15 * j → sF P o = sF S o := fun o ho => funext fun k => PF o k (Or.inl ho)
                have hL2 : liA B (t + 1) Q2 := by
                  refine ⟨N, R, E, oa, D, rk, g, tn, va_up fl j (fl j + 1), nc, haI_lo lo hIP, ⟨⟨⟨by rw [QhF _ (by decide)]; exact c1, by rw [QhF _ (by decide)]; exact c2⟩, ⟨by rw [QlF _ (by decide), PF _ _ (by omega)]; exact c3, by rw [QhF _ (by decide)]; exact c4⟩, fun i hi hti => ?_, fun i i' hi hi' t1 t2 q => ?_⟩, ?_, fun i hi => ?_, fun i hi => ?_, fun k hk => ?_, ?_, fun k hk => ?_, m8⟩, ⟨fun k hk => ?_, fun k hk => ?_⟩, ⟨?_, ?_⟩, ?_, by omega⟩
                  · rw [hth2 i hi] at hti
                    rw [QlF _ (by omega), PF _ _ (by omega)]; exact c5 i hi hti
                  · rw [hth2 i hi] at t1
                    rw [hth2 i' hi'] at t2
                    rw [QlF _ (by omega), QlF _ (by omega), PF _ _ (by omega), PF _ _ (by omega)] at q
                    exact c6 i i' hi hi' t1 t2 q
                  · have eJ : ∀ o k, o ≠ 230 → sJ Q2 o k = sJ S o k := fun o k ho => by
                      rw [hQ2]
                      show sJ (uJ P 230 0 (nI (fl j + 1)).toInt64) o k = _
                      rw [sJ_uJn _ _ _ ho, hP]; rfl
                    exact ⟨by rw [eJ _ _ (by decide), eJ _ _ (by decide)]; exact m2.1, by rw [eJ _ _ (by decide), eJ _ _ (by decide)]; exact m2.2.1, by rw [eJ _ _ (by decide), eJ _ _ (by decide)]; exact m2.2.2.1, by rw [eJ _ _ (by decide), eJ _ _ (by decide)]; exact m2.2.2.2⟩
                  · by_cases u : i = j
                    · subst u
                      refine ⟨W, H, ⟨hW, hHH⟩, ⟨⟨by rw [QlF _ (by omega), PF _ _ (by omega)]; exact q1, by rw [QlF _ (by omega), PF _ _ (by omega)]; exact q2⟩, by rw [QhA 189 (by decide) (by decide) (by decide)]; exact q3, by rw [QhA 190 (by decide) (by decide) (by decide)]; exact q4⟩, by rw [hth2 i hi]; exact q5, ⟨by rw [va_up_self]; exact k4, fun k hk => ?_⟩, by rw [hth2 i hi, QhA 187 (by decide) (by decide) (by decide)]; exact q8, by rw [QlF _ (by omega), PF _ _ (by omega), QhA 188 (by decide) (by decide) (by decide)]; exact q9⟩
                      rw [va_up_self] at hk
                      by_cases v : k = fl i
                      · subst v
                        exact ⟨a', b', w', z', ⟨b1, b3, b2, b4⟩, ⟨by rw [QlA _ (by omega)]; exact g3, by rw [QlA _ (by omega)]; exact g4, by rw [QlA _ (by omega)]; exact g5, by rw [QlA _ (by omega)]; exact g6⟩, k5, k6, k7, k8⟩
                      · exact (q7 k (by omega)).c (fun q q1 q4 => by rw [QlA _ (by omega)]; exact g2 _ _ v) (fun q hq => Q194 _ (by omega))
                    · exact (m3 i hi).c (va_up_ne _ _ u) (h6 i hi) (by rw [QlF _ (by omega), eq _ (by omega)]) (fun q _ => by rw [QlF _ (by omega), eq _ (by omega)]) (fun q q1 q4 => QA _ (by omega) (by omega)) (fun q hq => by
                        by_cases v : q = 193
                        · subst v; exact Q193 i u
                        · rw [QhA q (by omega) v (by omega)]) (fun q hq => Q194 _ (by omega))
                  · exact (m4 i hi).c (Nat.le_refl _) rfl rfl (hth2 i hi) (by rw [QhA 191 (by decide) (by decide) (by decide)]) (by rw [QhA 195 (by decide) (by decide) (by decide)]) (fun q q1 q8 => QA _ (by omega) (by omega)) (fun o q o1 o2 _ => by rw [QhA o (by omega) (by omega) (by omega)]) (by rw [QhA 192 (by decide) (by decide) (by decide)])
                  · rw [un]
                    exact (m5 k hk).c (fun o o1 o2 => by rw [QhA o (by omega) (by omega) (by omega)])
                  · exact m6.c (fun k _ => ⟨by rw [QhA 205 (by decide) (by decide) (by decide)], by rw [QhA 206 (by decide) (by decide) (by decide)]⟩)
                  · obtain ⟨q, hq, eqq⟩ := rkGl r1 (show k < 10 by have := r1.2.2.2.2.2.1.2; omega)
                    exact (m7 k hk).c (by rw [QlF _ (by omega), eq _ (by omega)]) (fun q q1 q4 => QA _ (by omega) (by omega)) (fun o o1 o2 => by rw [QhA o (by omega) (by omega) (by omega)]) (fun i _ => by rw [QhA 214 (by decide) (by decide) (by decide)])
                  · rw [lo.2.2.2.1, hP]; exact r3 k hk
                  · rw [QhA 209 (by decide) (by decide) (by decide), QhA 210 (by decide) (by decide) (by decide)]; exact rz k hk
                  · rw [lo.2.2.2.1, hP]; exact r4
                  · rw [lo.2.2.2.1, hP]; show sN S ≤ _; omega
                  · rw [lo.2.2.2.2, hP]; show sL S ≤ _; omega
                have hf1 : moFind (uJ P 230 0 (nI (fl j + 1)).toInt64) x 8 = some j := by
                  have e1 : sA (uJ P 230 0 (nI (fl j + 1)).toInt64) 187 = sA S 187 := g1 187 (by omega)
                  have e2 : sA (uJ P 230 0 (nI (fl j + 1)).toInt64) 188 = sA S 188 := g1 188 (by omega)
                  have key : ∀ m, moFind (uJ P 230 0 (nI (fl j + 1)).toInt64) x m = moFind S x m := by
                    intro m
                    induction m with
                    | zero => rfl
                    | succ m ih => simp only [moFind]; rw [ih, e1, e2]
                  rw [key]; exact (h.2.1.find x).trans e
                have hq : moFlaw (uJ P 230 0 (nI (fl j + 1)).toInt64) (some j) (fl j) (nI a') (nI b') (nI w') (nI z') = (nI (fl j + 1), Q2) := by
                  have hC : moFlawC (uJ P 230 0 (nI (fl j + 1)).toInt64) j (nI a') (nI b') (nI w') (nI z') = 0 := by
                    unfold moFlawC moIn
                    show (if (decide (nI 1 ≤ nI w') && decide (nI 1 ≤ nI z') && decide (0 ≤ nI a') && decide (0 ≤ nI b') && decide (lg_cmp ((nI a').toInt64 + (nI w').toInt64) (sA P 189 j).toInt64 ≤ 0) && decide (lg_cmp ((nI b').toInt64 + (nI z').toInt64) (sA P 190 j).toInt64 ≤ 0)) = false then 2 else if ¬ sA P 191 j = 0 then 3 else if sA P 193 j = nI 6 then 3 else 0) = 0
                    rw [g1 189 (by omega), g1 190 (by omega), g1 191 (by omega), g1 193 (by omega)]
                    rw [show (decide (nI 1 ≤ nI w') && decide (nI 1 ≤ nI z') && decide (0 ≤ nI a') && decide (0 ≤ nI b') && decide (lg_cmp ((nI a').toInt64 + (nI w').toInt64) (sA S 189 j).toInt64 ≤ 0) && decide (lg_cmp ((nI b').toInt64 + (nI z').toInt64) (sA S 190 j).toInt64 ≤ 0)) = moIn S j (nI a') (nI b') (nI w') (nI z') from rfl, if_neg hinT, if_neg h191, q6, if_neg (fun u => hf (by have := (nI_eq (by omega) (by omega)).mp u; omega))]
                  unfold moFlaw
                  simp only []
                  rw [hC, hQ2]; rfl
                refine op_ret (v := nI (fl j + 1)) (q := moFlaw (uJ P 230 0 (nI (fl j + 1)).toInt64) (some j) (fl j) (nI a') (nI b') (nI w') (nI z')) hH rfl (c_Mo_flaw (S := uJ P 230 0 (nI (fl j + 1)).toInt64) hG hf1 (by show sA P 193 j = _; rw [g1 193 (by omega)]; exact q6) h6j) (by rw [hq]) ?_ ?_ ?_ ?_
                · rw [hq, hQ2]
                  exact moThr_0 (S := uJ P 230 0 (nI (fl j + 1)).toInt64)
                · rw [hq, hQ2]
                  exact told_J (S := P) (k := 0)
                · show B + 231 ≤ sN P
                  rw [hP]; exact r4
                · rw [hq]; exact hL2
      · exact thr 12 2 (by unfold haFlaw; rw [e]; simp only []; rw [if_neg (fun u => (lt1 w).mp u hw), if_pos ((lt1 z).mpr hz)]) (by unfold moFlawC; rw [moIn_z hz]; rfl) (by decide) rfl (by decide)
    · exact thr 12 2 (by unfold haFlaw; rw [e]; simp only []; rw [if_pos ((lt1 w).mpr hw)]) (by unfold moFlawC; rw [moIn_w hw]; rfl) (by decide) rfl (by decide)
