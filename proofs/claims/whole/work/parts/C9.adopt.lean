/-! a layout is taken up, on both sides -/
section AD
variable {S : xS} {B t N R E : Nat} {oa : Nat → Nat} {D : Nat → Nat → Int32} {rk g tn fl nc : Nat → Nat}
set_option maxHeartbeats 2000000 in
theorem liP.adopt (h : liP S B t N R E oa D rk g tn fl nc) {j : Nat} (hj : j < 8) (hth : thB S j = true) (h0 : tn j = 0) {C Z1 : xS} {Y : lY} {m W H : Nat} {v : Int64} (hC : kC S C) (hY : lyOf C Y m) (h57 : sF C 57 5 = nI m) (hm0 : 0 < m) (hm : m ≤ 36) (hO : ∀ i, i < m → yO Y i < N) (hF : lyF Y m W H) (hWH : (1 ≤ W ∧ W ≤ 6000) ∧ 1 ≤ H ∧ H ≤ 6000) (hw : sF S (67 + 15 * j) 4 = nI W ∧ sF S (67 + 15 * j) 5 = nI H)
    (hct : ∀ o, o < N → ∃ p, D o 3 = nI p ∧ p ≤ 6 ∧ nCt Y o m ≤ p) (hZ1 : kP (uJ (haAdo C oa D j m) 230 0 v) Z1) (hM : lyM Z1 Y m) (h36 : sF Z1 186 36 = nI m) :
    ∃ Z, moGA j m 161 (moA0 Z1 j) 0 1 Z ∧ moLI Z m N ∧ liA B (t + 1) (moAdF Z j m) ∧ sF (moAdF Z j m) 186 0 = sF Z1 186 0 ∧ sJ (moAdF Z j m) 230 0 = v ∧ sN (haAdo C oa D j m) = sN S := by
  obtain ⟨r1, ⟨⟨⟨c1, c2⟩, ⟨c3, c4⟩, c5, c6⟩, m2, m3, m4, m5, m6, m7, m8⟩, ⟨r3, rz⟩, ⟨r4, r5⟩, r6, r7⟩ := id h
  have hN6 : N ≤ 6 := r1.2.1.2
  have hR10 : R ≤ 10 := r1.2.2.2.2.2.1.2
  have hfl6 : ∀ q, q < 8 → fl q ≤ 6 := fun q hq => (r1.2.2.2.2.2.2.2.2.2.1 q hq).2
  have hgk : ∀ k, k < 10 → ∃ t, t < 10 ∧ g k = 7 + 5 * t := fun k h => rkGl r1 h
  obtain ⟨kc1, kc2, kc3, kc4, kc5, kc6⟩ := id hC
  obtain ⟨L, hLd⟩ : ∃ L, L = groA Y m W H := ⟨_, rfl⟩
  have hB := hF.1
  have hlen : L.length ≤ 145 := by rw [hLd]; exact hF.2.2.2.2
  have hnco : nCo Y m < 2 ^ 30 := by
    have hco : ∀ i, i ≤ m → nCo Y i ≤ 37 := by
      intro i
      induction i with
      | zero => intro _; simp [nCo, nRo]
      | succ i ih =>
        intro hi
        have := ih (by omega)
        have := (hB i (by omega)).2.2.1
        simp only [nCo]
        omega
    have := hco m (Nat.le_refl _)
    omega
  have hcols : (laCols C m).toNatClampNeg = nCo Y m := by rw [laCols_y hY hB m (Nat.le_refl _), nI_clamp (by omega)]
  have hrows : ∀ c, c < nCo Y m → (laRows C (nI c) m).toNatClampNeg = nRo Y c m := fun c hc => by
    have hro : ∀ i, i ≤ m → nRo Y c i ≤ 37 := by
      intro i
      induction i with
      | zero => intro _; simp [nCo, nRo]
      | succ i ih =>
        intro hi
        have := ih (by omega)
        have := (hB i (by omega)).2.2.2
        simp only [nRo]
        split <;> omega
    rw [laRows_y hY hB (by omega) m (Nat.le_refl _), nI_clamp (by have := hro m (Nat.le_refl _); omega)]
  obtain ⟨U, hU, hG⟩ := tGrow_S (S := C) (Y := Y) (m := m) (b := 72 + 15 * j) (w := W) (h := H) (K := nCo Y m) (k := fun c => (laRows C (nI c) m).toNatClampNeg) hrows hY hB hm (by omega) hnco hF.2.2.1 (by omega) (by omega) hF.2.2.2.1 hF.2.2.2.2
  have hgro : groG Y m W H (nCo Y m) 0 0 = L := by rw [hLd]; rfl
  rw [hgro] at hU hG
  obtain ⟨hK9, hU8, hUn, -⟩ := hU
  rw [Nat.zero_add] at hU8
  obtain ⟨T, hT⟩ : ∃ T, T = uA U (72 + 15 * j + 8) 0 (nI 1) := ⟨_, rfl⟩
  obtain ⟨f, hf⟩ : ∃ f : Nat → Option Nat, f = fun i => some (sA C 58 i).toNatClampNeg := ⟨_, rfl⟩
  have hfo : ∀ i, i < m → f i = some (yO Y i) := fun i hi => by
    rw [hf]
    show some (sA C 58 i).toNatClampNeg = _
    rw [(hY i hi).1, nI_clamp (by have := hO i hi; omega)]
  obtain ⟨P, hP⟩ : ∃ P, P = haAdo C oa D j m := ⟨_, rfl⟩
  have hPe : P = (bkSeq T oa D f 3 4 m).1 := by
    rw [hP]; unfold haAdo haAd
    rw [if_neg (by omega), hcols, (kc1 (67 + 15 * j) (by omega)).1, hw.1, hw.2, hG, hT, hf]
  rw [← hP] at hZ1
  have hIC : haI C B N R oa D rk g tn fl := haI_kC r1 hC ⟨m, hm, h57⟩
  have hKT : sK (72 + 15 * j) (72 + 15 * j + 9) C T := by
    rw [hT]
    exact ((sK.rf.F (by omega)).trans hK9).A (by omega)
  have hT8 : sF T (72 + 15 * j) 8 = nI L.length := by rw [hT]; exact hU8
  have TA : ∀ o, o ≠ 72 + 15 * j + 8 → sA T o = sA U o := fun o ho => by rw [hT, sA_uAn _ _ _ ho]
  -- the reference
  have e189 : sA Z1 189 j = nI W ∧ sA Z1 190 j = nI H := by
    obtain ⟨w', h', -, ⟨⟨q2, q3⟩, q4, q5⟩, -⟩ := m3 j hj
    have PA' : ∀ o, 186 ≤ o → sA P o = sA S o := fun o ho => by
      rw [hPe, (bkSeq_ok (S := T) (f := f) (i := 3) (j := 4) (haI_kC r1 hC ⟨m, hm, h57⟩ |> fun z => bkOk_K (b := 72 + 15 * j) hKT (by omega) z.2.2.1) r1.2.2.2.1 m (fun q x hq hx => by rw [hfo q hq] at hx; rw [← Option.some.inj hx]; exact hO q hq)).2.2.1, (hKT.1 o (by omega)).2.1]
      exact (kc1 o (by omega)).2
    rw [hZ1.1 189 (by omega), hZ1.1 190 (by omega)]
    show sA P 189 j = _ ∧ sA P 190 j = _
    rw [PA' 189 (by omega), PA' 190 (by omega), q4, q5, ← q2, ← q3]
    exact hw
  obtain ⟨Z, hGA, hrK, h195, h195n, hnd, hok⟩ := moGA_list (S := Z1) (s := j) (np := m) (w := W) (h := H) (Y := Y) hF hm (by omega) (by omega) (by omega) (by omega) hM h36 e189.1 e189.2
  rw [← hLd] at hrK h195 hnd hok
  have hMZ := hrK.ly hM
  have hMk : ∀ u ∈ L, u.1 = 2 → ∃ x, x < N ∧ u.2.2.2.2.2.1 = nI x := fun u hu h2 => by
    obtain ⟨i, hi, e⟩ := hok.2.2 u hu h2
    exact ⟨_, hO i hi, e⟩
  obtain ⟨ft, hft⟩ := hok.1
  have hlen0 := hok.2.1
  have hIT : haI T B N R oa D rk g (va_up tn j L.length) fl := by
    refine haI_tree hIC hj hKT hT8 hlen (fun i hi z => ?_)
    have hv : L[i]? = some (L[i]'hi) := List.getElem?_eq_getElem hi
    have hu := hUn i _ hv
    rw [Nat.zero_add] at hu
    rw [TA _ (by omega)] at z ⊢
    rw [hu.1.1] at z
    have k3 := (hft.at hv).1.1
    rw [hu.2.1.2.2]
    exact hMk _ (getElem_mem' hv) ((nI_eq (by omega) (by decide)).mp z)
  have hfN : ∀ q x, q < m → f q = some x → x < N := fun q x hq hx => by rw [hfo q hq] at hx; rw [← Option.some.inj hx]; exact hO q hq
  have hIP := haI_seq hIT (f := f) 3 4 m hfN
  obtain ⟨D', hD'⟩ : ∃ Z, Z = (bkSeq T oa D f 3 4 m).2 := ⟨_, rfl⟩
  rw [← hPe, ← hD'] at hIP
  obtain ⟨-, s1, s2, s3, s4, s5, s6⟩ := bkSeq_ok (f := f) (i := 3) (j := 4) hIT.2.2.1 hIT.2.2.2.1 m hfN
  rw [← hPe] at s1 s2 s3 s4 s5 s6
  have PF : ∀ o, (o < 57 ∨ 66 ≤ o) → (o < 72 + 15 * j ∨ 72 + 15 * j + 9 ≤ o) → sF P o = sF S o := fun o o1 o2 => by rw [s1, (hKT.1 o o2).1, (kc1 o o1).1]
  have PA : ∀ o, (o < 57 ∨ 66 ≤ o) → (o < 72 + 15 * j ∨ 72 + 15 * j + 9 ≤ o) → sA P o = sA S o := fun o o1 o2 => by rw [s2, (hKT.1 o o2).2.1, (kc1 o o1).2]
  have PJ : ∀ o, (o < 72 + 15 * j ∨ 72 + 15 * j + 9 ≤ o) → sJ P o = sJ S o := fun o o2 => by rw [s3, (hKT.1 o o2).2.2.1, kc2]
  have PN : sN P = sN S ∧ sL P = sL S := ⟨by rw [s5, hKT.2.2.1, kc5], by rw [s6, hKT.2.2.2, kc6]⟩
  obtain ⟨Q, hQ⟩ : ∃ Q, Q = moAdF Z j m := ⟨_, rfl⟩
  obtain ⟨f', hf'⟩ : ∃ f : Nat → Option Nat, f = fun i => some (sA Z 215 i).toNatClampNeg := ⟨_, rfl⟩
  have hfo' : ∀ i, i < m → f' i = some (yO Y i) := fun i hi => by
    rw [hf']
    show some (sA Z 215 i).toNatClampNeg = _
    rw [(hMZ i hi).1, nI_clamp (by have := hO i hi; omega)]
  have hQe : Q = moSeq (moAd1 Z j) f' 208 209 m := by rw [hQ, hf']; rfl
  obtain ⟨rk1, rk2, rk3, rk4, rk5, rk6, rk7⟩ := id hrK
  have hloZ : loE Z1 Z := ⟨fun o ho => ⟨funext fun k => rk2 o k (by omega), funext fun k => hrK.at (by omega) (by omega) (by omega), by rw [rk3]⟩, rk4, rk5, rk6, rk7⟩
  have hloA : loE Z (moAd1 Z j) := ((loE.rf.A (by decide)).A (by decide)).A (by decide)
  have lo : loE P Q := by
    rw [hQe]
    exact ((((loE.rf.J (by decide)).trans hZ1.lo).trans hloZ).trans hloA).trans (moSeq_lo (by decide) (by decide) m)
  have QlF : ∀ o, o < 186 → sF Q o = sF P o := fun o ho => (lo.1 o ho).1
  have QlA : ∀ o, o < 186 → sA Q o = sA P o := fun o ho => (lo.1 o ho).2.1
  have QlJ : ∀ o, o < 186 → sJ Q o = sJ P o := fun o ho => (lo.1 o ho).2.2
  have sFJ := moSeq_FJ (S := moAd1 Z j) (f := f') (a := 208) (b := 209) m
  have QF : ∀ k, k ≠ 0 → k ≠ 36 → k ≠ 43 → sF Q 186 k = sF S 186 k := fun k k0 k1 k2 => by
    rw [hQe, sFJ.1]
    show sF Z 186 k = _
    rw [rk2 186 k (by omega), hZ1.2.1 186 k (by omega)]
    show sF P 186 k = _
    rw [PF 186 (by omega) (by omega)]
  have QF0 : sF Q 186 0 = sF Z1 186 0 := by
    rw [hQe, sFJ.1]
    show sF Z 186 0 = _
    rw [rk2 186 0 (by omega)]
  have QJ : sJ Q = sJ (uJ P 230 0 v) := by
    rw [hQe, sFJ.2]
    show sJ Z = _
    rw [rk3, hZ1.2.2.1]
  have ZA : ∀ o p, 186 ≤ o → o < 215 → o ≠ 195 → ¬ (196 ≤ o ∧ o ≤ 204 ∧ 160 * j ≤ p ∧ p < 160 * j + L.length) → sA Z o p = sA S o p := fun o p o1 o2 o3 o4 => by
    rw [hrK.at (by omega) (by omega) o3, hZ1.1 o (by omega)]
    show sA P o p = _
    rw [PA o (by omega) (by omega)]
  have AA : ∀ o, o ≠ 204 → o ≠ 191 → o ≠ 192 → sA (moAd1 Z j) o = sA Z o := fun o o1 o2 o3 => by
    unfold moAd1
    rw [sA_uAn _ _ _ o3, sA_uAn _ _ _ o2, sA_uAn _ _ _ o1]
  have A204 : sA (moAd1 Z j) 204 = va_up (sA Z 204) (160 * j) (nI 1) := by
    unfold moAd1
    rw [sA_uAn _ _ _ (by decide), sA_uAn _ _ _ (by decide), sA_uA]
  have A191 : sA (moAd1 Z j) 191 = va_up (sA Z 191) j (nI 1) := by
    unfold moAd1
    rw [sA_uAn _ _ _ (by decide), sA_uA, sA_uAn _ _ _ (by decide)]
  have A192 : sA (moAd1 Z j) 192 = va_up (sA Z 192) j (nI 0) := by
    unfold moAd1
    rw [sA_uA, sA_uAn _ _ _ (by decide), sA_uAn _ _ _ (by decide)]
  have QM : ∀ o, o ≠ 208 → o ≠ 209 → sA Q o = sA (moAd1 Z j) o := fun o o1 o2 => by rw [hQe]; exact moSeq_A o1 o2 m
  have QA : ∀ o p, 186 ≤ o → o < 215 → o ≠ 191 → o ≠ 192 → o ≠ 195 → o ≠ 208 → o ≠ 209 → ¬ (196 ≤ o ∧ o ≤ 204 ∧ 160 * j ≤ p ∧ p < 160 * j + L.length) → sA Q o p = sA S o p := fun o p o1 o2 o3 o4 o5 o6 o7 o8 => by
    rw [QM o o6 o7]
    by_cases z : o = 204
    · subst z
      rw [A204, va_up_ne _ _ (by omega)]
      exact ZA 204 p (by omega) (by omega) (by omega) o8
    · rw [AA o z o3 o4]
      exact ZA o p o1 o2 o5 o8
  have Q191 : ∀ q, q ≠ j → sA Q 191 q = sA S 191 q ∧ sA Q 192 q = sA S 192 q ∧ sA Q 195 q = sA S 195 q := fun q hq => by
    rw [QM 191 (by decide) (by decide), QM 192 (by decide) (by decide), QM 195 (by decide) (by decide), A191, A192, AA 195 (by decide) (by decide) (by decide), va_up_ne _ _ hq, va_up_ne _ _ hq, h195n q hq, hZ1.1 195 (by omega)]
    refine ⟨ZA 191 q (by omega) (by omega) (by omega) (by omega), ZA 192 q (by omega) (by omega) (by omega) (by omega), ?_⟩
    show sA P 195 q = _
    rw [PA 195 (by omega) (by omega)]
  have lowA : ∀ o, o < 186 → (o < 57 ∨ 66 ≤ o) → (o < 72 + 15 * j ∨ 72 + 15 * j + 9 ≤ o) → sA Q o = sA S o := fun o o1 o2 o3 => by rw [QlA o o1, PA o o2 o3]
  have lowF : ∀ o, o < 186 → (o < 57 ∨ 66 ≤ o) → (o < 72 + 15 * j ∨ 72 + 15 * j + 9 ≤ o) → sF Q o = sF S o := fun o o1 o2 o3 => by rw [QlF o o1, PF o o2 o3]
  have hthq : ∀ q, q < 8 → thB Q q = thB S q := fun q hq => by unfold thB; rw [lowF _ (by omega) (by omega) (by omega)]
  -- the tree
  obtain ⟨σ, hσ⟩ : ∃ s : Nat → Nat, s = fun q => if q = 0 then 1 else 0 := ⟨_, rfl⟩
  have hnodes : ∀ i u, L[i]? = some u → ndX Q j i u (σ i) := fun i u hu => by
    have hil : i < L.length := (List.getElem?_eq_some_iff.mp hu).1
    have x1 := hUn i u hu
    rw [Nat.zero_add] at x1
    have x2 := hnd i u hu
    obtain ⟨⟨a1, a2, a3⟩, ⟨a4, a5, a6⟩, a7, a8⟩ := x1
    obtain ⟨⟨b1, b2, b3⟩, ⟨b4, b5, b6⟩, ⟨b7, b8⟩, b9⟩ := x2
    have cA : ∀ t, 1 ≤ t → t ≤ 7 → sA Q (72 + 15 * j + t) = sA U (72 + 15 * j + t) := fun t t1 t2 => by rw [QlA _ (by omega), s2, TA _ (by omega)]
    have mA : ∀ o, 196 ≤ o → o ≤ 203 → sA Q o = sA Z o := fun o o1 o2 => by rw [QM o (by omega) (by omega), AA o (by omega) (by omega) (by omega)]
    refine ⟨⟨⟨by rw [cA 1 (by omega) (by omega)]; exact a1, by rw [cA 2 (by omega) (by omega)]; exact a2, by rw [cA 3 (by omega) (by omega)]; exact a3⟩, ⟨by rw [cA 4 (by omega) (by omega)]; exact a4, by rw [cA 5 (by omega) (by omega)]; exact a5, by rw [cA 6 (by omega) (by omega)]; exact a6⟩, by rw [cA 7 (by omega) (by omega)]; exact a7, ?_⟩,
      ⟨by rw [mA 196 (by omega) (by omega)]; exact b1, by rw [mA 197 (by omega) (by omega)]; exact b2, by rw [mA 198 (by omega) (by omega)]; exact b3⟩, ⟨by rw [mA 199 (by omega) (by omega)]; exact b4, by rw [mA 200 (by omega) (by omega)]; exact b5, by rw [mA 201 (by omega) (by omega)]; exact b6⟩, ⟨by rw [mA 202 (by omega) (by omega)]; exact b7, by rw [mA 203 (by omega) (by omega)]; exact b8⟩, ?_⟩
    · rw [QlA _ (by omega), s2, hT, sA_uA, hσ]
      by_cases z : i = 0
      · subst z; rw [va_up_self]; rfl
      · rw [va_up_ne _ _ z, a8]
        show _ = nI (if i = 0 then 1 else 0)
        rw [if_neg z]
    · rw [QM 204 (by decide) (by decide), A204, hσ]
      by_cases z : i = 0
      · subst z; rw [Nat.add_zero, va_up_self]; rfl
      · rw [va_up_ne _ _ (by omega), b9]
        show _ = nI (if i = 0 then 1 else 0)
        rw [if_neg z]
  have hpc : ∀ o, o < N → pCt L o = nCt Y o m := fun o ho => by rw [hLd]; exact pCt_groA (by omega) (fun i hi => by have := hO i hi; omega)
  have hroot : ∀ i u, L[i]? = some u → σ i = 1 → u.1 ≠ 3 := fun i u hu hs h3 => by
    have hi0 : i = 0 := by
      rw [hσ] at hs
      simp only [] at hs
      by_cases z : i = 0
      · exact z
      · rw [if_neg z] at hs; cases hs
    subst hi0
    rcases hft.leaf hu with ⟨-, hL1, -, -⟩ | ⟨hc, -⟩
    · have h1 := hpc (yO Y 0) (hO 0 hm0)
      have hpos : 0 < nCt Y (yO Y 0) m := by
        have key : ∀ i, 1 ≤ i → 0 < nCt Y (yO Y 0) i := by
          intro i hi
          induction hi with
          | refl => simp [nCt]
          | step hi ih => simp only [nCt]; split <;> omega
        exact key m hm0
      rw [hL1] at h1
      have : pCt [u] (yO Y 0) = 0 := by
        unfold pCt
        simp [List.filter, h3]
      omega
    · unfold isCut at hc
      rcases (Bool.or_eq_true _ _).mp hc with y | y
      · rw [of_decide_eq_true y] at h3; cases h3
      · rw [of_decide_eq_true y] at h3; cases h3
  have hunj : ∀ k, k < N → unJ Q (va_up tn j L.length) k j = nCt Y k m := fun k hk => by
    rw [← hpc k hk, pCt_sum]
    unfold unJ
    rw [va_up_self]
    refine sumN_c (fun i hi => ?_)
    have hv : L[i]? = some (L[i]'hi) := List.getElem?_eq_getElem hi
    have hx := hnodes i _ hv
    unfold unI pI
    rw [hv]
    simp only []
    have k3 := (hft.at hv).1.1
    have hst : sA Q (72 + 15 * j + 8) i = nI 0 ∨ sA Q (72 + 15 * j + 8) i = nI 1 := by
      rw [hx.1.2.2.2, hσ]
      simp only []
      by_cases z : i = 0
      · rw [if_pos z]; exact Or.inr rfl
      · rw [if_neg z]; exact Or.inl rfl
    rw [hx.1.1.1, hx.1.2.1.2.2]
    by_cases z : (L[i]'hi).1 = 2 ∧ (L[i]'hi).2.2.2.2.2.1 = nI k
    · rw [if_pos z, if_pos ⟨by rw [z.1], z.2, hst⟩]
    · rw [if_neg z, if_neg (fun q => z ⟨(nI_eq (by omega) (by decide)).mp q.1, q.2.1⟩)]
  have hunA : ∀ k, k < N → unA Q (va_up tn j L.length) k = unA S tn k + nCt Y k m := fun k hk => by
    have e2 := sumN_up (f := unJ S tn k) (f' := unJ Q (va_up tn j L.length) k) (j := j) (n := 8) hj (fun q hq hqj => unJ_c (va_up_ne _ _ hqj) (fun w hw' => lowA _ (by omega) (by omega) (by omega)))
    have e3 := hunj k hk
    have e4 : unJ S tn k j = 0 := by unfold unJ; rw [h0]; rfl
    show sumN (unJ Q (va_up tn j L.length) k) 8 = sumN (unJ S tn k) 8 + _
    omega
  refine ⟨Z, hGA, fun i hi => ⟨⟨_, hO i hi, (hMZ i hi).1⟩, ⟨_, (hB i hi).2.2.1, (hMZ i hi).2.2.2.1⟩, ⟨_, (hB i hi).2.2.2, (hMZ i hi).2.2.2.2⟩⟩, ?_, by rw [← hQ]; exact QF0, by rw [← hQ, QJ, sJ_uJ, va_up_self], by rw [← hP]; exact PN.1⟩
  rw [← hQ]
  have hJ0 : sJ Q 0 = sJ S 0 := by rw [QlJ _ (by decide), PJ 0 (by omega)]
  have hJ6 : sJ Q 186 = sJ S 186 := by rw [QJ, sJ_uJn _ _ _ (by decide), PJ 186 (by omega)]
  refine ⟨N, R, E, oa, D', rk, g, va_up tn j L.length, fl, va_up nc j L.length, haI_lo lo hIP, ⟨⟨⟨by rw [QF _ (by decide) (by decide) (by decide)]; exact c1, by rw [QF _ (by decide) (by decide) (by decide)]; exact c2⟩, ⟨by rw [lowF 0 (by omega) (by omega) (by omega)]; exact c3, by rw [QF _ (by decide) (by decide) (by decide)]; exact c4⟩, fun q hq hti => ?_, fun q q' hq hq' t1 t2 z => ?_⟩, by rw [arQ, hJ0, hJ6]; exact m2, fun q hq => ?_, fun q hq => ?_, fun k hk => ?_, ?_, fun k hk => ?_, m8⟩, ⟨fun k hk => ?_, fun k hk => ?_⟩, ⟨?_, ?_⟩, ?_, by omega⟩
  · rw [hthq q hq] at hti
    rw [lowF _ (by omega) (by omega) (by omega)]; exact c5 q hq hti
  · rw [hthq q hq] at t1
    rw [hthq q' hq'] at t2
    rw [lowF _ (by omega) (by omega) (by omega), lowF _ (by omega) (by omega) (by omega)] at z
    exact c6 q q' hq hq' t1 t2 z
  · exact (m3 q hq).c rfl (hfl6 q hq) (lowF _ (by omega) (by omega) (by omega)) (fun w _ => by rw [lowF _ (by omega) (by omega) (by omega)]) (fun w w1 w4 => lowA _ (by omega) (by omega) (by omega)) (fun w hw => QA w _ (by omega) (by omega) (by omega) (by omega) (by omega) (by omega) (by omega) (by omega)) (fun w _ => QA 194 _ (by omega) (by omega) (by omega) (by omega) (by omega) (by omega) (by omega) (by omega))
  · by_cases u : q = j
    · subst u
      have e195 : sA Q 195 q = nI L.length := by rw [QM 195 (by decide) (by decide), AA 195 (by decide) (by decide) (by decide)]; exact h195
      have e191 : ¬ sA Q 191 q = 0 := by rw [QM 191 (by decide) (by decide), A191, va_up_self]; decide +kernel
      refine ⟨fun _ => by rw [va_up_self]; exact ⟨fun _ => e191, fun _ => hlen0⟩, (fun z => by rw [hthq q hq, hth] at z; cases z), by rw [va_up_self]; exact ⟨e195, hlen⟩, fun i hi z => ?_, fun _ => ?_⟩
      · rw [va_up_self] at hi
        have hv : L[i]? = some (L[i]'hi) := List.getElem?_eq_getElem hi
        have hx := hnodes i _ hv
        rw [hx.2.1.1] at z
        have k3 := (hft.at hv).1.1
        rw [hx.2.2.1.2.2]
        exact hMk _ (getElem_mem' hv) ((nI_eq (by omega) (by decide)).mp z)
      · rw [va_up_self, va_up_self]
        refine ⟨rfl, L, σ, W, H, rfl, ⟨⟨by omega, by omega⟩, hroot⟩, ⟨ft, hft⟩, ⟨1, Or.inl ⟨by rw [hσ]; rfl, fun a a0 _ => by rw [hσ]; simp only []; rw [if_neg (by omega)]⟩⟩, ⟨0, hlen0, by rw [hσ]; rfl⟩, fun a => by rw [hσ]; simp only []; split <;> omega, hnodes, ?_⟩
        rw [QM 192 (by decide) (by decide), A192, va_up_self, hσ]
        exact ⟨fun _ => rfl, fun _ => rfl⟩
    · obtain ⟨y1, y2, y3⟩ := Q191 q u
      exact (m4 q hq).c (Nat.le_refl _) (va_up_ne _ _ u) (va_up_ne _ _ u) (hthq q hq) y1 y3 (fun w w1 w8 => lowA _ (by omega) (by omega) (by omega)) (fun o w o1 o2 hw => QA o _ (by omega) (by omega) (by omega) (by omega) (by omega) (by omega) (by omega) (by omega)) y2
  · rw [hunA k hk]
    obtain ⟨p, p1, p2, p3⟩ := hct k hk
    have hsc : seqC f k m = nCt Y k m := seqC_nCt m hfo
    have hsc' : seqC f' k m = nCt Y k m := seqC_nCt m hfo'
    obtain ⟨w', h', o', d', ⟨-, -, bo⟩, ⟨-, ⟨e3, e4, -⟩⟩, ⟨-, ⟨g3, g4, -⟩⟩, -⟩ := id (m5 k hk)
    have ep : o' = p := (nI_eq (by omega) (by omega)).mp (e3.symm.trans p1)
    subst ep
    obtain ⟨z1, z2, z3⟩ := bkSeq_N (S := T) (oa := oa) (D := D) (f := f) (i := 3) (j := 4) (x := k) (by decide) e3 e4 m (by rw [hsc]; exact p3)
    have zz : ∀ o, o = 208 ∨ o = 209 → sA (moAd1 Z j) o k = sA S o k := fun o ho => by
      rw [AA o (by omega) (by omega) (by omega)]
      exact ZA o k (by omega) (by omega) (by omega) (by omega)
    obtain ⟨w1, w2⟩ := moSeq_N (S := moAd1 Z j) (f := f') (a := 208) (b := 209) (x := k) (by decide) (by rw [zz 208 (Or.inl rfl)]; exact g3) (by rw [zz 209 (Or.inr rfl)]; exact g4) m (by rw [hsc']; exact p3)
    rw [hsc] at z1 z2
    rw [hsc'] at w1 w2
    rw [← hD'] at z1 z2 z3
    exact (m5 k hk).goes ⟨o', e3, p2, p3, z1, by rw [hQe]; exact w1⟩ z2 z3 (by rw [hQe]; exact w2) (fun a a1 a2 a3 a4 => QA a k (by omega) (by omega) (by omega) (by omega) (by omega) a3 a4 (by omega))
  · exact m6.c (fun k _ => ⟨QA 205 k (by omega) (by omega) (by omega) (by omega) (by omega) (by omega) (by omega) (by omega), QA 206 k (by omega) (by omega) (by omega) (by omega) (by omega) (by omega) (by omega) (by omega)⟩)
  · obtain ⟨t', ht', et'⟩ := hgk k (by omega)
    exact (m7 k hk).c (lowF _ (by omega) (by omega) (by omega)) (fun w w1 w4 => lowA _ (by omega) (by omega) (by omega)) (fun o o1 o2 => QA o _ (by omega) (by omega) (by omega) (by omega) (by omega) (by omega) (by omega) (by omega)) (fun w _ => QA 214 _ (by omega) (by omega) (by omega) (by omega) (by omega) (by omega) (by omega) (by omega))
  · rw [lo.2.2.2.1, PN.1]; exact r3 k hk
  · have hno : ∀ a, a < m → f' a ≠ some k := fun a ha z => by
      rw [hfo' a ha] at z
      have := hO a ha
      have := Option.some.inj z
      omega
    rw [QA 210 k (by omega) (by omega) (by omega) (by omega) (by omega) (by omega) (by omega) (by omega), hQe, moSeq_out m hno, AA 209 (by decide) (by decide) (by decide), ZA 209 k (by omega) (by omega) (by omega) (by omega)]
    exact rz k hk
  · rw [lo.2.2.2.1, PN.1]; exact r4
  · rw [lo.2.2.2.1, PN.1]; omega
  · rw [lo.2.2.2.2, PN.2]; omega
end AD
