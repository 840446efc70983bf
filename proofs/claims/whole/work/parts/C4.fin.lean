/-! a sheet that is empty goes, on both sides -/
section FI
variable {Z : xS} {B N R E : Nat} {oa : Nat → Nat} {D : Nat → Nat → Int32} {rk g tn fl nc : Nat → Nat} {j W H : Nat} {L : List nd} {σ : Nat → Nat}
set_option maxHeartbeats 1000000 in
theorem mM.fin (hI : haI Z B N R oa D rk g tn fl) (hM : mM Z N R E D rk g tn fl nc j L σ) (hj : j < 8) (hT : W ≤ 6000 ∧ H ≤ 6000) (hw3 : ∀ i v, L[i]? = some v → σ i = 1 → v.1 ≠ 3) (hi : ∃ f, isT f L 0 0 W H) (hs : ∃ f, tS f L σ 0) (s3 : ∀ i, σ i ≤ 3) (h192 : sA Z 192 j = 0 ↔ σ 0 = 1) (h0 : 0 < tn j) :
    ∃ tn', haI (uA (haClr Z j (tn j)) 187 j (bI (moLv Z j (nc j)))) B N R oa D rk g tn' fl ∧ mEq (uA (haClr Z j (tn j)) 187 j (bI (moLv Z j (nc j)))) N R E D rk g tn' fl nc ∧ zQ (uA (haClr Z j (tn j)) 187 j (bI (moLv Z j (nc j)))) N := by
  have hgk : ∀ k, k < 10 → ∃ t, t < 10 ∧ g k = 7 + 5 * t := fun k h => rkGl hI h
  have hR10 : R ≤ 10 := hI.2.2.2.2.2.1.2
  have hmk := hI.2.2.2.2.2.2.2.2.2.2.2.1
  have hfl6 : ∀ q, q < 8 → fl q ≤ 6 := fun q hq => (hI.2.2.2.2.2.2.2.2.2.1 q hq).2
  have hIP := haI_clr hI hj
  obtain ⟨⟨⟨⟨c1, c2⟩, ⟨c3, c4⟩, c5, c6⟩, ⟨ar1, ar2, ar3, ar4⟩⟩, hsh, htr, ⟨⟨l1, l2, l3⟩, ⟨l4, l5, l6⟩, hnd⟩, hor, hso, ⟨hrq, hgi⟩, hz⟩ := hM
  obtain ⟨tn', htn'⟩ : ∃ s : Nat → Nat, s = if fstN (trWaits Z (72 + 15 * j)) (tn j) = none then va_up tn j 0 else tn := ⟨_, rfl⟩
  rw [← htn'] at hIP
  obtain ⟨P, hP⟩ : ∃ P, P = haClr Z j (tn j) := ⟨_, rfl⟩
  obtain ⟨Q, hQ⟩ : ∃ Q, Q = uA P 187 j (bI (moLv Z j (nc j))) := ⟨_, rfl⟩
  rw [← hP] at hIP ⊢
  rw [← hQ]
  have PA : sA P = sA Z := by rw [hP]; unfold haClr; split <;> rfl
  have PJ : sJ P = sJ Z := by rw [hP]; unfold haClr; split <;> rfl
  have PF : ∀ o, o ≠ 72 + 15 * j → o ≠ 66 + 15 * j → sF P o = sF Z o := fun o o1 o2 => by
    rw [hP]; unfold haClr
    split
    · rw [sF_uFn _ _ _ o2, sF_uFn _ _ _ o1]
    · rfl
  have P66 : sF P (66 + 15 * j) 3 = sF Z (66 + 15 * j) 3 := by
    rw [hP]; unfold haClr
    split
    · rw [sF_uF, va_up_ne _ _ (by decide), sF_uFn _ _ _ (by omega)]
    · rfl
  have QF : sF Q = sF P := by rw [hQ]; rfl
  have QA : ∀ o, o ≠ 187 → sA Q o = sA Z o := fun o ho => by rw [hQ, sA_uAn _ _ _ ho, PA]
  have Q187 : ∀ q, q ≠ j → sA Q 187 q = sA Z 187 q := fun q hq => by rw [hQ, sA_uA, va_up_ne _ _ hq, PA]
  have Q187j : sA Q 187 j = bI (moLv Z j (nc j)) := by rw [hQ, sA_uA, va_up_self]
  have QJ : sJ Q = sJ Z := by rw [hQ]; exact PJ
  have hst : ∀ q, q < tn j → sA Z (72 + 15 * j + 8) q = nI (σ q) ∧ sA Z 204 (160 * j + q) = nI (σ q) := fun q hq => by
    have hvq : L[q]? = some (L[q]'(by omega)) := List.getElem?_eq_getElem (by omega)
    exact ⟨(hnd q _ hvq).1.2.2.2, (hnd q _ hvq).2.2.2.2⟩
  have hcl := fst_waits (S := Z) (b := 72 + 15 * j) (n := tn j) (fun q hq => (hst q hq).1) s3
  have hlv : moLv Z j (nc j) = true ↔ ∃ q, q < tn j ∧ σ q = 1 := by
    rw [lv_iff, l2]
    constructor
    · rintro ⟨q, hq, hh⟩
      rw [(hst q hq).2] at hh
      exact ⟨q, hq, (nI_eq (by have := s3 q; omega) (by decide)).mp hh⟩
    · rintro ⟨q, hq, hh⟩
      exact ⟨q, hq, by rw [(hst q hq).2, hh]⟩
  have hth2 : ∀ q, q < 8 → q ≠ j → thB Q q = thB Z q := fun q hq hqj => by
    unfold thB; rw [QF, PF _ (by omega) (by omega)]
  have Q3 : ∀ q, q < 8 → sF Q (66 + 15 * q) 3 = sF Z (66 + 15 * q) 3 := fun q hq => by
    rw [QF]
    by_cases z : q = j
    · subst z; exact P66
    · rw [PF _ (by omega) (by omega)]
  have hthj : thB Q j = moLv Z j (nc j) := by
    unfold thB
    rw [QF, hP]
    unfold haClr
    cases z : moLv Z j (nc j) with
    | true =>
      obtain ⟨q, hq, hh⟩ := hlv.mp z
      rw [if_neg (fun u => hcl.mp u q hq hh)]
      unfold thB at l4
      exact l4
    | false =>
      rw [if_pos (hcl.mpr (fun q hq hh => by rw [hlv.mpr ⟨q, hq, hh⟩] at z; cases z)), sF_uF, va_up_self]
      decide +kernel
  have tnq : ∀ q, q ≠ j → tn' q = tn q := fun q hq => by
    rw [htn']; split
    · exact va_up_ne _ _ hq
    · rfl
  have hun : ∀ k, unA Q tn' k = unA Z tn k := fun k => by
    unfold unA
    refine sumN_c (fun q hq => ?_)
    by_cases e : q = j
    · subst e
      by_cases z : fstN (trWaits Z (72 + 15 * q)) (tn q) = none
      · have z0 : unJ Z tn k q = 0 := by
          refine sumN_0 (fun p hp => ?_)
          unfold unI
          rw [if_neg]
          rintro ⟨-, -, w⟩
          rw [(hst p hp).1] at w
          have n1 := hcl.mp z
          obtain ⟨f, hs⟩ := hs
          have n0 := hs.over (fun p hp => by rw [Nat.zero_add]; exact n1 p (by omega)) p (by omega)
          rw [Nat.zero_add] at n0
          rcases w with w | w
          · exact n0 ((nI_eq (by have := s3 p; omega) (by decide)).mp w)
          · exact n1 p hp ((nI_eq (by have := s3 p; omega) (by decide)).mp w)
        rw [z0, htn', if_pos z]
        unfold unJ
        rw [va_up_self]; rfl
      · rw [htn', if_neg z]
        exact unJ_c rfl (fun t ht => QA _ (by omega))
    · exact unJ_c (tnq q e) (fun t ht => QA _ (by omega))
  refine ⟨tn', by rw [hQ]; exact haI_A hIP (by decide) (fun q hq => by omega), ⟨⟨⟨by rw [QF, PF _ (by omega) (by omega)]; exact c1, by rw [QF, PF _ (by omega) (by omega)]; exact c2⟩, ⟨by rw [QF, PF _ (by omega) (by omega)]; exact c3, by rw [QF, PF _ (by omega) (by omega)]; exact c4⟩, fun q hq hti => ?_, fun q q' hq hq' t1 t2 z => ?_⟩, by rw [arQ, QJ]; exact ⟨ar1, ar2, ar3, ar4⟩, fun q hq => ?_, fun q hq => ?_, fun k hk => ?_, ?_, fun k hk => ?_, hgi⟩, fun k hk => by rw [QA _ (by decide), QA _ (by decide)]; exact hz k hk⟩
  · rw [Q3 q hq]
    by_cases z : q = j
    · subst z; exact c5 q hq l4
    · rw [hth2 q hq z] at hti; exact c5 q hq hti
  · rw [Q3 q hq, Q3 q' hq'] at z
    have g1 : thB Z q = true := by
      by_cases w : q = j
      · subst w; exact l4
      · rw [hth2 q hq w] at t1; exact t1
    have g2 : thB Z q' = true := by
      by_cases w : q' = j
      · subst w; exact l4
      · rw [hth2 q' hq' w] at t2; exact t2
    exact c6 q q' hq hq' g1 g2 z
  · by_cases u : q = j
    · subst u
      obtain ⟨W', H', z1, ⟨⟨z2, z3⟩, z4, z5⟩, z6, ⟨z7, z8⟩, z9, z10⟩ := hsh q hq
      refine ⟨W', H', z1, ⟨⟨by rw [QF, PF _ (by omega) (by omega)]; exact z2, by rw [QF, PF _ (by omega) (by omega)]; exact z3⟩, by rw [QA 189 (by decide)]; exact z4, by rw [QA 190 (by decide)]; exact z5⟩, fun _ => z6 l4, ⟨by rw [QA 193 (by decide)]; exact z7, fun k hk => (z8 k hk).c (fun w w1 w4 => by rw [QA _ (by omega)]) (fun w hw' => by rw [QA 194 (by decide)])⟩, ?_, by rw [Q3 q hq, QA 188 (by decide)]; exact z10⟩
      rw [hthj, Q187j]
      cases moLv Z q (nc q) <;> decide +kernel
    · exact (hsh q hq).c rfl (hfl6 q hq) (by rw [QF, PF _ (by omega) (by omega)]) (fun w _ => by rw [QF, PF _ (by omega) (by omega)]) (fun w w1 w4 => QA _ (by omega)) (fun w hw' => by
        by_cases z : w = 187
        · subst z; exact Q187 q u
        · rw [QA w z]) (fun w hw' => by rw [QA 194 (by decide)])
  · by_cases u : q = j
    · subst u
      have h191' : ¬ sA Q 191 q = 0 := by rw [QA 191 (by decide)]; exact l5
      have hmM : ∀ a, a < nc q → sA Q 196 (160 * q + a) = nI 2 → ∃ x, x < N ∧ sA Q 201 (160 * q + a) = nI x := fun a ha => by
        rw [QA 196 (by decide), QA 201 (by decide)]
        have hva : L[a]? = some (L[a]'(by omega)) := List.getElem?_eq_getElem (by omega)
        obtain ⟨⟨⟨a1, a2, a3⟩, ⟨a4, a5, a6⟩, a7, a8⟩, ⟨b1, b2, b3⟩, ⟨b4, b5, b6⟩, -⟩ := hnd a _ hva
        intro hh
        obtain ⟨x, hx, ex⟩ := hmk q a hq (by omega) (by rw [a1, ← b1]; exact hh)
        exact ⟨x, hx, by rw [b6, ← a6]; exact ex⟩
      by_cases z : fstN (trWaits Z (72 + 15 * q)) (tn q) = none
      · have hf : moLv Z q (nc q) = false := by
          cases w : moLv Z q (nc q) with
          | false => rfl
          | true => obtain ⟨a, ha, hh⟩ := hlv.mp w; exact absurd hh (hcl.mp z a ha)
        have tz : tn' q = 0 := by rw [htn', if_pos z, va_up_self]
        exact ⟨(fun w => by rw [hthj, hf] at w; cases w), fun _ => tz, ⟨by rw [QA 195 (by decide)]; exact l6, by omega⟩, hmM, fun w => by omega⟩
      · have tz : tn' q = tn q := by rw [htn', if_neg z]
        have hex : ∃ a, a < tn q ∧ σ a = 1 := Classical.byContradiction fun w => z (hcl.mpr (fun a ha hh => w ⟨a, ha, hh⟩))
        refine ⟨fun _ => ⟨fun _ => h191', fun _ => by omega⟩, (fun w => by rw [hthj, hlv.mpr hex] at w; cases w), ⟨by rw [QA 195 (by decide)]; exact l6, by omega⟩, hmM, fun w => ⟨by rw [tz]; exact l2, ?_⟩⟩
        rw [tz]
        refine ⟨L, σ, W, H, l1, ⟨hT, hw3⟩, hi, hs, hex, s3, fun a va hva => ?_, by rw [QA 192 (by decide)]; exact h192⟩
        have zz := hnd a va hva
        refine zz.c (fun w w1 w7 => by rw [QA _ (by omega)]) (fun w w1 w2 => by rw [QA w (by omega)]) ?_ ?_
        · rw [QA _ (by omega)]; exact zz.1.2.2.2
        · rw [QA _ (by omega)]; exact zz.2.2.2.2
    · exact (htr q hq u).c (Nat.le_refl _) (tnq q u) rfl (hth2 q hq u) (by rw [QA 191 (by decide)]) (by rw [QA 195 (by decide)]) (fun w w1 w8 => QA _ (by omega)) (fun o w o1 o2 hw' => by rw [QA o (by omega)]) (by rw [QA 192 (by decide)])
  · rw [hun]
    exact (hor k hk).c (fun t t1 t2 => by rw [QA t (by omega)])
  · exact hso.c (fun k _ => ⟨by rw [QA 205 (by decide)], by rw [QA 206 (by decide)]⟩)
  · obtain ⟨t, ht, et⟩ := hgk k (by omega)
    exact (hrq k hk).c (by rw [QF, PF _ (by omega) (by omega)]) (fun w w1 w4 => QA _ (by omega)) (fun o o1 o2 => by rw [QA o (by omega)]) (fun w _ => by rw [QA 214 (by decide)])
end FI
