/-! a node comes up: class and reference stay alike -/
section UP
variable {S : xS} {B N R E : Nat} {oa : Nat → Nat} {D : Nat → Nat → Int32} {rk g tn fl nc : Nat → Nat} {j i : Nat} {L : List nd} {σ : Nat → Nat} {v : nd}
theorem cut_is (h : sA S (72 + 15 * j + 1) i = nI v.1) (hk : v.1 ≤ 3) : trCut S (72 + 15 * j) i = isCut v := by
  unfold trCut isCut
  rw [h]
  congr 1
  · exact decide_eq_decide.mpr (nI_ez (by omega))
  · exact decide_eq_decide.mpr (nI_eq (by omega) (by decide))
theorem up_new (hk : (isCut v = true ∧ (v.1 = 0 ∨ v.1 = 1)) ∨ (isCut v = false ∧ (v.1 = 2 ∨ v.1 = 3))) : (if isCut v = true then nI 1 else nI 2) = nI (if isCut v = true then 1 else 2) ∧ (if nI v.1 < nI 2 then nI 1 else nI 2) = nI (if isCut v = true then 1 else 2) := by
  rcases hk with ⟨e, h⟩ | ⟨e, h⟩
  · rw [e]
    refine ⟨rfl, ?_⟩
    rw [if_pos ((nI_ltI (by omega) (by decide)).mpr (by omega))]; rfl
  · rw [e]
    refine ⟨rfl, ?_⟩
    rw [if_neg (fun z => by have := (nI_ltI (by omega) (by decide)).mp z; omega)]; rfl
theorem upR {P : xS} {n : Nat} (h1 : sA S (72 + 15 * j + 1) i = nI v.1) (h4 : sA S (72 + 15 * j + 4) i = nI v.2.2.2.1) (h5 : sA S (72 + 15 * j + 5) i = nI v.2.2.2.2.1) (g1 : sA P 196 n = nI v.1) (g4 : sA P 199 n = nI v.2.2.2.1) (g5 : sA P 200 n = nI v.2.2.2.2.1) : moArrR P n R = haLetR S R j i := by
  unfold moArrR haLetR haBig
  rw [h1, h4, h5, g1, g4, g5]
  by_cases z : nI v.1 = nI 2
  · rw [if_pos z, if_pos z]
  · rw [if_neg z, if_neg z]
    by_cases z3 : nI v.1 = nI 3
    · rw [if_pos z3]
      have hd : (decide (nI 300 ≤ nI v.2.2.2.1) && decide (nI 300 ≤ nI v.2.2.2.2.1)) = true ↔ nI 300 ≤ nI v.2.2.2.1 ∧ nI 300 ≤ nI v.2.2.2.2.1 := by rw [Bool.and_eq_true, decide_eq_true_eq, decide_eq_true_eq]
      by_cases q : nI 300 ≤ nI v.2.2.2.1 ∧ nI 300 ≤ nI v.2.2.2.2.1 ∧ R < 10
      · rw [if_pos q, if_pos ⟨z3, hd.mpr ⟨q.1, q.2.1⟩, q.2.2⟩]
      · rw [if_neg q, if_neg (fun u => q ⟨(hd.mp u.2.1).1, (hd.mp u.2.1).2, u.2.2⟩)]
    · rw [if_neg z3, if_neg (fun q => z3 q.1)]
set_option maxHeartbeats 2000000 in
theorem mM.lets (hI : haI S B N R oa D rk g tn fl) (hM : mM S N R E D rk g tn fl nc j L σ) (hj : j < 8) (hv : L[i]? = some v) (hb : (v.2.1 + v.2.2.2.1 ≤ 6000 ∧ v.2.2.1 + v.2.2.2.2.1 ≤ 6000) ∧ 1 ≤ v.2.2.2.1 ∧ 1 ≤ v.2.2.2.2.1) (hk : (isCut v = true ∧ (v.1 = 0 ∨ v.1 = 1)) ∨ (isCut v = false ∧ (v.1 = 2 ∨ v.1 = 3))) (hσ : σ i = 0 ∨ σ i = 1) :
    haI (moArr (haLet S oa D g R j (fl j) i) j (160 * j + i) R (fl j)) B N (haLetR S R j i) oa (haLetD S D j i) rk g tn fl ∧ mM (moArr (haLet S oa D g R j (fl j) i) j (160 * j + i) R (fl j)) N (haLetR S R j i) E (haLetD S D j i) rk g tn fl nc j L (va_up σ i (if isCut v = true then 1 else 2)) ∧ moArrR (haLet S oa D g R j (fl j) i) (160 * j + i) R = haLetR S R j i ∧
    (sN (moArr (haLet S oa D g R j (fl j) i) j (160 * j + i) R (fl j)) = sN S ∧ sL (moArr (haLet S oa D g R j (fl j) i) j (160 * j + i) R (fl j)) = sL S) ∧ (∀ k, k ≠ 27 → sF (moArr (haLet S oa D g R j (fl j) i) j (160 * j + i) R (fl j)) 186 k = sF S 186 k) ∧ sJ (moArr (haLet S oa D g R j (fl j) i) j (160 * j + i) R (fl j)) 230 = sJ S 230 ∧ sA (moArr (haLet S oa D g R j (fl j) i) j (160 * j + i) R (fl j)) 192 = sA S 192 := by
  have hgl : R < 10 → ∃ t, t < 10 ∧ g R = 7 + 5 * t := fun h => rkGl hI h
  have hgk : ∀ k, k < 10 → ∃ t, t < 10 ∧ g k = 7 + 5 * t := fun k h => rkGl hI h
  have hR10 : R ≤ 10 := hI.2.2.2.2.2.1.2
  have hN6 : N ≤ 6 := hI.2.1.2
  have hfl6 : ∀ q, q < 8 → fl q ≤ 6 := fun q hq => (hI.2.2.2.2.2.2.2.2.2.1 q hq).2
  have hmk := hI.2.2.2.2.2.2.2.2.2.2.2.1
  have hIP := haI_let (i := i) (m := fl j) hI hj
  obtain ⟨⟨⟨⟨c1, c2⟩, ⟨c3, c4⟩, c5, c6⟩, ⟨ar1, ar2, ar3, ar4⟩⟩, hsh, htr, ⟨⟨l1, l2, l3⟩, ⟨l4, l5, l6⟩, hnd⟩, hor, hso, ⟨hrq, hgi⟩, hz⟩ := hM
  have hi : i < tn j := by have := (List.getElem?_eq_some_iff.mp hv).1; omega
  have hIP := hIP hi
  have hx := hnd i v hv
  obtain ⟨⟨⟨a1, a2, a3⟩, ⟨a4, a5, a6⟩, a7, a8⟩, ⟨b1, b2, b3⟩, ⟨b4, b5, b6⟩, ⟨b7, b8⟩, b9⟩ := hx
  have hv3 : v.1 ≤ 3 := by rcases hk with ⟨-, z⟩ | ⟨-, z⟩ <;> omega
  obtain ⟨sg, hsg⟩ : ∃ s, s = if isCut v = true then 1 else 2 := ⟨_, rfl⟩
  obtain ⟨n1, n2⟩ := up_new hk
  rw [← hsg] at n1 n2
  obtain ⟨P, hP⟩ : ∃ Z, Z = haLet S oa D g R j (fl j) i := ⟨_, rfl⟩
  obtain ⟨PF, PA, P8, PJ, PN, PL⟩ := haLet_fr (S := S) (oa := oa) (D := D) (g := g) (R := R) (j := j) (m := fl j) (i := i) hj (fun h => by obtain ⟨t, ht, et⟩ := hgl h; omega)
  rw [← hP] at PF PA P8 PJ PN PL hIP
  have PhA : ∀ o, 186 ≤ o → sA P o = sA S o := fun o ho => PA o (by omega) (fun h => by obtain ⟨t, ht, et⟩ := hgl h; omega)
  have PhF : ∀ o, 186 ≤ o → sF P o = sF S o := fun o ho => PF o (by omega) (fun h => by obtain ⟨t, ht, et⟩ := hgl h; omega)
  have PhJ : ∀ o, 186 ≤ o → sJ P o = sJ S o := fun o ho => PJ o (by omega) (fun h => by obtain ⟨t, ht, et⟩ := hgl h; omega)
  have hRR : moArrR P (160 * j + i) R = haLetR S R j i := upR a1 a4 a5 (by rw [PhA 196 (by decide)]; exact b1) (by rw [PhA 199 (by decide)]; exact b4) (by rw [PhA 200 (by decide)]; exact b5)
  obtain ⟨Q, hQ⟩ : ∃ Z, Z = moArr P j (160 * j + i) R (fl j) := ⟨_, rfl⟩
  obtain ⟨QF, QF27, Q204, QJ⟩ := moArr_fr (S := P) (s := j) (n := 160 * j + i) (R := R) (fl := fl j)
  have QA : ∀ q, q ≠ 204 → q < 209 ∨ 215 ≤ q → sA Q q = sA P q := fun q q1 q2 => by rw [hQ]; exact moArr_A q1 q2
  have lo := moArr_lo (S := P) (s := j) (n := 160 * j + i) (R := R) (fl := fl j)
  rw [← hQ] at QF QF27 Q204 QJ lo
  rw [← hP, ← hQ]
  have hIQ := haI_lo lo hIP
  rw [cut_is a1 hv3, n1] at P8
  rw [PhA 196 (by decide), PhA 204 (by decide), b1, n2] at Q204
  have FQ : ∀ o, o ≠ 5 → o ≠ 186 → (R < 10 → o < g R ∨ g R + 5 ≤ o) → sF Q o = sF S o := fun o o5 o6 ho => by rw [QF o o6, PF o o5 ho]
  have AQ : ∀ o, o ≠ 72 + 15 * j + 8 → o ≠ 204 → o < 209 ∨ 215 ≤ o → (R < 10 → o < g R ∨ g R + 5 ≤ o) → sA Q o = sA S o := fun o o1 o2 o3 ho => by rw [QA o o2 o3, PA o o1 ho]
  have hfar : ∀ o, 57 ≤ o → R < 10 → o < g R ∨ g R + 5 ≤ o := fun o ho h => by obtain ⟨t, ht, et⟩ := hgl h; omega
  have Q8 : sA Q (72 + 15 * j + 8) = va_up (sA S (72 + 15 * j + 8)) i (nI sg) := by rw [QA _ (by omega) (by omega), P8]
  have Qth : ∀ q, q < 8 → thB Q q = thB S q := fun q hq => by unfold thB; rw [FQ _ (by omega) (by omega) (hfar _ (by omega))]
  have Q6 : ∀ k, k ≠ 27 → sF Q 186 k = sF S 186 k := fun k hk => by rw [QF27 k hk, PhF _ (by decide)]
  have Qsh : ∀ q, q < 8 → shQ Q fl q := fun q hq => (hsh q hq).c rfl (hfl6 q hq) (FQ _ (by omega) (by omega) (hfar _ (by omega))) (fun t _ => by rw [FQ _ (by omega) (by omega) (hfar _ (by omega))]) (fun t t1 t4 => AQ _ (by omega) (by omega) (by omega) (hfar _ (by omega))) (fun o ho => by rw [AQ o (by omega) (by omega) (by omega) (hfar _ (by omega))]) (fun t _ => by rw [AQ 194 (by omega) (by omega) (by omega) (hfar _ (by omega))])
  have Qtr : ∀ q, q < 8 → q ≠ j → trQ Q N tn nc q := fun q hq hqj => (htr q hq hqj).c (Nat.le_refl _) rfl rfl (Qth q hq) (by rw [AQ 191 (by omega) (by omega) (by omega) (hfar _ (by omega))]) (by rw [AQ 195 (by omega) (by omega) (by omega) (hfar _ (by omega))]) (fun t t1 t8 => AQ _ (by omega) (by omega) (by omega) (hfar _ (by omega))) (fun o t o1 o2 ht => by
    by_cases z : o = 204
    · subst z; rw [Q204, va_up_ne _ _ (by omega)]
    · rw [AQ o (by omega) z (by omega) (hfar _ (by omega))]) (by rw [AQ 192 (by omega) (by omega) (by omega) (hfar _ (by omega))])
  have Qnd : ∀ p u, L[p]? = some u → ndX Q j p u (va_up σ i sg p) := fun p u hu => by
    have hp : p < L.length := (List.getElem?_eq_some_iff.mp hu).1
    refine (hnd p u hu).c (fun t t1 t7 => by rw [AQ _ (by omega) (by omega) (by omega) (hfar _ (by omega))]) (fun o o1 o2 => by rw [AQ o (by omega) (by omega) (by omega) (hfar _ (by omega))]) ?_ ?_
    · rw [Q8]
      by_cases z : p = i
      · subst z; rw [va_up_self, va_up_self]
      · rw [va_up_ne _ _ z, va_up_ne _ _ z]; exact (hnd p u hu).1.2.2.2
    · rw [Q204]
      by_cases z : p = i
      · subst z; rw [va_up_self, va_up_self]
      · rw [va_up_ne _ _ (by omega), va_up_ne _ _ z]; exact (hnd p u hu).2.2.2.2
  have Qso : rkSorted Q N rk := hso.c (fun k _ => ⟨by rw [AQ 205 (by omega) (by omega) (by omega) (hfar _ (by omega))], by rw [AQ 206 (by omega) (by omega) (by omega) (hfar _ (by omega))]⟩)
  have hlen : sN Q = sN S ∧ sL Q = sL S := ⟨by rw [lo.2.2.2.1, PN], by rw [lo.2.2.2.2, PL]⟩
  have QJ230 : sJ Q 230 = sJ S 230 := by rw [QJ _ (by decide), PhJ _ (by decide)]
  have Q192 : sA Q 192 = sA S 192 := AQ 192 (by omega) (by omega) (by omega) (hfar _ (by omega))
  have u1 : ∀ q t, q < 8 → t = 1 ∨ t = 6 → sA Q (72 + 15 * q + t) = sA S (72 + 15 * q + t) := fun q t hq ht => AQ _ (by omega) (by omega) (by omega) (hfar _ (by omega))
  have u2 : ∀ q, q < 8 → q ≠ j → sA Q (72 + 15 * q + 8) = sA S (72 + 15 * q + 8) := fun q hq hqj => AQ _ (by omega) (by omega) (by omega) (hfar _ (by omega))
  -- what is left: areas, orders, offcuts
  suffices hs : arQ Q ∧ (∀ k, k < N → orQ Q (haLetD S D j i k) k (unA Q tn k)) ∧ (∀ k, k < haLetR S R j i → rkQ Q (g k) k) ∧ zQ Q N by
    refine ⟨hIQ, ⟨⟨⟨⟨by rw [Q6 _ (by decide)]; exact c1, ?_⟩, ⟨by rw [FQ 0 (by decide) (by decide) (fun h => by obtain ⟨t, ht, et⟩ := hgl h; omega)]; exact c3, by rw [Q6 _ (by decide)]; exact c4⟩, fun q hq hh => ?_, fun q q' hq hq' h1 h2 z => ?_⟩, hs.1⟩, Qsh, Qtr, ⟨⟨l1, l2, l3⟩, ⟨by rw [Qth j hj]; exact l4, by rw [AQ 191 (by omega) (by omega) (by omega) (hfar _ (by omega))]; exact l5, by rw [AQ 195 (by omega) (by omega) (by omega) (hfar _ (by omega))]; exact l6⟩, by rw [← hsg]; exact Qnd⟩, hs.2.1, Qso, ⟨hs.2.2.1, hgi⟩, hs.2.2.2⟩, hRR, hlen, Q6, QJ230, Q192⟩
    · rw [← hRR, hQ]
      exact moArr_R (by rw [PhF _ (by decide)]; exact c2)
    · rw [Qth q hq] at hh
      rw [FQ _ (by omega) (by omega) (hfar _ (by omega))]
      exact c5 q hq hh
    · rw [Qth q hq] at h1
      rw [Qth q' hq'] at h2
      rw [FQ _ (by omega) (by omega) (hfar _ (by omega)), FQ _ (by omega) (by omega) (hfar _ (by omega))] at z
      exact c6 q q' hq hq' h1 h2 z
  have harea : trSurf (haSt S j i) (72 + 15 * j) i = (nI v.2.2.2.1).toInt64 * (nI v.2.2.2.2.1).toInt64 := by
    unfold trSurf
    rw [haSt_A (by omega), haSt_A (by omega), a4, a5]
  have hareaM : moAr P (160 * j + i) = (nI v.2.2.2.1).toInt64 * (nI v.2.2.2.2.1).toInt64 := by
    unfold moAr
    rw [PhA 199 (by decide), PhA 200 (by decide), b4, b5]
  have hk2 : sA S (72 + 15 * j + 1) i = nI 2 ↔ v.1 = 2 := by rw [a1]; exact nI_eq (by omega) (by decide)
  have hk3 : sA S (72 + 15 * j + 1) i = nI 3 ↔ v.1 = 3 := by rw [a1]; exact nI_eq (by omega) (by decide)
  have hm2 : sA P 196 (160 * j + i) = nI 2 ↔ v.1 = 2 := by rw [PhA 196 (by decide), b1]; exact nI_eq (by omega) (by decide)
  have hm3 : sA P 196 (160 * j + i) = nI 3 ↔ v.1 = 3 := by rw [PhA 196 (by decide), b1]; exact nI_eq (by omega) (by decide)
  by_cases z2 : v.1 = 2
  · obtain ⟨x, hxN, ex⟩ := hmk j i hj hi (hk2.mpr z2)
    have hsg2 : sg = 2 := by
      rcases hk with ⟨-, z⟩ | ⟨z, -⟩
      · omega
      · rw [hsg, z]; rfl
    have e201 : sA P 201 (160 * j + i) = nI x := by rw [PhA 201 (by decide), b6, ← a6]; exact ex
    have hPd : P = haDone (haSt S j i) oa D j i := by rw [hP]; unfold haLet; rw [if_pos (hk2.mpr z2)]
    have hQd : Q = uJ (uA (uA (moA1 P (160 * j + i)) 209 x (sA P 209 x - nI 1)) 210 x (sA P 210 x + nI 1)) 186 32 (sJ P 186 32 + moAr P (160 * j + i)) := by
      rw [hQ]; unfold moArr; rw [if_pos (hm2.mpr z2), e201, nI_clamp (by omega)]
    have Q209 : sA Q 209 = va_up (sA S 209) x (sA S 209 x - nI 1) := by
      rw [hQd]
      show sA (uA (uA (moA1 P (160 * j + i)) 209 x (sA P 209 x - nI 1)) 210 x (sA P 210 x + nI 1)) 209 = _
      rw [sA_uAn _ _ _ (by decide), sA_uA, moA1_A (by decide), PhA 209 (by decide)]
    have Q210 : sA Q 210 = va_up (sA S 210) x (sA S 210 x + nI 1) := by
      rw [hQd]
      show sA (uA (uA (moA1 P (160 * j + i)) 209 x (sA P 209 x - nI 1)) 210 x (sA P 210 x + nI 1)) 210 = _
      rw [sA_uA, sA_uAn _ _ _ (by decide), moA1_A (by decide), PhA 210 (by decide)]
    have Qrk : ∀ o, 211 ≤ o → o ≤ 214 → sA Q o = sA S o := fun o o1 o2 => by
      rw [hQd]
      show sA (uA (uA (moA1 P (160 * j + i)) 209 x (sA P 209 x - nI 1)) 210 x (sA P 210 x + nI 1)) o = _
      rw [sA_uAn _ _ _ (by omega), sA_uAn _ _ _ (by omega), moA1_A (by omega), PhA o (by omega)]
    have hD : haLetD S D j i = bkD D x 4 5 := by unfold haLetD; rw [if_pos (hk2.mpr z2), ex, nI_clamp (by omega)]
    have hR' : haLetR S R j i = R := by unfold haLetR; rw [if_pos (hk2.mpr z2)]
    have PF' : sF P = sF S := by rw [hPd]; rfl
    have PA' : ∀ o, o ≠ 72 + 15 * j + 8 → sA P o = sA S o := fun o ho => by rw [hPd]; exact sA_uAn _ _ _ ho
    have hJ0 : sJ Q 0 = va_up (sJ S 0) 8 (sJ S 0 8 + (nI v.2.2.2.1).toInt64 * (nI v.2.2.2.2.1).toInt64) := by
      rw [QJ 0 (by decide), hPd]; unfold haDone
      rw [sJ_uJ, harea]; rfl
    have hJ6 : sJ Q 186 = va_up (sJ S 186) 32 (sJ S 186 32 + (nI v.2.2.2.1).toInt64 * (nI v.2.2.2.2.1).toInt64) := by
      rw [hQd, sJ_uJ, hareaM]
      show va_up (sJ P 186) 32 _ = _
      rw [PhJ 186 (by decide)]
    refine ⟨⟨?_, ?_, ?_, ?_⟩, fun k hkN => ?_, fun k hkR => ?_, fun k hkN => ?_⟩
    · rw [hJ0, hJ6, va_up_ne _ _ (by decide), va_up_ne _ _ (by decide)]; exact ar1
    · rw [hJ0, hJ6, va_up_self, va_up_self, ar2]
    · rw [hJ0, hJ6, va_up_ne _ _ (by decide), va_up_ne _ _ (by decide)]; exact ar3
    · rw [hJ0, hJ6, va_up_ne _ _ (by decide), va_up_ne _ _ (by decide)]; exact ar4
    · have hu := un_is2 (S := S) (Q := Q) (tn := tn) (k := k) hj u1 u2 Q8 hi (hk2.mpr z2) ex (by omega) (by omega) (by rw [hsg2]; decide +kernel) (by rw [a8]; rcases hσ with z | z <;> rw [z] <;> simp)
      rw [hD]
      by_cases z : k = x
      · subst z
        rw [if_pos rfl] at hu
        unfold bkD
        rw [va_up_self]
        have ho := hor k hkN
        rw [← hu] at ho
        exact ho.done rfl (by rw [Q209, va_up_self]) (by rw [Q210, va_up_self]) (fun t t1 t2 => by rw [AQ t (by omega) (by omega) (by omega) (hfar _ (by omega))])
      · rw [if_neg z, Nat.add_zero] at hu
        unfold bkD
        rw [va_up_ne _ _ z, hu]
        refine (hor k hkN).c (fun t t1 t2 => ?_)
        by_cases t9 : t = 209
        · subst t9; rw [Q209, va_up_ne _ _ z]
        · by_cases t10 : t = 210
          · subst t10; rw [Q210, va_up_ne _ _ z]
          · rw [AQ t (by omega) (by omega) (by omega) (hfar _ (by omega))]
    · rw [hR'] at hkR
      obtain ⟨t, ht, et⟩ := hgk k (by omega)
      refine (hrq k hkR).c (by rw [QF _ (by omega), PF']) (fun w w1 w4 => by rw [QA _ (by omega) (by omega), PA' _ (by omega)]) (fun o o1 o2 => by rw [Qrk o o1 (by omega)]) (fun w _ => by rw [Qrk 214 (by omega) (by omega)])
    · rw [Q209, Q210, va_up_ne _ _ (by omega), va_up_ne _ _ (by omega)]; exact hz k hkN
  · have n2' : sA S (72 + 15 * j + 1) i ≠ nI 2 := fun z => z2 (hk2.mp z)
    have hD : haLetD S D j i = D := by unfold haLetD; rw [if_neg n2']
    have hun : ∀ k, unA Q tn k = unA S tn k := fun k => un_not2 hj u1 u2 Q8 n2'
    have Q9 : sA Q 209 = sA S 209 ∧ sA Q 210 = sA S 210 := by
      rw [hQ]; unfold moArr
      rw [if_neg (fun z => z2 (hm2.mp z))]
      split
      · split
        · unfold moStore
          refine ⟨?_, ?_⟩
          · show sA (moStL (moA1 P (160 * j + i)) R (160 * j + i) j (fl j)).1 209 = _
            rw [((moStL_K (fl j)).1.1 209 (by omega)).2.1, moA1_A (by decide), PhA _ (by decide)]
          · show sA (moStL (moA1 P (160 * j + i)) R (160 * j + i) j (fl j)).1 210 = _
            rw [((moStL_K (fl j)).1.1 210 (by omega)).2.1, moA1_A (by decide), PhA _ (by decide)]
        · exact ⟨show sA (moA1 P (160 * j + i)) 209 = _ from (moA1_A (by decide)).trans (PhA _ (by decide)), show sA (moA1 P (160 * j + i)) 210 = _ from (moA1_A (by decide)).trans (PhA _ (by decide))⟩
      · exact ⟨(moA1_A (by decide)).trans (PhA _ (by decide)), (moA1_A (by decide)).trans (PhA _ (by decide))⟩
    have Qor : ∀ k, k < N → orQ Q (haLetD S D j i k) k (unA Q tn k) := fun k hkN => by
      rw [hD, hun]
      refine (hor k hkN).c (fun t t1 t2 => ?_)
      by_cases t9 : t = 209
      · subst t9; rw [Q9.1]
      · by_cases t10 : t = 210
        · subst t10; rw [Q9.2]
        · rw [AQ t (by omega) (by omega) (by omega) (hfar _ (by omega))]
    have Qz : zQ Q N := fun k hkN => by rw [Q9.1, Q9.2]; exact hz k hkN
    by_cases z3 : v.1 = 3
    · by_cases hbig : haBig S j i = true ∧ R < 10
      · have hR' : haLetR S R j i = R + 1 := by unfold haLetR; rw [if_neg n2', if_pos ⟨hk3.mpr z3, hbig⟩]
        obtain ⟨tR, htR, eR⟩ := hgl hbig.2
        have hPd : P = rkAdd (haSt S j i) g R (67 + 15 * j) (fl j) (nI v.2.1) (nI v.2.2.1) (nI v.2.2.2.1) (nI v.2.2.2.2.1) := by
          rw [hP]; unfold haLet; rw [if_neg n2', if_pos (hk3.mpr z3)]
          unfold haAway
          rw [haBig_St, if_pos hbig, haSt_A (by omega), haSt_A (by omega), haSt_A (by omega), haSt_A (by omega), a2, a3, a4, a5]
        have hbig2 : nI 300 ≤ sA P 199 (160 * j + i) ∧ nI 300 ≤ sA P 200 (160 * j + i) ∧ R < 10 := by
          have := hbig.1
          unfold haBig at this
          rw [a4, a5, Bool.and_eq_true, decide_eq_true_eq, decide_eq_true_eq] at this
          rw [PhA 199 (by decide), PhA 200 (by decide), b4, b5]
          exact ⟨this.1, this.2, hbig.2⟩
        have hQd : Q = moStore (moA1 P (160 * j + i)) R (160 * j + i) j (fl j) := by
          rw [hQ]; unfold moArr; rw [if_neg (fun z => z2 (hm2.mp z)), if_pos (hm3.mpr z3), if_pos hbig2]
        obtain ⟨w0, h0, s1, s2, s3, ⟨s4, s5⟩, s6, s7⟩ := hsh j hj
        obtain ⟨f, hf⟩ : ∃ f : Nat → qd, f = fun k => ((sA S (67 + 15 * j + 1) k).toNatClampNeg, (sA S (67 + 15 * j + 2) k).toNatClampNeg, (sA S (67 + 15 * j + 3) k).toNatClampNeg, (sA S (67 + 15 * j + 4) k).toNatClampNeg) := ⟨_, rfl⟩
        have hfc : ∀ k, k < fl j → (sA S (67 + 15 * j + 1) k = nI (f k).1 ∧ sA S (67 + 15 * j + 2) k = nI (f k).2.1 ∧ sA S (67 + 15 * j + 3) k = nI (f k).2.2.1 ∧ sA S (67 + 15 * j + 4) k = nI (f k).2.2.2) ∧ (sA S 194 (24 * j + 4 * k) = nI (f k).1 ∧ sA S 194 (24 * j + 4 * k + 1) = nI (f k).2.1 ∧ sA S 194 (24 * j + 4 * k + 2) = nI (f k).2.2.1 ∧ sA S 194 (24 * j + 4 * k + 3) = nI (f k).2.2.2) ∧ ((f k).1 + (f k).2.2.1 ≤ 6000 ∧ (f k).2.1 + (f k).2.2.2 ≤ 6000) ∧ 1 ≤ (f k).2.2.1 ∧ 1 ≤ (f k).2.2.2 := fun k hk => by
          obtain ⟨x, y, u, w, ⟨q1, q2, q3, q4⟩, ⟨e1, e2, e3, e4⟩, e5, e6, e7, e8⟩ := s5 k hk
          rw [hf]
          simp only []
          rw [e1, e2, e3, e4, nI_clamp (by omega), nI_clamp (by omega), nI_clamp (by omega), nI_clamp (by omega)]
          exact ⟨⟨rfl, rfl, rfl, rfl⟩, ⟨e5, e6, e7, e8⟩, ⟨by omega, by omega⟩, q3, q4⟩
        have hC := glPart_L (S := haSt S j i) (b := g R) (a := 67 + 15 * j) (x := v.2.1) (y := v.2.2.1) (w := v.2.2.2.1) (h := v.2.2.2.2.1) (m := fl j) (f := f) (by omega) (fun k hk => by
          rw [haSt_A (by omega), haSt_A (by omega), haSt_A (by omega), haSt_A (by omega)]; exact (hfc k hk).1) (fun k hk => (hfc k hk).2.2) hb.1 (hfl6 j hj) (fl j) (Nat.le_refl _)
        have hMo := moStL_L (S := moA1 P (160 * j + i)) (o := R) (n := 160 * j + i) (s := j) (x := v.2.1) (y := v.2.2.1) (w := v.2.2.2.1) (h := v.2.2.2.2.1) (m := fl j) (f := f) (fun k hk => by
          rw [moA1_A (by decide), PhA _ (by decide)]; exact (hfc k hk).2.1) (fun k hk => (hfc k hk).2.2) hb.1 hb.2 (by rw [moA1_A (by decide), moA1_A (by decide), moA1_A (by decide), moA1_A (by decide), PhA 197 (by decide), PhA 198 (by decide), PhA 199 (by decide), PhA 200 (by decide)]; exact ⟨b2, b3, b4, b5⟩) (fl j) (Nat.le_refl _)
        obtain ⟨K, K6, -⟩ := glPart_ok (S := haSt S j i) (b := g R) (a := 67 + 15 * j) (x := nI v.2.1) (y := nI v.2.2.1) (w := nI v.2.2.2.1) (h := nI v.2.2.2.2.1) (fl j)
        obtain ⟨KM, KM6, -, -⟩ := moStL_K (S := moA1 P (160 * j + i)) (o := R) (n := 160 * j + i) (s := j) (fl j)
        obtain ⟨M, hMd⟩ : ∃ M, M = moStL (moA1 P (160 * j + i)) R (160 * j + i) j (fl j) := ⟨_, rfl⟩
        obtain ⟨T, hT⟩ : ∃ T, T = glPart (haSt S j i) (g R) (67 + 15 * j) (nI v.2.1) (nI v.2.2.1) (nI v.2.2.2.1) (nI v.2.2.2.2.1) (fl j) := ⟨_, rfl⟩
        rw [← hMd] at hMo KM KM6
        rw [← hT] at hC K K6
        have PT : P = uF T.1 5 1 (nI (R + 1)) := by rw [hPd, hT]; rfl
        have QM : Q = uF M.1 186 27 (nI (R + 1)) := by rw [hQd, hMd]; rfl
        obtain ⟨A, hA⟩ : ∃ A, A = prt v.2.1 v.2.2.1 v.2.2.2.1 v.2.2.2.2.1 f (fl j) := ⟨_, rfl⟩
        rw [← hA] at hC hMo
        have hAl : A.length ≤ 6 := by rw [hA]; have := prt_len (x := v.2.1) (y := v.2.2.1) (w := v.2.2.2.1) (h := v.2.2.2.2.1) (f := f) (fl j); have := hfl6 j hj; omega
        have hAin : ∀ q ∈ A, (q.1 + q.2.2.1 ≤ v.2.2.2.1 ∧ q.2.1 + q.2.2.2 ≤ v.2.2.2.2.1) ∧ 1 ≤ q.2.2.1 ∧ 1 ≤ q.2.2.2 := by rw [hA]; exact prt_in _
        obtain ⟨C1, C2, C3, C4⟩ := hC
        obtain ⟨M1, M2, M3, M4⟩ := hMo
        have QMA : sA Q = sA M.1 := by rw [QM]; rfl
        refine ⟨⟨?_, ?_, ?_, ?_⟩, Qor, fun k hkR => ?_, Qz⟩
        · rw [QJ 0 (by decide), show sJ Q 186 = sJ S 186 by rw [QM]; show sJ M.1 186 = _; rw [hMd, (moStL_R _).2]; exact PhJ _ (by decide)]
          rw [show sJ P 0 = sJ S 0 by rw [PT]; exact (K.1 0 (by omega)).2.2.1]; exact ar1
        · rw [QJ 0 (by decide), show sJ Q 186 = sJ S 186 by rw [QM]; show sJ M.1 186 = _; rw [hMd, (moStL_R _).2]; exact PhJ _ (by decide)]
          rw [show sJ P 0 = sJ S 0 by rw [PT]; exact (K.1 0 (by omega)).2.2.1]; exact ar2
        · rw [QJ 0 (by decide), show sJ Q 186 = sJ S 186 by rw [QM]; show sJ M.1 186 = _; rw [hMd, (moStL_R _).2]; exact PhJ _ (by decide)]
          rw [show sJ P 0 = sJ S 0 by rw [PT]; exact (K.1 0 (by omega)).2.2.1]; exact ar3
        · rw [QJ 0 (by decide), show sJ Q 186 = sJ S 186 by rw [QM]; show sJ M.1 186 = _; rw [hMd, (moStL_R _).2]; exact PhJ _ (by decide)]
          rw [show sJ P 0 = sJ S 0 by rw [PT]; exact (K.1 0 (by omega)).2.2.1]; exact ar4
        · rw [hR'] at hkR
          by_cases z : k = R
          · subst z
            have lA : ∀ t, t ≤ 4 → sA Q (g k + t) = sA T.1 (g k + t) := fun t ht => by rw [QA _ (by omega) (by omega), PT]; rfl
            have lF : sF Q (g k) = sF T.1 (g k) := by rw [QF _ (by omega), PT, sF_uFn _ _ _ (by omega)]
            have hbg := hbig.1
            unfold haBig at hbg
            refine ⟨v.2.2.2.1, v.2.2.2.2.1, A.length, ⟨⟨hb.2.1, by omega⟩, ⟨hb.2.2, by omega⟩, hAl⟩, ⟨by rw [lF]; exact C3, by rw [lF]; exact C4, by rw [lF, K6, C1]⟩, ⟨by rw [QMA]; exact M3, by rw [QMA]; exact M4, by rw [QMA, KM6, M1]⟩, fun c hc => ?_⟩
            have hq : A[c]? = some (A[c]'hc) := List.getElem?_eq_getElem hc
            obtain ⟨⟨q1, q2⟩, q3, q4⟩ := hAin _ (List.mem_of_getElem? hq)
            obtain ⟨e1, e2, e3, e4⟩ := C2 c _ hq
            obtain ⟨e5, e6, e7, e8⟩ := M2 c _ hq
            refine ⟨_, _, _, _, ⟨q1, q2, q3, q4⟩, ⟨by rw [lA 1 (by omega)]; exact e1, by rw [lA 2 (by omega)]; exact e2, by rw [lA 3 (by omega)]; exact e3, by rw [lA 4 (by omega)]; exact e4⟩, by rw [QMA]; exact e5, by rw [QMA]; exact e6, by rw [QMA]; exact e7, by rw [QMA]; exact e8⟩
          · obtain ⟨t, ht, et⟩ := hgk k (by omega)
            have hne : g k ≠ g R := fun u => z (hgi k R (by omega) hbig.2 u)
            refine (hrq k (by omega)).c (FQ _ (by omega) (by omega) (fun _ => by omega)) (fun w w1 w4 => AQ _ (by omega) (by omega) (by omega) (fun _ => by omega)) (fun o o1 o2 => ?_) (fun w hw => ?_)
            · rw [QMA, hMd]
              exact (moStL_at (Or.inl ⟨o1, o2, z⟩) (fl j) (hfl6 j hj)).trans (by rw [moA1_A (by omega), PhA o (by omega)])
            · rw [QMA, hMd]
              exact (moStL_at (Or.inr ⟨rfl, by omega⟩) (fl j) (hfl6 j hj)).trans (by rw [moA1_A (by omega), PhA _ (by omega)])
      · have hR' : haLetR S R j i = R := by unfold haLetR; rw [if_neg n2', if_neg (fun q => hbig q.2)]
        have hPd : P = uJ (haSt S j i) 0 9 (sJ (haSt S j i) 0 9 + trSurf (haSt S j i) (72 + 15 * j) i) := by
          rw [hP]; unfold haLet; rw [if_neg n2', if_pos (hk3.mpr z3)]
          unfold haAway
          rw [haBig_St, if_neg hbig]
        have hbig2 : ¬ (nI 300 ≤ sA P 199 (160 * j + i) ∧ nI 300 ≤ sA P 200 (160 * j + i) ∧ R < 10) := fun q => by
          rw [PhA 199 (by decide), PhA 200 (by decide), b4, b5] at q
          refine hbig ⟨?_, q.2.2⟩
          unfold haBig
          rw [a4, a5, Bool.and_eq_true, decide_eq_true_eq, decide_eq_true_eq]
          exact ⟨q.1, q.2.1⟩
        have hQd : Q = uJ (moA1 P (160 * j + i)) 186 33 (sJ P 186 33 + moAr P (160 * j + i)) := by
          rw [hQ]; unfold moArr; rw [if_neg (fun z => z2 (hm2.mp z)), if_pos (hm3.mpr z3), if_neg hbig2]
        have hJ0 : sJ Q 0 = va_up (sJ S 0) 9 (sJ S 0 9 + (nI v.2.2.2.1).toInt64 * (nI v.2.2.2.2.1).toInt64) := by
          rw [QJ 0 (by decide), hPd, sJ_uJ, harea]; rfl
        have hJ6 : sJ Q 186 = va_up (sJ S 186) 33 (sJ S 186 33 + (nI v.2.2.2.1).toInt64 * (nI v.2.2.2.2.1).toInt64) := by
          rw [hQd, sJ_uJ, hareaM]
          show va_up (sJ P 186) 33 _ = _
          rw [PhJ 186 (by decide)]
        refine ⟨⟨?_, ?_, ?_, ?_⟩, Qor, fun k hkR => ?_, Qz⟩
        · rw [hJ0, hJ6, va_up_ne _ _ (by decide), va_up_ne _ _ (by decide)]; exact ar1
        · rw [hJ0, hJ6, va_up_ne _ _ (by decide), va_up_ne _ _ (by decide)]; exact ar2
        · rw [hJ0, hJ6, va_up_self, va_up_self, ar3]
        · rw [hJ0, hJ6, va_up_ne _ _ (by decide), va_up_ne _ _ (by decide)]; exact ar4
        · rw [hR'] at hkR
          obtain ⟨t, ht, et⟩ := hgk k (by omega)
          have qa : ∀ o, o ≠ 204 → sA Q o = sA P o := fun o ho => by rw [hQd]; exact moA1_A ho
          exact (hrq k hkR).c (by rw [QF _ (by omega), hPd]; rfl) (fun w w1 w4 => by rw [QA _ (by omega) (by omega), hPd]; exact haSt_A (by omega)) (fun o o1 o2 => by rw [qa o (by omega), PhA o (by omega)]) (fun w _ => by rw [qa 214 (by omega), PhA 214 (by omega)])
    · have hR' : haLetR S R j i = R := by unfold haLetR; rw [if_neg n2', if_neg (fun q => z3 (hk3.mp q.1))]
      have hPd : P = haSt S j i := by
        rw [hP]; unfold haLet; rw [if_neg n2', if_neg (fun q => z3 (hk3.mp q))]
      have hQd : Q = moA1 P (160 * j + i) := by
        rw [hQ]; unfold moArr; rw [if_neg (fun z => z2 (hm2.mp z)), if_neg (fun z => z3 (hm3.mp z))]
      have hJ0 : sJ Q = sJ S := by rw [hQd, hPd]; rfl
      refine ⟨⟨?_, ?_, ?_, ?_⟩, Qor, fun k hkR => ?_, Qz⟩
      · rw [hJ0]; exact ar1
      · rw [hJ0]; exact ar2
      · rw [hJ0]; exact ar3
      · rw [hJ0]; exact ar4
      · rw [hR'] at hkR
        obtain ⟨t, ht, et⟩ := hgk k (by omega)
        have qa : ∀ o, o ≠ 204 → sA Q o = sA P o := fun o ho => by rw [hQd]; exact moA1_A ho
        exact (hrq k hkR).c (by rw [QF _ (by omega), hPd]; rfl) (fun w w1 w4 => by rw [QA _ (by omega) (by omega), hPd]; exact haSt_A (by omega)) (fun o o1 o2 => by rw [qa o (by omega), PhA o (by omega)]) (fun w _ => by rw [qa 214 (by omega), PhA 214 (by omega)])
end UP
