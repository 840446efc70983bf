/-! plan -/
theorem bkSeq_all {S : xS} {oa : Nat → Nat} {D : Nat → Nat → Int32} {f : Nat → Option Nat} {i j : Nat} : ∀ k, sF (bkSeq S oa D f i j k).1 = sF S ∧ sA (bkSeq S oa D f i j k).1 = sA S ∧ sJ (bkSeq S oa D f i j k).1 = sJ S
  | 0 => ⟨rfl, rfl, rfl⟩
  | k + 1 => by
    cases e : f k with
    | none => rw [bkSeq_n e]; exact bkSeq_all k
    | some y => rw [bkSeq_s e]; exact bkSeq_all k
theorem haAdo_hi {C : xS} {oa : Nat → Nat} {D : Nat → Nat → Int32} {j m : Nat} (hj : j < 8) : hiE C (haAdo C oa D j m) := by
  unfold haAdo haAd
  split
  · exact hiE.rf
  · intro o ho
    obtain ⟨h1, h2, h3⟩ := bkSeq_all (S := (tGrow C (72 + 15 * j) m (laCols C m).toNatClampNeg (fun c => (laRows C (nI c) m).toNatClampNeg) (sF C (67 + 15 * j) 4) (sF C (67 + 15 * j) 5)).1) (oa := oa) (D := D) (f := fun i => some (sA C 58 i).toNatClampNeg) (i := 3) (j := 4) m
    have k := (tGrow_ok (S := C) (b := 72 + 15 * j) (m := m) (K := (laCols C m).toNatClampNeg) (k := fun c => (laRows C (nI c) m).toNatClampNeg) (w := sF C (67 + 15 * j) 4) (h := sF C (67 + 15 * j) 5)).1.1 o (by omega)
    rw [h1, h2, h3]
    exact ⟨k.1, k.2.1, k.2.2.1⟩
theorem moTk_ok {S : xS} : ∀ i, (∀ o, o ≠ 220 → sA (moTk S i) o = sA S o) ∧ (∀ o, o < i → sA (moTk S i) 220 o = nI 0) ∧ sF (moTk S i) = sF (uF S 186 36 (nI 0)) ∧ sJ (moTk S i) = sJ S ∧ sR (moTk S i) = sR S ∧ sE (moTk S i) = sE S ∧ sN (moTk S i) = sN S ∧ sL (moTk S i) = sL S
  | 0 => ⟨fun _ _ => rfl, fun o ho => by omega, rfl, rfl, rfl, rfl, rfl, rfl⟩
  | i + 1 => by
    obtain ⟨h1, h2, h3⟩ := moTk_ok (S := S) i
    refine ⟨fun o ho => ?_, fun o ho => ?_, h3⟩
    · show sA (uA (moTk S i) 220 i (nI 0)) o = _
      rw [sA_uAn _ _ _ ho]; exact h1 o ho
    · show sA (uA (moTk S i) 220 i (nI 0)) 220 o = _
      rw [sA_uA]
      by_cases z : o = i
      · subst z; exact va_up_self _ _ _
      · rw [va_up_ne _ _ z]; exact h2 o (by omega)
set_option maxHeartbeats 2000000 in
theorem op_plan {G : xG} {S : xS} {B t N R E : Nat} {oa : Nat → Nat} {D : Nat → Nat → Int32} {rk g tn fl nc : Nat → Nat} (hG : xOkG G) (hc : B + 1000 ≤ gC G) (hs : 30000 ≤ gS G) (ht : t < 512) (h : liP S B t N R E oa D rk g tn fl nc) {x : Int32} : opW G B t (liA B) S m_Ha_plan m_Mo_plan [.int x] [11, 13] := by
  have hH := c_Ha_plan (d := 11) hG h.1 (h.rm hc hs ht) (x := x)
  have hsn := h.2.2.2.1.1
  obtain ⟨r1, hE, ⟨r3, rz⟩, ⟨r4, r5⟩, r6, r7⟩ := id h
  have hN6 : N ≤ 6 := r1.2.1.2
  cases e : fstN (idB S x) 8 with
  | none =>
    have hp : haPlan S N oa D rk tn fl x = (.inr 11, S) := by unfold haPlan; rw [e]
    rw [hp] at hH
    refine op_thr (ce := 11) (k := 1) hH rfl (by decide) rfl (by decide) ?_ hsn h.thrown
    exact c_Mo_planT (S := uN S 6 (.inr (11, []))) hG ((h.2.1.new (c := 6) (e := .inr (11, [])).find x).trans e)
  | some j =>
    obtain ⟨hj, hth⟩ := h.2.1.there e
    by_cases h0 : 0 < tn j
    · have h191 : ¬ sA S 191 j = 0 := (h.2.1.plan hj hth).mp h0
      have hp : haPlan S N oa D rk tn fl x = (.inr 13, S) := by unfold haPlan; rw [e]; exact if_pos h0
      rw [hp] at hH
      refine op_thr (ce := 13) (k := 2) hH rfl (by decide) rfl (by decide) ?_ hsn h.thrown
      exact c_Mo_planU (S := uN S 6 (.inr (13, []))) hG ((h.2.1.new (c := 6) (e := .inr (13, [])).find x).trans e) h191
    · have h191 : sA S 191 j = 0 := Classical.byContradiction fun z => by have := (h.2.1.plan hj hth).mpr z; omega
      obtain ⟨⟨⟨c1, c2⟩, ⟨c3, c4⟩, c5, c6⟩, m2, m3, m4, m5, m6, m7, m8⟩ := id hE
      have hfl6 := (r1.2.2.2.2.2.2.2.2.2.1 j hj).2
      obtain ⟨W, H, hWH, ⟨⟨w1, w2⟩, w3, w4⟩, w5, ⟨w6, w7⟩, -, -⟩ := m3 j hj
      have hW1 := w5 hth
      obtain ⟨C0, hC0⟩ : ∃ Z, Z = uF (uF S 57 5 (nI 0)) 63 4 (nI 0) := ⟨_, rfl⟩
      obtain ⟨F, hF⟩ : ∃ Z, Z = haFill S fl N D rk j := ⟨_, rfl⟩
      have hFe : F = stFil (67 + 15 * j) (fl j) N D rk 36 0 C0 0 := by rw [hF, hC0]; rfl
      have hp : haPlan S N oa D rk tn fl x = (rI (nI F.2), haAdo F.1 oa D j F.2) := by
        unfold haPlan; rw [e]; simp only []
        rw [if_neg h0, hF]
      rw [hp] at hH
      obtain ⟨w, hw⟩ : ∃ w, w = (nI F.2).toInt64 := ⟨_, rfl⟩
      obtain ⟨X, hX⟩ : ∃ X, X = uJ (haAdo F.1 oa D j F.2) 230 0 w := ⟨_, rfl⟩
      -- the class's start
      have c0F : ∀ o, o ≠ 57 → o ≠ 63 → sF C0 o = sF S o := fun o o1 o2 => by rw [hC0, sF_uFn _ _ _ o2, sF_uFn _ _ _ o1]
      have c0A : sA C0 = sA S := by rw [hC0]; rfl
      have c0K : kC S C0 := ⟨fun o ho => ⟨c0F o (by omega) (by omega), by rw [c0A]⟩, by rw [hC0]; rfl, by rw [hC0]; rfl, by rw [hC0]; rfl, by rw [hC0]; rfl, by rw [hC0]; rfl⟩
      obtain ⟨ln, hln, hly⟩ := r1.2.2.2.2.2.2.2.2.2.2.2.2
      have hst : stI S B (67 + 15 * j) (fl j) N D rk oa ln := ⟨⟨hly, hln⟩, r1.2.2.2.2.2.2.2.2.2.1 j hj, r1.2.1, r1.2.2.1, r1.2.2.2.2.1⟩
      have hFI : stI F.1 B (67 + 15 * j) (fl j) N D rk oa F.2 := by rw [hFe, hC0]; exact stFil_I (glS hj) 36 0 _ 0 (stI_63 (glS hj) (stI_clear (glS hj) hst))
      -- from here on what the reference starts from
      have key : ∀ X : xS, (∀ o, 186 ≤ o → sA X o = sA S o) → (∀ k, k ≠ 0 → sF X 186 k = sF S 186 k) → ∃ (P' : xS) (Y : lY), moStrips (moThr X 0) j (fl j) N = some P' ∧ sKC C0 F.1 ∧ kP X P' ∧ sF P' 186 0 = nI 0 ∧ lyOf F.1 Y F.2 ∧ lyM P' Y F.2 ∧ sF P' 186 36 = nI F.2 ∧ (∀ i, i < F.2 → yO Y i < N) ∧ (∀ o, o < N → ∃ p, D o 3 = nI p ∧ p ≤ 6 ∧ nCt Y o F.2 ≤ p) ∧ F.2 ≤ 36 ∧ lyF Y F.2 W H := by
        intro X XA XF
        obtain ⟨P0, hP0⟩ : ∃ Z, Z = moTk (moThr X 0) 6 := ⟨_, rfl⟩
        obtain ⟨k1, k2, k3, k4, k5, k6, k7, k8⟩ := moTk_ok (S := moThr X 0) 6
        rw [← hP0] at k1 k2 k3 k4 k5 k6 k7 k8
        have p0A : ∀ o, 186 ≤ o → o ≠ 220 → sA P0 o = sA S o := fun o o1 o2 => by rw [k1 o o2]; exact XA o o1
        have hord : ∀ o, o < N → (D o 0 = nI (sA S 205 o).toNatClampNeg ∧ D o 1 = nI (sA S 206 o).toNatClampNeg ∧ D o 3 = nI (sA S 208 o).toNatClampNeg) ∧ (sA P0 205 o = nI (sA S 205 o).toNatClampNeg ∧ sA P0 206 o = nI (sA S 206 o).toNatClampNeg ∧ sA P0 208 o = nI (sA S 208 o).toNatClampNeg) ∧ (D o 2 = 0 ↔ sA P0 207 o = 0) ∧ (1 ≤ (sA S 205 o).toNatClampNeg ∧ (sA S 205 o).toNatClampNeg ≤ 6000) ∧ (1 ≤ (sA S 206 o).toNatClampNeg ∧ (sA S 206 o).toNatClampNeg ≤ 6000) ∧ (sA S 208 o).toNatClampNeg ≤ 6 := fun o ho => by
          obtain ⟨w', h', o', d', ⟨b1, b2, b3⟩, ⟨⟨e1, e2⟩, ⟨e3, e4, e5⟩⟩, ⟨⟨g1, g2⟩, ⟨g3, g4, g5⟩⟩, e6⟩ := m5 o ho
          rw [p0A 205 (by decide) (by decide), p0A 206 (by decide) (by decide), p0A 207 (by decide) (by decide), p0A 208 (by decide) (by decide), g1, g2, g3, nI_clamp (by omega), nI_clamp (by omega), nI_clamp (by omega)]
          exact ⟨⟨e1, e2, e3⟩, ⟨rfl, rfl, rfl⟩, e6, b1, b2, by omega⟩
        have hsX : stX C0 P0 (67 + 15 * j) j (fl j) N D rk (fun o => (sA S 205 o).toNatClampNeg) (fun o => (sA S 206 o).toNatClampNeg) (fun o => (sA S 208 o).toNatClampNeg) W H := by
          refine ⟨⟨⟨by omega, by omega⟩, hN6⟩, fun k hk => ?_, ⟨⟨by rw [c0F _ (by omega) (by omega)]; exact w1, by rw [c0F _ (by omega) (by omega)]; exact w2⟩, ⟨by rw [p0A 189 (by decide) (by decide)]; exact w3, by rw [p0A 190 (by decide) (by decide)]; exact w4⟩, hWH⟩, hord, m6.c (fun k _ => ⟨by rw [p0A 205 (by decide) (by decide)], by rw [p0A 206 (by decide) (by decide)]⟩)⟩
          obtain ⟨x', y', u', v', -, ⟨q1, q2, q3, q4⟩, q5, q6, q7, q8⟩ := w7 k hk
          rw [p0A 194 (by decide) (by decide), c0A]
          exact ⟨q1.trans q5.symm, q2.trans q6.symm, q3.trans q7.symm, q4.trans q8.symm⟩
        have p036 : sF P0 186 36 = nI 0 := by rw [k3, sF_uF, va_up_self]
        have hsZ : stZ C0 P0 N 0 (fun o => (sA S 208 o).toNatClampNeg) (fun _ => 0, fun _ => 0, fun _ => 0, fun _ => 0, fun _ => 0) := ⟨fun i hi => by omega, fun i hi => by omega, fun i hi => by omega, fun o ho => ⟨k2 o (by omega), Nat.zero_le _⟩, p036⟩
        obtain ⟨P', n', Y, q1, q2, q3, q4, q5, q6, q7⟩ := stFil_sim 36 0 0 C0 P0 0 40 (fun _ => 0, fun _ => 0, fun _ => 0, fun _ => 0, fun _ => 0) rfl rfl hsX hsZ (by rw [hC0, sF_uF, va_up_self]) (by rw [Nat.sub_zero]; exact stY_0)
        rw [← hFe] at q2 q3 q5
        subst q2
        refine ⟨P', Y, ?_, q3, ⟨fun o ho => ?_, fun o k hk => ?_, ?_, ?_, ?_, ?_, ?_⟩, ?_, q5.1, q5.2.1, q5.2.2.2.2, q5.2.2.1, fun o ho => ⟨_, (hord o ho).1.2.2, (hord o ho).2.2.2.2.2, (q5.2.2.2.1 o ho).2⟩, q6, q7⟩
        · unfold moStrips
          rw [show sA (moThr X 0) 189 j = nI W by show sA X 189 j = _; rw [XA 189 (by decide)]; exact w3, ← hP0]
          exact q1
        · rw [q4.1 o (by omega), k1 o (by omega)]; rfl
        · rw [q4.2.1 o k (by omega), k3]
          by_cases z : o = 186
          · subst z
            rw [sF_uF, va_up_ne _ _ (by omega)]
            unfold moThr
            rw [sF_uF, va_up_ne _ _ (by omega)]
          · rw [sF_uFn _ _ _ z]
            unfold moThr
            rw [sF_uFn _ _ _ z]
        · rw [q4.2.2.1, k4]; rfl
        · rw [q4.2.2.2.1, k5]; rfl
        · rw [q4.2.2.2.2.1, k6]; rfl
        · rw [q4.2.2.2.2.2.1, k7]; rfl
        · rw [q4.2.2.2.2.2.2, k8]; rfl
        · rw [q4.2.1 186 0 (by omega), k3, sF_uF, va_up_ne _ _ (by decide)]
          exact moThr_0
      have hCh : ∀ o, 186 ≤ o → sF X o = sF F.1 o ∧ sA X o = sA F.1 o := fun o ho => by
        rw [hX]
        exact ⟨(haAdo_hi hj o ho).1, (haAdo_hi hj o ho).2.1⟩
      obtain ⟨-, -, -, hK0, -⟩ := key S (fun _ _ => rfl) (fun _ _ => rfl)
      have hkC : kC S F.1 := ⟨fun o ho => ⟨by rw [(hK0.1 o (by omega)).1, c0F o (by omega) (by omega)], by rw [(hK0.1 o (by omega)).2, c0A]⟩, hK0.2.1.trans c0K.2.1, hK0.2.2.1.trans c0K.2.2.1, hK0.2.2.2.1.trans c0K.2.2.2.1, hK0.2.2.2.2.1.trans c0K.2.2.2.2.1, hK0.2.2.2.2.2.trans c0K.2.2.2.2.2⟩
      have XA : ∀ o, 186 ≤ o → sA X o = sA S o := fun o ho => by rw [(hCh o ho).2]; exact (hkC.1 o (by omega)).2
      have XF : ∀ o, 186 ≤ o → sF X o = sF S o := fun o ho => by rw [(hCh o ho).1]; exact (hkC.1 o (by omega)).1
      obtain ⟨Z1, Y, y1, -, y3, y4, y5, y6, y7, y8, y9, y10, y11⟩ := key X XA (fun k _ => by rw [XF 186 (by decide)])
      have hf1 : moFind X x 8 = some j := by
        rw [moFind_c (S := S) (Z := X) (XA 187 (by decide)) (XA 188 (by decide))]; exact (h.2.1.find x).trans e
      by_cases hm0 : F.2 = 0
      · have hPe : haAdo F.1 oa D j F.2 = F.1 := by unfold haAdo haAd; rw [if_pos hm0]
        have hJX : sJ X = sJ (uJ S 230 0 w) := by
          rw [hX, hPe]
          show up2 (sJ F.1) 230 0 w = up2 (sJ S) 230 0 w
          rw [hkC.2.1]
        have hXe : (∀ o, o < 186 → sF X o = sF F.1 o ∧ sA X o = sA F.1 o) ∧ sR X = sR F.1 ∧ sE X = sE F.1 ∧ sN X = sN F.1 ∧ sL X = sL F.1 := by rw [hX, hPe]; exact ⟨fun _ _ => ⟨rfl, rfl⟩, rfl, rfl, rfl, rfl⟩
        have lo := y3.lo
        have hL2 : liA B (t + 1) Z1 := by
          refine liP.one (liP.scr h (fun o ho => ?_) (fun k k0 k1 k2 => ?_) (fun o ho => ?_) ⟨?_, ?_⟩ ?_ ?_ ?_ ?_ ⟨F.2, by omega, ?_⟩)
          · rw [(lo.1 o (by omega)).1, (hXe.1 o (by omega)).1, (hkC.1 o (by omega)).1]
          · rw [y3.2.1 186 k (by omega), XF 186 (by decide)]
          · rw [y3.1 o (by omega)]
            by_cases z : o < 186
            · rw [(hXe.1 o z).2, (hkC.1 o (by omega)).2]
            · exact XA o (by omega)
          · rw [y3.2.2.1, hJX, sJ_uJn _ _ _ (by decide)]
          · rw [y3.2.2.1, hJX, sJ_uJn _ _ _ (by decide)]
          · rw [y3.2.2.2.1, hXe.2.1, hkC.2.2.1]
          · rw [y3.2.2.2.2.1, hXe.2.2.1, hkC.2.2.2.1]
          · rw [y3.2.2.2.2.2.1, hXe.2.2.2.1, hkC.2.2.2.2.1]
          · rw [y3.2.2.2.2.2.2, hXe.2.2.2.2, hkC.2.2.2.2.2]
          · rw [(lo.1 57 (by omega)).1, (hXe.1 57 (by omega)).1]; exact hFI.1.1
        refine op_ret (v := nI F.2) (q := (0, Z1)) hH rfl ?_ (by rw [hm0]; exact nI_0.symm) y4 ?_ ?_ hL2
        · show EX G m_Mo_plan 19 0 _ [] (mk G B (uJ (haAdo F.1 oa D j F.2) 230 0 (nI F.2).toInt64)) _
          rw [← hw, ← hX]
          exact c_Mo_plan0 (S := X) (fl := fl j) (N := N) (n := F.2) (Z1 := Z1) hG hf1 (by rw [XA 191 (by decide)]; exact h191) (by rw [XA 193 (by decide)]; exact w6) hfl6 (by rw [XF 186 (by decide)]; exact c1) hN6 y1 y7 (by omega) hm0
        · show sJ Z1 230 0 = _
          rw [y3.2.2.1, hJX, sJ_uJ, va_up_self, hw]
        · show B + 231 ≤ sN (haAdo F.1 oa D j F.2)
          rw [hPe, hkC.2.2.2.2.1]; exact r4
      · obtain ⟨Z, z1, z2, z3, z4, z5, z6⟩ := h.adopt hj hth (by omega) (C := F.1) (Z1 := Z1) (Y := Y) (m := F.2) (W := W) (H := H) (v := w) hkC y5 hFI.1.1 (by omega) y10 y8 y11 ⟨⟨hW1.1, hWH.1⟩, hW1.2, hWH.2⟩ ⟨w1, w2⟩ y9 (by rw [← hX]; exact y3) y6 y7
        refine op_ret (v := nI F.2) (q := (nI F.2, moAdF Z j F.2)) hH rfl ?_ rfl (z4.trans y4) (by rw [← hw]; exact z5) ?_ z3
        · show EX G m_Mo_plan 19 0 _ [] (mk G B (uJ (haAdo F.1 oa D j F.2) 230 0 (nI F.2).toInt64)) _
          rw [← hw, ← hX]
          exact c_Mo_plan1 (S := X) (fl := fl j) (N := N) (n := F.2) (Z1 := Z1) hG hf1 (by rw [XA 191 (by decide)]; exact h191) (by rw [XA 193 (by decide)]; exact w6) hfl6 (by rw [XF 186 (by decide)]; exact c1) hN6 y1 y7 (by omega) (by omega) z1 z2
        · show B + 231 ≤ sN (haAdo F.1 oa D j F.2)
          rw [z6]; exact r4
