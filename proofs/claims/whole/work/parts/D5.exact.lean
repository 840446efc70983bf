/-! exact -/
theorem tiCall_JR {S : xS} {a b c : Int32} : sJ (tiCall S a b c).1 = sJ S ∧ sR (tiCall S a b c).1 = sR S := by
  have key : ∀ (S : xS) (q : Nat) (x : Int32), sJ (tiAddN S q x).1 = sJ S ∧ sR (tiAddN S q x).1 = sR S := fun S q x => by
    unfold tiAddN
    split
    · exact ⟨rfl, rfl⟩
    · split <;> exact ⟨rfl, rfl⟩
  unfold tiCall
  simp only []
  rw [(key _ _ _).1, (key _ _ _).2, (key _ _ _).1, (key _ _ _).2]
  exact ⟨rfl, rfl⟩
theorem tiCall_kC {S : xS} {a b c : Int32} : kC S (tiCall S a b c).1 := by
  have k := tiCall_K (S := S) (a := a) (b := b) (c := c)
  exact ⟨fun o ho => ⟨(k.1 o (by omega)).1, (k.1 o (by omega)).2.1⟩, tiCall_JR.1, tiCall_JR.2, k.2.1, k.2.2.1, k.2.2.2⟩
theorem moHO_c {S Z : xS} {a b c : Int32} (h : sA Z 208 = sA S 208) : ∀ n, moHO Z a b c n = moHO S a b c n
  | 0 => rfl
  | n + 1 => by
    simp only [moHO]
    rw [moHO_c h n, h]
set_option maxHeartbeats 2000000 in
theorem op_exact {G : xG} {S : xS} {B t N R E : Nat} {oa : Nat → Nat} {D : Nat → Nat → Int32} {rk g tn fl nc : Nat → Nat} (hG : xOkG G) (hc : B + 1000 ≤ gC G) (hs : 30000 ≤ gS G) (ht : t < 512) (h : liP S B t N R E oa D rk g tn fl nc) {x a b c : Int32} : opW G B t (liA B) S m_Ha_exact m_Mo_exact [.int x, .int a, .int b, .int c] [11, 13] := by
  have hH := c_Ha_exact (d := 6) hG h.1 (h.rm hc hs ht) (x := x) (a := a) (b := b) (c := c)
  have hsn := h.2.2.2.1.1
  obtain ⟨r1, hE, ⟨r3, rz⟩, ⟨r4, r5⟩, r6, r7⟩ := id h
  have hN6 : N ≤ 6 := r1.2.1.2
  cases e : fstN (idB S x) 8 with
  | none =>
    have hp : haExact S N oa D tn fl x a b c = (.inr 11, S) := by unfold haExact; rw [e]
    rw [hp] at hH
    refine op_thr (ce := 11) (k := 1) hH rfl (by decide) rfl (by decide) ?_ hsn h.thrown
    exact c_Mo_exactN (S := uN S 6 (.inr (11, []))) hG ((h.2.1.new (c := 6) (e := .inr (11, [])).find x).trans e)
  | some j =>
    obtain ⟨hj, hth⟩ := h.2.1.there e
    obtain ⟨⟨⟨c1, c2⟩, ⟨c3, c4⟩, c5, c6⟩, m2, m3, m4, m5, m6, m7, m8⟩ := id hE
    have hfl6 := (r1.2.2.2.2.2.2.2.2.2.1 j hj).2
    obtain ⟨W, H, hWH, ⟨⟨w1, w2⟩, w3, w4⟩, w5, ⟨w6, w7⟩, -, -⟩ := m3 j hj
    have hW1 := w5 hth
    obtain ⟨C1, hC1⟩ : ∃ Z, Z = (tiCall S a b c).1 := ⟨_, rfl⟩
    obtain ⟨q, hq⟩ : ∃ Z, Z = (tiCall S a b c).2 := ⟨_, rfl⟩
    have hkC1 : kC S C1 := by rw [hC1]; exact tiCall_kC
    have h57 : sF C1 57 = sF S 57 := by rw [hC1]; exact (tiCall_K.1 57 (by omega)).1
    have hL1 : liP C1 B t N R E oa D rk g tn fl nc := liP.scr h (fun o ho => (hkC1.1 o (by omega)).1) (fun k _ _ _ => by rw [(hkC1.1 186 (by omega)).1]) (fun o ho => (hkC1.1 o (by omega)).2) ⟨by rw [hkC1.2.1], by rw [hkC1.2.1]⟩ hkC1.2.2.1 hkC1.2.2.2.1 hkC1.2.2.2.2.1 hkC1.2.2.2.2.2 (by rw [h57]; exact r1.2.2.2.2.2.2.2.2.2.2.2.2)
    have e1 : fstN (idB C1 x) 8 = some j := by
      rw [← e]
      refine fstN_c (fun k hk => ?_)
      unfold idB thB
      rw [(hkC1.1 (66 + 15 * k) (by omega)).1]
    have hf1 : ∀ ce : Nat, moFind (uN C1 6 (.inr (ce, []))) x 8 = some j := fun ce => (hL1.2.1.new (c := 6) (e := .inr (ce, [])).find x).trans e1
    have hkn := tiAll_kn (S := S) (N := N) (a := a) (b := b) (c := c)
    rw [← hC1, ← hq] at hkn
    have hA1 : ∀ o, 186 ≤ o → sA C1 o = sA S o := fun o ho => (hkC1.1 o (by omega)).2
    have hsn1 : B + 231 ≤ sN C1 := by rw [hkC1.2.2.2.2.1]; exact r4
    cases hK : moKn N a b c with
    | false =>
      have hp : haExact S N oa D tn fl x a b c = (.inr 11, C1) := by
        unfold haExact; rw [e]; simp only []
        rw [← hC1, ← hq, if_pos (hkn.trans hK)]
      rw [hp] at hH
      refine op_thr (ce := 11) (k := 1) hH rfl (by decide) rfl (by decide) ?_ hsn1 hL1.thrown
      exact c_Mo_exactK (S := uN C1 6 (.inr (11, []))) hG (hf1 11) hL1.2.1.1.1.1 hN6 hK
    | true =>
      have n1 : ¬ tiAll C1 q N = false := by rw [hkn, hK]; decide
      have thr13 : haExact S N oa D tn fl x a b c = (.inr 13, C1) → moExC C1 j (fl j) (moHO C1 a b c N) = 2 → opW G B t (liA B) S m_Ha_exact m_Mo_exact [.int x, .int a, .int b, .int c] [11, 13] := by
        intro hp hC
        rw [hp] at hH
        refine op_thr (ce := 13) (k := 2) hH rfl (by decide) rfl (by decide) ?_ hsn1 hL1.thrown
        exact c_Mo_exactU (S := uN C1 6 (.inr (13, []))) hG (hf1 13) hL1.2.1.1.1.1 hN6 (by show sA C1 193 j = _; rw [hA1 193 (by decide)]; exact w6) hfl6 hK (by rw [moHO_c (S := C1) (Z := uN C1 6 (.inr (13, []))) rfl]; show moExC C1 j (fl j) (moHO C1 a b c N) ≠ 0; rw [hC]; decide)
      by_cases h0 : 0 < tn j
      · have h191 : ¬ sA S 191 j = 0 := (h.2.1.plan hj hth).mp h0
        refine thr13 ?_ ?_
        · unfold haExact; rw [e]; simp only []
          rw [← hC1, ← hq, if_neg n1, if_pos h0]
        · unfold moExC
          rw [if_pos (by rw [hA1 191 (by decide)]; exact h191)]
      · have h191 : sA S 191 j = 0 := Classical.byContradiction fun z => by have := (h.2.1.plan hj hth).mpr z; omega
        by_cases hfl : 0 < fl j
        · refine thr13 ?_ ?_
          · unfold haExact; rw [e]; simp only []
            rw [← hC1, ← hq, if_neg n1, if_neg h0, if_pos hfl]
          · unfold moExC
            rw [if_neg (by rw [hA1 191 (by decide)]; exact fun z => z h191), if_pos hfl]
        · -- names
          obtain ⟨a', bo, co, ⟨ha, ea⟩, ⟨hb, eb⟩, hco, ec⟩ := moKn_is hN6 hK
          subst ea eb ec
          obtain ⟨l, hl⟩ : ∃ l, l = a' :: nms bo co := ⟨_, rfl⟩
          obtain ⟨L1, L2⟩ := tiCall_L (S := S) (a := nI a') (b := cI bo) (c := cI co)
          rw [nmL_is hN6 hb hco, ← hl, List.length_map, ← hq] at L1
          rw [nmL_is hN6 hb hco, ← hl, ← hC1] at L2
          have hq3 : q ≤ 3 := by rw [hq]; exact tiCall_n.2
          have hq0 : 0 < q := by rw [L1, hl]; exact Nat.succ_pos _
          have hnm : ∀ i o, l[i]? = some o → sA C1 65 i = nI o := fun i o ho => L2 i _ (by rw [List.getElem?_map, ho]; rfl)
          have hlN : ∀ o ∈ l, o < N := fun o ho => by
            rw [hl] at ho
            unfold nms at ho
            rcases List.mem_cons.mp ho with z | z
            · rw [z]; exact ha
            · rcases List.mem_append.mp z with z | z
              · exact hb o (by cases bo with | none => cases z | some y => rw [List.mem_singleton.mp z])
              · exact hco o (by cases co with | none => cases z | some y => rw [List.mem_singleton.mp z])
          have hord : ∀ o, o < N → ∃ p, D o 3 = nI p ∧ sA S 208 o = nI p ∧ p ≤ 6 := fun o ho => by
            obtain ⟨w', h', o', d', ⟨b1, b2, b3⟩, ⟨⟨e1, e2⟩, ⟨e3, e4, e5⟩⟩, ⟨⟨g1, g2⟩, ⟨g3, g4, g5⟩⟩, e6⟩ := m5 o ho
            exact ⟨o', e3, g3, by omega⟩
          have htimes : ∀ o, o < N → tiTimes C1 (nI o) q = lCt o l := fun o ho => by
            rw [L1]
            exact times_ct (by omega) l (fun x hx => by have := hlN x hx; omega) hnm
          have hopen : tiOpen C1 q D = true ↔ ∀ o, o < N → ∃ p, D o 3 = nI p ∧ p ≤ 6 ∧ lCt o l ≤ p := by
            unfold tiOpen
            rw [List.all_eq_true]
            have hlt : ∀ o, lCt o l ≤ 3 := fun o => by
              have : ∀ l : List Nat, lCt o l ≤ l.length := fun l => by
                induction l with
                | nil => exact Nat.le_refl _
                | cons y t ih =>
                  simp only [lCt, List.length_cons]
                  split <;> omega
              have := this l
              omega
            constructor
            · intro k o ho
              obtain ⟨p, p1, -, p3⟩ := hord o ho
              refine ⟨p, p1, p3, ?_⟩
              by_cases hin : o ∈ l
              · obtain ⟨i, hi, ei⟩ := List.mem_iff_getElem.mp hin
                have hx : l[i]? = some o := by rw [List.getElem?_eq_getElem hi, ei]
                have z := of_decide_eq_true (k i (List.mem_range.mpr (by omega)))
                unfold nmOf at z
                rw [hnm i o hx, nI_clamp (by omega), htimes o ho, p1] at z
                exact (nI_leI (by have := hlt o; omega) (by omega)).mp z
              · rw [lCt_0 (fun y hy z => hin (by rw [← z]; exact hy))]
                exact Nat.zero_le _
            · intro k i hi
              have hi := List.mem_range.mp hi
              rw [L1] at hi
              have hx : l[i]? = some (l[i]'hi) := List.getElem?_eq_getElem hi
              have hoN := hlN _ (List.getElem_mem hi)
              obtain ⟨p, p1, p2, p3⟩ := k _ hoN
              refine decide_eq_true ?_
              unfold nmOf
              rw [hnm i _ hx, nI_clamp (by omega), htimes _ hoN, p1]
              exact (nI_leI (by have := hlt (l[i]'hi); omega) (by omega)).mpr p3
          have hho : ∀ Q : xS, (∀ o, o < N → sA Q 208 o = sA S 208 o) → (moHO Q (nI a') (cI bo) (cI co) N = true ↔ ∀ o, o < N → ∃ p, D o 3 = nI p ∧ p ≤ 6 ∧ lCt o l ≤ p) := fun Q hQ => by
            rw [moHO_iff]
            have hlt : ∀ o, lCt o l ≤ 3 := fun o => by
              have : ∀ l : List Nat, lCt o l ≤ l.length := fun l => by
                induction l with
                | nil => exact Nat.le_refl _
                | cons y t ih =>
                  simp only [lCt, List.length_cons]
                  split <;> omega
              have := this l
              omega
            constructor
            · intro k o ho
              obtain ⟨p, p1, p2, p3⟩ := hord o ho
              have z := k o ho
              rw [hQ o ho, p2, moN3_ct hN6 ha ho hb hco, ← hl] at z
              refine ⟨p, p1, p3, ?_⟩
              have := hlt o
              exact Classical.byContradiction fun y => z ((nI_ltI (by omega) (by omega)).mpr (by omega))
            · intro k o ho
              obtain ⟨p, p1, p2, p3⟩ := hord o ho
              obtain ⟨p', g1, g2, g3⟩ := k o ho
              have ep : p = p' := (nI_eq (by omega) (by omega)).mp (p1.symm.trans g1)
              rw [hQ o ho, p2, moN3_ct hN6 ha ho hb hco, ← hl]
              intro z
              have := (nI_ltI (by omega) (by have := hlt o; omega)).mp z
              omega
          by_cases hop : tiOpen C1 q D = false
          · refine thr13 ?_ ?_
            · unfold haExact; rw [e]; simp only []
              rw [← hC1, ← hq, if_neg n1, if_neg h0, if_neg hfl, if_pos hop]
            · unfold moExC
              rw [if_neg (by rw [hA1 191 (by decide)]; exact fun z => z h191), if_neg hfl, if_pos]
              cases z : moHO C1 (nI a') (cI bo) (cI co) N with
              | false => rfl
              | true =>
                rw [hopen.mpr ((hho C1 (fun o _ => by rw [hA1 208 (by decide)])).mp z)] at hop
                cases hop
          · have hop' : tiOpen C1 q D = true := by cases z : tiOpen C1 q D with
              | true => rfl
              | false => exact absurd z hop
            have hcts := hopen.mp hop'
            obtain ⟨ow, how⟩ : ∃ f : Nat → Nat, f = fun o => (sA S 205 o).toNatClampNeg := ⟨_, rfl⟩
            obtain ⟨oh, hoh⟩ : ∃ f : Nat → Nat, f = fun o => (sA S 206 o).toNatClampNeg := ⟨_, rfl⟩
            obtain ⟨tu, htu⟩ : ∃ f : Nat → Bool, f = fun o => !decide (sA S 207 o = 0) := ⟨_, rfl⟩
            have hoD : ∀ o, o < N → ((D o 0 = nI (ow o) ∧ D o 1 = nI (oh o) ∧ (D o 2 = 0 ↔ tu o = false)) ∧ (1 ≤ ow o ∧ ow o ≤ 6000) ∧ 1 ≤ oh o ∧ oh o ≤ 6000) ∧ (sA S 205 o = nI (ow o) ∧ sA S 206 o = nI (oh o) ∧ (sA S 207 o = 0 ↔ tu o = false)) := fun o ho => by
              obtain ⟨w', h', o', d', ⟨b1, b2, b3⟩, ⟨⟨e1, e2⟩, ⟨e3, e4, e5⟩⟩, ⟨⟨g1, g2⟩, ⟨g3, g4, g5⟩⟩, e6⟩ := m5 o ho
              have hu : (sA S 207 o = 0 ↔ tu o = false) := by
                rw [htu]
                simp
              rw [how, hoh]
              simp only []
              rw [g1, g2, nI_clamp (by omega), nI_clamp (by omega)]
              exact ⟨⟨⟨e1, e2, e6.trans hu⟩, b1, b2⟩, rfl, rfl, hu⟩
            -- the class's search
            obtain ⟨Y0, hY0⟩ : ∃ Y : lY, Y = (fun _ => 0, fun _ => 0, fun _ => 0, fun _ => 0, fun _ => 0) := ⟨_, rfl⟩
            obtain ⟨F, hF⟩ : ∃ F, F = haEx C1 D j q := ⟨_, rfl⟩
            have hB0 : lyB Y0 0 := fun i hi => by omega
            have hN0 : lyN Y0 0 := ⟨fun c hc => by simp [nCo] at hc, fun c r hr => by simp [nRo] at hr⟩
            have hft0 : lyFt Y0 0 W H := ⟨fun c hc => by simp [nCo] at hc, Nat.zero_le _⟩
            have hsim := tiFrom_sim (S0 := S) (b := 67 + 15 * j) (W := W) (H := H) (N := N) (q := q) (D := D) (nm := nmOf C1) (ow := ow) (oh := oh) (tu := tu) (by omega) ⟨w1, w2⟩ hWH (fun o ho => (hoD o ho).1) l 0 Y0 (uF C1 57 5 (nI 0)) (fun i o ho => by
              have hoN := hlN o (List.mem_of_getElem? ho)
              refine ⟨?_, hoN⟩
              rw [Nat.zero_add]
              unfold nmOf
              rw [hnm i o ho, nI_clamp (by omega)]) (by omega) hq3 hB0 (Nat.zero_le _) (fun c => Nat.zero_le _) ⟨hkC1.F (by omega), fun i hi => by omega, by rw [sF_uF, va_up_self]⟩
            rw [cS_rS l 0 Y0 hft0 (by omega) (Nat.zero_le _) (fun c => Nat.zero_le _), ← L1] at hsim
            have hFe : tiFrom (67 + 15 * j) D (nmOf C1) q 0 (uF C1 57 5 (nI 0)) = F := by rw [hF]; rfl
            rw [hFe] at hsim
            obtain ⟨mm, hmm⟩ : ∃ m, m = if F.1 = true then q else 0 := ⟨_, rfl⟩
            have hp : haExact S N oa D tn fl x (nI a') (cI bo) (cI co) = (rI (nI mm), haAdo F.2 oa D j mm) := by
              unfold haExact; rw [e]; simp only []
              rw [← hC1, ← hq, if_neg n1, if_neg h0, if_neg hfl, if_neg hop, hmm, hF]
            rw [hp] at hH
            obtain ⟨w, hw⟩ : ∃ w, w = (nI mm).toInt64 := ⟨_, rfl⟩
            obtain ⟨X, hX⟩ : ∃ X, X = uJ (haAdo F.2 oa D j mm) 230 0 w := ⟨_, rfl⟩
            have hkF : kC S F.2 := by
              cases hr : rS ow oh tu W H l 0 Y0 with
              | none => exact (hsim.2 hr).2.1
              | some Z => exact (hsim.1 Z hr).2.1
            have XA : ∀ o, 186 ≤ o → sA X o = sA S o := fun o ho => by
              rw [hX]
              exact ((haAdo_hi hj o ho).2.1).trans (hkF.1 o (by omega)).2
            have XF : ∀ o, 186 ≤ o → sF X o = sF S o := fun o ho => by
              rw [hX]
              exact ((haAdo_hi hj o ho).1).trans (hkF.1 o (by omega)).1
            have hfX : moFind X x 8 = some j := by
              rw [moFind_c (S := S) (Z := X) (XA 187 (by decide)) (XA 188 (by decide))]; exact (h.2.1.find x).trans e
            have hoX : oX (moThr X 0) N ow oh tu := fun o ho => by
              show (sA X 205 o = _ ∧ sA X 206 o = _ ∧ (sA X 207 o = 0 ↔ _)) ∧ _
              rw [XA 205 (by decide), XA 206 (by decide), XA 207 (by decide)]
              exact ⟨(hoD o ho).2, (hoD o ho).1.2⟩
            have hrf := moLi_rS (X := moThr X 0) (s := j) (W := W) (H := H) (N := N) (ow := ow) (oh := oh) (tu := tu) (a := a') (bo := bo) (co := co) (Y := Y0) hoX ⟨by show sA X 189 j = _; rw [XA 189 (by decide)]; exact w3, by show sA X 190 j = _; rw [XA 190 (by decide)]; exact w4⟩ hWH ha hb hco (P := moThr X 0) sKP.rf
            have hlen : 1 + (nms bo co).length = q := by rw [L1, hl, List.length_cons]; omega
            rw [← hl, hlen] at hrf
            obtain ⟨M, hM⟩ : ∃ M, M = moLi j a' bo co 2 0 (moThr X 0) := ⟨_, rfl⟩
            rw [← hM] at hrf
            have hCX : moExC X j (fl j) (moHO X (nI a') (cI bo) (cI co) N) = 0 := by
              unfold moExC
              rw [if_neg (by rw [XA 191 (by decide)]; exact fun z => z h191), if_neg hfl, if_neg]
              rw [(hho X (fun o _ => by rw [XA 208 (by decide)])).mpr hcts]
              decide
            have hfX3 : sA X 193 j = nI (fl j) := by rw [XA 193 (by decide)]; exact w6
            have hNX : sF X 186 20 = nI N := by rw [XF 186 (by decide)]; exact c1
            have hcon : ∀ Zf, (M.1 = true → sF M.2 186 36 = nI q ∧ moGA j q 161 (moA0 M.2 j) 0 1 Zf ∧ moLI Zf q N) → EX G m_Mo_exact 19 0 (lv_args 0 (.ref (B + 186) :: [.int x, .int (nI a'), .int (cI bo), .int (cI co)])) [] (mk G B X) (xRet G B (some (.int (if M.1 = true then nI q else 0))) (if M.1 = true then moAdF Zf j q else M.2)) := fun Zf hz => by
              rw [← hlen] at hz ⊢
              rw [hM] at hz ⊢
              cases bo with
              | none =>
                cases co with
                | none => exact c_Mo_exact00 (d := 12) hG hfX hNX hN6 ha hfX3 hfl6 hK hCX hz
                | some y => exact c_Mo_exact01 (d := 12) hG hfX hNX hN6 ha (hco y rfl) hfX3 hfl6 hK hCX hz
              | some y =>
                cases co with
                | none => exact c_Mo_exact10 (d := 12) hG hfX hNX hN6 ha (hb y rfl) hfX3 hfl6 hK hCX hz
                | some y' => exact c_Mo_exact11 (d := 12) hG hfX hNX hN6 ha (hb y rfl) (hco y' rfl) hfX3 hfl6 hK hCX hz
            have kPof : ∀ Z1, sKP (moThr X 0) Z1 → kP X Z1 ∧ sF Z1 186 0 = nI 0 := fun Z1 k => by
              refine ⟨⟨fun o ho => by rw [k.1 o ho]; rfl, fun o i hi => ?_, by rw [k.2.2.1]; rfl, by rw [k.2.2.2.1]; rfl, by rw [k.2.2.2.2.1]; rfl, by rw [k.2.2.2.2.2.1]; rfl, by rw [k.2.2.2.2.2.2]; rfl⟩, by rw [k.2.1 186 0 (by omega)]; exact moThr_0⟩
              rw [k.2.1 o i (by omega)]
              unfold moThr
              by_cases z : o = 186
              · subst z
                rw [sF_uF, va_up_ne _ _ (by omega)]
              · rw [sF_uFn _ _ _ z]
            cases hr : rS ow oh tu W H l 0 Y0 with
            | none =>
              obtain ⟨f1, f2⟩ := hsim.2 hr
              obtain ⟨g1, g2⟩ := hrf.2 hr
              have hm0 : mm = 0 := by rw [hmm, f1]; rfl
              obtain ⟨y3, y4⟩ := kPof M.2 g2
              have hPe : haAdo F.2 oa D j mm = F.2 := by unfold haAdo haAd; rw [if_pos hm0]
              have hJX : sJ X = sJ (uJ S 230 0 w) := by
                rw [hX, hPe]
                show up2 (sJ F.2) 230 0 w = up2 (sJ S) 230 0 w
                rw [hkF.2.1]
              have hXe : (∀ o, o < 186 → sF X o = sF F.2 o ∧ sA X o = sA F.2 o) ∧ sR X = sR F.2 ∧ sE X = sE F.2 ∧ sN X = sN F.2 ∧ sL X = sL F.2 := by rw [hX, hPe]; exact ⟨fun _ _ => ⟨rfl, rfl⟩, rfl, rfl, rfl, rfl⟩
              have lo := y3.lo
              have hL2 : liA B (t + 1) M.2 := by
                refine liP.one (liP.scr h (fun o ho => ?_) (fun k k0 k1 k2 => ?_) (fun o ho => ?_) ⟨?_, ?_⟩ ?_ ?_ ?_ ?_ ⟨0, by omega, ?_⟩)
                · rw [(lo.1 o (by omega)).1, (hXe.1 o (by omega)).1, (hkF.1 o (by omega)).1]
                · rw [y3.2.1 186 k (by omega), XF 186 (by decide)]
                · rw [y3.1 o (by omega)]
                  by_cases z : o < 186
                  · rw [(hXe.1 o z).2, (hkF.1 o (by omega)).2]
                  · exact XA o (by omega)
                · rw [y3.2.2.1, hJX, sJ_uJn _ _ _ (by decide)]
                · rw [y3.2.2.1, hJX, sJ_uJn _ _ _ (by decide)]
                · rw [y3.2.2.2.1, hXe.2.1, hkF.2.2.1]
                · rw [y3.2.2.2.2.1, hXe.2.2.1, hkF.2.2.2.1]
                · rw [y3.2.2.2.2.2.1, hXe.2.2.2.1, hkF.2.2.2.2.1]
                · rw [y3.2.2.2.2.2.2, hXe.2.2.2.2, hkF.2.2.2.2.2]
                · rw [(lo.1 57 (by omega)).1, (hXe.1 57 (by omega)).1]; exact f2.2.2
              have hc0 := hcon X (fun z => by rw [g1] at z; cases z)
              rw [if_neg (by rw [g1]; decide), if_neg (by rw [g1]; decide)] at hc0
              refine op_ret (v := nI mm) (q := (0, M.2)) hH rfl ?_ (by rw [hm0]; exact nI_0.symm) y4 ?_ ?_ hL2
              · show EX G m_Mo_exact 19 0 _ [] (mk G B (uJ (haAdo F.2 oa D j mm) 230 0 (nI mm).toInt64)) _
                rw [← hw, ← hX]
                exact hc0
              · show sJ M.2 230 0 = _
                rw [y3.2.2.1, hJX, sJ_uJ, va_up_self, hw]
              · show B + 231 ≤ sN (haAdo F.2 oa D j mm)
                rw [hPe, hkF.2.2.2.2.1]; exact r4
            | some Z =>
              obtain ⟨f1, f2, f3, f4⟩ := hsim.1 Z hr
              obtain ⟨g1, g2, g3, g4⟩ := hrf.1 Z hr
              have hmq : mm = q := by rw [hmm, if_pos f1]
              obtain ⟨y3, y4⟩ := kPof M.2 g2
              obtain ⟨⟨o1, o2⟩, ⟨o3, o4⟩, o5, -, o7⟩ := rS_ok (N := N) (fun o ho => (hoD o ho).1.2) l 0 Y0 Z hr hlN (by omega) hB0 hN0 (Nat.zero_le _) (fun c => Nat.zero_le _)
              rw [Nat.zero_add, ← L1] at o1 o2 o3 o4 o5
              have hyO : ∀ i o, l[i]? = some o → yO Z i = o := fun i o ho => by have := o7 i o ho; rw [Nat.zero_add] at this; exact this
              have hlyF : lyF Z q W H := ⟨o1, o2, o5.2, o5.1, groA_le hq3 o3 o4⟩
              obtain ⟨Zf, z1, z2, z3, z4, z5, z6⟩ := h.adopt hj hth (by omega) (C := F.2) (Z1 := M.2) (Y := Z) (m := q) (W := W) (H := H) (v := w) hkF f3 f4 hq0 (by omega) (fun i hi => by
                rw [L1] at hi
                rw [hyO i _ (List.getElem?_eq_getElem hi)]
                exact hlN _ (List.getElem_mem hi)) hlyF ⟨⟨hW1.1, hWH.1⟩, hW1.2, hWH.2⟩ ⟨w1, w2⟩ (fun o ho => by
                obtain ⟨p, p1, p2, p3⟩ := hcts o ho
                refine ⟨p, p1, p2, ?_⟩
                rw [L1, nCt_ct l hyO]; exact p3) (by rw [← hmq, ← hX]; exact y3) g3 g4
              have hc1 := hcon Zf (fun _ => ⟨g4, z1, z2⟩)
              rw [if_pos g1, if_pos g1] at hc1
              refine op_ret (v := nI mm) (q := (nI q, moAdF Zf j q)) hH rfl ?_ (by rw [hmq]) (z4.trans y4) (by rw [← hw]; exact z5) ?_ z3
              · show EX G m_Mo_exact 19 0 _ [] (mk G B (uJ (haAdo F.2 oa D j mm) 230 0 (nI mm).toInt64)) _
                rw [← hw, ← hX]
                exact hc1
              · show B + 231 ≤ sN (haAdo F.2 oa D j mm)
                rw [hmq, z6]; exact r4
