/-! a node breaks -/
theorem moFind_c {S Z : xS} {x : Int32} (h1 : sA Z 187 = sA S 187) (h2 : sA Z 188 = sA S 188) : ∀ m, moFind Z x m = moFind S x m
  | 0 => rfl
  | m + 1 => by
    simp only [moFind]
    rw [moFind_c h1 h2 m, h1, h2]
theorem moBrIn_c {S Z : xS} {m n : Nat} (h : ∀ o, 197 ≤ o → o ≤ 200 → sA Z o = sA S o) : moBrIn Z m n = moBrIn S m n := by
  unfold moBrIn
  rw [h 197 (by decide) (by decide), h 198 (by decide) (by decide), h 199 (by decide) (by decide), h 200 (by decide) (by decide)]
theorem fst_waits {S : xS} {b n : Nat} {σ : Nat → Nat} (h : ∀ q, q < n → sA S (b + 8) q = nI (σ q)) (h3 : ∀ q, σ q ≤ 3) : fstN (trWaits S b) n = none ↔ ∀ q, q < n → σ q ≠ 1 := by
  have hw : ∀ q, q < n → (trWaits S b q = true ↔ σ q = 1) := fun q hq => by
    unfold trWaits
    rw [h q hq, decide_eq_true_eq]
    exact nI_eq (by have := h3 q; omega) (by decide)
  constructor
  · intro e q hq z
    have := fstN_no e hq
    rw [(hw q hq).mpr z] at this
    cases this
  · intro e
    refine fstN_none (fun q hq => ?_)
    cases z : trWaits S b q with
    | false => rfl
    | true => exact absurd ((hw q hq).mp z) (e q hq)
set_option maxHeartbeats 2000000 in
theorem op_broke {G : xG} {S : xS} {B t N R E : Nat} {oa : Nat → Nat} {D : Nat → Nat → Int32} {rk g tn fl nc : Nat → Nat} (hG : xOkG G) (hc : B + 1000 ≤ gC G) (hs : 30000 ≤ gS G) (ht : t < 512) (h : liP S B t N R E oa D rk g tn fl nc) {x y : Int32} : opW G B t (liA B) S m_Ha_broke m_Mo_broke [.int x, .int y] [11, 13, 14] := by
  have hH := c_Ha_broke (d := 13) hG h.1 (h.rm hc hs ht) (x := x) (y := y)
  have hsn := h.2.2.2.1.1
  obtain ⟨r1, ⟨⟨⟨c1, c2⟩, ⟨c3, c4⟩, c5, c6⟩, m2, m3, m4, m5, m6, m7, m8⟩, ⟨r3, rz⟩, ⟨r4, r5⟩, r6, r7⟩ := id h
  have hN6 : N ≤ 6 := r1.2.1.2
  have hmkM : ∀ s i, s < 8 → i < nc s → sA S 196 (160 * s + i) = nI 2 → ∃ y, y < N ∧ sA S 201 (160 * s + i) = nI y := fun s i hs hi => (m4 s hs).2.2.2.1 i hi
  cases e : fstN (idB S x) 8 with
  | none =>
    have hp : haBroke S oa D tn x y = (.inr 11, S) := by unfold haBroke; rw [e]
    rw [hp] at hH
    refine op_thr (ce := 11) (k := 1) hH rfl (by decide) rfl (by decide) ?_ hsn h.thrown
    have hf := (h.2.1.new (c := 6) (e := .inr (11, [])).find x).trans e
    have hq : moBroke (uN S 6 (.inr (11, []))) nc x y = (0, moThr (uN S 6 (.inr (11, []))) 1) := by
      unfold moBroke; rw [hf]
    rw [← hq]; exact c_Mo_brokeT (S := uN S 6 (.inr (11, []))) hG hf
  | some j =>
    obtain ⟨hj, hth⟩ := h.2.1.there e
    have htn145 : tn j ≤ 145 := (r1.2.2.2.2.2.2.2.2.1 j hj).2
    have hfU : ∀ ce : Nat, moFind (uN S 6 (.inr (ce, []))) x 8 = some j := fun ce => (h.2.1.new (c := 6) (e := .inr (ce, [])).find x).trans e
    by_cases h0 : tn j = 0
    · have h191 : sA S 191 j = 0 := Classical.byContradiction fun z => by have := (h.2.1.plan hj hth).mpr z; omega
      have hp : haBroke S oa D tn x y = (.inr 13, S) := by unfold haBroke; rw [e]; exact if_pos h0
      rw [hp] at hH
      refine op_thr (ce := 13) (k := 2) hH rfl (by decide) rfl (by decide) ?_ hsn h.thrown
      have hq : moBroke (uN S 6 (.inr (13, []))) nc x y = (0, moThr (uN S 6 (.inr (13, []))) 2) := by
        unfold moBroke; rw [hfU 13]
        show moP (if sA S 191 j = 0 then 2 else _) _ _ _ = _
        rw [if_pos h191]; rfl
      rw [← hq]
      rcases inB_cases (N := nc j) (by have := (h.2.1.cnt j hj).2; omega) y with ⟨i, hi, rfl, -⟩ | hb
      · exact c_Mo_broke1 (S := uN S 6 (.inr (13, []))) hG (hfU 13) h.2.1.cnt hN6 hmkM hi
      · exact c_Mo_brokeO (S := uN S 6 (.inr (13, []))) hG (hfU 13) h.2.1.cnt hb
    · have h191 : ¬ sA S 191 j = 0 := (h.2.1.plan hj hth).mp (by omega)
      obtain ⟨enc, L, σ, W, H, l1, l2, ⟨f, l3⟩, ⟨f2, l4⟩, l5, l6, l7, l8⟩ := (m4 j hj).2.2.2.2 (by omega)
      have h195 : sA S 195 j = nI (tn j) := by rw [(h.2.1.cnt j hj).1, enc]
      rcases inB_cases (N := tn j) (by omega) y with ⟨i, hi, rfl, hb⟩ | hb
      · have i1 : ¬ nI i < 0 := nI_pos (by omega)
        have i2 : ¬ ¬ nI i < sA S 195 j := fun z => z (by rw [h195]; exact nI_lt hi (by omega))
        obtain ⟨v0, hv0⟩ : ∃ v, L[i]? = some v := ⟨L[i]'(by omega), List.getElem?_eq_getElem (by omega)⟩
        have hx0 := l7 i _ hv0
        by_cases hw : sA S (72 + 15 * j + 8) i = nI 1
        · have hσ : σ i = 1 := by
            rw [hx0.1.2.2.2] at hw
            exact (nI_eq (by have := l6 i; omega) (by decide)).mp hw
          have h204 : ¬ ¬ sA S 204 (160 * j + i) = nI 1 := fun z => z (by rw [hx0.2.2.2.2, hσ])
          obtain ⟨fu, U, u1, u2, u3, u4, u5, u6⟩ := tS.wait l3 l4 i _ hv0 (by rw [Nat.zero_add]; exact hσ)
          rw [Nat.zero_add] at u5 u6
          obtain ⟨M, hM⟩ : ∃ M, M = U.length := ⟨_, rfl⟩
          have hMn : i + M ≤ tn j := by have := u3.len u1.len; omega
          have hM0 : 0 < M := by have := u1.len; omega
          have hend : trE S (72 + 15 * j) (tn j - i) i 1 = i + M := by rw [end_T l1 l3 l7 u1 u3, hM]
          obtain ⟨S1, hS1⟩ : ∃ Z, Z = uJ S 0 10 (sJ S 0 10 + trSurf S (72 + 15 * j) i) := ⟨_, rfl⟩
          have r1' : haI S1 B N R oa D rk g tn fl := by rw [hS1]; exact haI_J r1
          have hmk : ∀ q, q < tn j → sA S (72 + 15 * j + 1) q = nI 2 → ∃ y, y < N ∧ sA S (72 + 15 * j + 6) q = nI y := fun q hq => r1.2.2.2.2.2.2.2.2.2.2.2.1 j q hj hq
          have hflt : ∀ q z, q < M → paF S (72 + 15 * j) i q = some z → z < N := fun q z hq hz => paF_lt (n := tn j) hN6 hmk (by omega) hz
          obtain ⟨S2, hS2⟩ : ∃ Z, Z = (bkSeq S1 oa D (paF S (72 + 15 * j) i) 4 3 M).1 := ⟨_, rfl⟩
          obtain ⟨D2, hD2⟩ : ∃ Z, Z = (bkSeq S1 oa D (paF S (72 + 15 * j) i) 4 3 M).2 := ⟨_, rfl⟩
          have hI2 := haI_seq r1' (f := paF S (72 + 15 * j) i) 4 3 M hflt
          obtain ⟨-, b2, b3, b4, b5, b6, b7⟩ := bkSeq_ok (f := paF S (72 + 15 * j) i) (i := 4) (j := 3) r1'.2.2.1 r1'.2.2.2.1 M hflt
          rw [← hS2, ← hD2] at hI2
          rw [← hS2] at b2 b3 b4 b5 b6 b7
          have s1A : sA S1 = sA S := by rw [hS1]; rfl
          have s1F : sF S1 = sF S := by rw [hS1]; rfl
          obtain ⟨S3, hS3⟩ : ∃ Z, Z = trBrk S2 (72 + 15 * j) i M := ⟨_, rfl⟩
          have hI3 := haI_brk hI2 (f := i) hj M
          rw [← hS3] at hI3
          obtain ⟨t1, t2, t3, t4, t5, t6, t7⟩ := trBrk_A (S := S2) (b := 72 + 15 * j) (f := i) M
          have t0 := trBrk_F (S := S2) (b := 72 + 15 * j) (f := i) M
          rw [← hS3] at t0 t1 t2 t3 t4 t5 t6 t7
          obtain ⟨P, hP⟩ : ∃ Z, Z = haClr S3 j (tn j) := ⟨_, rfl⟩
          have hIP := haI_clr hI3 hj
          rw [← hP] at hIP
          obtain ⟨v, hv⟩ : ∃ v, v = cntN (paF S (72 + 15 * j) i) M := ⟨_, rfl⟩
          have hp : haBroke S oa D tn x (nI i) = (rI (nI v), P) := by
            unfold haBroke; rw [e]; simp only []
            rw [if_neg h0, if_neg (by rw [hb]; decide), nI_clamp (by omega), if_neg (fun z => z hw)]
            have e1 : haBr1 S j i = S1 := by rw [hS1]; rfl
            have e2 : haBr2 S1 oa D j (tn j) i = S2 := by
              unfold haBr2
              rw [trE_c (S := S) (by rw [s1A]), hend, show i + M - i = M by omega, hS2, show paF S1 (72 + 15 * j) i = paF S (72 + 15 * j) i by funext q; unfold paF; rw [s1A]]
            have e3 : haBr3 S2 j (tn j) i = S3 := by
              unfold haBr3
              rw [trE_c (S := S) (by rw [b3, s1A]), hend, show i + M - i = M by omega, hS3]
            rw [e1, e2, e3, hend, show i + M - i = M by omega, hP, hv]
          rw [hp] at hH
          obtain ⟨σ', hσ'⟩ : ∃ s : Nat → Nat, s = fun q => if i ≤ q ∧ q < i + M then 3 else σ q := ⟨_, rfl⟩
          have s3 : ∀ q, σ' q ≤ 3 := fun q => by rw [hσ']; simp only []; split; exact Nat.le_refl _; exact l6 q
          have S3A : ∀ o, o ≠ 72 + 15 * j + 8 → sA S3 o = sA S o := fun o ho => by rw [t1 o ho, b3, s1A]
          have S38 : ∀ q, q < tn j → sA S3 (72 + 15 * j + 8) q = nI (σ' q) := fun q hq => by
            rw [t2, hσ']
            simp only []
            split
            · rfl
            · rw [b3, s1A]
              have hvq : L[q]? = some (L[q]'(by omega)) := List.getElem?_eq_getElem (by omega)
              exact (l7 q _ hvq).1.2.2.2
          have S3F : sF S3 = sF S := by rw [t0, b2, s1F]
          have S3J : ∀ o k, (o ≠ 0 ∨ k ≠ 10) → sJ S3 o k = sJ S o k := fun o k ok => by
            rw [t3, b4, hS1]
            by_cases z : o = 0
            · subst z; rw [sJ_uJ, va_up_ne _ _ (by omega)]
            · rw [sJ_uJn _ _ _ z]
          have S310 : sJ S3 0 10 = sJ S 0 10 + trSurf S (72 + 15 * j) i := by rw [t3, b4, hS1, sJ_uJ, va_up_self]
          have hcl := fst_waits (S := S3) (b := 72 + 15 * j) (n := tn j) S38 s3
          have PA : sA P = sA S3 := by rw [hP]; unfold haClr; split <;> rfl
          have PJ : sJ P = sJ S3 := by rw [hP]; unfold haClr; split <;> rfl
          have PN : sN P = sN S ∧ sL P = sL S := by
            have z1 : sN S1 = sN S ∧ sL S1 = sL S := by rw [hS1]; exact ⟨rfl, rfl⟩
            rw [hP]; unfold haClr
            split
            · exact ⟨by show sN S3 = _; rw [t6, b6, z1.1], by show sL S3 = _; rw [t7, b7, z1.2]⟩
            · exact ⟨by rw [t6, b6, z1.1], by rw [t7, b7, z1.2]⟩
          have PF : ∀ o, o ≠ 72 + 15 * j → o ≠ 66 + 15 * j → sF P o = sF S o := fun o o1 o2 => by
            rw [hP]; unfold haClr
            split
            · rw [sF_uFn _ _ _ o2, sF_uFn _ _ _ o1, S3F]
            · rw [S3F]
          have P66 : sF P (66 + 15 * j) 3 = sF S (66 + 15 * j) 3 := by
            rw [hP]; unfold haClr
            split
            · rw [sF_uF, va_up_ne _ _ (by decide), sF_uFn _ _ _ (by omega), S3F]
            · rw [S3F]
          have PhA : ∀ o, 186 ≤ o → sA P o = sA S o := fun o ho => by rw [PA, S3A o (by omega)]
          -- the reference
          obtain ⟨Z0, hZ0⟩ : ∃ Z, Z = moBr0 (uJ P 230 0 (nI v).toInt64) (160 * j + i) := ⟨_, rfl⟩
          have z0A : ∀ o, 186 ≤ o → sA Z0 o = sA S o := fun o ho => by rw [hZ0]; exact PhA o ho
          have hpaM : moPaF Z0 j = moPaF S j := moPaF_c (z0A 196 (by decide)) (z0A 201 (by decide))
          have hrect : ∀ (q : Nat) (u : nd), L[q]? = some u → u.2.1 + u.2.2.2.1 ≤ 6000 ∧ u.2.2.1 + u.2.2.2.2.1 ≤ 6000 := fun q u hu => by
            obtain ⟨⟨a1, a2, a3, a4⟩, -⟩ := l3.inside u (getElem_mem' hu)
            omega
          have hbr : ∀ (q : Nat) (u : nd), L[i + q]? = some u → (moBrIn Z0 (160 * j + (i + q)) (160 * j + i) = true ↔ inR u v0.2.1 v0.2.2.1 v0.2.2.2.1 v0.2.2.2.2.1) := fun q u hu => by
            rw [moBrIn_c (S := S) (fun o o1 o2 => z0A o (by omega))]
            have hxu := l7 (i + q) u hu
            exact brIn_iff hxu.2.1.2.1 hxu.2.1.2.2 hxu.2.2.1.1 hxu.2.2.1.2.1 hx0.2.1.2.1 hx0.2.1.2.2 hx0.2.2.1.1 hx0.2.2.1.2.1 (hrect _ _ hu) (hrect _ _ hv0)
          have hin : ∀ q, q < M → moBrIn Z0 (160 * j + (i + q)) (160 * j + i) = true := fun q hq => by
            have hu : U[q]? = some (U[q]'(by omega)) := List.getElem?_eq_getElem (by omega)
            exact (hbr q _ (u3 q _ hu)).mpr (u1.inside _ (getElem_mem' hu)).1
          have hout : ∀ q, M ≤ q → q < tn j - i → moBrIn Z0 (160 * j + (i + q)) (160 * j + i) = false := fun q hq hq2 => by
            have hu : L[i + q]? = some (L[i + q]'(by omega)) := List.getElem?_eq_getElem (by omega)
            cases z : moBrIn Z0 (160 * j + (i + q)) (160 * j + i) with
            | false => rfl
            | true => exact absurd ((hbr q _ hu).mp z) (u4 (i + q) _ (by omega) hu)
          obtain ⟨BL, hBL⟩ : ∃ Z, Z = moBrL Z0 j (160 * j + i) i (nc j - i) := ⟨_, rfl⟩
          have hBM : BL = moBrL Z0 j (160 * j + i) i M := by
            rw [hBL, enc]
            exact moBrL_stop hout (tn j - i) (by omega) (Nat.le_refl _)
          obtain ⟨y1, y2, ⟨y3, y4⟩, y5, y6, y7⟩ := moBrL_N (S := Z0) (s := j) (n := 160 * j + i) (i := i) (M := M) hin M (Nat.le_refl _)
          rw [← hBM] at y1 y2 y3 y4 y5 y6 y7
          rw [hpaM] at y3 y4 y5
          have hps : ∀ q, q < M → paF S (72 + 15 * j) i q = shF (moPaF S j) i q := fun q hq => by
            have := pa_eq (S := S) (j := j) (n := tn j) (fun q hq => h.2.1.nd hj hq) (i + q) (by omega)
            unfold shF
            rw [← this]
            unfold paF
            rw [Nat.zero_add]
          obtain ⟨Q2, hQ2⟩ : ∃ Z, Z = uA BL.1 187 j (bI (moLv BL.1 j (nc j))) := ⟨_, rfl⟩
          have B204 : ∀ q, q < tn j → sA BL.1 204 (160 * j + q) = nI (σ' q) := fun q hq => by
            rw [y2, hσ']
            simp only []
            by_cases z : i ≤ q ∧ q < i + M
            · rw [if_pos z, if_pos (by omega)]
            · rw [if_neg z, if_neg (by omega), z0A 204 (by decide)]
              have hvq : L[q]? = some (L[q]'(by omega)) := List.getElem?_eq_getElem (by omega)
              exact (l7 q _ hvq).2.2.2.2
          have hlv : moLv BL.1 j (nc j) = true ↔ ∃ q, q < tn j ∧ σ' q = 1 := by
            rw [lv_iff, enc]
            constructor
            · rintro ⟨q, hq, hh⟩
              rw [B204 q hq] at hh
              exact ⟨q, hq, (nI_eq (by have := s3 q; omega) (by decide)).mp hh⟩
            · rintro ⟨q, hq, hh⟩
              exact ⟨q, hq, by rw [B204 q hq, hh]⟩
          have lo : loE P Q2 := by
            rw [hQ2, hBL, hZ0]
            exact (((loE.rf.J (by decide)).F (by decide)).J (by decide)).trans ((moBrL_lo _).A (by decide))
          have QlF : ∀ o, o < 186 → sF Q2 o = sF P o := fun o ho => (lo.1 o ho).1
          have QlA : ∀ o, o < 186 → sA Q2 o = sA P o := fun o ho => (lo.1 o ho).2.1
          have QlJ : ∀ o, o < 186 → sJ Q2 o = sJ P o := fun o ho => (lo.1 o ho).2.2
          have QA1 : ∀ o, 186 ≤ o → o ≠ 187 → o ≠ 204 → o ≠ 208 → o ≠ 209 → sA Q2 o = sA S o := fun o o0 o1 o2 o3 o4 => by
            rw [hQ2, sA_uAn _ _ _ o1, y1 o o2 o3 o4, z0A o o0]
          have QA2 : ∀ o, o < 186 → o ≠ 72 + 15 * j + 8 → sA Q2 o = sA S o := fun o o1 o2 => by rw [QlA o o1, PA, S3A o o2]
          have Q187 : ∀ q, q ≠ j → sA Q2 187 q = sA S 187 q := fun q hq => by
            rw [hQ2, sA_uA, va_up_ne _ _ hq, y1 187 (by decide) (by decide) (by decide), z0A 187 (by decide)]
          have Q187j : sA Q2 187 j = bI (moLv BL.1 j (nc j)) := by rw [hQ2, sA_uA, va_up_self]
          have Q204 : ∀ q, (q < 160 * j ∨ 160 * j + 145 ≤ q) → sA Q2 204 q = sA S 204 q := fun q hq => by
            rw [hQ2, sA_uAn _ _ _ (by decide), y2, if_neg (by omega), z0A 204 (by decide)]
          have QF : ∀ k, k ≠ 0 → sF Q2 186 k = sF S 186 k := fun k hk => by
            rw [hQ2]
            show sF BL.1 186 k = _
            rw [y6, hZ0]
            show sF (moThr (uJ P 230 0 (nI v).toInt64) 0) 186 k = _
            unfold moThr
            rw [sF_uF, va_up_ne _ _ hk]
            show sF P 186 k = _
            rw [PF _ (by omega) (by omega)]
          have QF0 : sF Q2 186 0 = nI 0 := by
            rw [hQ2]
            show sF BL.1 186 0 = _
            rw [y6, hZ0]
            exact moThr_0 (S := uJ P 230 0 (nI v).toInt64)
          have QJ : sJ Q2 = sJ (moBr0 (uJ P 230 0 (nI v).toInt64) (160 * j + i)) := by
            rw [hQ2]
            show sJ BL.1 = _
            rw [y7, hZ0]
          have QJ34 : sJ Q2 186 34 = sJ S 186 34 + trSurf S (72 + 15 * j) i := by
            rw [QJ]; unfold moBr0
            rw [sJ_uJ, va_up_self, sJ_uJn _ _ _ (by decide), PJ, S3J _ _ (by omega)]
            congr 1
            unfold moAr trSurf
            rw [show sA (uJ P 230 0 (nI v).toInt64) = sA P from rfl, PhA 199 (by decide), PhA 200 (by decide), hx0.2.2.1.1, hx0.2.2.1.2.1, hx0.1.2.1.1, hx0.1.2.1.2.1]
          have QJo : ∀ k, k ≠ 34 → sJ Q2 186 k = sJ S 186 k := fun k hk => by
            rw [QJ]; unfold moBr0
            rw [sJ_uJ, va_up_ne _ _ hk]
            show sJ (uJ P 230 0 (nI v).toInt64) 186 k = _
            rw [sJ_uJn _ _ _ (by decide), PJ, S3J _ _ (by omega)]
          have h6 : ∀ q, q < 8 → fl q ≤ 6 := fun q hq => (r1.2.2.2.2.2.2.2.2.2.1 q hq).2
          have hth2 : ∀ q, q < 8 → q ≠ j → thB Q2 q = thB S q := fun q hq hqj => by
            unfold thB; rw [QlF _ (by omega), PF _ (by omega) (by omega)]
          have Q3 : ∀ q, q < 8 → sF Q2 (66 + 15 * q) 3 = sF S (66 + 15 * q) 3 := fun q hq => by
            rw [QlF _ (by omega)]
            by_cases z : q = j
            · subst z; exact P66
            · rw [PF _ (by omega) (by omega)]
          have hthj : thB Q2 j = moLv BL.1 j (nc j) := by
            unfold thB
            rw [QlF _ (by omega), hP]
            unfold haClr
            cases z : moLv BL.1 j (nc j) with
            | true =>
              obtain ⟨q, hq, hh⟩ := hlv.mp z
              rw [if_neg (fun u => hcl.mp u q hq hh), S3F]
              unfold thB at hth
              exact hth
            | false =>
              rw [if_pos (hcl.mpr (fun q hq hh => by rw [hlv.mpr ⟨q, hq, hh⟩] at z; cases z)), sF_uF, va_up_self]
              decide +kernel
          -- what is unfinished
          have hunJ : ∀ k, k < N → unJ Q2 tn k j + seqC (paF S (72 + 15 * j) i) k M = unJ S tn k j := fun k hk => by
            have hall : ∀ q, i + q < i + M → σ (i + q) = 0 ∨ σ (i + q) = 1 := fun q hq => by
              by_cases z : q = 0
              · subst z; exact Or.inr hσ
              · exact Or.inl (u5 q (by omega) (by omega))
            have hs1 : seqC (paF S (72 + 15 * j) i) k M = sumN (fun q => unI S k j (i + q)) M := by
              rw [seqC_sum]
              refine sumN_c (fun q hq => ?_)
              have hvq : L[i + q]? = some (L[i + q]'(by omega)) := List.getElem?_eq_getElem (by omega)
              have zs := (l7 _ _ hvq).1.2.2.2
              unfold unI paF
              by_cases e' : sA S (72 + 15 * j + 1) (i + q) = nI 2
              · obtain ⟨y', hy', ey'⟩ := hmk (i + q) (by omega) e'
                rw [if_pos e', ey', nI_clamp (by omega)]
                have hst : sA S (72 + 15 * j + 8) (i + q) = nI 0 ∨ sA S (72 + 15 * j + 8) (i + q) = nI 1 := by
                  rw [zs]
                  rcases hall q (by omega) with u | u <;> rw [u] <;> simp
                by_cases u : y' = k
                · subst u
                  rw [if_pos rfl, if_pos ⟨e', rfl, hst⟩]
                · rw [if_neg (fun w => u (Option.some.inj w)), if_neg (fun w => u ((nI_eq (by omega) (by omega)).mp w.2.1))]
              · rw [if_neg e', if_neg (by simp), if_neg (fun w => e' w.1)]
            have hs2 := sumN_split (f := unI S k j) (i := i) (M := M) (n := tn j) hMn
            have hs3 : unJ Q2 tn k j = sumN (fun q => if i ≤ q ∧ q < i + M then 0 else unI S k j q) (tn j) := by
              refine sumN_c (fun q hq => ?_)
              unfold unI
              rw [QA2 (72 + 15 * j + 1) (by omega) (by omega), QA2 (72 + 15 * j + 6) (by omega) (by omega), QlA (72 + 15 * j + 8) (by omega), PA, S38 q hq]
              have hvq : L[q]? = some (L[q]'(by omega)) := List.getElem?_eq_getElem (by omega)
              have zs := (l7 _ _ hvq).1.2.2.2
              by_cases z : i ≤ q ∧ q < i + M
              · have zz : σ' q = 3 := by rw [hσ']; exact if_pos z
                rw [zz, if_pos z, if_neg]
                rintro ⟨-, -, w | w⟩
                · exact absurd w (by decide +kernel)
                · exact absurd w (by decide +kernel)
              · have zz : σ' q = σ q := by rw [hσ']; exact if_neg z
                rw [zz, if_neg z, zs]
            rw [hs1, hs3]
            unfold unJ
            omega
          obtain ⟨tn', htn'⟩ : ∃ s : Nat → Nat, s = if fstN (trWaits S3 (72 + 15 * j)) (tn j) = none then va_up tn j 0 else tn := ⟨_, rfl⟩
          rw [← htn'] at hIP
          have tnq : ∀ q, q ≠ j → tn' q = tn q := fun q hq => by
            rw [htn']; split
            · exact va_up_ne _ _ hq
            · rfl
          have hunA : ∀ k, k < N → unA Q2 tn' k + seqC (paF S (72 + 15 * j) i) k M = unA S tn k := fun k hk => by
            have e1 : unJ Q2 tn' k j = unJ Q2 tn k j := by
              by_cases z : fstN (trWaits S3 (72 + 15 * j)) (tn j) = none
              · have z0 : unJ Q2 tn k j = 0 := by
                  refine sumN_0 (fun q hq => ?_)
                  unfold unI
                  rw [if_neg]
                  rintro ⟨-, -, w⟩
                  rw [QlA (72 + 15 * j + 8) (by omega), PA, S38 q hq] at w
                  have n1 := hcl.mp z
                  obtain ⟨fq, hq2⟩ := u6 σ' (fun q hq => by rw [hσ']; simp only []; rw [if_neg (by omega)]) ⟨1, tS.broken (fun q hq => by rw [hσ']; simp only []; rw [if_pos (by omega)])⟩
                  have n0 := hq2.over (fun q hq => by rw [Nat.zero_add]; exact n1 q (by omega)) q (by omega)
                  rw [Nat.zero_add] at n0
                  rcases w with w | w
                  · exact n0 ((nI_eq (by have := s3 q; omega) (by decide)).mp w)
                  · exact n1 q hq ((nI_eq (by have := s3 q; omega) (by decide)).mp w)
                rw [z0, htn', if_pos z]
                unfold unJ
                rw [va_up_self]; rfl
              · rw [htn', if_neg z]
            have e2 := sumN_up (f := unJ S tn k) (f' := unJ Q2 tn' k) (j := j) (n := 8) hj (fun q hq hqj => unJ_c (tnq q hqj) (fun w hw' => QA2 _ (by omega) (by omega)))
            have e3 := hunJ k hk
            show sumN (unJ Q2 tn' k) 8 + _ = sumN (unJ S tn k) 8
            omega
          have hL2 : liA B (t + 1) Q2 := by
            refine ⟨N, R, E, oa, D2, rk, g, tn', fl, nc, haI_lo lo hIP, ⟨⟨⟨by rw [QF _ (by decide)]; exact c1, by rw [QF _ (by decide)]; exact c2⟩, ⟨by rw [QlF _ (by decide), PF _ (by omega) (by omega)]; exact c3, by rw [QF _ (by decide)]; exact c4⟩, fun q hq hti => ?_, fun q q' hq hq' t1 t2 z => ?_⟩, ⟨?_, ?_, ?_, ?_⟩, fun q hq => ?_, fun q hq => ?_, fun k hk => ?_, ?_, fun k hk => ?_, m8⟩, ⟨fun k hk => ?_, fun k hk => ?_⟩, ⟨?_, ?_⟩, ?_, by omega⟩
            · rw [Q3 q hq]
              by_cases z : q = j
              · subst z; exact c5 q hq hth
              · rw [hth2 q hq z] at hti; exact c5 q hq hti
            · rw [Q3 q hq, Q3 q' hq'] at z
              have g1 : thB S q = true := by
                by_cases w : q = j
                · subst w; exact hth
                · rw [hth2 q hq w] at t1; exact t1
              have g2 : thB S q' = true := by
                by_cases w : q' = j
                · subst w; exact hth
                · rw [hth2 q' hq' w] at t2; exact t2
              exact c6 q q' hq hq' g1 g2 z
            · rw [QlJ _ (by decide), PJ, S3J _ _ (by omega), QJo _ (by decide)]; exact m2.1
            · rw [QlJ _ (by decide), PJ, S3J _ _ (by omega), QJo _ (by decide)]; exact m2.2.1
            · rw [QlJ _ (by decide), PJ, S3J _ _ (by omega), QJo _ (by decide)]; exact m2.2.2.1
            · rw [QlJ _ (by decide), PJ, S310, QJ34, m2.2.2.2]
            · by_cases u : q = j
              · subst u
                obtain ⟨W', H', z1, ⟨⟨z2, z3⟩, z4, z5⟩, z6, ⟨z7, z8⟩, z9, z10⟩ := m3 q hq
                refine ⟨W', H', z1, ⟨⟨by rw [QlF _ (by omega), PF _ (by omega) (by omega)]; exact z2, by rw [QlF _ (by omega), PF _ (by omega) (by omega)]; exact z3⟩, by rw [QA1 189 (by decide) (by decide) (by decide) (by decide) (by decide)]; exact z4, by rw [QA1 190 (by decide) (by decide) (by decide) (by decide) (by decide)]; exact z5⟩, fun _ => z6 hth, ⟨by rw [QA1 193 (by decide) (by decide) (by decide) (by decide) (by decide)]; exact z7, fun k hk => (z8 k hk).c (fun w w1 w4 => by rw [QA2 _ (by omega) (by omega)]) (fun w hw' => by rw [QA1 194 (by decide) (by decide) (by decide) (by decide) (by decide)])⟩, ?_, by rw [Q3 q hq, QA1 188 (by decide) (by decide) (by decide) (by decide) (by decide)]; exact z10⟩
                rw [hthj, Q187j]
                cases moLv BL.1 q (nc q) <;> decide +kernel
              · exact (m3 q hq).c rfl (h6 q hq) (by rw [QlF _ (by omega), PF _ (by omega) (by omega)]) (fun w _ => by rw [QlF _ (by omega), PF _ (by omega) (by omega)]) (fun w w1 w4 => QA2 _ (by omega) (by omega)) (fun w hw' => by
                  by_cases z : w = 187
                  · subst z; exact Q187 q u
                  · rw [QA1 w (by omega) z (by omega) (by omega) (by omega)]) (fun w hw' => by rw [QA1 194 (by decide) (by decide) (by decide) (by decide) (by decide)])
            · by_cases u : q = j
              · subst u
                obtain ⟨z1, z2, z3, z4, z5⟩ := m4 q hq
                have h191' : ¬ sA Q2 191 q = 0 := by rw [QA1 191 (by decide) (by decide) (by decide) (by decide) (by decide)]; exact h191
                by_cases z : fstN (trWaits S3 (72 + 15 * q)) (tn q) = none
                · have hf : moLv BL.1 q (nc q) = false := by
                    cases w : moLv BL.1 q (nc q) with
                    | false => rfl
                    | true => obtain ⟨a, ha, hh⟩ := hlv.mp w; exact absurd hh (hcl.mp z a ha)
                  have tz : tn' q = 0 := by rw [htn', if_pos z, va_up_self]
                  refine ⟨(fun w => by rw [hthj, hf] at w; cases w), fun _ => tz, ⟨by rw [QA1 195 (by decide) (by decide) (by decide) (by decide) (by decide)]; exact z3.1, z3.2⟩, fun a ha => by rw [QA1 196 (by decide) (by decide) (by decide) (by decide) (by decide), QA1 201 (by decide) (by decide) (by decide) (by decide) (by decide)]; exact z4 a ha, fun w => by omega⟩
                · have tz : tn' q = tn q := by rw [htn', if_neg z]
                  have hex : ∃ a, a < tn q ∧ σ' a = 1 := Classical.byContradiction fun w => z (hcl.mpr (fun a ha hh => w ⟨a, ha, hh⟩))
                  have hi0 : i ≠ 0 := fun w => by
                    subst w
                    have : U.length = L.length := by
                      have e1 := end_T l1 l3 l7 l3 (hasAt.rf (L := L))
                      have e2 := hend
                      rw [e1] at e2
                      omega
                    obtain ⟨a, ha, hh⟩ := hex
                    rw [hσ'] at hh
                    simp only [] at hh
                    rw [if_pos (by omega)] at hh
                    omega
                  refine ⟨fun _ => ⟨fun _ => h191', fun _ => by omega⟩, (fun w => by rw [hthj, hlv.mpr hex] at w; cases w), ⟨by rw [QA1 195 (by decide) (by decide) (by decide) (by decide) (by decide)]; exact z3.1, z3.2⟩, fun a ha => by rw [QA1 196 (by decide) (by decide) (by decide) (by decide) (by decide), QA1 201 (by decide) (by decide) (by decide) (by decide) (by decide)]; exact z4 a ha, fun w => ⟨by rw [tz]; exact enc, ?_⟩⟩
                  rw [tz]
                  refine ⟨L, σ', W, H, l1, ⟨l2.1, fun a va hva hs => l2.2 a va hva (by rw [hσ'] at hs; simp only [] at hs; split at hs <;> omega)⟩, ⟨f, l3⟩, u6 σ' (fun a ha => by rw [hσ']; simp only []; rw [if_neg (by omega)]) ⟨1, tS.broken (fun a ha => by rw [hσ']; simp only []; rw [if_pos (by omega)])⟩, hex, s3, fun a va hva => ?_, ?_⟩
                  · have hal := (List.getElem?_eq_some_iff.mp hva).1
                    refine (l7 a va hva).c (fun w w1 w7 => by rw [QA2 _ (by omega) (by omega)]) (fun w w1 w2 => by rw [QA1 w (by omega) (by omega) (by omega) (by omega) (by omega)]) ?_ ?_
                    · rw [QlA _ (by omega), PA]; exact S38 a (by omega)
                    · rw [hQ2, sA_uAn _ _ _ (by decide)]; exact B204 a (by omega)
                  · rw [QA1 192 (by decide) (by decide) (by decide) (by decide) (by decide), l8, hσ']
                    simp only []
                    rw [if_neg (by omega)]
              · exact (m4 q hq).c (Nat.le_refl _) (tnq q u) rfl (hth2 q hq u) (by rw [QA1 191 (by decide) (by decide) (by decide) (by decide) (by decide)]) (by rw [QA1 195 (by decide) (by decide) (by decide) (by decide) (by decide)]) (fun w w1 w8 => QA2 _ (by omega) (by omega)) (fun o w o1 o2 hw' => by
                  by_cases z : o = 204
                  · subst z; exact Q204 _ (by omega)
                  · rw [QA1 o (by omega) (by omega) z (by omega) (by omega)]) (by rw [QA1 192 (by decide) (by decide) (by decide) (by decide) (by decide)])
            · have hu := hunA k hk
              have hM' : seqC (shF (moPaF S j) i) k M = seqC (paF S (72 + 15 * j) i) k M := (seqC_c hps).symm
              have hle : seqC (paF S (72 + 15 * j) i) k M ≤ unA S tn k := by omega
              rw [show unA Q2 tn' k = unA S tn k - seqC (paF S (72 + 15 * j) i) k M by omega]
              obtain ⟨w', h', o', d', ⟨-, -, bo⟩, ⟨-, ⟨e3, e4, -⟩⟩, ⟨-, ⟨g3, g4, -⟩⟩, -⟩ := id (m5 k hk)
              obtain ⟨z1, z2, z3⟩ := bkSeq_N (S := S1) (oa := oa) (f := paF S (72 + 15 * j) i) (i := 4) (j := 3) (by decide) e4 e3 M hle
              obtain ⟨w1, w2⟩ := moSeq_N (S := Z0) (f := shF (moPaF S j) i) (a := 209) (b := 208) (x := k) (by decide) (by rw [z0A 209 (by decide)]; exact g4) (by rw [z0A 208 (by decide)]; exact g3) M (by rw [hM']; exact hle)
              rw [hM'] at w1 w2
              rw [← hD2] at z1 z2 z3
              refine (m5 k hk).back hle ⟨o', e3, by omega, z2, by rw [hQ2, sA_uAn _ _ _ (by decide), y3]; exact w2⟩ z1 (fun a a1 a2 => z3 a a2 a1) (by rw [hQ2, sA_uAn _ _ _ (by decide), y4]; exact w1) (fun a a1 a2 a3 a4 => by rw [QA1 a (by omega) (by omega) (by omega) a3 a4])
            · exact m6.c (fun k _ => ⟨by rw [QA1 205 (by decide) (by decide) (by decide) (by decide) (by decide)], by rw [QA1 206 (by decide) (by decide) (by decide) (by decide) (by decide)]⟩)
            · obtain ⟨q, hq, eqq⟩ := rkGl r1 (show k < 10 by have := r1.2.2.2.2.2.1.2; omega)
              exact (m7 k hk).c (by rw [QlF _ (by omega), PF _ (by omega) (by omega)]) (fun w w1 w4 => QA2 _ (by omega) (by omega)) (fun o o1 o2 => by rw [QA1 o (by omega) (by omega) (by omega) (by omega) (by omega)]) (fun a _ => by rw [QA1 214 (by decide) (by decide) (by decide) (by decide) (by decide)])
            · rw [lo.2.2.2.1, PN.1]; exact r3 k hk
            · have hno : ∀ a, a < M → shF (moPaF S j) i a ≠ some k := fun a ha z => by
                rw [← hps a ha] at z
                have := hflt a k ha z
                omega
              rw [QA1 210 (by decide) (by decide) (by decide) (by decide) (by decide), hQ2, sA_uAn _ _ _ (by decide), y4, moSeq_out _ hno, z0A 209 (by decide)]
              exact rz k hk
            · rw [lo.2.2.2.1, PN.1]; exact r4
            · rw [lo.2.2.2.1, PN.1]; omega
            · rw [lo.2.2.2.2, PN.2]; omega
          have hf1 : moFind (uJ P 230 0 (nI v).toInt64) x 8 = some j := by
            rw [moFind_c (S := S) (Z := uJ P 230 0 (nI v).toInt64) (PhA 187 (by decide)) (PhA 188 (by decide))]; exact (h.2.1.find x).trans e
          have hq : moBroke (uJ P 230 0 (nI v).toInt64) nc x (nI i) = (nI v, Q2) := by
            unfold moBroke
            rw [hf1]
            simp only []
            rw [nI_clamp (by omega)]
            have hC : moBroC (uJ P 230 0 (nI v).toInt64) j (nI i) = 0 := by
              unfold moBroC
              show (if sA P 191 j = 0 then 2 else if nI i < 0 then 3 else if ¬ nI i < sA P 195 j then 3 else if ¬ sA P 204 (160 * j + (nI i).toNatClampNeg) = nI 1 then 2 else 0) = 0
              rw [PhA 191 (by decide), PhA 195 (by decide), PhA 204 (by decide), if_neg h191, if_neg i1, if_neg i2, nI_clamp (by omega), if_neg h204]
            rw [hC, ← hZ0, ← hBL, hQ2]
            show (nI BL.2, _) = (nI v, _)
            rw [y5, ← cntN_c hps, hv]
          refine op_ret (v := nI v) (q := moBroke (uJ P 230 0 (nI v).toInt64) nc x (nI i)) hH rfl (c_Mo_broke1 (S := uJ P 230 0 (nI v).toInt64) hG hf1 (fun s hs => by show sA P 195 s = _ ∧ _; rw [PhA 195 (by decide)]; exact h.2.1.cnt s hs) hN6 (fun s a hs ha => by show sA P 196 _ = _ → ∃ y, y < N ∧ sA P 201 _ = _; rw [PhA 196 (by decide), PhA 201 (by decide)]; exact hmkM s a hs ha) (by omega)) (by rw [hq]) (by rw [hq]; exact QF0) ?_ ?_ ?_
          · rw [hq]
            show sJ Q2 230 0 = _
            rw [QJ]; unfold moBr0
            rw [sJ_uJn _ _ _ (by decide)]
            exact told_J (S := P) (k := 0)
          · show B + 231 ≤ sN P
            rw [PN.1]; exact r4
          · rw [hq]; exact hL2
        · have h204 : ¬ sA S 204 (160 * j + i) = nI 1 := fun z => hw (by rw [hx0.1.2.2.2]; rw [hx0.2.2.2.2] at z; exact z)
          have hp : haBroke S oa D tn x (nI i) = (.inr 13, S) := by
            unfold haBroke; rw [e]; simp only []
            rw [if_neg h0, if_neg (by rw [hb]; decide), nI_clamp (by omega), if_pos hw]
          rw [hp] at hH
          refine op_thr (ce := 13) (k := 2) hH rfl (by decide) rfl (by decide) ?_ hsn h.thrown
          have hq : moBroke (uN S 6 (.inr (13, []))) nc x (nI i) = (0, moThr (uN S 6 (.inr (13, []))) 2) := by
            unfold moBroke; rw [hfU 13]
            show moP (if sA S 191 j = 0 then 2 else if nI i < 0 then 3 else if ¬ nI i < sA S 195 j then 3 else if ¬ sA S 204 (160 * j + (nI i).toNatClampNeg) = nI 1 then 2 else 0) _ _ _ = _
            rw [if_neg h191, if_neg i1, if_neg i2, nI_clamp (by omega), if_pos h204]; rfl
          rw [← hq]
          exact c_Mo_broke1 (S := uN S 6 (.inr (13, []))) hG (hfU 13) h.2.1.cnt hN6 hmkM (by omega)
      · have hp : haBroke S oa D tn x y = (.inr 14, S) := by
          unfold haBroke; rw [e]; simp only []
          rw [if_neg h0, if_pos hb]
        rw [hp] at hH
        refine op_thr (ce := 14) (k := 3) hH rfl (by decide) rfl (by decide) ?_ hsn h.thrown
        have hq : moBroke (uN S 6 (.inr (14, []))) nc x y = (0, moThr (uN S 6 (.inr (14, []))) 3) := by
          unfold moBroke; rw [hfU 14]
          show moP (if sA S 191 j = 0 then 2 else if y < 0 then 3 else if ¬ y < sA S 195 j then 3 else if ¬ sA S 204 (160 * j + y.toNatClampNeg) = nI 1 then 2 else 0) _ _ _ = _
          rw [if_neg h191]
          by_cases z : y < 0
          · rw [if_pos z]; rfl
          · rw [if_neg z, h195, if_pos]
            · rfl
            · intro u
              unfold inB at hb
              rw [decide_eq_true (Int32.not_lt.mp z), decide_eq_true u] at hb
              cases hb
        rw [← hq]
        exact c_Mo_brokeO (S := uN S 6 (.inr (14, []))) hG (hfU 14) h.2.1.cnt (by rw [enc]; exact hb)
