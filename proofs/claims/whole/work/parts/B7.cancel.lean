/-! a plan is cancelled -/
theorem end_T {S : xS} {j n : Nat} {L U : List nd} {σ : Nat → Nat} {f f' x y w h x' y' w' h' i : Nat} (hl : L.length = n) (hq : isT f L x y w h) (hnd : ∀ i v, L[i]? = some v → ndX S j i v (σ i)) (hU : isT f' U x' y' w' h') (hat : hasAt L i U) : trE S (72 + 15 * j) (n - i) i 1 = i + U.length := by
  have hlen := hat.len hU.len
  have hcut : ∀ q, q < n → trCut S (72 + 15 * j) q = cutL L q := fun q hq' => by
    have hv : L[q]? = some (L[q]'(by omega)) := List.getElem?_eq_getElem (by omega)
    rw [cutL_at hv]
    exact (hnd q _ hv).cut (hq.at hv).1.1
  rw [trE_tE hcut _ _ _ (by omega), show n - i = U.length + (n - i - U.length) by omega]
  have := tE_T (L := L) hU i hat (n - i - U.length) 0
  rw [this, tE_0]
theorem moPaF_c {S Z : xS} {s : Nat} (h1 : sA Z 196 = sA S 196) (h2 : sA Z 201 = sA S 201) : moPaF Z s = moPaF S s := by
  funext k
  unfold moPaF
  rw [h1, h2]
set_option maxHeartbeats 1000000 in
theorem op_cancel {G : xG} {S : xS} {B t N R E : Nat} {oa : Nat → Nat} {D : Nat → Nat → Int32} {rk g tn fl nc : Nat → Nat} (hG : xOkG G) (hc : B + 1000 ≤ gC G) (hs : 30000 ≤ gS G) (ht : t < 512) (h : liP S B t N R E oa D rk g tn fl nc) {x : Int32} : opW G B t (liA B) S m_Ha_cancel m_Mo_cancel [.int x] [11, 13] := by
  have hH := c_Ha_cancel (d := 13) hG h.1 (h.rm hc hs ht) (x := x)
  have hsn := h.2.2.2.1.1
  obtain ⟨r1, ⟨⟨⟨c1, c2⟩, ⟨c3, c4⟩, c5, c6⟩, m2, m3, m4, m5, m6, m7, m8⟩, ⟨r3, rz⟩, ⟨r4, r5⟩, r6, r7⟩ := id h
  have hN6 : N ≤ 6 := r1.2.1.2
  have hmkM : ∀ s i, s < 8 → i < nc s → sA S 196 (160 * s + i) = nI 2 → ∃ y, y < N ∧ sA S 201 (160 * s + i) = nI y := fun s i hs hi => (m4 s hs).2.2.2.1 i hi
  cases e : fstN (idB S x) 8 with
  | none =>
    have hp : haCancel S oa D tn x = (.inr 11, S) := by unfold haCancel; rw [e]
    rw [hp] at hH
    refine op_thr (ce := 11) (k := 1) hH rfl (by decide) rfl (by decide) ?_ hsn h.thrown
    have hq : moCancel (uN S 6 (.inr (11, []))) nc x = (0, moThr (uN S 6 (.inr (11, []))) 1) := by
      unfold moCancel; rw [(h.2.1.new.find x).trans e]
    rw [← hq]; exact c_Mo_cancel (S := uN S 6 (.inr (11, []))) hG h.2.1.cnt hN6 hmkM
  | some j =>
    obtain ⟨hj, hth⟩ := h.2.1.there e
    have thr : ∀ k : Nat, haCancel S oa D tn x = (.inr 13, S) → moCanC S j = 2 → opW G B t (liA B) S m_Ha_cancel m_Mo_cancel [.int x] [11, 13] := by
      intro k hp hC
      rw [hp] at hH
      refine op_thr (ce := 13) (k := 2) hH rfl (by decide) rfl (by decide) ?_ hsn h.thrown
      have hq : moCancel (uN S 6 (.inr (13, []))) nc x = (0, moThr (uN S 6 (.inr (13, []))) 2) := by
        unfold moCancel; rw [(h.2.1.new.find x).trans e]
        show moP (moCanC S j) _ _ _ = _
        rw [hC]; rfl
      rw [← hq]; exact c_Mo_cancel (S := uN S 6 (.inr (13, []))) hG h.2.1.cnt hN6 hmkM
    by_cases h0 : tn j = 0
    · have h191 : sA S 191 j = 0 := Classical.byContradiction fun z => by have := (h.2.1.plan hj hth).mpr z; omega
      exact thr 0 (by unfold haCancel; rw [e]; exact if_pos h0) (by unfold moCanC; rw [if_pos h191])
    · have h191 : ¬ sA S 191 j = 0 := (h.2.1.plan hj hth).mp (by omega)
      obtain ⟨enc, L, σ, W, H, l1, l2, ⟨f, l3⟩, ⟨f2, l4⟩, l5, l6, l7, l8⟩ := (m4 j hj).2.2.2.2 (by omega)
      have hv0 : L[0]? = some (L[0]'(by omega)) := List.getElem?_eq_getElem (by omega)
      have hroot := (l7 0 _ hv0).1.2.2.2
      by_cases hw : sA S (72 + 15 * j + 8) 0 = nI 1
      · have hσ : σ 0 = 1 := by
          rw [hroot] at hw
          exact (nI_eq (by have := l6 0; omega) (by decide)).mp hw
        obtain ⟨fu, U, u1, u2, u3, -, u5, -⟩ := tS.wait l3 l4 0 _ hv0 (by rw [Nat.zero_add]; exact hσ)
        have hend : trE S (72 + 15 * j) (tn j - 0) 0 1 - 0 = tn j := by
          rw [end_T l1 l3 l7 l3 hasAt.rf, l1]; omega
        have hall : ∀ q, 0 + q < tn j → σ (0 + q) = 0 ∨ σ (0 + q) = 1 := fun q hq => by
          cases f2 with
          | zero => exact l4.elim
          | succ f2 =>
            rcases l4 with ⟨s1, s2⟩ | s | ⟨s1, -⟩
            · by_cases z : q = 0
              · subst z; exact Or.inr hσ
              · exact Or.inl (s2 q (by omega) (by omega))
            · have := s 0 (by omega)
              rw [Nat.zero_add] at this
              omega
            · omega
        obtain ⟨S2, hS2⟩ : ∃ Z, Z = (bkSeq S oa D (paF S (72 + 15 * j) 0) 4 3 (tn j)).1 := ⟨_, rfl⟩
        obtain ⟨D2, hD2⟩ : ∃ Z, Z = (bkSeq S oa D (paF S (72 + 15 * j) 0) 4 3 (tn j)).2 := ⟨_, rfl⟩
        have hmk : ∀ i, i < tn j → sA S (72 + 15 * j + 1) i = nI 2 → ∃ y, y < N ∧ sA S (72 + 15 * j + 6) i = nI y := fun i hi => r1.2.2.2.2.2.2.2.2.2.2.2.1 j i hj hi
        have hflt : ∀ q y, q < tn j → paF S (72 + 15 * j) 0 q = some y → y < N := fun q y hq hy => paF_lt (n := tn j) hN6 hmk (by omega) hy
        have hI2 := haI_seq r1 (f := paF S (72 + 15 * j) 0) 4 3 (tn j) hflt
        obtain ⟨-, b2, b3, b4, b5, b6, b7⟩ := bkSeq_ok (f := paF S (72 + 15 * j) 0) (i := 4) (j := 3) r1.2.2.1 r1.2.2.2.1 (tn j) hflt
        rw [← hS2, ← hD2] at hI2
        rw [← hS2] at b2 b3 b4 b5 b6 b7
        obtain ⟨P, hP⟩ : ∃ P, P = uF S2 (72 + 15 * j) 8 (nI 0) := ⟨_, rfl⟩
        have hIP := haI_cut hI2 hj
        rw [← hP] at hIP
        obtain ⟨v, hv⟩ : ∃ v, v = cntN (paF S (72 + 15 * j) 0) (tn j) := ⟨_, rfl⟩
        have hp : haCancel S oa D tn x = (rI (nI v), P) := by
          unfold haCancel; rw [e]; simp only []
          rw [if_neg h0, if_neg (fun z => z hw), hend, hP, hS2, hv]
        rw [hp] at hH
        have PA : sA P = sA S := by rw [hP]; exact b3
        have PJ : sJ P = sJ S := by rw [hP]; exact b4
        have PF : ∀ o, o ≠ 72 + 15 * j → sF P o = sF S o := fun o ho => by rw [hP, sF_uFn _ _ _ ho, b2]
        have hpa := pa_eq (S := S) (j := j) (n := tn j) (fun i hi => h.2.1.nd hj hi)
        obtain ⟨Z, hZ⟩ : ∃ Z, Z = moSeq (moThr (uJ P 230 0 (nI v).toInt64) 0) (moPaF S j) 209 208 (tn j) := ⟨_, rfl⟩
        obtain ⟨Q2, hQ2⟩ : ∃ Q2, Q2 = uA Z 191 j (nI 0) := ⟨_, rfl⟩
        have SA1 : sA (moThr (uJ P 230 0 (nI v).toInt64) 0) = sA S := PA
        obtain ⟨zF, zJ⟩ := moSeq_FJ (S := moThr (uJ P 230 0 (nI v).toInt64) 0) (f := moPaF S j) (a := 209) (b := 208) (tn j)
        rw [← hZ] at zF zJ
        have lo : loE P Q2 := by
          rw [hQ2, hZ]
          exact ((loE.rf.J (by decide)).F (by decide)).trans ((moSeq_lo (by decide) (by decide) _).A (by decide))
        have QlF : ∀ o, o < 186 → sF Q2 o = sF P o := fun o ho => (lo.1 o ho).1
        have QA1 : ∀ o, o ≠ 191 → o ≠ 208 → o ≠ 209 → sA Q2 o = sA S o := fun o o1 o2 o3 => by
          rw [hQ2, sA_uAn _ _ _ o1, hZ, moSeq_A o3 o2, SA1]
        have Q191 : ∀ i, i ≠ j → sA Q2 191 i = sA S 191 i := fun i hi => by
          rw [hQ2, sA_uA, va_up_ne _ _ hi, hZ, moSeq_A (by decide) (by decide), SA1]
        have Q191j : sA Q2 191 j = 0 := by rw [hQ2, sA_uA, va_up_self]; rfl
        have QF : ∀ k, k ≠ 0 → sF Q2 186 k = sF S 186 k := fun k hk => by
          rw [hQ2]
          show sF Z 186 k = _
          rw [zF]
          unfold moThr
          rw [sF_uF, va_up_ne _ _ hk]
          show sF P 186 k = _
          rw [PF _ (by omega)]
        have QJ : ∀ o, o ≠ 230 → sJ Q2 o = sJ S o := fun o ho => by
          rw [hQ2]
          show sJ Z o = _
          rw [zJ]
          show sJ (uJ P 230 0 (nI v).toInt64) o = _
          rw [sJ_uJn _ _ _ ho, PJ]
        have hth2 : ∀ i, i < 8 → thB Q2 i = thB S i := fun i hi => by
          unfold thB; rw [QlF _ (by omega), PF _ (by omega)]
        have h6 : ∀ i, i < 8 → fl i ≤ 6 := fun i hi => (r1.2.2.2.2.2.2.2.2.2.1 i hi).2
        have hun : ∀ k, k < N → seqC (paF S (72 + 15 * j) 0) k (tn j) = unJ S tn k j := fun k hk => by
          have := un_seq (x := k) hN6 hmk l1 l7 hall (by omega) (tn j) (by omega)
          rw [this]
          exact sumN_c (fun q _ => by rw [Nat.zero_add])
        have unQ : ∀ k, unA Q2 (va_up tn j 0) k + unJ S tn k j = unA S tn k := fun k => by
          have := sumN_up (f := unJ S tn k) (f' := unJ Q2 (va_up tn j 0) k) (j := j) (n := 8) hj (fun i hi hij => unJ_c (va_up_ne _ _ hij) (fun q hq => QA1 _ (by omega) (by omega) (by omega)))
          have z : unJ Q2 (va_up tn j 0) k j = 0 := by unfold unJ; rw [va_up_self]; rfl
          rw [z] at this
          exact this
        have hL2 : liA B (t + 1) Q2 := by
          refine ⟨N, R, E, oa, D2, rk, g, va_up tn j 0, fl, nc, haI_lo lo hIP, ⟨⟨⟨by rw [QF _ (by decide)]; exact c1, by rw [QF _ (by decide)]; exact c2⟩, ⟨by rw [QlF _ (by decide), PF _ (by omega)]; exact c3, by rw [QF _ (by decide)]; exact c4⟩, fun i hi hti => ?_, fun i i' hi hi' t1 t2 q => ?_⟩, ?_, fun i hi => ?_, fun i hi => ?_, fun k hk => ?_, ?_, fun k hk => ?_, m8⟩, ⟨fun k hk => ?_, fun k hk => ?_⟩, ⟨?_, ?_⟩, ?_, by omega⟩
          · rw [hth2 i hi] at hti
            rw [QlF _ (by omega), PF _ (by omega)]; exact c5 i hi hti
          · rw [hth2 i hi] at t1
            rw [hth2 i' hi'] at t2
            rw [QlF _ (by omega), QlF _ (by omega), PF _ (by omega), PF _ (by omega)] at q
            exact c6 i i' hi hi' t1 t2 q
          · exact ⟨by rw [QJ _ (by decide), QJ _ (by decide)]; exact m2.1, by rw [QJ _ (by decide), QJ _ (by decide)]; exact m2.2.1, by rw [QJ _ (by decide), QJ _ (by decide)]; exact m2.2.2.1, by rw [QJ _ (by decide), QJ _ (by decide)]; exact m2.2.2.2⟩
          · exact (m3 i hi).c rfl (h6 i hi) (by rw [QlF _ (by omega), PF _ (by omega)]) (fun q _ => by rw [QlF _ (by omega), PF _ (by omega)]) (fun q q1 q4 => QA1 _ (by omega) (by omega) (by omega)) (fun q hq => by rw [QA1 q (by omega) (by omega) (by omega)]) (fun q hq => by rw [QA1 194 (by decide) (by decide) (by decide)])
          · by_cases u : i = j
            · subst u
              obtain ⟨t1, t2, t3, t4, t5⟩ := m4 i hi
              refine ⟨fun _ => ⟨fun z => by rw [va_up_self] at z; omega, fun z => absurd Q191j z⟩, fun _ => va_up_self _ _ _, ⟨by rw [QA1 195 (by decide) (by decide) (by decide)]; exact t3.1, t3.2⟩, fun q hq => by rw [QA1 196 (by decide) (by decide) (by decide), QA1 201 (by decide) (by decide) (by decide)]; exact t4 q hq, fun z => by rw [va_up_self] at z; omega⟩
            · exact (m4 i hi).c (Nat.le_refl _) (va_up_ne _ _ u) rfl (hth2 i hi) (Q191 i u) (by rw [QA1 195 (by decide) (by decide) (by decide)]) (fun q q1 q8 => QA1 _ (by omega) (by omega) (by omega)) (fun o q o1 o2 _ => by rw [QA1 o (by omega) (by omega) (by omega)]) (by rw [QA1 192 (by decide) (by decide) (by decide)])
          · have hu := unQ k
            have hcc := hun k hk
            have hle : seqC (paF S (72 + 15 * j) 0) k (tn j) ≤ unA S tn k := by omega
            have hM : seqC (moPaF S j) k (tn j) = seqC (paF S (72 + 15 * j) 0) k (tn j) := (seqC_c hpa).symm
            rw [show unA Q2 (va_up tn j 0) k = unA S tn k - seqC (paF S (72 + 15 * j) 0) k (tn j) by omega]
            obtain ⟨w', h', o', d', ⟨-, -, bo⟩, ⟨-, ⟨e3, e4, -⟩⟩, ⟨-, ⟨g3, g4, -⟩⟩, -⟩ := id (m5 k hk)
            obtain ⟨z1, z2, z3⟩ := bkSeq_N (S := S) (oa := oa) (f := paF S (72 + 15 * j) 0) (i := 4) (j := 3) (by decide) e4 e3 (tn j) hle
            obtain ⟨y1, y2⟩ := moSeq_N (S := moThr (uJ P 230 0 (nI v).toInt64) 0) (f := moPaF S j) (a := 209) (b := 208) (x := k) (by decide) (by rw [SA1]; exact g4) (by rw [SA1]; exact g3) (tn j) (by rw [hM]; exact hle)
            rw [← hZ, hM] at y1 y2
            rw [← hD2] at z1 z2 z3
            refine (m5 k hk).back hle ⟨o', e3, by omega, z2, by rw [hQ2, sA_uAn _ _ _ (by decide)]; exact y2⟩ z1 (fun i i1 i2 => z3 i i2 i1) ?_ (fun i i1 i2 i3 i4 => by
              by_cases z : i = 191
              · omega
              · rw [QA1 i z i3 i4])
            rw [hQ2, sA_uAn _ _ _ (by decide)]; exact y1
          · exact m6.c (fun k _ => ⟨by rw [QA1 205 (by decide) (by decide) (by decide)], by rw [QA1 206 (by decide) (by decide) (by decide)]⟩)
          · obtain ⟨q, hq, eqq⟩ := rkGl r1 (show k < 10 by have := r1.2.2.2.2.2.1.2; omega)
            exact (m7 k hk).c (by rw [QlF _ (by omega), PF _ (by omega)]) (fun q q1 q4 => QA1 _ (by omega) (by omega) (by omega)) (fun o o1 o2 => by rw [QA1 o (by omega) (by omega) (by omega)]) (fun i _ => by rw [QA1 214 (by decide) (by decide) (by decide)])
          · rw [lo.2.2.2.1, hP]; show oa k < sN S2; rw [b6]; exact r3 k hk
          · have hno : ∀ i, i < tn j → moPaF S j i ≠ some k := fun i hi z => by
              rw [← hpa i hi] at z
              have := hflt i k hi z
              omega
            rw [QA1 210 (by decide) (by decide) (by decide), hQ2, sA_uAn _ _ _ (by decide), hZ, moSeq_out _ hno, SA1]
            exact rz k hk
          · rw [lo.2.2.2.1, hP]; show _ ≤ sN S2; rw [b6]; exact r4
          · rw [lo.2.2.2.1, hP]; show sN S2 ≤ _; rw [b6]; omega
          · rw [lo.2.2.2.2, hP]; show sL S2 ≤ _; rw [b7]; omega
        have hf1 : moFind (uJ P 230 0 (nI v).toInt64) x 8 = some j := by
          have key : ∀ m, moFind (uJ P 230 0 (nI v).toInt64) x m = moFind S x m := by
            intro m
            induction m with
            | zero => rfl
            | succ m ih =>
              simp only [moFind]
              rw [ih, show sA (uJ P 230 0 (nI v).toInt64) = sA S from PA]
          rw [key]; exact (h.2.1.find x).trans e
        have hq : moCancel (uJ P 230 0 (nI v).toInt64) nc x = (nI v, Q2) := by
          unfold moCancel
          rw [hf1]
          simp only []
          have hC : moCanC (uJ P 230 0 (nI v).toInt64) j = 0 := by
            unfold moCanC
            rw [show sA (uJ P 230 0 (nI v).toInt64) = sA S from PA, if_neg h191, if_neg (fun z => z (l8.mpr hσ))]
          rw [hC, moPaF_c (S := S) (by rw [show sA (uJ P 230 0 (nI v).toInt64) = sA S from PA]) (by rw [show sA (uJ P 230 0 (nI v).toInt64) = sA S from PA]), enc, hQ2, hZ]
          show (nI (cntN (moPaF S j) (tn j)), _) = (nI v, _)
          rw [← cntN_c hpa, hv]
        refine op_ret (v := nI v) (q := moCancel (uJ P 230 0 (nI v).toInt64) nc x) hH rfl (c_Mo_cancel (S := uJ P 230 0 (nI v).toInt64) hG (fun s hs => by rw [show sA (uJ P 230 0 (nI v).toInt64) = sA S from PA]; exact h.2.1.cnt s hs) hN6 (fun s i hs hi => by rw [show sA (uJ P 230 0 (nI v).toInt64) = sA S from PA]; exact hmkM s i hs hi)) (by rw [hq]) ?_ ?_ ?_ ?_
        · rw [hq, hQ2]
          show sF Z 186 0 = _
          rw [zF]; exact moThr_0
        · rw [hq, hQ2]
          show sJ Z 230 0 = _
          rw [zJ]; exact told_J
        · show B + 231 ≤ sN P
          rw [hP]; show _ ≤ sN S2; rw [b6]; exact r4
        · rw [hq]; exact hL2
      · have h192 : ¬ sA S 192 j = 0 := fun z => hw (by rw [hroot, l8.mp z])
        exact thr 0 (by unfold haCancel; rw [e]; simp only []; rw [if_neg h0, if_pos hw]) (by unfold moCanC; rw [if_neg h191, if_pos h192])
