/-! an order is taken -/
theorem moOrdS_lo {S : xS} {N : Nat} {w h t n : Int32} : loE S (moOrdS S N w h t n) := by
  unfold moOrdS
  exact ((((loE.rf.A (by decide)).A (by decide)).A (by decide)).A (by decide)).F (by decide)
theorem moOrdS_A {S : xS} {N : Nat} {w h t n : Int32} : (∀ o, (o < 205 ∨ 208 < o) → sA (moOrdS S N w h t n) o = sA S o) ∧ (∀ o i, i ≠ N → sA (moOrdS S N w h t n) o i = sA S o i) ∧ (sA (moOrdS S N w h t n) 205 N = w ∧ sA (moOrdS S N w h t n) 206 N = h ∧ sA (moOrdS S N w h t n) 207 N = t ∧ sA (moOrdS S N w h t n) 208 N = n) := by
  unfold moOrdS
  refine ⟨fun o h1 => ?_, fun q i hi => ?_, ?_⟩
  · show sA (uA _ _ _ _) o = _
    rw [sA_uAn _ _ _ (by omega), sA_uAn _ _ _ (by omega), sA_uAn _ _ _ (by omega), sA_uAn _ _ _ (by omega)]
  · have e1 : ∀ (Z : xS) (u : Nat) (z : Int32), sA (uA Z u N z) q i = sA Z q i := fun Z u z => by
      by_cases e : q = u
      · subst e
        rw [sA_uA, va_up_ne _ _ hi]
      · rw [sA_uAn _ _ _ e]
    show sA (uA _ _ _ _) q i = _
    rw [e1, e1, e1, e1]
  · refine ⟨?_, ?_, ?_, ?_⟩ <;> simp [uA, uF, sA, sF, up2, va_up]
theorem un_new {S : xS} {B N R : Nat} {oa : Nat → Nat} {D : Nat → Nat → Int32} {rk g tn fl : Nat → Nat} (h : haI S B N R oa D rk g tn fl) {k : Nat} (hk : N ≤ k) (hk6 : k < 2 ^ 30) : unA S tn k = 0 := by
  have hN6 := h.2.1.2
  have hmk := h.2.2.2.2.2.2.2.2.2.2.2.1
  refine sumN_0 (fun j hj => sumN_0 (fun i hi => ?_))
  unfold unI
  rw [if_neg]
  rintro ⟨h1, h2, -⟩
  obtain ⟨x, hx, e⟩ := hmk j i hj hi h1
  rw [e] at h2
  have := (nI_eq (by omega) (by omega)).mp h2
  omega
set_option maxHeartbeats 1000000 in
theorem op_order {G : xG} {S : xS} {B t N R E : Nat} {oa : Nat → Nat} {D : Nat → Nat → Int32} {rk g tn fl nc : Nat → Nat} (hG : xOkG G) (hc : B + 1000 ≤ gC G) (hs : 30000 ≤ gS G) (ht : t < 512) (h : liP S B t N R E oa D rk g tn fl nc) {w z : Int32} {u : Bool} {n : Int32} : opW G B t (liA B) S m_Ha_order m_Mo_order [.int w, .int z, .int (bI u), .int n] [12, 13] := by
  have hH := c_Ha_order (d := 16) hG h.1 (h.rm hc hs ht) h.2.2.1.1 (w := w) (h := z) (n := n) (t := u)
  have hsn := h.2.2.2.1.1
  obtain ⟨r1, ⟨⟨⟨c1, c2⟩, ⟨c3, c4⟩, c5, c6⟩, m2, m3, m4, m5, m6, m7, m8⟩, ⟨r3, rz⟩, ⟨r4, r5⟩, r6, r7⟩ := id h
  have hN6 : N ≤ 6 := r1.2.1.2
  have thr : ∀ (ce q : Nat), haOrder S N D rk w z u n = (.inr ce, S) → moOrderC N w z n = q → ce ∈ [12, 13] → cdOf [12, 13] ce = q → q ≠ 0 ∧ q < 100 → opW G B t (liA B) S m_Ha_order m_Mo_order [.int w, .int z, .int (bI u), .int n] [12, 13] := by
    intro ce q hp hC h1 h2 h3
    rw [hp] at hH
    refine op_thr (ce := ce) (k := q) hH rfl h1 h2 h3 ?_ hsn h.thrown
    have hq : moOrder (uN S 6 (.inr (ce, []))) N w z (bI u) n = (0, moThr (uN S 6 (.inr (ce, []))) q) := by
      unfold moOrder
      rw [hC]; exact if_neg h3.1
    rw [← hq]; exact c_Mo_order (S := uN S 6 (.inr (ce, []))) hG c1 hN6
  have bf : ∀ v : Int32, ¬ haLen v = true → haLen v = false := fun v hv => by cases q : haLen v with
    | true => exact absurd q hv
    | false => rfl
  by_cases hw : haLen w = true
  · by_cases hz : haLen z = true
    · by_cases hn1 : n < nI 1
      · exact thr 12 1 (by unfold haOrder; rw [if_neg (by rw [hw]; decide), if_neg (by rw [hz]; decide), if_pos hn1]) (by unfold moOrderC; rw [if_neg (by rw [hw]; decide), if_neg (by rw [hz]; decide), if_pos hn1]) (by decide) rfl (by decide)
      · by_cases hn6 : n ≤ nI 6
        · have hn6' : ¬ nI 6 < n := Int32.not_lt.mpr hn6
          by_cases hN : N < 6
          · obtain ⟨a, ⟨a1, a6⟩, rfl⟩ := haLen_N hw
            obtain ⟨b, ⟨b1, b6⟩, rfl⟩ := haLen_N hz
            have hn0 : ¬ n < 0 := fun z' => hn1 (Int32.lt_of_lt_of_le z' (by decide +kernel))
            obtain ⟨m, hm, rfl⟩ := nI_of hn0
            have hm6 : m ≤ 6 := (nI_leI hm (by decide)).mp hn6
            obtain ⟨r, hr⟩ : ∃ r, r = bkPos (fun q => goB (orD (nI a) (nI b) (bI u) (nI m)) (D (rk q))) N := ⟨_, rfl⟩
            have hrN : r ≤ N := by rw [hr]; exact (bkPos_spec N).1
            obtain ⟨P, hP⟩ : ∃ P, P = bkIns (haOrdS S (nI a) (nI b) (bI u) (nI m)) rk N (N - r) (sN S) := ⟨_, rfl⟩
            have hp : haOrder S N D rk (nI a) (nI b) u (nI m) = (rI (nI N), P) := by
              unfold haOrder
              rw [if_neg (by rw [hw]; decide), if_neg (by rw [hz]; decide), if_neg hn1, if_neg (fun q => q hn6), if_neg (fun q => q hN), hP, hr]
            rw [hp] at hH
            have hIP := haI_ord r1 hN r3 r4 hrN (w := nI a) (z := nI b) (t := bI u) (n := nI m)
            rw [← hP] at hIP
            have hK := bkSh_K (S := haOrdS S (nI a) (nI b) (bI u) (nI m)) (rk := rk) (n := N) (N - r)
            have PF : ∀ o, o ≠ 2 → sF P o = sF S o := fun o ho => by
              rw [hP]; unfold bkIns
              rw [sF_uFn _ _ _ ho]
              show sF (bkSh (haOrdS S (nI a) (nI b) (bI u) (nI m)) rk N (N - r)) o = _
              rw [(bkSh_F (S := haOrdS S (nI a) (nI b) (bI u) (nI m)) (rk := rk) (n := N) (N - r)).1]; rfl
            have PA : ∀ o, o ≠ 4 → sA P o = sA S o := fun o ho => by
              rw [hP]; unfold bkIns
              show sA (uA (bkSh (haOrdS S (nI a) (nI b) (bI u) (nI m)) rk N (N - r)) 4 _ _) o = _
              rw [sA_uAn _ _ _ ho, (hK.1 o (by omega)).2.1]; rfl
            have PJ : ∀ o, sJ P o = sJ S o := fun o => by
              rw [hP]; unfold bkIns
              show sJ (bkSh (haOrdS S (nI a) (nI b) (bI u) (nI m)) rk N (N - r)) o = _
              by_cases z : o = 4
              · subst z
                have : ∀ c, sJ (bkSh (haOrdS S (nI a) (nI b) (bI u) (nI m)) rk N c) = sJ S := by
                  intro c
                  induction c with
                  | zero => rfl
                  | succ c ih => exact ih
                rw [this]
              · rw [(hK.1 o (by omega)).2.2.1]; rfl
            have PN : sN P = sN S + 1 ∧ sL P = sL S + 6 := by
              rw [hP]; unfold bkIns
              refine ⟨?_, ?_⟩
              · show sN (bkSh (haOrdS S (nI a) (nI b) (bI u) (nI m)) rk N (N - r)) = _
                rw [hK.2.2.1]; rfl
              · show sL (bkSh (haOrdS S (nI a) (nI b) (bI u) (nI m)) rk N (N - r)) = _
                rw [hK.2.2.2]; rfl
            obtain ⟨Q2, hQ2⟩ : ∃ Q2, Q2 = moOrdS (moThr (uJ P 230 0 (nI N).toInt64) 0) N (nI a) (nI b) (bI u) (nI m) := ⟨_, rfl⟩
            obtain ⟨k1, k2, k3, k4, k5, k6⟩ := moOrdS_A (S := moThr (uJ P 230 0 (nI N).toInt64) 0) (N := N) (w := nI a) (h := nI b) (t := bI u) (n := nI m)
            rw [← hQ2] at k1 k2 k3 k4 k5 k6
            have lo : loE P Q2 := by
              rw [hQ2]
              exact ((loE.rf.J (by decide)).F (by decide)).trans moOrdS_lo
            have QlF : ∀ o, o < 186 → sF Q2 o = sF P o := fun o ho => (lo.1 o ho).1
            have QA1 : ∀ o, o ≠ 4 → (o < 205 ∨ 208 < o) → sA Q2 o = sA S o := fun o h4 ho => (k1 o ho).trans (PA o h4)
            have QA2 : ∀ o i, o ≠ 4 → i ≠ N → sA Q2 o i = sA S o i := fun o i h4 hi => (k2 o i hi).trans (by show sA P o i = _; rw [PA o h4])
            have Q186 : ∀ k, k ≠ 0 → k ≠ 20 → sF Q2 186 k = sF S 186 k := fun k q0 q1 => by
              rw [hQ2]; unfold moOrdS
              rw [sF_uF, va_up_ne _ _ q1]
              show sF (moThr (uJ P 230 0 (nI N).toInt64) 0) 186 k = _
              unfold moThr
              rw [sF_uF, va_up_ne _ _ q0]
              show sF P 186 k = _
              rw [PF _ (by decide)]
            have Q20 : sF Q2 186 20 = nI (N + 1) := by
              rw [hQ2]; unfold moOrdS
              rw [sF_uF, va_up_self]
            have Q0 : sF Q2 186 0 = nI 0 := by
              rw [hQ2]; unfold moOrdS
              rw [sF_uF, va_up_ne _ _ (by decide)]
              exact moThr_0 (S := uJ P 230 0 (nI N).toInt64)
            have eJ : ∀ o, o ≠ 230 → sJ Q2 o = sJ S o := fun o ho => by
              rw [hQ2]
              show sJ (uJ P 230 0 (nI N).toInt64) o = _
              rw [sJ_uJn _ _ _ ho, PJ]
            have hth2 : ∀ i, i < 8 → thB Q2 i = thB S i := fun i hi => by
              unfold thB; rw [QlF _ (by omega), PF _ (by omega)]
            have h6 : ∀ i, i < 8 → fl i ≤ 6 := fun i hi => (r1.2.2.2.2.2.2.2.2.2.1 i hi).2
            have un : ∀ k, unA Q2 tn k = unA S tn k := fun k => sumN_c (fun i hi => unJ_c rfl (fun q hq => QA1 _ (by omega) (by omega)))
            have hL2 : liA B (t + 1) Q2 := by
              refine ⟨N + 1, R, E, va_up oa N (sN S), va_up D N (orD (nI a) (nI b) (bI u) (nI m)), rkIns rk N r, g, tn, fl, nc, haI_lo lo hIP, ⟨⟨⟨Q20, by rw [Q186 _ (by decide) (by decide)]; exact c2⟩, ⟨by rw [QlF _ (by decide), PF _ (by decide)]; exact c3, by rw [Q186 _ (by decide) (by decide)]; exact c4⟩, fun i hi hti => ?_, fun i i' hi hi' t1 t2 q => ?_⟩, ?_, fun i hi => ?_, fun i hi => ?_, fun k hk => ?_, ?_, fun k hk => ?_, m8⟩, ⟨fun k hk => ?_, fun k hk => ?_⟩, ⟨?_, ?_⟩, ?_, by omega⟩
              · rw [hth2 i hi] at hti
                rw [QlF _ (by omega), PF _ (by omega)]; exact c5 i hi hti
              · rw [hth2 i hi] at t1
                rw [hth2 i' hi'] at t2
                rw [QlF _ (by omega), QlF _ (by omega), PF _ (by omega), PF _ (by omega)] at q
                exact c6 i i' hi hi' t1 t2 q
              · exact ⟨by rw [eJ _ (by decide), eJ _ (by decide)]; exact m2.1, by rw [eJ _ (by decide), eJ _ (by decide)]; exact m2.2.1, by rw [eJ _ (by decide), eJ _ (by decide)]; exact m2.2.2.1, by rw [eJ _ (by decide), eJ _ (by decide)]; exact m2.2.2.2⟩
              · exact (m3 i hi).c rfl (h6 i hi) (by rw [QlF _ (by omega), PF _ (by omega)]) (fun q _ => by rw [QlF _ (by omega), PF _ (by omega)]) (fun q q1 q4 => QA1 _ (by omega) (by omega)) (fun q hq => by rw [QA1 q (by omega) (by omega)]) (fun q hq => by rw [QA1 194 (by decide) (by decide)])
              · exact (m4 i hi).c (by omega) rfl rfl (hth2 i hi) (by rw [QA1 191 (by decide) (by decide)]) (by rw [QA1 195 (by decide) (by decide)]) (fun q q1 q8 => QA1 _ (by omega) (by omega)) (fun o q o1 o2 _ => by rw [QA1 o (by omega) (by omega)]) (by rw [QA1 192 (by decide) (by decide)])
              · rw [un]
                by_cases v : k = N
                · subst v
                  rw [va_up_self, un_new r1 (Nat.le_refl _) (by omega)]
                  obtain ⟨z1, z2⟩ := rz k (Nat.le_refl _)
                  refine ⟨a, b, m, 0, ⟨⟨a1, a6⟩, ⟨b1, b6⟩, by omega⟩, ⟨⟨rfl, rfl⟩, ⟨rfl, rfl, rfl⟩⟩, ⟨⟨k3, k4⟩, ⟨k6, by rw [QA1 209 (by decide) (by decide)]; exact z1, by rw [QA1 210 (by decide) (by decide)]; exact z2⟩⟩, by rw [k5]; exact Iff.rfl⟩
                · rw [va_up_ne _ _ v]
                  exact (m5 k (by omega)).c (fun o o1 o2 => QA2 _ _ (by omega) v)
              · have lt' : ∀ q, q < N → goB (orD (nI a) (nI b) (bI u) (nI m)) (D (rk q)) = moBef Q2 N (rk q) := fun q hq => by
                  have hrq := m6.1 q hq
                  obtain ⟨w', h', o', d', -, ⟨⟨e1, e2⟩, -⟩, ⟨⟨e3, e4⟩, -⟩, -⟩ := m5 (rk q) hrq
                  have f1 : sA Q2 205 (rk q) = nI w' := (QA2 _ _ (by decide) (by omega)).trans e3
                  have f2 : sA Q2 206 (rk q) = nI h' := (QA2 _ _ (by decide) (by omega)).trans e4
                  unfold goB moBef
                  rw [k3, k4, f1, f2, show (orD (nI a) (nI b) (bI u) (nI m)) 1 = nI b from rfl, show (orD (nI a) (nI b) (bI u) (nI m)) 0 = nI a from rfl, e1, e2]
                  by_cases v : nI b = nI h'
                  · rw [if_pos v, v, decide_eq_false (show ¬ nI h' < nI h' from fun q => Int32.lt_irrefl q), decide_eq_true rfl, show decide (N < rk q) = false from decide_eq_false (by omega)]
                    simp [le_nlt]
                  · rw [if_neg v, decide_eq_false v]
                    simp [le_nlt]
                have := rkIns_ok (lt := moBef Q2) (N := N) (rk := rk) (fun _ _ _ h k => moBef_tr h k) (fun _ _ h => moBef_tot h) m6.1 m6.2.1 (fun a' b' h1 h2 => by
                  have z := m6.2.2 a' b' h1 h2
                  unfold moBef at z ⊢
                  have n1 := m6.1 a' (by omega)
                  have n2 := m6.1 b' h2
                  rw [QA2 205 (rk a') (by decide) (by omega), QA2 206 (rk a') (by decide) (by omega), QA2 205 (rk b') (by decide) (by omega), QA2 206 (rk b') (by decide) (by omega)]
                  exact z) lt'
                rw [← hr] at this
                exact this
              · obtain ⟨q, hq, eqq⟩ := rkGl r1 (show k < 10 by have := r1.2.2.2.2.2.1.2; omega)
                exact (m7 k hk).c (by rw [QlF _ (by omega), PF _ (by omega)]) (fun q q1 q4 => QA1 _ (by omega) (by omega)) (fun o o1 o2 => by rw [QA1 o (by omega) (by omega)]) (fun i _ => by rw [QA1 214 (by decide) (by decide)])
              · rw [lo.2.2.2.1, PN.1]
                by_cases v : k = N
                · subst v
                  rw [va_up_self]; omega
                · rw [va_up_ne _ _ v]
                  have := r3 k (by omega)
                  omega
              · rw [QA1 209 (by decide) (by decide), QA1 210 (by decide) (by decide)]; exact rz k (by omega)
              · rw [lo.2.2.2.1, PN.1]; omega
              · rw [lo.2.2.2.1, PN.1]; omega
              · rw [lo.2.2.2.2, PN.2]; omega
            have hq : moOrder (uJ P 230 0 (nI N).toInt64) N (nI a) (nI b) (bI u) (nI m) = (nI N, Q2) := by
              unfold moOrder moOrderC
              rw [if_neg (by rw [hw]; decide), if_neg (by rw [hz]; decide), if_neg hn1, if_neg hn6', if_neg (by omega), hQ2]; rfl
            refine op_ret (v := nI N) (q := moOrder (uJ P 230 0 (nI N).toInt64) N (nI a) (nI b) (bI u) (nI m)) hH rfl (c_Mo_order (S := uJ P 230 0 (nI N).toInt64) hG (by show sF P 186 20 = _; rw [PF _ (by decide)]; exact c1) hN6) (by rw [hq]) (by rw [hq]; exact Q0) ?_ ?_ ?_
            · rw [hq, hQ2]
              exact told_J (S := P) (k := 0)
            · show B + 231 ≤ sN P
              rw [PN.1]; omega
            · rw [hq]; exact hL2
          · exact thr 13 2 (by unfold haOrder; rw [if_neg (by rw [hw]; decide), if_neg (by rw [hz]; decide), if_neg hn1, if_neg (fun q => q hn6), if_pos hN]) (by unfold moOrderC; rw [if_neg (by rw [hw]; decide), if_neg (by rw [hz]; decide), if_neg hn1, if_neg hn6', if_pos (by omega)]) (by decide) rfl (by decide)
        · exact thr 12 1 (by unfold haOrder; rw [if_neg (by rw [hw]; decide), if_neg (by rw [hz]; decide), if_neg hn1, if_pos hn6]) (by unfold moOrderC; rw [if_neg (by rw [hw]; decide), if_neg (by rw [hz]; decide), if_neg hn1, if_pos (Int32.not_le.mp hn6)]) (by decide) rfl (by decide)
    · exact thr 12 1 (by unfold haOrder; rw [if_neg (by rw [hw]; decide), if_pos (bf _ hz)]) (by unfold moOrderC; rw [if_neg (by rw [hw]; decide), if_pos (bf _ hz)]) (by decide) rfl (by decide)
  · exact thr 12 1 (by unfold haOrder; rw [if_pos (bf _ hw)]) (by unfold moOrderC; rw [if_pos (bf _ hw)]) (by decide) rfl (by decide)
