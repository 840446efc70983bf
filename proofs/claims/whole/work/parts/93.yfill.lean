/-! a column, then all columns, on both sides -/
section SC
variable {b s fl N c x W H : Nat} {D : Nat → Nat → Int32} {rk ow oh oo : Nat → Nat}
theorem stY.room {Y : lY} {n row y room : Nat} (h : stY Y n c row x y room W H) : x + room ≤ W ∧ y ≤ H := by
  obtain ⟨-, -, -, ⟨-, -, d3⟩, e1, -⟩ := h
  refine ⟨?_, d3⟩
  by_cases e : row = 0
  · rw [if_pos e] at e1; omega
  · rw [if_neg e] at e1; omega
def colOut (s fl N c x W H : Nat) (oo : Nat → Nat) (C P : xS) (n y row room f : Nat) (q : Int32 × xS × Nat) : Prop := ∃ (P' : xS) (n' row' y' room' : Nat) (Y' : lY), moStR s fl N c x f P n y row (nI room) = some (P', n', nI room') ∧ (q.1 = (if row' = 0 then nI 0 else nI room') ∧ q.2.2 = n' ∧ sKC C q.2.1 ∧ sKP P P') ∧
  stZ q.2.1 P' N n' oo Y' ∧ stY Y' n' c row' x y' room' W H ∧ sF q.2.1 63 4 = nI x ∧ (row' = 0 → row = 0 ∧ n' = n ∧ P' = P) ∧ (row = 0 → (row' = 0 ↔ moCh P s fl x y (nI room) N = none))
set_option maxRecDepth 100000 in
set_option maxHeartbeats 1000000 in
theorem stCol_sim (hc : c ≤ 36) : ∀ (k row : Nat) (C P : xS) (n y room f : Nat) (Y : lY) (w : Int32), row + k = 36 → f + row = 41 → stX C P b s fl N D rk ow oh oo W H → stZ C P N n oo Y → st63 C c x y room → stY Y n c row x y room W H → w = (if row = 0 then nI 0 else nI room) →
    colOut s fl N c x W H oo C P n y row room f (stCol b fl N D rk k row C n w)
  | k, row, C, P, n, y, room, 0, Y, w, hk, hf, hX, hZ, h6, hY, hw => by omega
  | 0, row, C, P, n, y, room, f + 1, Y, w, hk, hf, hX, hZ, h6, hY, hw => by
    have hn : moCh P s fl x y (nI room) N = none := by
      cases e : moCh P s fl x y (nI room) N with
      | none => rfl
      | some v =>
        obtain ⟨-, -, h3⟩ := hX.full hZ e
        obtain ⟨-, -, -, -, -, f1⟩ := hY
        omega
    refine ⟨P, n, row, y, room, Y, ?_, ⟨hw, rfl, sKC.rf, sKP.rf⟩, hZ, hY, h6.2.1, fun e => ⟨e, rfl, rfl⟩, fun e => ⟨fun _ => hn, fun _ => e⟩⟩
    simp only [moStR]
    rw [hn]
  | k + 1, row, C, P, n, y, room, f + 1, Y, w, hk, hf, hX, hZ, h6, hY, hw => by
    obtain ⟨hrm, hyH⟩ := hY.room
    obtain ⟨S1, hS1⟩ : ∃ S1, S1 = uF C 63 3 (nI row) := ⟨_, rfl⟩
    have kS1 : sKC C S1 := by rw [hS1]; exact sKC.rf.F (by decide)
    have hWH : W ≤ 6000 ∧ H ≤ 6000 := hX.2.2.1.2.2
    have hX1 := hX.kept kS1 (sKP.rf (P := P))
    have hZ1 : stZ S1 P N n oo Y := hZ.ofC (by rw [hS1]; rfl) (by rw [hS1]; rfl) (by rw [hS1]; rfl) (by rw [hS1]; rfl) (by rw [hS1]; rfl)
    have f63 : ∀ q, q ≠ 3 → sF S1 63 q = sF C 63 q := fun q hq => by rw [hS1, sF_uF, va_up_ne _ _ hq]
    have h61 : st63 S1 c x y room := ⟨by rw [f63 _ (by decide)]; exact h6.1, by rw [f63 _ (by decide)]; exact h6.2.1, by rw [f63 _ (by decide)]; exact h6.2.2.1, by rw [f63 _ (by decide)]; exact h6.2.2.2⟩
    have h633 : sF S1 63 3 = nI row := by rw [hS1, sF_uF, va_up_self]
    have key := choice2 (C := S1) (P := P) hX.1.1.2 (hX1.eq hZ1 h61) hX.2.2.2.2
    have stop : moCh P s fl x y (nI room) N = none → colOut s fl N c x W H oo C P n y row room (f + 1) (w, S1, n) := fun hn => by
      refine ⟨P, n, row, y, room, Y, ?_, ⟨hw, rfl, kS1, sKP.rf⟩, hZ1, hY, h61.2.1, fun e => ⟨e, rfl, rfl⟩, fun e => ⟨fun _ => hn, fun _ => e⟩⟩
      simp only [moStR]
      rw [hn]
    simp only [stCol]
    rw [← hS1]
    by_cases h36 : 36 ≤ n
    · rw [if_pos h36]
      refine stop ?_
      cases e : moCh P s fl x y (nI room) N with
      | none => rfl
      | some v =>
        obtain ⟨-, -, h3⟩ := hX.full hZ e
        omega
    · rw [if_neg h36]
      cases e : stFst S1 b fl n N D rk with
      | none =>
        rw [if_pos (by rfl)]
        rw [e] at key
        exact stop key
      | some k0 =>
        rw [if_neg (by simp)]
        rw [e] at key
        simp only [Option.map_some] at key
        obtain ⟨v, hv⟩ : ∃ v, v = if stCan S1 b fl n (D (rk k0)) (rk k0) false = true then 2 * rk k0 else 2 * rk k0 + 1 := ⟨_, rfl⟩
        rw [← hv] at key
        obtain ⟨v1, v2, v3⟩ := hX.full hZ key
        obtain ⟨v4, v5⟩ := hX.fits hyH (by omega) key
        have ev : v / 2 = rk k0 ∧ (v % 2 = 1 ↔ ¬ stCan S1 b fl n (D (rk k0)) (rk k0) false = true) := by
          by_cases z : stCan S1 b fl n (D (rk k0)) (rk k0) false = true
          · rw [if_pos z] at hv
            exact ⟨by omega, ⟨fun u => by omega, fun u => absurd z u⟩⟩
          · rw [if_neg z] at hv
            exact ⟨by omega, ⟨fun _ => z, fun _ => by omega⟩⟩
        obtain ⟨o, ho⟩ : ∃ o, o = v / 2 := ⟨_, rfl⟩
        rw [← ho] at v1 v2 v4 v5 ev
        obtain ⟨⟨d0, d1, d3⟩, ⟨p5, p6, p8⟩, d2, q4, q5, q6⟩ := hX.2.2.2.1 o v1
        obtain ⟨w0, hw0⟩ : ∃ w0, w0 = if v % 2 = 1 then oh o else ow o := ⟨_, rfl⟩
        obtain ⟨h0, hh0⟩ : ∃ h0, h0 = if v % 2 = 1 then ow o else oh o := ⟨_, rfl⟩
        rw [← hw0] at v4
        rw [← hh0] at v5
        have bw : 1 ≤ w0 ∧ w0 ≤ 6000 := by rw [hw0]; split <;> assumption
        have bh : 1 ≤ h0 ∧ h0 ≤ 6000 := by rw [hh0]; split <;> assumption
        have hgot : stGot S1 b fl n N D rk = laPut S1 n (nI o) (nI w0) (nI h0) (nI c) (nI row) := by
          unfold stGot
          rw [e]
          simp only []
          rw [← ev.1]
          by_cases z : v % 2 = 1
          · rw [ev.1, if_neg (ev.2.mp z), ← ev.1]
            unfold stPut
            rw [if_pos rfl, if_pos rfl, d0, d1, h61.1, h633, hw0, hh0, if_pos z, if_pos z]
          · have z2 : stCan S1 b fl n (D (rk k0)) (rk k0) false = true := Classical.byContradiction fun u => z (ev.2.mpr u)
            rw [ev.1, if_pos z2, ← ev.1]
            unfold stPut
            rw [if_neg (by decide), if_neg (by decide), d0, d1, h61.1, h633, hw0, hh0, if_neg z, if_neg z]
        rw [hgot]
        obtain ⟨C2, hC2⟩ : ∃ C2, C2 = laPut S1 n (nI o) (nI w0) (nI h0) (nI c) (nI row) := ⟨_, rfl⟩
        have hA2 := laPut_A (S := S1) (n := n) (x := nI o) (w := nI w0) (h := nI h0) (c := nI c) (r := nI row)
        rw [← hC2] at hA2 ⊢
        have kC2 : sKC S1 C2 := by rw [hC2]; exact laPut_KC
        have f632 : sF C2 63 = sF S1 63 := by
          rw [hC2]; unfold laPut
          rw [sF_uFn _ _ _ (by decide)]; rfl
        obtain ⟨P2, hP2⟩ : ∃ P2, P2 = moPl2 P n v c row := ⟨_, rfl⟩
        have kP2 : sKP P P2 := by rw [hP2]; exact moPl2_KP
        have et : (if decide (v % 2 = 1) = true then sA P 206 o else sA P 205 o) = nI w0 ∧ (if decide (v % 2 = 1) = true then sA P 205 o else sA P 206 o) = nI h0 := by
          rw [p5, p6, hw0, hh0]
          by_cases z : v % 2 = 1
          · rw [if_pos z, if_pos z, if_pos (decide_eq_true z), if_pos (decide_eq_true z)]; exact ⟨rfl, rfl⟩
          · rw [if_neg z, if_neg z, if_neg (by simpa using z), if_neg (by simpa using z)]; exact ⟨rfl, rfl⟩
        have hB2 := moLay_A (S := P) (n := n) (o := o) (t := decide (v % 2 = 1)) (c := nI c) (r := nI row)
        unfold moPw moPh at hB2
        rw [et.1, et.2] at hB2
        obtain ⟨m1, m2, m3, m4, m5, m6⟩ := hB2
        have hP2A : ∀ q, q ≠ 220 → sA P2 q = sA (moLay P n o (decide (v % 2 = 1)) (nI c) (nI row)) q := fun q hq => by
          rw [hP2]; unfold moPl2
          rw [sA_uAn _ _ _ hq, ← ho]
        have hP220 : sA P2 220 = va_up (sA P 220) o (sA P 220 o + nI 1) := by
          rw [hP2]; unfold moPl2
          rw [sA_uA, ← ho, m6 220 (by decide)]
        have hP36 : sF P2 186 36 = nI (n + 1) := by
          rw [hP2, show sF (moPl2 P n v c row) = up2 (sF P) 186 36 (nI (n + 1)) from rfl, up2_self, va_up_self]
        have hZ2 : stZ C2 P2 N (n + 1) oo (yPut Y n c row w0 h0 o) := hZ1.put v1 v2 hA2 ⟨(hP2A _ (by decide)).trans m1, (hP2A _ (by decide)).trans m2, (hP2A _ (by decide)).trans m3, (hP2A _ (by decide)).trans m4, (hP2A _ (by decide)).trans m5⟩ hP220 hP36
        have e59 : sA C2 59 n = nI w0 := by rw [hA2.2.1, va_up_self]
        have e60 : sA C2 60 n = nI h0 := by rw [hA2.2.2.1, va_up_self]
        obtain ⟨C3, hC3⟩ : ∃ C3, C3 = (if row = 0 then uF C2 63 6 (if row = 0 then sA C2 59 n else w) else C2) := ⟨_, rfl⟩
        have kC3 : sKC C2 C3 := by
          rw [hC3]; split
          · exact sKC.rf.F (by decide)
          · exact sKC.rf
        have aC3 : sA C3 = sA C2 := by rw [hC3]; split <;> rfl
        have fC3 : ∀ q, q ≠ 6 → sF C3 63 q = sF C2 63 q := fun q hq => by
          rw [hC3]; split
          · rw [sF_uF, va_up_ne _ _ hq]
          · rfl
        have f6C3 : sF C3 63 6 = nI (if row = 0 then w0 else room) := by
          rw [hC3]
          by_cases z : row = 0
          · rw [if_pos z, if_pos z, if_pos z, sF_uF, va_up_self, e59]
          · rw [if_neg z, if_neg z, f632]; exact h61.2.2.2
        rw [← hC3]
        obtain ⟨C4, hC4⟩ : ∃ C4, C4 = uF C3 63 5 (sF C3 63 5 + sA C3 60 n) := ⟨_, rfl⟩
        rw [← hC4]
        have kC4 : sKC C3 C4 := by rw [hC4]; exact sKC.rf.F (by decide)
        have kAll : sKC C C4 := ((kS1.trans kC2).trans kC3).trans kC4
        have aC4 : sA C4 = sA C2 := by rw [hC4]; exact aC3
        have fC4 : ∀ q, q ≠ 5 → sF C4 63 q = sF C3 63 q := fun q hq => by rw [hC4, sF_uF, va_up_ne _ _ hq]
        have h64 : st63 C4 c x (y + h0) (if row = 0 then w0 else room) := by
          refine ⟨?_, ?_, ?_, ?_⟩
          · rw [fC4 _ (by decide), fC3 _ (by decide), f632]; exact h61.1
          · rw [fC4 _ (by decide), fC3 _ (by decide), f632]; exact h61.2.1
          · rw [hC4, sF_uF, va_up_self, fC3 _ (by decide), f632, h61.2.2.1, aC3, e60, nI_add]
          · rw [fC4 _ (by decide)]; exact f6C3
        have hZ4 : stZ C4 P2 N (n + 1) oo (yPut Y n c row w0 h0 o) := hZ2.ofC (by rw [aC4]) (by rw [aC4]) (by rw [aC4]) (by rw [aC4]) (by rw [aC4])
        have hY4 := stY_put (o := o) hY v4 v5 bw bh hc (by omega)
        have hw4 : (if row = 0 then sA C2 59 n else w) = (if row + 1 = 0 then nI 0 else nI (if row = 0 then w0 else room)) := by
          rw [if_neg (by omega : ¬ row + 1 = 0), e59, hw]
          by_cases z : row = 0
          · rw [if_pos z, if_pos z]
          · rw [if_neg z, if_neg z, if_neg z]
        obtain ⟨P', n', row', y', room', Y', g1, ⟨g2, g3, g4, g5⟩, g6, g7, g8, g9, g10⟩ := stCol_sim hc k (row + 1) C4 P2 (n + 1) (y + h0) (if row = 0 then w0 else room) f (yPut Y n c row w0 h0 o) (if row = 0 then sA C2 59 n else w) (by omega) (by omega) (hX.kept kAll kP2) hZ4 h64 hY4 hw4
        have hr' : row' ≠ 0 := fun z => by have := (g9 z).1; omega
        refine ⟨P', n', row', y', room', Y', ?_, ⟨g2, g3, kAll.trans g4, kP2.trans g5⟩, g6, g7, g8, fun z => absurd z hr', fun _ => ⟨fun z => absurd z hr', fun z => by rw [key] at z; cases z⟩⟩
        simp only [moStR]
        rw [key]
        simp only []
        have ey2 : moY2 (moPl2 P n v c row) n y = nI (y + h0) := by
          unfold moY2
          rw [← hP2, (hP2A 217 (by decide)).trans m3, va_up_self, nI_add]
        have e216 : sA (moPl2 P n v c row) 216 n = nI w0 := by rw [← hP2, (hP2A 216 (by decide)).trans m2, va_up_self]
        rw [ey2, nI_clamp (by omega), if_pos ⟨by omega, rfl, by omega⟩, e216, ← hP2]
        rw [show (if row = 0 then nI w0 else nI room) = nI (if row = 0 then w0 else room) by split <;> rfl]
        exact g1
theorem nTot_ge {Y : lY} {n : Nat} : ∀ c, (∀ c', c' < c → 0 < nRo Y c' n) → c ≤ nTot Y n c
  | 0, _ => Nat.le_refl _
  | c + 1, h => by
    have h1 := nTot_ge c (fun q hq => h q (by omega))
    have h2 := h c (by omega)
    simp only [nTot]
    omega
theorem stFil_sim : ∀ (k c x : Nat) (C P : xS) (n f : Nat) (Y : lY), c + k = 36 → f + c = 40 → stX C P b s fl N D rk ow oh oo W H → stZ C P N n oo Y → sF C 63 4 = nI x → stY Y n c 0 x 0 (W - x) W H →
    ∃ (P' : xS) (n' : Nat) (Y' : lY), moStC s fl N (nI W) f P c x n = some P' ∧ (stFil b fl N D rk k c C n).2 = n' ∧ sKC C (stFil b fl N D rk k c C n).1 ∧ sKP P P' ∧ stZ (stFil b fl N D rk k c C n).1 P' N n' oo Y' ∧ n' ≤ 36 ∧ lyF Y' n' W H
  | k, c, x, C, P, n, 0, Y, hk, hf, hX, hZ, h4, hY => by omega
  | 0, c, x, C, P, n, f + 1, Y, hk, hf, hX, hZ, h4, hY => by
    obtain ⟨hrm, -⟩ := hY.room
    have hWH : W ≤ 6000 ∧ H ≤ 6000 := hX.2.2.1.2.2
    have hnn : 36 ≤ n := by
      obtain ⟨-, ⟨b1, -⟩, -, -, -, f1⟩ := hY
      have := nTot_ge (Y := Y) (n := n) c (fun c' hc' => by obtain ⟨i, hi, e⟩ := b1 c' hc'; have := nRo_gt hi e; omega)
      omega
    have hle : n ≤ 36 := by
      have h1 := nCs_le (Y := Y) (n := n) N (fun o ho => by have := (hZ.2.2.2.1 o ho).2; have := (hX.2.2.2.1 o ho).2.2.2.2.2; omega)
      rw [nCs_n n hZ.2.2.1] at h1
      have := hX.1.2
      omega
    have hn : ∀ y rm, moCh P s fl x y rm N = none := fun y rm => by
      cases e : moCh P s fl x y rm N with
      | none => rfl
      | some v =>
        obtain ⟨-, -, h3⟩ := hX.full hZ e
        omega
    refine ⟨P, n, Y, ?_, rfl, sKC.rf, sKP.rf, hZ, hle, (stY_F hY hle).1⟩
    simp only [moStC]
    rw [if_neg (by omega)]
    simp only [moStR]
    rw [hn]
    simp only []
    rw [if_pos trivial]
  | k + 1, c, x, C, P, n, f + 1, Y, hk, hf, hX, hZ, h4, hY => by
    obtain ⟨hrm, -⟩ := hY.room
    have hWH : W ≤ 6000 ∧ H ≤ 6000 := hX.2.2.1.2.2
    have hle0 : ∀ {C P n Y}, stX C P b s fl N D rk ow oh oo W H → stZ C P N n oo Y → n ≤ 36 := fun {C P n Y} hX hZ => by
      have h1 := nCs_le (Y := Y) (n := n) N (fun o ho => by have := (hZ.2.2.2.1 o ho).2; have := (hX.2.2.2.1 o ho).2.2.2.2.2; omega)
      rw [nCs_n n hZ.2.2.1] at h1
      have := hX.1.2
      omega
    obtain ⟨C1, hC1⟩ : ∃ C1, C1 = uF (uF (uF C 63 2 (nI c)) 63 5 (nI 0)) 63 6 (sF (uF (uF C 63 2 (nI c)) 63 5 (nI 0)) b 4 - sF (uF (uF C 63 2 (nI c)) 63 5 (nI 0)) 63 4) := ⟨_, rfl⟩
    have kC1 : sKC C C1 := by rw [hC1]; exact ((sKC.rf.F (by decide)).F (by decide)).F (by decide)
    have aC1 : sA C1 = sA C := by rw [hC1]; rfl
    have hb := hX.1.1
    have e64 : sF (uF (uF C 63 2 (nI c)) 63 5 (nI 0)) 63 4 = nI x := by
      rw [sF_uF, va_up_ne _ _ (by decide), sF_uF, va_up_ne _ _ (by decide)]; exact h4
    have eb4 : sF (uF (uF C 63 2 (nI c)) 63 5 (nI 0)) b 4 = nI W := by
      rw [sF_uFn _ _ _ (by omega), sF_uFn _ _ _ (by omega)]; exact hX.2.2.1.1.1
    have h6 : st63 C1 c x 0 (W - x) := by
      rw [hC1]
      refine ⟨?_, ?_, ?_, ?_⟩
      · rw [sF_uF, va_up_ne _ _ (by decide), sF_uF, va_up_ne _ _ (by decide), sF_uF, va_up_self]
      · rw [sF_uF, va_up_ne _ _ (by decide)]; exact e64
      · rw [sF_uF, va_up_ne _ _ (by decide), sF_uF, va_up_self]
      · rw [sF_uF, va_up_self, e64, eb4]; exact nI_subN (by omega)
    have hZ1 : stZ C1 P N n oo Y := hZ.ofC (by rw [aC1]) (by rw [aC1]) (by rw [aC1]) (by rw [aC1]) (by rw [aC1])
    obtain ⟨P', n', row', y', room', Y', g1, ⟨g2, g3, g4, g5⟩, g6, g7, g8, g9, g10⟩ := stCol_sim (b := b) (D := D) (rk := rk) (ow := ow) (oh := oh) (by omega) 36 0 C1 P n 0 (W - x) 41 Y (nI 0) (by omega) (by omega) (hX.kept kC1 sKP.rf) hZ1 h6 hY (by rw [if_pos rfl])
    simp only [stFil, moStC]
    rw [← hC1, if_neg (by omega), nI_subN (by omega), g1]
    simp only []
    have hXX := hX.kept (kC1.trans g4) g5
    have hr := (g7.room).1
    by_cases z : row' = 0
    · obtain ⟨-, z2, z3⟩ := g9 z
      rw [if_pos ((g10 rfl).mp z), g2, if_pos z, if_pos (by decide +kernel)]
      rw [z] at g7
      have hle := hle0 hXX g6
      exact ⟨P', n', Y', rfl, g3, kC1.trans g4, g5, by rw [← g3] at g6 ⊢; exact g6, hle, (stY_F g7 hle).1⟩
    · have hne : ¬ moCh P s fl x 0 (nI (W - x)) N = none := fun u => z ((g10 rfl).mpr u)
      have hpos : 0 < room' := by
        obtain ⟨⟨a1, -⟩, ⟨-, b2⟩, -, ⟨d1, -⟩, e1, -⟩ := g7
        rw [if_neg z] at e1
        obtain ⟨i, hi, hin⟩ := b2 c 0 (by omega)
        have := nCWt_pos a1 ⟨i, hi, (yIn_iff.mp hin).1⟩
        omega
      rw [if_neg hne, g2, if_neg z, if_neg (nI_ne0 hpos (by omega)), nI_add, nI_clamp (by omega), if_pos rfl]
      obtain ⟨C2, hC2⟩ : ∃ C2, C2 = uF (stCol b fl N D rk 36 0 C1 n (nI 0)).2.1 63 4 (sF (stCol b fl N D rk 36 0 C1 n (nI 0)).2.1 63 4 + nI room') := ⟨_, rfl⟩
      rw [← hC2]
      have kC2 : sKC (stCol b fl N D rk 36 0 C1 n (nI 0)).2.1 C2 := by rw [hC2]; exact sKC.rf.F (by decide)
      have aC2 : sA C2 = sA (stCol b fl N D rk 36 0 C1 n (nI 0)).2.1 := by rw [hC2]; rfl
      have hZ2 : stZ C2 P' N n' oo Y' := by
        exact g6.ofC (by rw [aC2]) (by rw [aC2]) (by rw [aC2]) (by rw [aC2]) (by rw [aC2])
      have e4 : sF C2 63 4 = nI (x + room') := by rw [hC2, sF_uF, va_up_self, g8, nI_add]
      obtain ⟨P3, n3, Y3, r1, r2, r3, r4, r5, r6, r7⟩ := stFil_sim k (c + 1) (x + room') C2 P' n' f Y' (by omega) (by omega) (hXX.kept kC2 sKP.rf) hZ2 e4 (stY_next g7 (by omega))
      rw [g3]
      exact ⟨P3, n3, Y3, r1, r2, ((kC1.trans g4).trans kC2).trans r3, g5.trans r4, r5, r6, r7⟩
end SC
