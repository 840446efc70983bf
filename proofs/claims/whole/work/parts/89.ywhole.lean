/-! columns and the whole -/
def lyN (Y : lY) (m : Nat) : Prop := (∀ c, c < nCo Y m → ∃ i, i < m ∧ yC Y i = c) ∧ ∀ c r, r < nRo Y c m → ∃ i, i < m ∧ yIn Y c r i = true
theorem nRH_no {Y : lY} {c r : Nat} : ∀ {m : Nat}, (∀ i, i < m → ¬ yIn Y c r i = true) → nRH Y c r m = 0
  | 0, _ => rfl
  | m + 1, h => by
    simp only [nRH]
    rw [if_neg (h m (by omega))]
    exact nRH_no (fun i hi => h i (by omega))
theorem nRo_no {Y : lY} {c : Nat} : ∀ {m : Nat}, (∀ i, i < m → ¬ yC Y i = c) → nRo Y c m = 0
  | 0, _ => rfl
  | m + 1, h => by
    simp only [nRo]
    rw [if_neg (h m (by omega))]
    exact nRo_no (fun i hi => h i (by omega))
theorem nRH_pos {Y : lY} {c r m : Nat} (hB : lyB Y m) (h : ∃ i, i < m ∧ yIn Y c r i = true) : 0 < nRH Y c r m := by
  obtain ⟨i, hi, hin⟩ := h
  have := nRH_ge hi hin
  have := (hB i hi).2.1.1
  omega
theorem nCWt_pos {Y : lY} {c m : Nat} (hB : lyB Y m) (h : ∃ i, i < m ∧ yC Y i = c) : 0 < nCWt Y m c := by
  obtain ⟨i, hi, e⟩ := h
  have h1 := nRW_ge hi (yIn_iff.mpr ⟨e, rfl⟩)
  have h2 := (hB i hi).1.1
  have h3 : nRW Y c (yR Y i) m ≤ nCWt Y m c := nCW_ge (nRo_gt hi e)
  omega
section DC
variable {s np : Nat} {Y : lY} {b c r q x y w h : Nat}
theorem dn_col {l : Nat} (hb : b ≤ 55) (hB : lyB Y np) (hm : np ≤ 36) (hc : c < 2 ^ 30) (hq : q + 1 < 2 ^ 30) (hw : ∀ r, r < nRo Y c np → nRW Y c r np ≤ w) (w0 : 0 < w) (hlw : l + w < 2 ^ 30) (hh : h < 2 ^ 30) (hy : nCH Y c np (nRo Y c np) ≤ h) (hN : ∀ r, r < nRo Y c np → ∃ i, i < np ∧ yIn Y c r i = true) : ∀ k r, r + k = nRo Y c np → nCH Y c np r < h →
    dnR s np Y b 1 c r q l (nCH Y c np r) w (h - nCH Y c np r) (colG Y np c l w h k r (nCH Y c np r))
  | 0, r, hr, hlt => by
    have hro := nRo_le (c := c) hB np (Nat.le_refl _)
    have hn : rch Y np 1 c r q = 0 := by
      show nRH Y c r np = 0
      refine nRH_no (fun i hi hin => ?_)
      obtain ⟨e1, e2⟩ := yIn_iff.mp hin
      have := nRo_gt hi e1
      omega
    have : colG Y np c l w h 0 r (nCH Y c np r) = [(3, l, nCH Y c np r, w, h - nCH Y c np r, -1, 0)] := by
      simp only [colG]
      unfold restL
      rw [if_neg (by omega), if_neg (by omega)]
    rw [this]
    exact dnR.rest (by omega) hB hm hc (by omega) (by omega) (by omega) w0 (by omega) hn (by decide)
  | k + 1, r, hr, hlt => by
    have hro := nRo_le (c := c) hB np (Nat.le_refl _)
    have hg := nRH_pos hB (hN r (by omega))
    have hg2 := nRH_le (c := c) (r := r) hB np (Nat.le_refl _)
    have hst : nCH Y c np (r + 1) = nCH Y c np r + nRH Y c r np := rfl
    have hmo := nCH_mono (Y := Y) (c := c) (m := np) (i := r + 1) (j := nRo Y c np) (by omega)
    have hrow : ∀ b', b' ≤ 56 → dnR s np Y b' 2 c r 0 l (nCH Y c np r) w (nRH Y c r np) (rowA Y np c r l (nCH Y c np r) w) := fun b' hb' => by
      have := dn_row (s := s) (b := b') (y := nCH Y c np r) (l := l) (w := w) (h := nRH Y c r np) hb' hB hm hc (by omega) (hw r (by omega)) hlw hg (by omega) (fun i hi hin => nRH_ge hi hin) np 0 (by omega) w0 (Nat.le_refl _)
      have e1 : nRW Y c r 0 = 0 := rfl
      have e2 : nIx Y c r 0 = 0 := rfl
      rw [e1, e2, Nat.add_zero, show l + w - l = w by omega] at this
      exact this
    simp only [colG]
    by_cases e : h - nCH Y c np r = nRH Y c r np
    · have hk : k = 0 := by
        cases k with
        | zero => rfl
        | succ k =>
          have h1 := nRH_pos hB (hN (r + 1) (by omega))
          have h2 : nCH Y c np (r + 2) = nCH Y c np (r + 1) + nRH Y c (r + 1) np := rfl
          have h3 := nCH_mono (Y := Y) (c := c) (m := np) (i := r + 2) (j := nRo Y c np) (by omega)
          omega
      subst hk
      have : colS Y np c r l (nCH Y c np r) w h ++ colG Y np c l w h 0 (r + 1) (nCH Y c np r + nRH Y c r np) = rowA Y np c r l (nCH Y c np r) w := by
        unfold colS optN
        rw [if_pos (by simp; omega)]
        simp only [colG]
        unfold restL
        rw [if_neg (by omega), if_pos (by omega)]
        simp
      rw [this, e]
      refine dnR.down hB hm hc (by omega) (by omega) (by omega) (by decide) (show 0 < nRH Y c r np from hg) rfl ?_
      exact hrow b (by omega)
    · have ih := dn_col (l := l) hb hB hm hc hq hw w0 hlw hh hy hN k (r + 1) (by omega) (by omega)
      have : colS Y np c r l (nCH Y c np r) w h ++ colG Y np c l w h k (r + 1) (nCH Y c np r + nRH Y c r np) =
          (1 % 2, l, nCH Y c np r, w, h - nCH Y c np r, nI (nRH Y c r np), 1 + (rowA Y np c r l (nCH Y c np r) w).length) :: (rowA Y np c r l (nCH Y c np r) w ++ colG Y np c l w h k (r + 1) (nCH Y c np r + nRH Y c r np)) := by
        unfold colS optN
        rw [if_neg (by simp; omega)]
        rfl
      rw [this]
      refine dnR.split (by omega) hB hm hc (by omega) (by omega) (by omega) (by decide) hq (show rch Y np 1 c r q = nRH Y c r np from rfl) hg (by show nRH Y c r np < h - nCH Y c np r; omega) ?_ ?_
      · exact hrow (b + 1) (by omega)
      · show dnR s np Y b 1 c (r + 1) q l (nCH Y c np r + nRH Y c r np) w (h - nCH Y c np r - nRH Y c r np) _
        rw [hst] at ih
        rw [show h - nCH Y c np r - nRH Y c r np = h - (nCH Y c np r + nRH Y c r np) by omega]
        exact ih
theorem dn_gro (hb : b ≤ 54) (hB : lyB Y np) (hm : np ≤ 36) (hr : r < 2 ^ 30) (hq : q + 1 < 2 ^ 30) (hs : nSum Y np (nCo Y np) ≤ w) (hw : w < 2 ^ 30) (h0 : 0 < h) (hh : h < 2 ^ 30) (hy : ∀ c, c < nCo Y np → nCH Y c np (nRo Y c np) ≤ h) (hN : lyN Y np) : ∀ k c, c + k = nCo Y np → nSum Y np c < w →
    dnR s np Y b 0 c r q (nSum Y np c) 0 (w - nSum Y np c) h (groG Y np w h k c (nSum Y np c))
  | 0, c, hc, hlt => by
    have hco := nCo_le hB np (Nat.le_refl _)
    have hn : rch Y np 0 c r q = 0 := by
      show nCWt Y np c = 0
      unfold nCWt
      rw [nRo_no (fun i hi e => by have := nCo_gt (Y := Y) hi; omega)]
      rfl
    have : groG Y np w h 0 c (nSum Y np c) = [(3, nSum Y np c, 0, w - nSum Y np c, h, -1, 0)] := by
      simp only [groG]
      unfold restL
      rw [if_neg (by omega), if_neg (by omega)]
    rw [this]
    exact dnR.rest (by omega) hB hm (by omega) hr (by omega) hh (by omega) h0 hn (by decide)
  | k + 1, c, hc, hlt => by
    have hco := nCo_le hB np (Nat.le_refl _)
    have hg := nCWt_pos hB (hN.1 c (by omega))
    have hst : nSum Y np (c + 1) = nSum Y np c + nCWt Y np c := rfl
    have hmo := nSum_mono (Y := Y) (m := np) (i := c + 1) (j := nCo Y np) (by omega)
    have hcol : ∀ b', b' ≤ 55 → dnR s np Y b' 1 c 0 q (nSum Y np c) 0 (nCWt Y np c) h (colA Y np c (nSum Y np c) h) := fun b' hb' => by
      exact dn_col (s := s) (b := b') (l := nSum Y np c) (w := nCWt Y np c) (h := h) hb' hB hm (by omega) hq (fun r hr => nCW_ge hr) hg (by omega) hh (hy c (by omega)) (hN.2 c) (nRo Y c np) 0 (by omega) h0
    simp only [groG]
    by_cases e : w - nSum Y np c = nCWt Y np c
    · have hk : k = 0 := by
        cases k with
        | zero => rfl
        | succ k =>
          have h1 := nCWt_pos hB (hN.1 (c + 1) (by omega))
          have h2 : nSum Y np (c + 2) = nSum Y np (c + 1) + nCWt Y np (c + 1) := rfl
          have h3 := nSum_mono (Y := Y) (m := np) (i := c + 2) (j := nCo Y np) (by omega)
          omega
      subst hk
      have : groS Y np c (nSum Y np c) w h ++ groG Y np w h 0 (c + 1) (nSum Y np c + nCWt Y np c) = colA Y np c (nSum Y np c) h := by
        unfold groS optN
        rw [if_pos (by simp; omega)]
        simp only [groG]
        unfold restL
        rw [if_pos (by omega)]
        simp
      rw [this, e]
      refine dnR.down hB hm (by omega) hr (by omega) hh (by decide) (show 0 < nCWt Y np c from hg) rfl ?_
      exact hcol b (by omega)
    · have ih := dn_gro hb hB hm hr hq hs hw h0 hh hy hN k (c + 1) (by omega) (by omega)
      have : groS Y np c (nSum Y np c) w h ++ groG Y np w h k (c + 1) (nSum Y np c + nCWt Y np c) =
          (0 % 2, nSum Y np c, 0, w - nSum Y np c, h, nI (nCWt Y np c), 1 + (colA Y np c (nSum Y np c) h).length) :: (colA Y np c (nSum Y np c) h ++ groG Y np w h k (c + 1) (nSum Y np c + nCWt Y np c)) := by
        unfold groS optN
        rw [if_neg (by simp; omega)]
        rfl
      rw [this]
      refine dnR.split (by omega) hB hm (by omega) hr (by omega) hh (by decide) hq (show rch Y np 0 c r q = nCWt Y np c from rfl) hg (by show nCWt Y np c < w - nSum Y np c; omega) ?_ ?_
      · exact hcol (b + 1) (by omega)
      · show dnR s np Y b 0 (c + 1) r q (nSum Y np c + nCWt Y np c) 0 (w - nSum Y np c - nCWt Y np c) h _
        rw [hst] at ih
        rw [show w - nSum Y np c - nCWt Y np c = w - (nSum Y np c + nCWt Y np c) by omega]
        exact ih
end DC
/-- what a layout must be to be cut: it fits, no column and no row is empty -/
def lyF (Y : lY) (m w h : Nat) : Prop := lyB Y m ∧ lyN Y m ∧ nSum Y m (nCo Y m) ≤ w ∧ (∀ c, c < nCo Y m → nCH Y c m (nRo Y c m) ≤ h) ∧ (groA Y m w h).length ≤ 145
theorem moGA_list {S : xS} {s np w h : Nat} {Y : lY} (hF : lyF Y np w h) (hm : np ≤ 36) (w0 : 0 < w) (hw : w < 2 ^ 30) (h0 : 0 < h) (hh : h < 2 ^ 30) (hly : lyM S Y np) (h36 : sF S 186 36 = nI np) (ew : sA S 189 s = nI w) (eh : sA S 190 s = nI h) :
    ∃ Z, moGA s np 161 (moA0 S s) 0 1 Z ∧ rK s 0 (groA Y np w h).length 0 S Z ∧ sA Z 195 s = nI (groA Y np w h).length ∧ (∀ i, i ≠ s → sA Z 195 i = sA S 195 i) ∧ (∀ j v, (groA Y np w h)[j]? = some v → rNd Z s j v) ∧ okL np Y (groA Y np w h) 0 0 w h := by
  obtain ⟨hB, hN, hs, hy, hlen⟩ := hF
  have hd := dn_gro (s := s) (b := 0) (r := 0) (q := 0) (by decide) hB hm (by decide) (by decide) hs hw h0 hh hy hN (nCo Y np) 0 (by omega) w0
  have e0 : nSum Y np 0 = 0 := rfl
  rw [e0, Nat.sub_zero] at hd
  have hk0 : rK s 0 (groA Y np w h).length 0 S (moA0 S s) := by
    unfold moA0
    exact ((rK.rf.A (Or.inr (Or.inr ⟨rfl, rfl⟩))).F).trans (moPA2_K (Nat.le_refl _))
  have h195 : sA (moA0 S s) 195 s = nI 0 := by
    unfold moA0
    rw [moAt_A (by omega), moPush_A (by omega)]
    show sA (uA S 195 s (nI 0)) 195 s = _
    rw [sA_uA, va_up_self]
  have h195n : ∀ i, i ≠ s → sA (moA0 S s) 195 i = sA S 195 i := fun i hi => by
    unfold moA0
    rw [moAt_A (by omega), moPush_A (by omega)]
    show sA (uA S 195 s (nI 0)) 195 i = _
    rw [sA_uA, va_up_ne _ _ hi]
  have hS : rSt s np Y (moA0 S s) 0 (0 + 1) := ⟨hk0.ly hly, (hk0.2.1 186 36 (by omega)).trans h36, moPA2_n, h195⟩
  have hP : rPc (moA0 S s) 0 0 0 0 0 0 0 w h none := by
    unfold moA0
    obtain ⟨⟨b1, b2, b3, b4⟩, b5, b6, b7, b8, b9⟩ := moPA2 (S := uF (uA S 195 s (nI 0)) 186 43 (nI 0)) (n := 0) (h := nI 0) (c := nI 0) (r := nI 0) (p := nI 0) (q := -1) (x := nI 0) (y := nI 0) (w := sA S 189 s) (z := sA S 190 s)
    exact ⟨⟨b1, b2, b3, b4⟩, b5, b6, b7, b8.trans ew, b9.trans eh⟩
  obtain ⟨P, r1, r2, r3, r4⟩ := hd.run (by decide) (by decide) (g := none) (fun f hf => by cases hf) hS hP (by rw [Nat.zero_add]; exact hlen) (by decide) (Nat.le_refl _)
  obtain ⟨ra, ri, rF, rJ, rR, rE, rN, rL, -⟩ := r1
  have elen : (groG Y np w h (nCo Y np) 0 0).length = (groA Y np w h).length := rfl
  rw [elen, Nat.zero_add] at ra r2 r4
  refine ⟨P, ?_, ⟨fun k i => ?_, fun o k z => (rF o k z).trans (hk0.2.1 o k z), rJ.trans hk0.2.2.1, rR.trans hk0.2.2.2.1, rE.trans hk0.2.2.2.2.1, rN.trans hk0.2.2.2.2.2.1, rL.trans hk0.2.2.2.2.2.2⟩, r2.2.2.2, fun i hi => (ri i hi).trans (h195n i hi), fun j v hj => ?_, hd.1⟩
  · have := r4 (161 - (groA Y np w h).length) P ?_
    · rw [show 161 - (groA Y np w h).length + (groA Y np w h).length = 161 by omega] at this
      exact this
    · rw [show 161 - (groA Y np w h).length = (160 - (groA Y np w h).length) + 1 by omega]
      rfl
  · by_cases e1 : 196 ≤ k ∧ k ≤ 204 ∧ 160 * s + 0 ≤ i ∧ i < 160 * s + (groA Y np w h).length
    · exact Or.inr (Or.inl e1)
    · by_cases e2 : 221 ≤ k ∧ k ≤ 229 ∧ 0 ≤ i
      · exact Or.inr (Or.inr (Or.inl e2))
      · by_cases e3 : k = 195
        · subst e3
          by_cases e4 : i = s
          · exact Or.inr (Or.inr (Or.inr ⟨rfl, e4⟩))
          · exact Or.inl ((ri i e4).trans (h195n i e4))
        · exact Or.inl ((ra k i e1 e2 e3 (fun _ f hf => by cases hf)).trans (hk0.at e1 e2 e3))
  · have := r3 j v hj
    rw [Nat.zero_add] at this
    exact this
