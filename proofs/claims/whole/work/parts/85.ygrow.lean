/-! rows, columns and the whole tree of the class are the list -/
theorem tRow1_S {S : xS} {Y : lY} {m b n i f y e h : Nat} (hly : lyOf S Y m) (hB : lyB Y m) (hi : i < m) (hb : 72 ≤ b) (hn : sF S b 8 = nI n) (hh : yH Y i ≤ h) (hf : f ≤ e) (he : e < 2 ^ 30) (hl : h < 2 ^ 30) (h145 : n + (rowS Y i f y e h).length ≤ 145) :
    tHd b S n (rowS Y i f y e h) (tRow1 b (S, n, nI f) i (nI y) (nI e) (nI h)).1 ∧ (tRow1 b (S, n, nI f) i (nI y) (nI e) (nI h)).2.1 = n + (rowS Y i f y e h).length ∧ (tRow1 b (S, n, nI f) i (nI y) (nI e) (nI h)).2.2 = nI (f + yW Y i) := by
  obtain ⟨a1, a2, a3, -⟩ := hly i hi
  obtain ⟨⟨b1, b2⟩, ⟨b3, b4⟩, -⟩ := hB i hi
  have ez : decide (nI (e - f) ≤ nI (yW Y i)) = decide (e - f ≤ yW Y i) := decide_eq_decide.mpr (nI_leI (by omega) (by omega))
  have hlen : (optN (decide (e - f ≤ yW Y i)) ((0, f, y, e - f, h, nI (yW Y i), 1 + (cellL Y i f y h).length) : nd)).length = (optN (decide (e - f ≤ yW Y i)) (0, 0, 0, 0, 0, 0, 0)).length := optN_len
  have h145' : n + (optN (decide (e - f ≤ yW Y i)) ((0, f, y, e - f, h, nI (yW Y i), 1 + (cellL Y i f y h).length) : nd) ++ cellL Y i f y h).length ≤ 145 := h145
  rw [List.length_append, hlen] at h145'
  unfold tRow1
  simp only []
  rw [a2, nI_subN hf, ez]
  have hK := (tCp_ok (S := S) (b := b) (z := decide (e - f ≤ yW Y i)) (k := nI 0) (x := nI f) (y := nI y) (w := nI (e - f)) (h := nI h) (m := nI (yW Y i)) hn (by omega))
  have hp := tCp_at (S := S) (b := b) (n := n) (z := decide (e - f ≤ yW Y i)) (k := nI 0) (x := nI f) (y := nI y) (w := nI (e - f)) (h := nI h) (m := nI (yW Y i)) (by omega)
  have key := tCp_S (S := S) (b := b) (n := n) (k := 0) (x := f) (y := y) (w := e - f) (h := h) (z := decide (e - f ≤ yW Y i)) (m := nI (yW Y i)) (L := cellL Y i f y h) hn (by omega)
  generalize hc : tCp S b n (decide (e - f ≤ yW Y i)) (nI 0) (nI f) (nI y) (nI (e - f)) (nI h) (nI (yW Y i)) = c at hK hp key
  obtain ⟨k1, k2, k3, -⟩ := hK
  obtain ⟨u1, u2⟩ := tCell_S (S := c.1) (Y := Y) (m := m) (b := b) (n := c.2.1) (i := i) (l := f) (y := y) (h := h) (hly.K hb k1) hB hi hb k2 hh hl (by rw [hp]; omega)
  have K := key _ u1
  rw [← u2] at K
  refine ⟨K, ?_, nI_add _ _⟩
  rw [u2, hp]
  unfold rowS
  rw [List.length_append, hlen]
  omega
def rowN (Y : lY) (c r y e h f0 : Nat) : Nat → List nd × Nat
  | 0 => ([], f0)
  | i + 1 => if yIn Y c r i = true then ((rowN Y c r y e h f0 i).1 ++ rowS Y i (rowN Y c r y e h f0 i).2 y e h, (rowN Y c r y e h f0 i).2 + yW Y i) else rowN Y c r y e h f0 i
theorem rowN_f {Y : lY} {c r y e h f0 : Nat} : ∀ i, (rowN Y c r y e h f0 i).2 = f0 + nRW Y c r i
  | 0 => rfl
  | i + 1 => by
    simp only [rowN, nRW]
    split
    · show (rowN Y c r y e h f0 i).2 + _ = _
      rw [rowN_f i]; omega
    · exact rowN_f i
theorem rowN_G {Y : lY} {c r y e h f0 m : Nat} : ∀ i, i ≤ m → rowG Y c r y e h m 0 f0 = (rowN Y c r y e h f0 i).1 ++ rowG Y c r y e h (m - i) i (rowN Y c r y e h f0 i).2
  | 0, _ => rfl
  | i + 1, hi => by
    rw [rowN_G i (by omega), show m - i = (m - (i + 1)) + 1 by omega]
    simp only [rowG, rowN]
    split
    · rw [List.append_assoc]
    · rfl
theorem tRowF_S {S : xS} {Y : lY} {m b n c r f y w h : Nat} (hly : lyOf S Y m) (hB : lyB Y m) (hb : 72 ≤ b) (hn : sF S b 8 = nI n) (hc : c < 2 ^ 30) (hr : r < 2 ^ 30) (hw : nRW Y c r m ≤ w) (he : f + w < 2 ^ 30) (hl : h < 2 ^ 30)
    (hh : ∀ i, i < m → yIn Y c r i = true → yH Y i ≤ h) (h145 : n + (rowG Y c r y (f + w) h m 0 f).length ≤ 145) : ∀ i, i ≤ m →
    tHd b S n (rowN Y c r y (f + w) h f i).1 (tRowF S b n (nI c) (nI r) (nI f) (nI y) (nI w) (nI h) i).1 ∧ (tRowF S b n (nI c) (nI r) (nI f) (nI y) (nI w) (nI h) i).2.1 = n + (rowN Y c r y (f + w) h f i).1.length ∧ (tRowF S b n (nI c) (nI r) (nI f) (nI y) (nI w) (nI h) i).2.2 = nI (rowN Y c r y (f + w) h f i).2
  | 0, _ => ⟨tHd.nil hn, rfl, rfl⟩
  | i + 1, hi => by
    obtain ⟨h1, h2, h3⟩ := tRowF_S hly hB hb hn hc hr hw he hl hh h145 i (by omega)
    have hq := rowN_G (Y := Y) (c := c) (r := r) (y := y) (e := f + w) (h := h) (f0 := f) (m := m) (i + 1) hi
    have hf := rowN_f (Y := Y) (c := c) (r := r) (y := y) (e := f + w) (h := h) (f0 := f) i
    have hm := nRW_mono (Y := Y) (c := c) (r := r) (i := i) (j := m) (by omega)
    rw [hq, List.length_append] at h145
    simp only [tRowF]
    generalize tRowF S b n (nI c) (nI r) (nI f) (nI y) (nI w) (nI h) i = p at h1 h2 h3
    obtain ⟨p1, p2, p3⟩ := p
    simp only at h1 h2 h3
    subst h2 h3
    have hly' := hly.K hb h1.1
    rw [laIn_y hly' hB hc hr (by omega)]
    simp only [rowN] at h145 ⊢
    by_cases hin : yIn Y c r i = true
    · rw [if_pos hin] at h145 ⊢
      rw [if_pos hin, nI_add]
      simp only [List.length_append] at h145
      obtain ⟨g1, g2, g3⟩ := tRow1_S (S := p1) (Y := Y) (m := m) (b := b) (n := n + (rowN Y c r y (f + w) h f i).1.length) (i := i) (f := (rowN Y c r y (f + w) h f i).2) (y := y) (e := f + w) (h := h) hly' hB (by omega) hb h1.2.1 (hh i (by omega) hin) (by omega) (by omega) hl (by omega)
      refine ⟨h1.app g1, ?_, g3⟩
      rw [g2, List.length_append]
      omega
    · rw [if_neg hin, if_neg hin]
      exact ⟨h1, rfl, rfl⟩
theorem tRow_S {S : xS} {Y : lY} {m b n c r f y w h : Nat} (hly : lyOf S Y m) (hB : lyB Y m) (hb : 72 ≤ b) (hn : sF S b 8 = nI n) (hc : c < 2 ^ 30) (hr : r < 2 ^ 30) (hw : nRW Y c r m ≤ w) (he : f + w < 2 ^ 30) (hl : h < 2 ^ 30)
    (hh : ∀ i, i < m → yIn Y c r i = true → yH Y i ≤ h) (h145 : n + (rowG Y c r y (f + w) h m 0 f).length ≤ 145) :
    tHd b S n (rowG Y c r y (f + w) h m 0 f) (tRow S b n m (nI c) (nI r) (nI f) (nI y) (nI w) (nI h)).1 ∧ (tRow S b n m (nI c) (nI r) (nI f) (nI y) (nI w) (nI h)).2 = n + (rowG Y c r y (f + w) h m 0 f).length := by
  obtain ⟨h1, h2, h3⟩ := tRowF_S hly hB hb hn hc hr hw he hl hh h145 m (Nat.le_refl _)
  have hq := rowN_G (Y := Y) (c := c) (r := r) (y := y) (e := f + w) (h := h) (f0 := f) (m := m) m (Nat.le_refl _)
  have hf := rowN_f (Y := Y) (c := c) (r := r) (y := y) (e := f + w) (h := h) (f0 := f) m
  rw [Nat.sub_self] at hq
  unfold tRow
  simp only []
  rw [hq] at h145 ⊢
  generalize tRowF S b n (nI c) (nI r) (nI f) (nI y) (nI w) (nI h) m = p at h1 h2 h3
  obtain ⟨p1, p2, p3⟩ := p
  simp only at h1 h2 h3
  subst h2 h3
  simp only [rowG] at h145 ⊢
  rw [List.length_append] at h145
  rw [nI_add, nI_subN (by omega)]
  obtain ⟨r1, r2⟩ := tRest_S (S := p1) (b := b) (n := n + (rowN Y c r y (f + w) h f m).1.length) (x := (rowN Y c r y (f + w) h f m).2) (y := y) (w := f + w - (rowN Y c r y (f + w) h f m).2) (h := h) h1.2.1 (by omega) hl (by omega)
  refine ⟨h1.app r1, ?_⟩
  rw [r2, List.length_append]
  omega
/-! columns -/
theorem tCol1_S {S : xS} {Y : lY} {m b n c r l y w h : Nat} (hly : lyOf S Y m) (hB : lyB Y m) (hb : 72 ≤ b) (hn : sF S b 8 = nI n) (hc : c < 2 ^ 30) (hr : r < 2 ^ 30) (hw : nRW Y c r m ≤ w) (he : l + w < 2 ^ 30) (hl : h < 2 ^ 30) (hy : y ≤ h)
    (h145 : n + (colS Y m c r l y w h).length ≤ 145) :
    tHd b S n (colS Y m c r l y w h) (tCol1 b (S, n, nI y) m (nI c) (nI l) (nI w) (nI h) r).1 ∧ (tCol1 b (S, n, nI y) m (nI c) (nI l) (nI w) (nI h) r).2.1 = n + (colS Y m c r l y w h).length ∧ (tCol1 b (S, n, nI y) m (nI c) (nI l) (nI w) (nI h) r).2.2 = nI (y + nRH Y c r m) := by
  have hg := nRH_le (c := c) (r := r) hB m (Nat.le_refl _)
  have ez : decide (nI (h - y) ≤ nI (nRH Y c r m)) = decide (h - y ≤ nRH Y c r m) := decide_eq_decide.mpr (nI_leI (by omega) (by omega))
  have hlen : (optN (decide (h - y ≤ nRH Y c r m)) ((1, l, y, w, h - y, nI (nRH Y c r m), 1 + (rowA Y m c r l y w).length) : nd)).length = (optN (decide (h - y ≤ nRH Y c r m)) (0, 0, 0, 0, 0, 0, 0)).length := optN_len
  have h145' : n + (optN (decide (h - y ≤ nRH Y c r m)) ((1, l, y, w, h - y, nI (nRH Y c r m), 1 + (rowA Y m c r l y w).length) : nd) ++ rowA Y m c r l y w).length ≤ 145 := h145
  rw [List.length_append, hlen] at h145'
  unfold tCol1
  simp only []
  rw [laRH_y hly hB hc hr m (Nat.le_refl _), nI_subN hy, ez]
  have hK := (tCp_ok (S := S) (b := b) (z := decide (h - y ≤ nRH Y c r m)) (k := nI 1) (x := nI l) (y := nI y) (w := nI w) (h := nI (h - y)) (m := nI (nRH Y c r m)) hn (by omega))
  have hp := tCp_at (S := S) (b := b) (n := n) (z := decide (h - y ≤ nRH Y c r m)) (k := nI 1) (x := nI l) (y := nI y) (w := nI w) (h := nI (h - y)) (m := nI (nRH Y c r m)) (by omega)
  have key := tCp_S (S := S) (b := b) (n := n) (k := 1) (x := l) (y := y) (w := w) (h := h - y) (z := decide (h - y ≤ nRH Y c r m)) (m := nI (nRH Y c r m)) (L := rowA Y m c r l y w) hn (by omega)
  generalize hcc : tCp S b n (decide (h - y ≤ nRH Y c r m)) (nI 1) (nI l) (nI y) (nI w) (nI (h - y)) (nI (nRH Y c r m)) = q at hK hp key
  obtain ⟨k1, k2, k3, -⟩ := hK
  obtain ⟨u1, u2⟩ := tRow_S (S := q.1) (Y := Y) (m := m) (b := b) (n := q.2.1) (c := c) (r := r) (f := l) (y := y) (w := w) (h := nRH Y c r m) (hly.K hb k1) hB hb k2 hc hr hw he (by omega) (fun i hi hin => nRH_ge hi hin) (by rw [hp]; show _ + (rowA Y m c r l y w).length ≤ _; omega)
  have K := key _ u1
  rw [show (rowA Y m c r l y w).length = (rowG Y c r y (l + w) (nRH Y c r m) m 0 l).length from rfl, ← u2] at K
  refine ⟨?_, ?_, nI_add _ _⟩
  · exact K
  · rw [u2, hp]
    unfold colS
    rw [List.length_append, hlen]
    show _ + (rowA Y m c r l y w).length = _
    omega
def colN (Y : lY) (m c l w h : Nat) : Nat → List nd × Nat
  | 0 => ([], 0)
  | r + 1 => ((colN Y m c l w h r).1 ++ colS Y m c r l (colN Y m c l w h r).2 w h, (colN Y m c l w h r).2 + nRH Y c r m)
theorem colN_f {Y : lY} {m c l w h : Nat} : ∀ r, (colN Y m c l w h r).2 = nCH Y c m r
  | 0 => rfl
  | r + 1 => by
    simp only [colN, nCH]
    rw [colN_f r]
theorem colN_G {Y : lY} {m c l w h k : Nat} : ∀ r, r ≤ k → colG Y m c l w h k 0 0 = (colN Y m c l w h r).1 ++ colG Y m c l w h (k - r) r (colN Y m c l w h r).2
  | 0, _ => rfl
  | r + 1, hr => by
    rw [colN_G r (by omega), show k - r = (k - (r + 1)) + 1 by omega]
    simp only [colG, colN]
    rw [List.append_assoc]
theorem tColF_S {S : xS} {Y : lY} {m b n c l w h k : Nat} (hly : lyOf S Y m) (hB : lyB Y m) (hb : 72 ≤ b) (hn : sF S b 8 = nI n) (hc : c < 2 ^ 30) (hk : k < 2 ^ 30) (hw : ∀ r, r < k → nRW Y c r m ≤ w) (he : l + w < 2 ^ 30) (hl : h < 2 ^ 30) (hy : nCH Y c m k ≤ h)
    (h145 : n + (colG Y m c l w h k 0 0).length ≤ 145) : ∀ r, r ≤ k →
    tHd b S n (colN Y m c l w h r).1 (tColF S b n m (nI c) (nI l) (nI w) (nI h) r).1 ∧ (tColF S b n m (nI c) (nI l) (nI w) (nI h) r).2.1 = n + (colN Y m c l w h r).1.length ∧ (tColF S b n m (nI c) (nI l) (nI w) (nI h) r).2.2 = nI (colN Y m c l w h r).2
  | 0, _ => ⟨tHd.nil hn, rfl, rfl⟩
  | r + 1, hr => by
    obtain ⟨h1, h2, h3⟩ := tColF_S hly hB hb hn hc hk hw he hl hy h145 r (by omega)
    have hq := colN_G (Y := Y) (m := m) (c := c) (l := l) (w := w) (h := h) (k := k) (r + 1) hr
    have hf := colN_f (Y := Y) (m := m) (c := c) (l := l) (w := w) (h := h) r
    have hm := nCH_mono (Y := Y) (c := c) (m := m) (i := r) (j := k) (by omega)
    rw [hq, List.length_append] at h145
    simp only [tColF]
    generalize tColF S b n m (nI c) (nI l) (nI w) (nI h) r = p at h1 h2 h3
    obtain ⟨p1, p2, p3⟩ := p
    simp only at h1 h2 h3
    subst h2 h3
    simp only [colN, List.length_append] at h145 ⊢
    obtain ⟨g1, g2, g3⟩ := tCol1_S (S := p1) (Y := Y) (m := m) (b := b) (n := n + (colN Y m c l w h r).1.length) (c := c) (r := r) (l := l) (y := (colN Y m c l w h r).2) (w := w) (h := h) (hly.K hb h1.1) hB hb h1.2.1 hc (by omega) (hw r (by omega)) he hl (by omega) (by omega)
    refine ⟨h1.app g1, ?_, g3⟩
    rw [g2]
    omega
theorem tCol_S {S : xS} {Y : lY} {m b n c l w h k : Nat} (hly : lyOf S Y m) (hB : lyB Y m) (hb : 72 ≤ b) (hn : sF S b 8 = nI n) (hc : c < 2 ^ 30) (hk : k < 2 ^ 30) (hw : ∀ r, r < k → nRW Y c r m ≤ w) (he : l + w < 2 ^ 30) (hl : h < 2 ^ 30) (hy : nCH Y c m k ≤ h)
    (h145 : n + (colG Y m c l w h k 0 0).length ≤ 145) :
    tHd b S n (colG Y m c l w h k 0 0) (tCol S b n m k (nI c) (nI l) (nI w) (nI h)).1 ∧ (tCol S b n m k (nI c) (nI l) (nI w) (nI h)).2 = n + (colG Y m c l w h k 0 0).length := by
  obtain ⟨h1, h2, h3⟩ := tColF_S hly hB hb hn hc hk hw he hl hy h145 k (Nat.le_refl _)
  have hq := colN_G (Y := Y) (m := m) (c := c) (l := l) (w := w) (h := h) (k := k) k (Nat.le_refl _)
  have hf := colN_f (Y := Y) (m := m) (c := c) (l := l) (w := w) (h := h) k
  rw [Nat.sub_self] at hq
  unfold tCol
  simp only []
  rw [hq] at h145 ⊢
  generalize tColF S b n m (nI c) (nI l) (nI w) (nI h) k = p at h1 h2 h3
  obtain ⟨p1, p2, p3⟩ := p
  simp only at h1 h2 h3
  subst h2 h3
  simp only [colG] at h145 ⊢
  rw [List.length_append] at h145
  rw [nI_subN (by omega)]
  obtain ⟨r1, r2⟩ := tRest_S (S := p1) (b := b) (n := n + (colN Y m c l w h k).1.length) (x := l) (y := (colN Y m c l w h k).2) (w := w) (h := h - (colN Y m c l w h k).2) h1.2.1 (by omega) (by omega) (by omega)
  refine ⟨h1.app r1, ?_⟩
  rw [r2, List.length_append]
  omega
/-! the whole tree -/
theorem tGrow1_S {S : xS} {Y : lY} {m b n c f w h : Nat} {k : Nat → Nat} (hk : k c = nRo Y c m) (hly : lyOf S Y m) (hB : lyB Y m) (hm : m ≤ 36) (hb : 72 ≤ b) (hn : sF S b 8 = nI n) (hc : c < 2 ^ 30) (hf : f + nCWt Y m c ≤ w) (hw : w < 2 ^ 30) (hl : h < 2 ^ 30) (hy : nCH Y c m (nRo Y c m) ≤ h)
    (h145 : n + (groS Y m c f w h).length ≤ 145) :
    tHd b S n (groS Y m c f w h) (tGrow1 b (S, n, nI f) m k (nI w) (nI h) c).1 ∧ (tGrow1 b (S, n, nI f) m k (nI w) (nI h) c).2.1 = n + (groS Y m c f w h).length ∧ (tGrow1 b (S, n, nI f) m k (nI w) (nI h) c).2.2 = nI (f + nCWt Y m c) := by
  have hro := nRo_le (c := c) hB m (Nat.le_refl _)
  have ez : decide (nI (w - f) ≤ nI (nCWt Y m c)) = decide (w - f ≤ nCWt Y m c) := decide_eq_decide.mpr (nI_leI (by omega) (by omega))
  have hlen : (optN (decide (w - f ≤ nCWt Y m c)) ((0, f, 0, w - f, h, nI (nCWt Y m c), 1 + (colA Y m c f h).length) : nd)).length = (optN (decide (w - f ≤ nCWt Y m c)) (0, 0, 0, 0, 0, 0, 0)).length := optN_len
  have h145' : n + (optN (decide (w - f ≤ nCWt Y m c)) ((0, f, 0, w - f, h, nI (nCWt Y m c), 1 + (colA Y m c f h).length) : nd) ++ colA Y m c f h).length ≤ 145 := h145
  rw [List.length_append, hlen] at h145'
  unfold tGrow1
  simp only []
  rw [hk, laCW_y hly hB hm hc _ (by omega), show nCW Y c m (nRo Y c m) = nCWt Y m c from rfl, nI_subN (by omega), ez]
  have hK := (tCp_ok (S := S) (b := b) (z := decide (w - f ≤ nCWt Y m c)) (k := nI 0) (x := nI f) (y := nI 0) (w := nI (w - f)) (h := nI h) (m := nI (nCWt Y m c)) hn (by omega))
  have hp := tCp_at (S := S) (b := b) (n := n) (z := decide (w - f ≤ nCWt Y m c)) (k := nI 0) (x := nI f) (y := nI 0) (w := nI (w - f)) (h := nI h) (m := nI (nCWt Y m c)) (by omega)
  have key := tCp_S (S := S) (b := b) (n := n) (k := 0) (x := f) (y := 0) (w := w - f) (h := h) (z := decide (w - f ≤ nCWt Y m c)) (m := nI (nCWt Y m c)) (L := colA Y m c f h) hn (by omega)
  generalize hcc : tCp S b n (decide (w - f ≤ nCWt Y m c)) (nI 0) (nI f) (nI 0) (nI (w - f)) (nI h) (nI (nCWt Y m c)) = q at hK hp key
  obtain ⟨k1, k2, k3, -⟩ := hK
  obtain ⟨u1, u2⟩ := tCol_S (S := q.1) (Y := Y) (m := m) (b := b) (n := q.2.1) (c := c) (l := f) (w := nCWt Y m c) (h := h) (k := nRo Y c m) (hly.K hb k1) hB hb k2 hc (by omega) (fun r hr => nCW_ge hr) (by omega) hl hy (by rw [hp]; show _ + (colA Y m c f h).length ≤ _; omega)
  have K := key _ u1
  rw [show (colA Y m c f h).length = (colG Y m c f (nCWt Y m c) h (nRo Y c m) 0 0).length from rfl, ← u2] at K
  refine ⟨K, ?_, nI_add _ _⟩
  rw [u2, hp]
  unfold groS
  rw [List.length_append, hlen]
  show _ + (colA Y m c f h).length = _
  omega
def groN (Y : lY) (m w h : Nat) : Nat → List nd × Nat
  | 0 => ([], 0)
  | c + 1 => ((groN Y m w h c).1 ++ groS Y m c (groN Y m w h c).2 w h, (groN Y m w h c).2 + nCWt Y m c)
theorem groN_f {Y : lY} {m w h : Nat} : ∀ c, (groN Y m w h c).2 = nSum Y m c
  | 0 => rfl
  | c + 1 => by
    simp only [groN, nSum]
    rw [groN_f c]
theorem groN_G {Y : lY} {m w h k : Nat} : ∀ c, c ≤ k → groG Y m w h k 0 0 = (groN Y m w h c).1 ++ groG Y m w h (k - c) c (groN Y m w h c).2
  | 0, _ => rfl
  | c + 1, hc => by
    rw [groN_G c (by omega), show k - c = (k - (c + 1)) + 1 by omega]
    simp only [groG, groN]
    rw [List.append_assoc]
theorem tGrowF_S {S : xS} {Y : lY} {m b w h K : Nat} {k : Nat → Nat} (hk : ∀ c, c < K → k c = nRo Y c m) (hly : lyOf S Y m) (hB : lyB Y m) (hm : m ≤ 36) (hb : 72 ≤ b) (hK : K < 2 ^ 30) (hs : nSum Y m K ≤ w) (hw : w < 2 ^ 30) (hl : h < 2 ^ 30) (hy : ∀ c, c < K → nCH Y c m (nRo Y c m) ≤ h)
    (h145 : (groG Y m w h K 0 0).length ≤ 145) : ∀ c, c ≤ K →
    tHd b (uF S b 8 (nI 0)) 0 (groN Y m w h c).1 (tGrowF S b m k (nI w) (nI h) c).1 ∧ (tGrowF S b m k (nI w) (nI h) c).2.1 = 0 + (groN Y m w h c).1.length ∧ (tGrowF S b m k (nI w) (nI h) c).2.2 = nI (groN Y m w h c).2
  | 0, _ => ⟨tHd.nil (by rw [sF_uF, va_up_self]), rfl, rfl⟩
  | c + 1, hc => by
    obtain ⟨h1, h2, h3⟩ := tGrowF_S hk hly hB hm hb hK hs hw hl hy h145 c (by omega)
    have hq := groN_G (Y := Y) (m := m) (w := w) (h := h) (k := K) (c + 1) hc
    have hf := groN_f (Y := Y) (m := m) (w := w) (h := h) c
    have hmo := nSum_mono (Y := Y) (m := m) (i := c + 1) (j := K) hc
    simp only [nSum] at hmo
    rw [hq, List.length_append] at h145
    simp only [tGrowF]
    generalize tGrowF S b m k (nI w) (nI h) c = p at h1 h2 h3
    obtain ⟨p1, p2, p3⟩ := p
    simp only at h1 h2 h3
    subst h2 h3
    simp only [groN, List.length_append] at h145 ⊢
    have hly' : lyOf p1 Y m := (show lyOf (uF S b 8 (nI 0)) Y m from hly).K hb h1.1
    obtain ⟨g1, g2, g3⟩ := tGrow1_S (S := p1) (Y := Y) (m := m) (b := b) (n := 0 + (groN Y m w h c).1.length) (c := c) (f := (groN Y m w h c).2) (w := w) (h := h) (k := k) (hk c (by omega)) hly' hB hm hb h1.2.1 (by omega) (by omega) hw hl (hy c (by omega)) (by omega)
    refine ⟨h1.app g1, ?_, g3⟩
    rw [g2]
    omega
/-- the grown tree is the list, its root waits -/
theorem tGrow_S {S : xS} {Y : lY} {m b w h K : Nat} {k : Nat → Nat} (hk : ∀ c, c < K → k c = nRo Y c m) (hly : lyOf S Y m) (hB : lyB Y m) (hm : m ≤ 36) (hb : 72 ≤ b) (hK : K < 2 ^ 30) (hs : nSum Y m K ≤ w) (hw : w < 2 ^ 30) (hl : h < 2 ^ 30) (hy : ∀ c, c < K → nCH Y c m (nRo Y c m) ≤ h)
    (h145 : (groG Y m w h K 0 0).length ≤ 145) : ∃ U, tHd b (uF S b 8 (nI 0)) 0 (groG Y m w h K 0 0) U ∧ tGrow S b m K k (nI w) (nI h) = (uA U (b + 8) 0 (nI 1), (groG Y m w h K 0 0).length) := by
  obtain ⟨h1, h2, h3⟩ := tGrowF_S hk hly hB hm hb hK hs hw hl hy h145 K (Nat.le_refl _)
  have hq := groN_G (Y := Y) (m := m) (w := w) (h := h) (k := K) K (Nat.le_refl _)
  have hf := groN_f (Y := Y) (m := m) (w := w) (h := h) K
  rw [Nat.sub_self] at hq
  unfold tGrow
  simp only []
  rw [hq] at h145 ⊢
  generalize tGrowF S b m k (nI w) (nI h) K = p at h1 h2 h3
  obtain ⟨p1, p2, p3⟩ := p
  simp only at h1 h2 h3
  subst h2 h3
  simp only [groG] at h145 ⊢
  rw [List.length_append] at h145
  rw [nI_subN (by omega)]
  obtain ⟨r1, r2⟩ := tRest_S (S := p1) (b := b) (n := 0 + (groN Y m w h K).1.length) (x := (groN Y m w h K).2) (y := 0) (w := w - (groN Y m w h K).2) (h := h) h1.2.1 (by omega) hl (by omega)
  refine ⟨_, h1.app r1, ?_⟩
  rw [r2, List.length_append, Nat.zero_add]
