/-! the class's tree, node by node, is the list -/
def ndAt (S : xS) (b i : Nat) (v : nd) : Prop := (sA S (b + 1) i = nI v.1 ∧ sA S (b + 2) i = nI v.2.1 ∧ sA S (b + 3) i = nI v.2.2.1) ∧ (sA S (b + 4) i = nI v.2.2.2.1 ∧ sA S (b + 5) i = nI v.2.2.2.2.1 ∧ sA S (b + 6) i = v.2.2.2.2.2.1) ∧
  sA S (b + 7) i = (if v.2.2.2.2.2.2 = 0 then -1 else nI (i + v.2.2.2.2.2.2)) ∧ sA S (b + 8) i = nI 0
def tHd (b : Nat) (S : xS) (n : Nat) (L : List nd) (S' : xS) : Prop := sK b (b + 9) S S' ∧ sF S' b 8 = nI (n + L.length) ∧ (∀ q v, L[q]? = some v → ndAt S' b (n + q) v) ∧ ∀ t i, 1 ≤ t → t ≤ 8 → i < n → sA S' (b + t) i = sA S (b + t) i
theorem ndAt.of {S S' : xS} {b i : Nat} {v : nd} (h : ndAt S b i v) (k : ∀ t, 1 ≤ t → t ≤ 8 → sA S' (b + t) i = sA S (b + t) i) : ndAt S' b i v := by
  obtain ⟨⟨a1, a2, a3⟩, ⟨a4, a5, a6⟩, a7, a8⟩ := h
  refine ⟨⟨?_, ?_, ?_⟩, ⟨?_, ?_, ?_⟩, ?_, ?_⟩
  · rw [k 1 (by omega) (by omega)]; exact a1
  · rw [k 2 (by omega) (by omega)]; exact a2
  · rw [k 3 (by omega) (by omega)]; exact a3
  · rw [k 4 (by omega) (by omega)]; exact a4
  · rw [k 5 (by omega) (by omega)]; exact a5
  · rw [k 6 (by omega) (by omega)]; exact a6
  · rw [k 7 (by omega) (by omega)]; exact a7
  · rw [k 8 (by omega) (by omega)]; exact a8
theorem tHd.nil {b : Nat} {S : xS} {n : Nat} (hn : sF S b 8 = nI n) : tHd b S n [] S := ⟨sK.rf, hn, fun q v h => by simp at h, fun _ _ _ _ _ => rfl⟩
theorem tHd.app {b : Nat} {S S1 S2 : xS} {n : Nat} {A C : List nd} (h : tHd b S n A S1) (k : tHd b S1 (n + A.length) C S2) : tHd b S n (A ++ C) S2 := by
  obtain ⟨h1, h2, h3, h4⟩ := h
  obtain ⟨k1, k2, k3, k4⟩ := k
  refine ⟨h1.trans k1, by rw [List.length_append, ← Nat.add_assoc]; exact k2, fun q v hq => ?_, fun t i t1 t8 hi => (k4 t i t1 t8 (by omega)).trans (h4 t i t1 t8 hi)⟩
  by_cases e : q < A.length
  · rw [List.getElem?_append_left e] at hq
    exact (h3 q v hq).of fun t t1 t8 => k4 t _ t1 t8 (by omega)
  · rw [List.getElem?_append_right (by omega)] at hq
    have := k3 _ v hq
    rw [show n + A.length + (q - A.length) = n + q by omega] at this
    exact this
theorem tN_lt {n : Nat} (h : n < 145) : tN n = n + 1 := if_pos h
theorem tC_lt {n : Nat} (h : n < 145) : tC n = nI n := if_pos h
theorem tAdd_at {S : xS} {b n : Nat} {k x y w h m : Int32} (hn : n < 145) : (sA (tAdd S b n k x y w h m) (b + 1) n = k ∧ sA (tAdd S b n k x y w h m) (b + 2) n = x ∧ sA (tAdd S b n k x y w h m) (b + 3) n = y) ∧ (sA (tAdd S b n k x y w h m) (b + 4) n = w ∧ sA (tAdd S b n k x y w h m) (b + 5) n = h ∧ sA (tAdd S b n k x y w h m) (b + 6) n = m) ∧ sA (tAdd S b n k x y w h m) (b + 7) n = -1 ∧ sA (tAdd S b n k x y w h m) (b + 8) n = nI 0 := by
  rw [tAdd, if_pos hn]
  unfold trAdd
  refine ⟨⟨?_, ?_, ?_⟩, ⟨?_, ?_, ?_⟩, ?_, ?_⟩ <;> simp [uA, uF, sA, up2, va_up]
theorem tAdd_S {S : xS} {b n k x y w h : Nat} {m : Int32} (hn : sF S b 8 = nI n) (h145 : n < 145) : tHd b S n [(k, x, y, w, h, m, 0)] (tAdd S b n (nI k) (nI x) (nI y) (nI w) (nI h) m) := by
  refine ⟨tAdd_K, by rw [tAdd_n hn, tN_lt h145]; rfl, fun q v hq => ?_, fun t i t1 t8 hi => ?_⟩
  · cases q with
    | succ q => simp at hq
    | zero =>
      simp at hq
      subst hq
      obtain ⟨a, c, e, f⟩ := tAdd_at (S := S) (b := b) (k := nI k) (x := nI x) (y := nI y) (w := nI w) (h := nI h) (m := m) h145
      exact ⟨a, c, e, f⟩
  · rw [tAdd, if_pos h145]
    unfold trAdd
    have e1 : ∀ (Z : xS) (u : Nat) (z : Int32), sA (uA Z u n z) (b + t) i = sA Z (b + t) i := fun Z u z => by
      by_cases e : b + t = u
      · subst e
        rw [sA_uA, va_up_ne _ _ (by omega)]
      · rw [sA_uAn _ _ _ e]
    show sA (uA _ _ _ _) _ _ = _
    rw [e1, e1, e1, e1, e1, e1, e1, e1]
theorem tHd.sec {S S' : xS} {b n k x y w g : Nat} {m : Int32} {L : List nd} (h : tHd b S n ((k, x, y, w, g, m, 0) :: L) S') (hn : n < 145) : tHd b S n ((k, x, y, w, g, m, 1 + L.length) :: L) (tSec S' b (n + 1 + L.length) (nI n)) := by
  have hz : ¬ nI n = -1 := fun q => by
    have := congrArg Int32.toInt q
    rw [nI_toInt (by omega)] at this
    have e : (-1 : Int32).toInt = -1 := by decide +kernel
    omega
  unfold tSec
  rw [if_neg hz, nI_clamp (by omega)]
  obtain ⟨h1, h2, h3, h4⟩ := h
  refine ⟨h1.A (by omega), h2, fun q v hq => ?_, fun t i t1 t8 hi => ?_⟩
  · cases q with
    | zero =>
      simp at hq
      subst hq
      obtain ⟨⟨a1, a2, a3⟩, ⟨a4, a5, a6⟩, a7, a8⟩ := h3 0 _ rfl
      refine ⟨⟨?_, ?_, ?_⟩, ⟨?_, ?_, ?_⟩, ?_, ?_⟩
      · rw [sA_uAn _ _ _ (by omega)]; exact a1
      · rw [sA_uAn _ _ _ (by omega)]; exact a2
      · rw [sA_uAn _ _ _ (by omega)]; exact a3
      · rw [sA_uAn _ _ _ (by omega)]; exact a4
      · rw [sA_uAn _ _ _ (by omega)]; exact a5
      · rw [sA_uAn _ _ _ (by omega)]; exact a6
      · rw [sA_uA]
        show va_up _ n _ n = _
        rw [va_up_self, if_neg (by show ¬ (1 + L.length = 0); omega)]
        rw [show n + 1 + L.length = n + (1 + L.length) by omega]
        rfl
      · rw [sA_uAn _ _ _ (by omega)]; exact a8
    | succ q =>
      have := h3 (q + 1) v (by simpa using hq)
      refine this.of fun t t1 t8 => ?_
      by_cases e : b + t = b + 7
      · rw [e, sA_uA, va_up_ne _ _ (by omega)]
      · rw [sA_uAn _ _ _ e]
  · rw [← h4 t i t1 t8 hi]
    by_cases e : b + t = b + 7
    · rw [e, sA_uA, va_up_ne _ _ (by omega)]
    · rw [sA_uAn _ _ _ e]
/-- a cut that is made only where something is left beside it -/
theorem tCp_S {S : xS} {b n k x y w h : Nat} {z : Bool} {m : Int32} {L : List nd} (hn : sF S b 8 = nI n) (h145 : n + (optN z (0, 0, 0, 0, 0, 0, 0)).length + L.length ≤ 145) : ∀ U : xS, tHd b (tCp S b n z (nI k) (nI x) (nI y) (nI w) (nI h) m).1 (tCp S b n z (nI k) (nI x) (nI y) (nI w) (nI h) m).2.1 L U →
    tHd b S n (optN z (k, x, y, w, h, m, 1 + L.length) ++ L) (tSec U b ((tCp S b n z (nI k) (nI x) (nI y) (nI w) (nI h) m).2.1 + L.length) (tCp S b n z (nI k) (nI x) (nI y) (nI w) (nI h) m).2.2) := by
  intro U hU
  cases z with
  | true =>
    have e : tCp S b n true (nI k) (nI x) (nI y) (nI w) (nI h) m = (S, n, -1) := if_pos rfl
    rw [e] at hU ⊢
    have : tSec U b (n + L.length) (-1) = U := if_pos rfl
    show tHd b S n ([] ++ L) (tSec U b (n + L.length) (-1))
    rw [this]
    exact hU
  | false =>
    have h145 : n + 1 + L.length ≤ 145 := h145
    have e : tCp S b n false (nI k) (nI x) (nI y) (nI w) (nI h) m = (tAdd S b n (nI k) (nI x) (nI y) (nI w) (nI h) m, n + 1, nI n) := by
      rw [tCp, if_neg (by decide), tN_lt (by omega), tC_lt (by omega)]
    rw [e] at hU ⊢
    have := (tAdd_S (S := S) (b := b) (k := k) (x := x) (y := y) (w := w) (h := h) (m := m) hn (by omega)).app hU
    exact this.sec (by omega)
theorem tCp_at {S : xS} {b n : Nat} {z : Bool} {k x y w h m : Int32} (h145 : n + (optN z (0, 0, 0, 0, 0, 0, 0)).length ≤ 145) : (tCp S b n z k x y w h m).2.1 = n + (optN z (0, 0, 0, 0, 0, 0, 0)).length := by
  cases z with
  | true => rfl
  | false =>
    have h145 : n + 1 ≤ 145 := h145
    rw [tCp, if_neg (by decide)]
    show tN n = n + 1
    exact tN_lt (by omega)
theorem optN_len {z : Bool} {v : nd} : (optN z v).length = (optN z (0, 0, 0, 0, 0, 0, 0)).length := by
  cases z <;> rfl
theorem optN_le {z : Bool} {v : nd} : (optN z v).length ≤ 1 := by
  cases z <;> simp [optN]
theorem tRest_S {S : xS} {b n x y w h : Nat} (hn : sF S b 8 = nI n) (hw : w < 2 ^ 30) (hh : h < 2 ^ 30) (h145 : n + (restL x y w h).length ≤ 145) :
    tHd b S n (restL x y w h) (tRest S b n (nI x) (nI y) (nI w) (nI h)).1 ∧ (tRest S b n (nI x) (nI y) (nI w) (nI h)).2 = n + (restL x y w h).length := by
  unfold tRest restL
  unfold restL at h145
  have hz : nI 0 ≤ (0 : Int32) := by decide +kernel
  by_cases ew : w = 0
  · subst ew
    rw [if_pos hz, if_pos (Eq.refl (0 : Nat))]
    exact ⟨tHd.nil hn, rfl⟩
  · rw [if_neg ew] at h145 ⊢
    rw [if_neg (nI_nle (by omega) (by omega))]
    by_cases eh : h = 0
    · subst eh
      rw [if_pos hz, if_pos (Eq.refl (0 : Nat))]
      exact ⟨tHd.nil hn, rfl⟩
    · rw [if_neg eh] at h145 ⊢
      rw [if_neg (nI_nle (by omega) (by omega))]
      simp at h145
      exact ⟨tAdd_S hn (by omega), tN_lt (by omega)⟩
theorem nI_subN {a c : Nat} (h : c ≤ a) : nI a - nI c = nI (a - c) := by
  have e : nI a = nI (a - c) + nI c := by rw [nI_add]; congr 1; omega
  rw [e, Int32.add_sub_cancel]
theorem tCell_S {S : xS} {Y : lY} {m b n i l y h : Nat} (hly : lyOf S Y m) (hB : lyB Y m) (hi : i < m) (hb : 72 ≤ b) (hn : sF S b 8 = nI n) (hh : yH Y i ≤ h) (hl : h < 2 ^ 30) (h145 : n + (cellL Y i l y h).length ≤ 145) :
    tHd b S n (cellL Y i l y h) (tCell S b n i (nI l) (nI y) (nI h)).1 ∧ (tCell S b n i (nI l) (nI y) (nI h)).2 = n + (cellL Y i l y h).length := by
  obtain ⟨a1, a2, a3, -⟩ := hly i hi
  obtain ⟨⟨b1, b2⟩, ⟨b3, b4⟩, -⟩ := hB i hi
  have ez : decide (nI h ≤ nI (yH Y i)) = decide (h ≤ yH Y i) := decide_eq_decide.mpr (nI_leI (by omega) (by omega))
  unfold tCell
  rw [a2, a3, ez]
  have hlen : (optN (decide (h ≤ yH Y i)) ((1, l, y, yW Y i, h, nI (yH Y i), 1 + [paneN Y i l y].length) : nd)).length = (optN (decide (h ≤ yH Y i)) (0, 0, 0, 0, 0, 0, 0)).length := optN_len
  have h145' : n + ((optN (decide (h ≤ yH Y i)) ((1, l, y, yW Y i, h, nI (yH Y i), 1 + [paneN Y i l y].length) : nd) ++ [paneN Y i l y]) ++ restL l (y + yH Y i) (yW Y i) (h - yH Y i)).length ≤ 145 := h145
  rw [List.length_append, List.length_append, hlen] at h145'
  have hone : [paneN Y i l y].length = 1 := rfl
  rw [hone] at h145'
  have hK := (tCp_ok (S := S) (b := b) (z := decide (h ≤ yH Y i)) (k := nI 1) (x := nI l) (y := nI y) (w := nI (yW Y i)) (h := nI h) (m := nI (yH Y i)) hn (by omega))
  have hp := tCp_at (S := S) (b := b) (n := n) (z := decide (h ≤ yH Y i)) (k := nI 1) (x := nI l) (y := nI y) (w := nI (yW Y i)) (h := nI h) (m := nI (yH Y i)) (by omega)
  have key := tCp_S (S := S) (b := b) (n := n) (k := 1) (x := l) (y := y) (w := yW Y i) (h := h) (z := decide (h ≤ yH Y i)) (m := nI (yH Y i)) (L := [paneN Y i l y]) hn (by rw [hone]; omega)
  generalize hc : tCp S b n (decide (h ≤ yH Y i)) (nI 1) (nI l) (nI y) (nI (yW Y i)) (nI h) (nI (yH Y i)) = c at hK hp key
  obtain ⟨k1, k2, k3, -⟩ := hK
  unfold tCell1
  have hp2 : c.2.1 < 145 := by omega
  have e58 : sA c.1 58 i = nI (yO Y i) := by rw [(k1.1 58 (by omega)).2.1]; exact a1
  have hA := tAdd_S (S := c.1) (b := b) (n := c.2.1) (k := 2) (x := l) (y := y) (w := yW Y i) (h := yH Y i) (m := nI (yO Y i)) k2 hp2
  have K := key _ hA
  rw [e58, tN_lt hp2]
  have e1 : c.2.1 + 1 = n + (optN (decide (h ≤ yH Y i)) ((1, l, y, yW Y i, h, nI (yH Y i), 1 + [paneN Y i l y].length) : nd) ++ [paneN Y i l y]).length := by
    rw [List.length_append, hlen, hp]; rfl
  have hsz : sF (tSec (tAdd c.1 b c.2.1 (nI 2) (nI l) (nI y) (nI (yW Y i)) (nI (yH Y i)) (nI (yO Y i))) b (c.2.1 + 1) c.2.2) b 8 = nI (c.2.1 + 1) := by
    have := K.2.1
    rw [← e1] at this
    exact this
  have hR := tRest_S (S := tSec (tAdd c.1 b c.2.1 (nI 2) (nI l) (nI y) (nI (yW Y i)) (nI (yH Y i)) (nI (yO Y i))) b (c.2.1 + 1) c.2.2) (b := b) (n := c.2.1 + 1) (x := l) (y := y + yH Y i) (w := yW Y i) (h := h - yH Y i) hsz (by omega) (by omega) (by rw [hp]; omega)
  rw [← nI_add, ← nI_subN hh] at hR
  refine ⟨?_, ?_⟩
  · unfold cellL
    refine K.app ?_
    rw [← e1]
    exact hR.1
  · rw [hR.2, e1]
    unfold cellL
    simp only [List.length_append]
    omega
