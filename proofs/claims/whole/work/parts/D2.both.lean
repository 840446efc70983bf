/-! the class's search -/
theorem kC.rf {S : xS} : kC S S := ⟨fun _ _ => ⟨rfl, rfl⟩, rfl, rfl, rfl, rfl, rfl⟩
theorem kC.F {S C : xS} {o k : Nat} {v : Int32} (h : kC S C) (ho : 57 ≤ o ∧ o < 66) : kC S (uF C o k v) := ⟨fun q hq => ⟨by rw [sF_uFn _ _ _ (by omega)]; exact (h.1 q hq).1, (h.1 q hq).2⟩, h.2⟩
theorem kC.A {S C : xS} {o k : Nat} {v : Int32} (h : kC S C) (ho : 57 ≤ o ∧ o < 66) : kC S (uA C o k v) := ⟨fun q hq => ⟨(h.1 q hq).1, by rw [sA_uAn _ _ _ (by omega)]; exact (h.1 q hq).2⟩, h.2⟩
theorem kC.trans {S C C' : xS} (h : kC S C) (k : kC C C') : kC S C' := ⟨fun o ho => ⟨(k.1 o ho).1.trans (h.1 o ho).1, (k.1 o ho).2.trans (h.1 o ho).2⟩, k.2.1.trans h.2.1, k.2.2.1.trans h.2.2.1, k.2.2.2.1.trans h.2.2.2.1, k.2.2.2.2.1.trans h.2.2.2.2.1, k.2.2.2.2.2.trans h.2.2.2.2.2⟩
def cQ (S0 : xS) (Y : lY) (n : Nat) (P : xS) : Prop := kC S0 P ∧ lyOf P Y n ∧ sF P 57 5 = nI n
theorem cQ.put {S0 P : xS} {Y : lY} {n c r w h o : Nat} (q : cQ S0 Y n P) : cQ S0 (yPut Y n c r w h o) (n + 1) (laPut P n (nI o) (nI w) (nI h) (nI c) (nI r)) := by
  obtain ⟨q1, q2, q3⟩ := q
  unfold laPut
  refine ⟨(((((q1.A (by omega)).A (by omega)).A (by omega)).A (by omega)).A (by omega)).F (by omega), fun i hi => ?_, by rw [sF_uF, va_up_self]⟩
  show sA (uA (uA (uA (uA (uA P 58 n (nI o)) 59 n (nI w)) 60 n (nI h)) 61 n (nI c)) 62 n (nI r)) 58 i = _ ∧ sA (uA (uA (uA (uA (uA P 58 n (nI o)) 59 n (nI w)) 60 n (nI h)) 61 n (nI c)) 62 n (nI r)) 59 i = _ ∧ sA (uA (uA (uA (uA (uA P 58 n (nI o)) 59 n (nI w)) 60 n (nI h)) 61 n (nI c)) 62 n (nI r)) 60 i = _ ∧ sA (uA (uA (uA (uA (uA P 58 n (nI o)) 59 n (nI w)) 60 n (nI h)) 61 n (nI c)) 62 n (nI r)) 61 i = _ ∧ sA (uA (uA (uA (uA (uA P 58 n (nI o)) 59 n (nI w)) 60 n (nI h)) 61 n (nI c)) 62 n (nI r)) 62 i = _
  have e58 : sA (uA (uA (uA (uA (uA P 58 n (nI o)) 59 n (nI w)) 60 n (nI h)) 61 n (nI c)) 62 n (nI r)) 58 = va_up (sA P 58) n (nI o) := by
    rw [sA_uAn _ _ _ (by decide), sA_uAn _ _ _ (by decide), sA_uAn _ _ _ (by decide), sA_uAn _ _ _ (by decide), sA_uA]
  have e59 : sA (uA (uA (uA (uA (uA P 58 n (nI o)) 59 n (nI w)) 60 n (nI h)) 61 n (nI c)) 62 n (nI r)) 59 = va_up (sA P 59) n (nI w) := by
    rw [sA_uAn _ _ _ (by decide), sA_uAn _ _ _ (by decide), sA_uAn _ _ _ (by decide), sA_uA, sA_uAn _ _ _ (by decide)]
  have e60 : sA (uA (uA (uA (uA (uA P 58 n (nI o)) 59 n (nI w)) 60 n (nI h)) 61 n (nI c)) 62 n (nI r)) 60 = va_up (sA P 60) n (nI h) := by
    rw [sA_uAn _ _ _ (by decide), sA_uAn _ _ _ (by decide), sA_uA, sA_uAn _ _ _ (by decide), sA_uAn _ _ _ (by decide)]
  have e61 : sA (uA (uA (uA (uA (uA P 58 n (nI o)) 59 n (nI w)) 60 n (nI h)) 61 n (nI c)) 62 n (nI r)) 61 = va_up (sA P 61) n (nI c) := by
    rw [sA_uAn _ _ _ (by decide), sA_uA, sA_uAn _ _ _ (by decide), sA_uAn _ _ _ (by decide), sA_uAn _ _ _ (by decide)]
  have e62 : sA (uA (uA (uA (uA (uA P 58 n (nI o)) 59 n (nI w)) 60 n (nI h)) 61 n (nI c)) 62 n (nI r)) 62 = va_up (sA P 62) n (nI r) := by
    rw [sA_uA, sA_uAn _ _ _ (by decide), sA_uAn _ _ _ (by decide), sA_uAn _ _ _ (by decide), sA_uAn _ _ _ (by decide)]
  rw [e58, e59, e60, e61, e62]
  by_cases e : i = n
  · subst e
    obtain ⟨b1, b2, b3, b4, b5⟩ := yPut_at (Y := Y) (n := i) (c := c) (r := r) (w := w) (h := h) (o := o)
    rw [b1, b2, b3, b4, b5, va_up_self, va_up_self, va_up_self, va_up_self, va_up_self]
    exact ⟨rfl, rfl, rfl, rfl, rfl⟩
  · obtain ⟨b1, b2, b3, b4, b5⟩ := yPut_ne (Y := Y) (n := n) (c := c) (r := r) (w := w) (h := h) (o := o) e
    rw [b1, b2, b3, b4, b5, va_up_ne _ _ e, va_up_ne _ _ e, va_up_ne _ _ e, va_up_ne _ _ e, va_up_ne _ _ e]
    exact q2 i (by omega)
theorem cQ.drop {S0 P : xS} {Y : lY} {n c r w h o : Nat} (q : cQ S0 (yPut Y n c r w h o) (n + 1) P) : cQ S0 Y n (uF P 57 5 (nI n)) := by
  obtain ⟨q1, q2, q3⟩ := q
  refine ⟨q1.F (by omega), fun i hi => ?_, by rw [sF_uF, va_up_self]⟩
  obtain ⟨b1, b2, b3, b4, b5⟩ := yPut_ne (Y := Y) (n := n) (c := c) (r := r) (w := w) (h := h) (o := o) (i := i) (by omega)
  have := q2 i (by omega)
  rw [b1, b2, b3, b4, b5] at this
  exact this
theorem lyB_put {Y : lY} {n c r w h o : Nat} (q : lyB Y n) (hw : 1 ≤ w ∧ w ≤ 6000) (hh : 1 ≤ h ∧ h ≤ 6000) (hc : c ≤ 36) (hr : r ≤ 36) : lyB (yPut Y n c r w h o) (n + 1) := fun i hi => by
  by_cases e : i = n
  · subst e
    obtain ⟨b1, b2, b3, b4, b5⟩ := yPut_at (Y := Y) (n := i) (c := c) (r := r) (w := w) (h := h) (o := o)
    rw [b1, b2, b3, b4]
    exact ⟨hw, hh, hc, hr⟩
  · obtain ⟨b1, b2, b3, b4, b5⟩ := yPut_ne (Y := Y) (n := n) (c := c) (r := r) (w := w) (h := h) (o := o) e
    rw [b1, b2, b3, b4]
    exact q i (by omega)
section CS
variable {S0 : xS} {b W H N q : Nat} {D : Nat → Nat → Int32} {nm ow oh : Nat → Nat} {tu : Nat → Bool}
theorem tiPut_sim {Gd : xS → lY → Prop} {rec : xS → Bool × xS} {r : Option lY} {Y : lY} {n c r' w h o : Nat} {P : xS} (hb : 66 ≤ b) (hw : sF S0 b 4 = nI W ∧ sF S0 b 5 = nI H) (hW : W ≤ 6000 ∧ H ≤ 6000) (hB : lyB (yPut Y n c r' w h o) (n + 1)) (hn : n + 1 ≤ 36) (hrec : ∀ P, cQ S0 (yPut Y n c r' w h o) (n + 1) P → simO (cQ S0 (yPut Y n c r' w h o) (n + 1)) Gd (rec P) r) (hP : cQ S0 Y n P) : simO (cQ S0 Y n) Gd (tiPut rec b n (nI o) (nI w) (nI h) (nI c) (nI r') P) (if lyFb (yPut Y n c r' w h o) (n + 1) W H = true then r else none) := by
  unfold tiPut
  have hq := hP.put (c := c) (r := r') (w := w) (h := h) (o := o)
  generalize laPut P n (nI o) (nI w) (nI h) (nI c) (nI r') = P1 at hq
  have hf : laFit P1 b (n + 1) = lyFb (yPut Y n c r' w h o) (n + 1) W H := laFit_y hq.2.1 hB hn (by rw [(hq.1.1 b (by omega)).1]; exact hw.1) (by rw [(hq.1.1 b (by omega)).1]; exact hw.2) hW
  rw [hf]
  cases e : lyFb (yPut Y n c r' w h o) (n + 1) W H with
  | false =>
    rw [if_pos rfl, if_neg (by decide)]
    exact simO.no hq.drop
  | true =>
    rw [if_neg (by decide), if_pos rfl]
    have hr := hrec P1 hq
    cases r with
    | none =>
      obtain ⟨h1, h2⟩ := hr.2 rfl
      rw [if_pos h1]
      exact simO.no h2.drop
    | some z =>
      have := hr.1 z rfl
      rw [if_neg (by rw [this.1]; decide)]
      exact ⟨fun z' hz => by cases hz; exact this, fun hz => by cases hz⟩
theorem tiFrom_sim (hb : 66 ≤ b) (hw : sF S0 b 4 = nI W ∧ sF S0 b 5 = nI H) (hW : W ≤ 6000 ∧ H ≤ 6000) (hD : ∀ o, o < N → (D o 0 = nI (ow o) ∧ D o 1 = nI (oh o) ∧ (D o 2 = 0 ↔ tu o = false)) ∧ (1 ≤ ow o ∧ ow o ≤ 6000) ∧ 1 ≤ oh o ∧ oh o ≤ 6000) : ∀ (l : List Nat) (n : Nat) (Y : lY) (P : xS), (∀ i o, l[i]? = some o → nm (n + i) = o ∧ o < N) → n + l.length = q → q ≤ 3 → lyB Y n → nCo Y n ≤ n → (∀ c, nRo Y c n ≤ n) → cQ S0 Y n P → simO (cQ S0 Y n) (fun P Z => cQ S0 Z q P) (tiFrom b D nm l.length n P) (cS ow oh tu W H l n Y)
  | [], n, Y, P, _, hq, _, _, _, _, hP => by
    have hq : n = q := by simpa using hq
    subst hq
    exact ⟨fun z hz => by cases hz; exact ⟨rfl, hP⟩, fun hz => by cases hz⟩
  | o :: t, n, Y, P, hl, hq, hq3, hB, hco, hro, hP => by
    have hlen : (o :: t).length = t.length + 1 := rfl
    obtain ⟨hnm, hoN⟩ := hl 0 o rfl
    rw [Nat.add_zero] at hnm
    rw [hlen] at hq ⊢
    obtain ⟨⟨d0, d1, d2⟩, ho1, ho2⟩ := hD o hoN
    simp only [tiFrom, cS]
    rw [hnm, laCols_y hP.2.1 hB n (Nat.le_refl _), nI_clamp (by omega)]
    have IH : ∀ c r b', c ≤ nCo Y n → r ≤ nRo Y c n → lyB (pPut ow oh Y n o c r b') (n + 1) → ∀ P, cQ S0 (pPut ow oh Y n o c r b') (n + 1) P → simO (cQ S0 (pPut ow oh Y n o c r b') (n + 1)) (fun P Z => cQ S0 Z q P) (tiFrom b D nm t.length (n + 1) P) (cS ow oh tu W H t (n + 1) (pPut ow oh Y n o c r b')) := fun c r b' hc hr hB' P' hP' => by
      refine tiFrom_sim hb hw hW hD t (n + 1) _ P' (fun i o' ho' => ?_) (by omega) hq3 hB' ?_ (fun c' => ?_) hP'
      · have := hl (i + 1) o' (by rw [List.getElem?_cons_succ]; exact ho')
        rw [show n + 1 + i = n + (i + 1) by omega]
        exact this
      · unfold pPut
        rw [nCo_p1]; omega
      · unfold pPut
        rw [nRo_p1]
        have := hro c'
        have := hro c
        split
        next e => subst e; omega
        next => omega
    refine simO.loop (T := fun c P => tiRowL (tiFrom b D nm t.length (n + 1)) b n (D o) (nI o) (nI c) ((laRows P (nI c) n).toNatClampNeg + 1) 0 P) (Lp := tiColL (tiFrom b D nm t.length (n + 1)) b n (D o) (nI o)) (hi := nCo Y n + 1) (fun _ _ => rfl) (fun _ _ _ => rfl) (fun c P1 hc hP1 => ?_) (nCo Y n + 1) 0 P (by omega) hP
    have hrc := hro c
    rw [laRows_y hP1.2.1 hB (by omega) n (Nat.le_refl _), nI_clamp (by omega)]
    refine simO.loop (T := fun r P => tiBoth (tiFrom b D nm t.length (n + 1)) b n (D o) (nI o) (nI c) (nI r) P) (Lp := tiRowL (tiFrom b D nm t.length (n + 1)) b n (D o) (nI o) (nI c)) (hi := nRo Y c n + 1) (fun _ _ => rfl) (fun _ _ _ => rfl) (fun r P2 hr hP2 => ?_) (nRo Y c n + 1) 0 P1 (by omega) hP1
    rw [fS_or, fS_1]
    have hB0 : lyB (pPut ow oh Y n o c r 0) (n + 1) := by
      unfold pPut pW pH
      rw [if_neg (by decide), if_neg (by decide)]
      exact lyB_put hB ho1 ho2 (by omega) (by omega)
    have hB1 : lyB (pPut ow oh Y n o c r 1) (n + 1) := by
      unfold pPut pW pH
      rw [if_pos rfl, if_pos rfl]
      exact lyB_put hB ho2 ho1 (by omega) (by omega)
    have e0 : pPut ow oh Y n o c r 0 = yPut Y n c r (ow o) (oh o) o := by
      unfold pPut pW pH
      rw [if_neg (by decide), if_neg (by decide)]
    have e1 : pPut ow oh Y n o c r 1 = yPut Y n c r (oh o) (ow o) o := by
      unfold pPut pW pH
      rw [if_pos rfl, if_pos rfl]
    have I0 := IH c r 0 (by omega) (by omega) hB0
    have I1 := IH c r 1 (by omega) (by omega) hB1
    show simO _ _ (tiThen (tiPut (tiFrom b D nm t.length (n + 1)) b n (nI o) (D o 0) (D o 1) (nI c) (nI r) P2) (tiTurn (tiFrom b D nm t.length (n + 1)) b n (D o) (nI o) (nI c) (nI r))) _
    refine simO.then ?_ (fun P3 hP3 => ?_)
    · rw [if_neg (fun z => absurd z.1 (by decide)), d0, d1]
      rw [e0] at hB0 I0 ⊢
      exact tiPut_sim hb hw hW hB0 (by omega) I0 hP2
    · unfold tiTurn
      cases ht : tu o with
      | false =>
        rw [if_pos (d2.mpr ht), if_pos ⟨rfl, rfl⟩]
        exact simO.no hP3
      | true =>
        rw [if_neg (fun z => by rw [d2.mp z] at ht; cases ht), if_neg (fun z => by cases z.2), d0, d1]
        rw [Nat.zero_add]
        rw [e1] at hB1 I1 ⊢
        exact tiPut_sim hb hw hW hB1 (by omega) I1 hP3
end CS
/-! the reference's search -/
def rQ (X : xS) (Y : lY) (n : Nat) (P : xS) : Prop := sKP X P ∧ lyM P Y n ∧ sF P 186 36 = nI n
abbrev cnd (ow oh : Nat → Nat) (tu : Nat → Bool) (Y : lY) (n o nb : Nat) : Prop := nb / 8 ≤ nCo Y n ∧ nb / 2 % 4 ≤ nRo Y (nb / 8) n ∧ (nb % 2 = 1 → tu o = true ∧ ow o ≠ oh o)
