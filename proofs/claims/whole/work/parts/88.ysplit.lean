/-! a piece that is cut in two; rows, columns and the whole of the reference -/
theorem moPA2 {S : xS} {n : Nat} {h c r p q x y w z : Int32} : (sA (moAt (moPush S n h c r p q) n x y w z) 221 n = h ∧ sA (moAt (moPush S n h c r p q) n x y w z) 222 n = c ∧ sA (moAt (moPush S n h c r p q) n x y w z) 223 n = r ∧ sA (moAt (moPush S n h c r p q) n x y w z) 224 n = p) ∧ sA (moAt (moPush S n h c r p q) n x y w z) 229 n = q ∧ sA (moAt (moPush S n h c r p q) n x y w z) 225 n = x ∧ sA (moAt (moPush S n h c r p q) n x y w z) 226 n = y ∧ sA (moAt (moPush S n h c r p q) n x y w z) 227 n = w ∧ sA (moAt (moPush S n h c r p q) n x y w z) 228 n = z := by
  unfold moAt moPush
  refine ⟨⟨?_, ?_, ?_, ?_⟩, ?_, ?_, ?_, ?_, ?_⟩ <;> simp [uA, uF, sA, sF, up2, va_up]
theorem moPA2_K {S : xS} {s lo hi b n : Nat} {h c r p q x y w z : Int32} (hb : b ≤ n) : rK s lo hi b S (moAt (moPush S n h c r p q) n x y w z) := by
  unfold moAt moPush
  refine rK.A (rK.A (rK.A (rK.A (rK.F (rK.A (rK.A (rK.A (rK.A (rK.A rK.rf ?_) ?_) ?_) ?_) ?_)) ?_) ?_) ?_) ?_ <;> exact Or.inr (Or.inl (by omega))
theorem moPA2_n {S : xS} {n : Nat} {h c r p q x y w z : Int32} : sF (moAt (moPush S n h c r p q) n x y w z) 186 43 = nI (n + 1) := moPush_n (S := S) (h := h) (c := c) (r := r) (p := p) (q := q)
section DS
variable {s np : Nat} {Y : lY} {b has c r q x y w h : Nat}
theorem dnR.split (hb : b ≤ 58) (hB : lyB Y np) (hm : np ≤ 36) (hc : c < 2 ^ 30) (hr : r < 2 ^ 30) (hw : w < 2 ^ 30) (hh : h < 2 ^ 30) (h3 : has ≤ 3) (hq : q + 1 < 2 ^ 30) {g : Nat} (hg : rch Y np has c r q = g) (g0 : 0 < g) (hlt : g < (if has % 2 = 0 then w else h)) {A C : List nd}
    (kA : dnR s np Y (b + 1) (if has < 3 then has + 1 else 3) c (if has = 0 then 0 else r) (if has = 1 then 0 else q) x y (if has % 2 = 0 then g else w) (if has % 2 = 0 then h else g) A)
    (kC : dnR s np Y b (if has = 3 then 4 else has) (if has = 0 then c + 1 else c) (if has = 1 then r + 1 else r) (if has = 2 then q + 1 else q) (if has % 2 = 0 then x + g else x) (if has % 2 = 0 then y else y + g) (if has % 2 = 0 then w - g else w) (if has % 2 = 0 then h else h - g) C) :
    dnR s np Y b has c r q x y w h ((has % 2, x, y, w, h, nI g, 1 + A.length) :: (A ++ C)) := by
  refine ⟨?_, fun V m p hV hR hL hp => ?_⟩
  · obtain ⟨⟨fA, tA'⟩, -, nA⟩ := kA.1
    obtain ⟨⟨fC, tC'⟩, -, nC⟩ := kC.1
    refine ⟨⟨max fA fC + 1, ?_⟩, by simp, fun v hv h2 => ?_⟩
    · have e : has = 0 ∨ has = 1 ∨ has = 2 ∨ has = 3 := by omega
      rcases e with e | e | e | e <;> subst e <;> simp at tA' tC' hlt
      · have z : 0 < h := by cases fA with
          | zero => exact tA'.elim
          | succ _ => exact tA'.1.2
        exact ⟨⟨by omega, z⟩, Or.inr (Or.inl ⟨g, A, C, ⟨g0, hlt⟩, rfl, tA'.more (by omega), tC'.more (by omega)⟩)⟩
      · have z : 0 < w := by cases fA with
          | zero => exact tA'.elim
          | succ _ => exact tA'.1.1
        exact ⟨⟨z, by omega⟩, Or.inr (Or.inr ⟨g, A, C, ⟨g0, hlt⟩, rfl, tA'.more (by omega), tC'.more (by omega)⟩)⟩
      · have z : 0 < h := by cases fA with
          | zero => exact tA'.elim
          | succ _ => exact tA'.1.2
        exact ⟨⟨by omega, z⟩, Or.inr (Or.inl ⟨g, A, C, ⟨g0, hlt⟩, rfl, tA'.more (by omega), tC'.more (by omega)⟩)⟩
      · have z : 0 < w := by cases fA with
          | zero => exact tA'.elim
          | succ _ => exact tA'.1.1
        exact ⟨⟨z, by omega⟩, Or.inr (Or.inr ⟨g, A, C, ⟨g0, hlt⟩, rfl, tA'.more (by omega), tC'.more (by omega)⟩)⟩
    · rcases List.mem_cons.mp hv with hv | hv
      · subst hv
        have : has % 2 = 2 := h2
        omega
      · rcases List.mem_append.mp hv with hv | hv
        · exact nA v hv h2
        · exact nC v hv h2
  have hA0 := kA.1.2.1
  have hLL : ((has % 2, x, y, w, h, nI g, 1 + A.length) :: (A ++ C) : List nd).length = 1 + A.length + C.length := by simp; omega
  rw [hLL] at hL ⊢
  have h195n : ∀ (W : xS), rK s m (m + 1) p V W → (∀ i, sA W 195 i = sA V 195 i) → True := fun _ _ _ => trivial
  obtain ⟨g1, g2⟩ := rch_ok (V := V) (s := s) (m := m) (p := p) (has := has) (q := q) hB hm hc hr hV.1
  rw [hg] at g1 g2
  obtain ⟨⟨a1, a2, a3, a4⟩, ⟨a5, a6⟩, a7⟩ := id hR
  have hgo : rGo V s np m p has c r q = moSplit V (160 * s + m) m np p has (nI c) (nI r) q := by
    rw [rGo_end hB hm hc hr hw hh hV.1 hR (fun z => Or.inr ?_)]
    · unfold moEnd
      rw [g1, if_neg (nI_ne0 g0 (by omega)), if_neg]
      rintro ⟨e, z⟩
      rw [a4] at z
      have := (nI_eq (by omega) (by omega)).mp z
      rw [e] at hlt
      simp at hlt
      omega
    · rw [hg]
      have : has = 0 ∨ has = 1 ∨ has = 2 := by omega
      rcases this with e | e | e <;> subst e <;> simp at hlt ⊢ <;> omega
  -- the first and the second piece
  obtain ⟨W1, hW1⟩ : ∃ W, W = moSp1 V (160 * s + m) np has (nI c) (nI r) q := ⟨_, rfl⟩
  obtain ⟨W2, hW2⟩ : ∃ W, W = moSp2 V (160 * s + m) m np p has (nI c) (nI r) q := ⟨_, rfl⟩
  obtain ⟨W, hW⟩ : ∃ W, W = moSplit V (160 * s + m) m np p has (nI c) (nI r) q := ⟨_, rfl⟩
  have hK1 : rK s m (m + 1) p V W1 := by
    rw [hW1]; unfold moSp1
    exact (rK.rf.A (Or.inl (by omega))).A (Or.inl (by omega))
  have hK2 : rK s m (m + 1) p W1 W2 := by
    rw [hW2]; unfold moSp2; rw [← hW1]; exact moPA2_K (Nat.le_refl _)
  have hK3' : rK s m (m + 1) (p + 1) W2 W := by
    rw [hW]; unfold moSplit; rw [← hW2]; exact moPA2_K (Nat.le_refl _)
  have hK3 : rK s m (m + 1) p W2 W := hK3'.mono (Nat.le_refl _) (Nat.le_refl _) (by omega)
  have hKW : rK s m (m + 1) p V W := (hK1.trans hK2).trans hK3
  have w43 : sF W 186 43 = nI (p + 2) := by rw [hW]; unfold moSplit; exact moPA2_n
  have w195 : ∀ i, sA W 195 i = sA V 195 i := fun i => by
    rw [hW]; unfold moSplit
    rw [moAt_A (by omega), moPush_A (by omega)]
    unfold moSp2
    rw [moAt_A (by omega), moPush_A (by omega)]
    unfold moSp1
    rw [sA_uAn _ _ _ (by decide), sA_uAn _ _ _ (by decide)]
  have wA : ∀ k i, 196 ≤ k → k ≤ 204 → sA W k i = sA W1 k i := fun k i k1 k2 => by
    rw [hW]; unfold moSplit
    rw [moAt_A (by omega), moPush_A (by omega)]
    unfold moSp2
    rw [moAt_A (by omega), moPush_A (by omega), hW1]
  have w196 : sA W 196 (160 * s + m) = nI (has % 2) := by
    rw [wA _ _ (by omega) (by omega), hW1]; unfold moSp1
    rw [sA_uAn _ _ _ (by decide), sA_uA, va_up_self]
  have w201 : sA W 201 (160 * s + m) = nI g := by
    rw [wA _ _ (by omega) (by omega), hW1]; unfold moSp1
    rw [sA_uA, va_up_self]; exact g1
  have wO : ∀ k, 196 ≤ k → k ≤ 204 → k ≠ 196 → k ≠ 201 → sA W k (160 * s + m) = sA V k (160 * s + m) := fun k k1 k2 k3 k4 => by
    rw [wA _ _ k1 k2, hW1]; unfold moSp1
    rw [sA_uAn _ _ _ k4, sA_uAn _ _ _ k3]
  have pA : rPc W (p + 1) (if has < 3 then has + 1 else 3) c (if has = 0 then 0 else r) (if has = 1 then 0 else q) x y (if has % 2 = 0 then g else w) (if has % 2 = 0 then h else g) (some m) := by
    rw [hW]; unfold moSplit
    obtain ⟨⟨b1, b2, b3, b4⟩, b5, b6, b7, b8, b9⟩ := moPA2 (S := moSp2 V (160 * s + m) m np p has (nI c) (nI r) q) (n := p + 1) (h := nI (if has < 3 then has + 1 else 3)) (c := nI c) (r := if has = 0 then nI 0 else nI r) (p := nI (if has = 1 then 0 else q)) (q := nI m) (x := sA V 197 (160 * s + m)) (y := sA V 198 (160 * s + m)) (w := if has % 2 = 0 then moReach V np has (nI c) (nI r) q else sA V 199 (160 * s + m)) (z := if has % 2 = 0 then sA V 200 (160 * s + m) else moReach V np has (nI c) (nI r) q)
    refine ⟨⟨b1, b2, ?_, b4⟩, b5, b6.trans a1, b7.trans a2, ?_, ?_⟩
    · rw [b3]; split <;> rfl
    · rw [b8, g1, a3]; split <;> rfl
    · rw [b9, g1, a4]; split <;> rfl
  have pC : rPc W p (if has = 3 then 4 else has) (if has = 0 then c + 1 else c) (if has = 1 then r + 1 else r) (if has = 2 then q + 1 else q) (if has % 2 = 0 then x + g else x) (if has % 2 = 0 then y else y + g) (if has % 2 = 0 then w - g else w) (if has % 2 = 0 then h else h - g) (some m) := by
    have hat : ∀ k, 221 ≤ k → k ≤ 229 → sA W k p = sA W2 k p := fun k k1 k2 => hK3'.at (by omega) (by omega) (by omega)
    obtain ⟨⟨b1, b2, b3, b4⟩, b5, b6, b7, b8, b9⟩ := moPA2 (S := moSp1 V (160 * s + m) np has (nI c) (nI r) q) (n := p) (h := nI (if has = 3 then 4 else has)) (c := if has = 0 then nI c + nI 1 else nI c) (r := if has = 1 then nI r + nI 1 else nI r) (p := nI (if has = 2 then q + 1 else q)) (q := nI m)
      (x := if has % 2 = 0 then sA V 197 (160 * s + m) + moReach V np has (nI c) (nI r) q else sA V 197 (160 * s + m)) (y := if has % 2 = 0 then sA V 198 (160 * s + m) else sA V 198 (160 * s + m) + moReach V np has (nI c) (nI r) q) (w := if has % 2 = 0 then sA V 199 (160 * s + m) - moReach V np has (nI c) (nI r) q else sA V 199 (160 * s + m)) (z := if has % 2 = 0 then sA V 200 (160 * s + m) else sA V 200 (160 * s + m) - moReach V np has (nI c) (nI r) q)
    have e2 : W2 = moAt (moPush (moSp1 V (160 * s + m) np has (nI c) (nI r) q) p (nI (if has = 3 then 4 else has)) (if has = 0 then nI c + nI 1 else nI c) (if has = 1 then nI r + nI 1 else nI r) (nI (if has = 2 then q + 1 else q)) (nI m)) p
      (if has % 2 = 0 then sA V 197 (160 * s + m) + moReach V np has (nI c) (nI r) q else sA V 197 (160 * s + m)) (if has % 2 = 0 then sA V 198 (160 * s + m) else sA V 198 (160 * s + m) + moReach V np has (nI c) (nI r) q) (if has % 2 = 0 then sA V 199 (160 * s + m) - moReach V np has (nI c) (nI r) q else sA V 199 (160 * s + m)) (if has % 2 = 0 then sA V 200 (160 * s + m) else sA V 200 (160 * s + m) - moReach V np has (nI c) (nI r) q) := hW2
    rw [← e2] at b1 b2 b3 b4 b5 b6 b7 b8 b9
    refine ⟨⟨(hat _ (by omega) (by omega)).trans b1, (hat _ (by omega) (by omega)).trans ?_, (hat _ (by omega) (by omega)).trans ?_, (hat _ (by omega) (by omega)).trans b4⟩, (hat _ (by omega) (by omega)).trans b5, (hat _ (by omega) (by omega)).trans ?_, (hat _ (by omega) (by omega)).trans ?_, (hat _ (by omega) (by omega)).trans ?_, (hat _ (by omega) (by omega)).trans ?_⟩
    · rw [b2, nI_add]; split <;> rfl
    · rw [b3, nI_add]; split <;> rfl
    · rw [b6, g1, a1, nI_add]; split <;> rfl
    · rw [b7, g1, a2, nI_add]; split <;> rfl
    · rw [b8, g1, a3]
      by_cases e : has % 2 = 0
      · rw [if_pos e, if_pos e]; rw [if_pos e] at hlt; exact nI_subN (by omega)
      · rw [if_neg e, if_neg e]
    · rw [b9, g1, a4]
      by_cases e : has % 2 = 0
      · rw [if_pos e, if_pos e]
      · rw [if_neg e, if_neg e]; rw [if_neg e] at hlt; exact nI_subN (by omega)
  have hWS : rSt s np Y W (m + 1) (p + 1 + 1) := ⟨hKW.ly hV.1, (hKW.2.1 186 36 (by omega)).trans hV.2.1, w43, (w195 s).trans hV.2.2.2⟩
  obtain ⟨P1, q1, q2, q3, q4⟩ := kA.run (by split <;> omega) (by split <;> omega) (g := some m) (fun f hf => by cases hf; omega) hWS pA (by omega) (by omega) (by omega)
  obtain ⟨q1a, q1i, q1F, q1J, q1R, q1E, q1N, q1L, q1l⟩ := q1
  have pC1 : rPc P1 p (if has = 3 then 4 else has) (if has = 0 then c + 1 else c) (if has = 1 then r + 1 else r) (if has = 2 then q + 1 else q) (if has % 2 = 0 then x + g else x) (if has % 2 = 0 then y else y + g) (if has % 2 = 0 then w - g else w) (if has % 2 = 0 then h else h - g) (some m) := by
    have hat : ∀ k, 221 ≤ k → k ≤ 229 → sA P1 k p = sA W k p := fun k k1 k2 => q1a k p (by omega) (by omega) (by omega) (by omega)
    obtain ⟨⟨b1, b2, b3, b4⟩, b5, b6, b7, b8, b9⟩ := pC
    exact ⟨⟨(hat _ (by omega) (by omega)).trans b1, (hat _ (by omega) (by omega)).trans b2, (hat _ (by omega) (by omega)).trans b3, (hat _ (by omega) (by omega)).trans b4⟩, (hat _ (by omega) (by omega)).trans b5, (hat _ (by omega) (by omega)).trans b6, (hat _ (by omega) (by omega)).trans b7, (hat _ (by omega) (by omega)).trans b8, (hat _ (by omega) (by omega)).trans b9⟩
  obtain ⟨P2, r1, r2, r3, r4⟩ := kC.run (by split <;> omega) (by split <;> omega) (g := some m) (fun f hf => by cases hf; omega) q2 pC1 (by omega) (by omega) hp
  obtain ⟨r1a, r1i, r1F, r1J, r1R, r1E, r1N, r1L, r1l⟩ := r1
  rw [hgo, ← hW]
  refine ⟨⟨p + 2, by omega, w43⟩, (w195 s).trans hV.2.2.2, (hKW.2.1 186 36 (by omega)).trans hV.2.1, P2, ⟨fun k i => ?_, fun o k z => (r1F o k z).trans ((q1F o k z).trans (hKW.2.1 o k z)), r1J.trans (q1J.trans hKW.2.2.1), r1R.trans (q1R.trans hKW.2.2.2.1), r1E.trans (q1E.trans hKW.2.2.2.2.1), r1N.trans (q1N.trans hKW.2.2.2.2.2.1), r1L.trans (q1L.trans hKW.2.2.2.2.2.2)⟩, ?_, fun j v hj => ?_, fun f Z hZ => ?_⟩
  · by_cases e1 : 196 ≤ k ∧ k ≤ 204 ∧ 160 * s + m ≤ i ∧ i < 160 * s + (m + (1 + A.length + C.length))
    · exact Or.inr (Or.inl e1)
    · by_cases e2 : 221 ≤ k ∧ k ≤ 229 ∧ p ≤ i
      · exact Or.inr (Or.inr (Or.inl e2))
      · by_cases e3 : k = 195
        · subst e3
          by_cases e4 : i = s
          · exact Or.inr (Or.inr (Or.inr ⟨rfl, e4⟩))
          · exact Or.inl ((r1i i e4).trans ((q1i i e4).trans (w195 i)))
        · refine Or.inl ?_
          rw [r1a k i (by omega) e2 e3 (fun z f hf => by cases hf; omega), q1a k i (by omega) (by omega) e3 (fun z f hf => by cases hf; omega)]
          exact hKW.at (by omega) e2 e3
  · have := r2
    rw [show m + 1 + A.length + C.length = m + (1 + A.length + C.length) by omega] at this
    exact this
  · cases j with
    | zero =>
      simp at hj
      subst hj
      have st : ∀ k, 196 ≤ k → k ≤ 204 → k ≠ 202 → k ≠ 203 → sA P2 k (160 * s + (m + 0)) = sA W k (160 * s + m) := fun k k1 k2 k3 k4 => by
        rw [Nat.add_zero, r1a k _ (by omega) (by omega) (by omega) (by omega), q1a k _ (by omega) (by omega) (by omega) (by omega)]
      obtain ⟨l1, -⟩ := q1l
      obtain ⟨l1a, l1b⟩ := l1 rfl
      obtain ⟨-, l2⟩ := r1l
      obtain ⟨l2a, l2b⟩ := l2 (by omega)
      refine ⟨⟨(st _ (by omega) (by omega) (by omega) (by omega)).trans w196, (st _ (by omega) (by omega) (by omega) (by omega)).trans ((wO _ (by omega) (by omega) (by omega) (by omega)).trans a1), (st _ (by omega) (by omega) (by omega) (by omega)).trans ((wO _ (by omega) (by omega) (by omega) (by omega)).trans a2)⟩,
        ⟨(st _ (by omega) (by omega) (by omega) (by omega)).trans ((wO _ (by omega) (by omega) (by omega) (by omega)).trans a3), (st _ (by omega) (by omega) (by omega) (by omega)).trans ((wO _ (by omega) (by omega) (by omega) (by omega)).trans a4), (st _ (by omega) (by omega) (by omega) (by omega)).trans w201⟩, ⟨?_, ?_⟩, (st _ (by omega) (by omega) (by omega) (by omega)).trans ((wO _ (by omega) (by omega) (by omega) (by omega)).trans a7)⟩
      · rw [Nat.add_zero, l2a, l1a, if_neg (by show ¬ (1 + A.length = 0); omega)]
      · rw [Nat.add_zero, l2b, if_neg (by show ¬ (1 + A.length = 0); omega)]
        show nI _ = nI _
        rw [Nat.add_assoc]
    | succ j =>
      rw [List.getElem?_cons_succ] at hj
      by_cases e : j < A.length
      · rw [List.getElem?_append_left e] at hj
        have := q3 j v hj
        rw [show m + 1 + j = m + (j + 1) by omega] at this
        exact this.of fun t t1 t2 => r1a t _ (by omega) (by omega) (by omega) (fun z f hf => by cases hf; omega)
      · rw [List.getElem?_append_right (by omega)] at hj
        have := r3 _ v hj
        rw [show m + 1 + A.length + (j - A.length) = m + (j + 1) by omega] at this
        exact this
  · rw [w43, nI_clamp (by omega)]
    have z1 := r4 f Z (by rw [show m + 1 + A.length + C.length = m + (1 + A.length + C.length) by omega]; exact hZ)
    have z2 := q4 (f + C.length) Z z1
    rw [show f + (1 + A.length + C.length - 1) = f + C.length + A.length by omega]
    exact z2
theorem dn_cell {i : Nat} (hb : b ≤ 58) (hB : lyB Y np) (hm : np ≤ 36) (hc : c < 2 ^ 30) (hr : r < 2 ^ 30) (hq : q + 1 < 2 ^ 30) (hi : nPA Y c r q np 0 0 = some i) (hh : h < 2 ^ 30) (hle : yH Y i ≤ h) : dnR s np Y b 3 c r q x y (yW Y i) h (cellL Y i x y h) := by
  obtain ⟨i1, i2⟩ := nPA_lt hi
  obtain ⟨⟨b1, b2⟩, ⟨b3, b4⟩, -⟩ := hB i (by omega)
  by_cases e : h = yH Y i
  · subst e
    have : cellL Y i x y (yH Y i) = [paneN Y i x y] := by simp [cellL, optN, restL]
    rw [this]
    exact dnR.pane (by omega) hB hm hc hr hi
  · have hrc : rch Y np 3 c r q = yH Y i := by
      show ((nPA Y c r q np 0 0).map (yH Y)).getD 0 = _
      rw [hi]; rfl
    have : cellL Y i x y h = (3 % 2, x, y, yW Y i, h, nI (yH Y i), 1 + [paneN Y i x y].length) :: ([paneN Y i x y] ++ [(3, x, y + yH Y i, yW Y i, h - yH Y i, -1, 0)]) := by
      unfold cellL optN restL
      rw [if_neg (by simp; omega), if_neg (by omega), if_neg (by omega)]
      rfl
    rw [this]
    refine dnR.split hb hB hm hc hr (by omega) hh (Nat.le_refl _) hq hrc (by omega) (by show yH Y i < h; omega) ?_ ?_
    · exact dnR.pane (by omega) hB hm hc hr hi
    · exact dnR.rest (by omega) hB hm hc hr (by show yW Y i < _; omega) (by show h - yH Y i < _; omega) (by show 0 < yW Y i; omega) (by show 0 < h - yH Y i; omega) rfl (by decide)
theorem rowG_nil {m e : Nat} : ∀ k i, i + k = m → lyB Y m → nRW Y c r m ≤ nRW Y c r i → rowG Y c r y e h k i e = []
  | 0, i, _, _, _ => by simp [rowG, restL]
  | k + 1, i, hi, hB, hn => by
    have hmo := nRW_mono (Y := Y) (c := c) (r := r) (i := i + 1) (j := m) (by omega)
    have hb := (hB i (by omega)).1.1
    simp only [rowG]
    rw [if_neg]
    · refine rowG_nil k (i + 1) (by omega) hB ?_
      have := nRW_mono (Y := Y) (c := c) (r := r) (i := i) (j := i + 1) (by omega)
      omega
    · intro z
      simp only [nRW] at hmo
      rw [if_pos z] at hmo
      omega
theorem dn_row {l : Nat} (hb : b ≤ 56) (hB : lyB Y np) (hm : np ≤ 36) (hc : c < 2 ^ 30) (hr : r < 2 ^ 30) (hw : nRW Y c r np ≤ w) (hlw : l + w < 2 ^ 30) (h0 : 0 < h) (hh : h < 2 ^ 30) (hle : ∀ i, i < np → yIn Y c r i = true → yH Y i ≤ h) : ∀ k i, i + k = np → nRW Y c r i < w → nIx Y c r i ≤ i →
    dnR s np Y b 2 c r (nIx Y c r i) (l + nRW Y c r i) y (l + w - (l + nRW Y c r i)) h (rowG Y c r y (l + w) h k i (l + nRW Y c r i))
  | 0, i, hi, hlt, hx => by
    have hn : rch Y np 2 c r (nIx Y c r i) = 0 := by
      show ((nPA Y c r (nIx Y c r i) np 0 0).map (yW Y)).getD 0 = _
      rw [nPA_skip i (by omega) (Nat.le_refl _), show np - i = 0 by omega]
      rfl
    have : rowG Y c r y (l + w) h 0 i (l + nRW Y c r i) = [(3, l + nRW Y c r i, y, l + w - (l + nRW Y c r i), h, -1, 0)] := by
      simp only [rowG]
      unfold restL
      rw [if_neg (by omega), if_neg (by omega)]
    rw [this]
    exact dnR.rest (by omega) hB hm hc hr (by omega) hh (by omega) h0 hn (by decide)
  | k + 1, i, hi, hlt, hx => by
    simp only [rowG]
    by_cases e : yIn Y c r i = true
    · rw [if_pos e]
      obtain ⟨⟨b1, b2⟩, ⟨b3, b4⟩, -⟩ := hB i (by omega)
      have hpa : nPA Y c r (nIx Y c r i) np 0 0 = some i := by
        rw [nPA_skip i (by omega) (Nat.le_refl _), show np - i = k + 1 by omega]
        simp only [nPA]
        rw [if_pos e, if_pos trivial]
      have hrc : rch Y np 2 c r (nIx Y c r i) = yW Y i := by
        show ((nPA Y c r (nIx Y c r i) np 0 0).map (yW Y)).getD 0 = _
        rw [hpa]; rfl
      have hmo := nRW_mono (Y := Y) (c := c) (r := r) (i := i + 1) (j := np) (by omega)
      have hstep : nRW Y c r (i + 1) = nRW Y c r i + yW Y i := if_pos e
      have hix : nIx Y c r (i + 1) = nIx Y c r i + 1 := if_pos e
      by_cases e2 : l + w - (l + nRW Y c r i) = yW Y i
      · have hnil : rowG Y c r y (l + w) h k (i + 1) (l + nRW Y c r i + yW Y i) = [] := by
          rw [show l + nRW Y c r i + yW Y i = l + w by omega]
          exact rowG_nil k (i + 1) (by omega) hB (by omega)
        have : rowS Y i (l + nRW Y c r i) y (l + w) h ++ rowG Y c r y (l + w) h k (i + 1) (l + nRW Y c r i + yW Y i) = cellL Y i (l + nRW Y c r i) y h := by
          rw [hnil, List.append_nil]
          unfold rowS optN
          rw [if_pos (by simp; omega)]
          rfl
        rw [this, e2]
        refine dnR.down hB hm hc hr (by omega) hh (by decide) (by omega) (by rw [hrc]; rfl) ?_
        exact dn_cell (q := nIx Y c r i) (by omega) hB hm hc hr (by omega) hpa hh (hle i (by omega) e)
      · have hlt2 : nRW Y c r (i + 1) < w := by omega
        have ih := dn_row (l := l) hb hB hm hc hr hw hlw h0 hh hle k (i + 1) (by omega) hlt2 (by rw [hix]; omega)
        rw [hstep, hix] at ih
        have : rowS Y i (l + nRW Y c r i) y (l + w) h ++ rowG Y c r y (l + w) h k (i + 1) (l + nRW Y c r i + yW Y i) =
            (2 % 2, l + nRW Y c r i, y, l + w - (l + nRW Y c r i), h, nI (yW Y i), 1 + (cellL Y i (l + nRW Y c r i) y h).length) :: (cellL Y i (l + nRW Y c r i) y h ++ rowG Y c r y (l + w) h k (i + 1) (l + nRW Y c r i + yW Y i)) := by
          unfold rowS optN
          rw [if_neg (by simp; omega)]
          rfl
        rw [this]
        refine dnR.split (by omega) hB hm hc hr (by omega) hh (by decide) (by omega) hrc (by omega) (by show yW Y i < l + w - (l + nRW Y c r i); omega) ?_ ?_
        · exact dn_cell (q := nIx Y c r i) (by omega) hB hm hc hr (by omega) hpa hh (hle i (by omega) e)
        · show dnR s np Y b 2 c r (nIx Y c r i + 1) (l + nRW Y c r i + yW Y i) y (l + w - (l + nRW Y c r i) - yW Y i) h _
          rw [show l + w - (l + nRW Y c r i) - yW Y i = l + w - (l + (nRW Y c r i + yW Y i)) by omega, show l + nRW Y c r i + yW Y i = l + (nRW Y c r i + yW Y i) by omega]
          exact ih
    · rw [if_neg e]
      have hstep : nRW Y c r (i + 1) = nRW Y c r i := if_neg e
      have hix : nIx Y c r (i + 1) = nIx Y c r i := if_neg e
      have ih := dn_row (l := l) hb hB hm hc hr hw hlw h0 hh hle k (i + 1) (by omega) (by omega) (by omega)
      rw [hstep, hix] at ih
      exact ih
end DS
