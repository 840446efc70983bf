/-! the reference's pieces, popped and pushed: what they leave is the list -/
def rK (s lo hi p : Nat) (V P : xS) : Prop := (∀ k i, sA P k i = sA V k i ∨ (196 ≤ k ∧ k ≤ 204 ∧ 160 * s + lo ≤ i ∧ i < 160 * s + hi) ∨ (221 ≤ k ∧ k ≤ 229 ∧ p ≤ i) ∨ (k = 195 ∧ i = s)) ∧
  (∀ o k, (o ≠ 186 ∨ k ≠ 43) → sF P o k = sF V o k) ∧ sJ P = sJ V ∧ sR P = sR V ∧ sE P = sE V ∧ sN P = sN V ∧ sL P = sL V
theorem rK.rf {s lo hi p : Nat} {V : xS} : rK s lo hi p V V := ⟨fun _ _ => Or.inl rfl, fun _ _ _ => rfl, rfl, rfl, rfl, rfl, rfl⟩
theorem rK.trans {s lo hi p : Nat} {V P Z : xS} (h : rK s lo hi p V P) (k : rK s lo hi p P Z) : rK s lo hi p V Z := by
  obtain ⟨h1, h2, h3, h4, h5, h6, h7⟩ := h
  obtain ⟨k1, k2, k3, k4, k5, k6, k7⟩ := k
  refine ⟨fun a i => ?_, fun o a q => (k2 o a q).trans (h2 o a q), k3.trans h3, k4.trans h4, k5.trans h5, k6.trans h6, k7.trans h7⟩
  rcases k1 a i with e | e
  · rcases h1 a i with e' | e'
    · exact Or.inl (e.trans e')
    · exact Or.inr e'
  · exact Or.inr e
theorem rK.mono {s lo hi p lo' hi' p' : Nat} {V P : xS} (h : rK s lo hi p V P) (h1 : lo' ≤ lo) (h2 : hi ≤ hi') (h3 : p' ≤ p) : rK s lo' hi' p' V P :=
  ⟨fun k i => by rcases h.1 k i with e | e | e | e
                 · exact Or.inl e
                 · exact Or.inr (Or.inl (by omega))
                 · exact Or.inr (Or.inr (Or.inl (by omega)))
                 · exact Or.inr (Or.inr (Or.inr e)), h.2⟩
theorem rK.A {s lo hi p k i : Nat} {v : Int32} {V P : xS} (h : rK s lo hi p V P) (ho : (196 ≤ k ∧ k ≤ 204 ∧ 160 * s + lo ≤ i ∧ i < 160 * s + hi) ∨ (221 ≤ k ∧ k ≤ 229 ∧ p ≤ i) ∨ (k = 195 ∧ i = s)) : rK s lo hi p V (uA P k i v) := by
  refine ⟨fun a j => ?_, h.2⟩
  by_cases e : a = k ∧ j = i
  · rw [e.1, e.2]; exact Or.inr ho
  · rcases h.1 a j with q | q
    · refine Or.inl (Eq.trans ?_ q)
      by_cases e1 : a = k
      · subst e1
        rw [sA_uA, va_up_ne _ _ (fun z => e ⟨rfl, z⟩)]
      · rw [sA_uAn _ _ _ e1]
    · exact Or.inr q
theorem rK.F {s lo hi p : Nat} {v : Int32} {V P : xS} (h : rK s lo hi p V P) : rK s lo hi p V (uF P 186 43 v) := by
  refine ⟨h.1, fun o k q => Eq.trans ?_ (h.2.1 o k q), h.2.2⟩
  by_cases e : o = 186
  · subst e
    rw [sF_uF, va_up_ne _ _ (by omega)]
  · rw [sF_uFn _ _ _ e]
theorem rK.at {s lo hi p : Nat} {V P : xS} (h : rK s lo hi p V P) {k i : Nat} (h1 : ¬ (196 ≤ k ∧ k ≤ 204 ∧ 160 * s + lo ≤ i ∧ i < 160 * s + hi)) (h2 : ¬ (221 ≤ k ∧ k ≤ 229 ∧ p ≤ i)) (h3 : k ≠ 195) : sA P k i = sA V k i := by
  rcases h.1 k i with e | e | e | e
  · exact e
  · exact absurd e h1
  · exact absurd e h2
  · exact absurd e.1 h3
theorem rK.ly {s lo hi p m : Nat} {V P : xS} {Y : lY} (h : rK s lo hi p V P) (k : lyM V Y m) : lyM P Y m := fun i hi => by
  obtain ⟨a1, a2, a3, a4, a5⟩ := k i hi
  exact ⟨(h.at (by omega) (by omega) (by omega)).trans a1, (h.at (by omega) (by omega) (by omega)).trans a2, (h.at (by omega) (by omega) (by omega)).trans a3, (h.at (by omega) (by omega) (by omega)).trans a4, (h.at (by omega) (by omega) (by omega)).trans a5⟩
/-- a node of the reference -/
def rNd (S : xS) (s i : Nat) (v : nd) : Prop := (sA S 196 (160 * s + i) = nI v.1 ∧ sA S 197 (160 * s + i) = nI v.2.1 ∧ sA S 198 (160 * s + i) = nI v.2.2.1) ∧ (sA S 199 (160 * s + i) = nI v.2.2.2.1 ∧ sA S 200 (160 * s + i) = nI v.2.2.2.2.1 ∧ sA S 201 (160 * s + i) = v.2.2.2.2.2.1) ∧
  (sA S 202 (160 * s + i) = (if v.2.2.2.2.2.2 = 0 then -1 else nI (i + 1)) ∧ sA S 203 (160 * s + i) = (if v.2.2.2.2.2.2 = 0 then -1 else nI (i + v.2.2.2.2.2.2))) ∧ sA S 204 (160 * s + i) = nI 0
theorem rNd.of {S S' : xS} {s i : Nat} {v : nd} (h : rNd S s i v) (k : ∀ t, 196 ≤ t → t ≤ 204 → sA S' t (160 * s + i) = sA S t (160 * s + i)) : rNd S' s i v := by
  obtain ⟨⟨a1, a2, a3⟩, ⟨a4, a5, a6⟩, ⟨a7, a8⟩, a9⟩ := h
  exact ⟨⟨(k 196 (by omega) (by omega)).trans a1, (k 197 (by omega) (by omega)).trans a2, (k 198 (by omega) (by omega)).trans a3⟩, ⟨(k 199 (by omega) (by omega)).trans a4, (k 200 (by omega) (by omega)).trans a5, (k 201 (by omega) (by omega)).trans a6⟩, ⟨(k 202 (by omega) (by omega)).trans a7, (k 203 (by omega) (by omega)).trans a8⟩, (k 204 (by omega) (by omega)).trans a9⟩
/-- a node that has its place and its size alone -/
def rRc (S : xS) (s i x y w h : Nat) : Prop := (sA S 197 (160 * s + i) = nI x ∧ sA S 198 (160 * s + i) = nI y ∧ sA S 199 (160 * s + i) = nI w ∧ sA S 200 (160 * s + i) = nI h) ∧ (sA S 202 (160 * s + i) = -1 ∧ sA S 203 (160 * s + i) = -1) ∧ sA S 204 (160 * s + i) = nI 0
def rSt (s np : Nat) (Y : lY) (V : xS) (m p : Nat) : Prop := lyM V Y np ∧ sF V 186 36 = nI np ∧ sF V 186 43 = nI p ∧ sA V 195 s = nI m
def rGo (V : xS) (s np m p has c r q : Nat) : xS := moGo V (160 * s + m) m np p (nI c) (3 - has) has (nI r) q
/-- a list that is a tree of cuts from edge to edge -/
def isT : Nat → List nd → Nat → Nat → Nat → Nat → Prop
  | 0, _, _, _, _, _ => False
  | f + 1, L, x, y, w, h => (0 < w ∧ 0 < h) ∧ ((∃ k mk, (k = 2 ∨ k = 3) ∧ L = [(k, x, y, w, h, mk, 0)]) ∨ (∃ g A C, (0 < g ∧ g < w) ∧ L = (0, x, y, w, h, nI g, 1 + A.length) :: (A ++ C) ∧ isT f A x y g h ∧ isT f C (x + g) y (w - g) h) ∨
      ∃ g A C, (0 < g ∧ g < h) ∧ L = (1, x, y, w, h, nI g, 1 + A.length) :: (A ++ C) ∧ isT f A x y w g ∧ isT f C x (y + g) w (h - g))
theorem isT.more : ∀ {f f' : Nat} {L : List nd} {x y w h : Nat}, isT f L x y w h → f ≤ f' → isT f' L x y w h
  | 0, _, _, _, _, _, _, q, _ => q.elim
  | f + 1, 0, _, _, _, _, _, _, q => by omega
  | f + 1, f' + 1, L, x, y, w, h, q, hf => by
    obtain ⟨q0, q⟩ := q
    refine ⟨q0, ?_⟩
    rcases q with q | ⟨g, A, C, q1, q2, q3, q4⟩ | ⟨g, A, C, q1, q2, q3, q4⟩
    · exact Or.inl q
    · exact Or.inr (Or.inl ⟨g, A, C, q1, q2, q3.more (by omega), q4.more (by omega)⟩)
    · exact Or.inr (Or.inr ⟨g, A, C, q1, q2, q3.more (by omega), q4.more (by omega)⟩)
def okL (np : Nat) (Y : lY) (L : List nd) (x y w h : Nat) : Prop := (∃ f, isT f L x y w h) ∧ 0 < L.length ∧ ∀ v ∈ L, v.1 = 2 → ∃ i, i < np ∧ v.2.2.2.2.2.1 = nI (yO Y i)
def dnR (s np : Nat) (Y : lY) (b has c r q x y w h : Nat) (L : List nd) : Prop := okL np Y L x y w h ∧ ∀ (V : xS) (m p : Nat), rSt s np Y V (m + 1) p → rRc V s m x y w h → m + L.length ≤ 145 → p ≤ b →
  (∃ t, t ≤ 62 ∧ sF (rGo V s np m p has c r q) 186 43 = nI t) ∧ sA (rGo V s np m p has c r q) 195 s = nI (m + 1) ∧ sF (rGo V s np m p has c r q) 186 36 = nI np ∧
  ∃ P, rK s m (m + L.length) p V P ∧ rSt s np Y P (m + L.length) p ∧ (∀ j v, L[j]? = some v → rNd P s (m + j) v) ∧
    ∀ f Z, moGA s np f P (m + L.length) p Z → moGA s np (f + (L.length - 1)) (rGo V s np m p has c r q) (m + 1) (sF (rGo V s np m p has c r q) 186 43).toNatClampNeg Z
theorem rSt.K {s np lo hi p m m' p' : Nat} {Y : lY} {V P : xS} (h : rSt s np Y V m' p') (k : rK s lo hi p V P) (h1 : sF P 186 43 = nI p) (h2 : sA P 195 s = nI m) : rSt s np Y P m p := ⟨k.ly h.1, (k.2.1 186 36 (by omega)).trans h.2.1, h1, h2⟩
theorem rch_ok {V : xS} {s np m p has c r q : Nat} {Y : lY} (hB : lyB Y np) (hm : np ≤ 36) (hc : c < 2 ^ 30) (hr : r < 2 ^ 30) (h : lyM V Y np) : moReach V np has (nI c) (nI r) q = nI (rch Y np has c r q) ∧ rch Y np has c r q < 2 ^ 30 := by
  have := rch_le (Y := Y) (m := np) (has := has) (c := c) (r := r) (q := q) hB hm
  exact ⟨moReach_y h hB hm hc hr, by omega⟩
section DN
variable {s np : Nat} {Y : lY} {b has c r q x y w h : Nat} {L : List nd}
/-- nothing is left to cut off: a level further down -/
theorem dnR.down (hB : lyB Y np) (hm : np ≤ 36) (hc : c < 2 ^ 30) (hr : r < 2 ^ 30) (hw : w < 2 ^ 30) (hh : h < 2 ^ 30) (h3 : has < 3) (h0 : 0 < rch Y np has c r q) (he : rch Y np has c r q = if has = 1 then h else w)
    (k : dnR s np Y b (has + 1) c (if has + 1 = 1 then 0 else r) (if has + 1 = 2 then 0 else q) x y w h L) : dnR s np Y b has c r q x y w h L := by
  refine ⟨k.1, fun V m p hV hR hL hp => ?_⟩
  have hgo : rGo V s np m p has c r q = rGo V s np m p (has + 1) c (if has + 1 = 1 then 0 else r) (if has + 1 = 2 then 0 else q) := by
    obtain ⟨g1, g2⟩ := rch_ok (V := V) (s := s) (m := m) (p := p) (has := has) (q := q) hB hm hc hr hV.1
    unfold rGo
    rw [show 3 - has = (3 - (has + 1)) + 1 by omega]
    simp only [moGo]
    have hd : moDown V (160 * s + m) np has (nI c) (nI r) q = true := by
      unfold moDown
      rw [g1]
      obtain ⟨⟨a1, a2, a3, a4⟩, -⟩ := hR
      simp only [Bool.and_eq_true, decide_eq_true_eq, Bool.not_eq_true', decide_eq_false_iff_not]
      refine ⟨h3, nI_nle h0 (by omega), ?_⟩
      split
      next e => rw [a4, he, if_pos e]
      next e => rw [a3, he, if_neg e]
    rw [if_pos hd]
    congr 1
    split <;> rfl
  rw [hgo]
  exact k.2 V m p hV hR hL hp
theorem rGo_end (hB : lyB Y np) (hm : np ≤ 36) (hc : c < 2 ^ 30) (hr : r < 2 ^ 30) (hw : w < 2 ^ 30) (hh : h < 2 ^ 30) {V : xS} {m p : Nat} (hV : lyM V Y np) (hR : rRc V s m x y w h) (hn : has < 3 → rch Y np has c r q = 0 ∨ rch Y np has c r q ≠ (if has = 1 then h else w)) : rGo V s np m p has c r q = moEnd V (160 * s + m) m np p has (nI c) (nI r) q := by
  unfold rGo
  by_cases h3 : has < 3
  · rw [show 3 - has = (3 - (has + 1)) + 1 by omega]
    simp only [moGo]
    rw [if_neg]
    intro hd
    obtain ⟨g1, g2⟩ := rch_ok (V := V) (s := s) (m := m) (p := p) (has := has) (q := q) hB hm hc hr hV
    unfold moDown at hd
    rw [g1] at hd
    obtain ⟨⟨a1, a2, a3, a4⟩, -⟩ := hR
    simp only [Bool.and_eq_true, decide_eq_true_eq, Bool.not_eq_true', decide_eq_false_iff_not] at hd
    obtain ⟨-, d1, d2⟩ := hd
    rcases hn h3 with z | z
    · rw [z, nI_0] at d1
      exact d1 (Int32.le_refl _)
    · apply z
      split at d2
      next e => rw [if_pos e]; rw [a4] at d2; exact (nI_eq (by omega) (by omega)).mp d2
      next e => rw [if_neg e]; rw [a3] at d2; exact (nI_eq (by omega) (by omega)).mp d2
  · rw [show 3 - has = 0 by omega]
    rfl
theorem dnR.rest (hb : b ≤ 60) (hB : lyB Y np) (hm : np ≤ 36) (hc : c < 2 ^ 30) (hr : r < 2 ^ 30) (hw : w < 2 ^ 30) (hh : h < 2 ^ 30) (w0 : 0 < w) (hp0 : 0 < h) (h0 : rch Y np has c r q = 0) (h4 : has ≤ 4) : dnR s np Y b has c r q x y w h [(3, x, y, w, h, -1, 0)] := by
  refine ⟨⟨⟨1, ⟨w0, hp0⟩, Or.inl ⟨3, -1, Or.inr rfl, rfl⟩⟩, Nat.one_pos, fun v hv h2 => by simp at hv; subst hv; simp at h2⟩, fun V m p hV hR hL hp => ?_⟩
  have hgo : rGo V s np m p has c r q = uA (uA V 196 (160 * s + m) (nI 3)) 201 (160 * s + m) (-1) := by
    rw [rGo_end hB hm hc hr hw hh hV.1 hR (fun _ => Or.inl h0)]
    unfold moEnd
    rw [if_pos]
    rw [(rch_ok (V := V) (s := s) (m := m) (p := p) hB hm hc hr hV.1).1, h0, nI_0]
  have hk : rK s m (m + 1) p V (uA (uA V 196 (160 * s + m) (nI 3)) 201 (160 * s + m) (-1)) := (rK.rf.A (Or.inl (by omega))).A (Or.inl (by omega))
  have h43 : sF (uA (uA V 196 (160 * s + m) (nI 3)) 201 (160 * s + m) (-1)) 186 43 = nI p := hV.2.2.1
  have h195 : sA (uA (uA V 196 (160 * s + m) (nI 3)) 201 (160 * s + m) (-1)) 195 s = nI (m + 1) := by
    rw [sA_uAn _ _ _ (by decide), sA_uAn _ _ _ (by decide)]; exact hV.2.2.2
  rw [hgo]
  refine ⟨⟨p, by omega, h43⟩, h195, hV.2.1, _, hk, ⟨hk.ly hV.1, hV.2.1, h43, h195⟩, fun j v hj => ?_, fun f Z hZ => ?_⟩
  · cases j with
    | succ j => simp at hj
    | zero =>
      simp at hj
      subst hj
      obtain ⟨⟨a1, a2, a3, a4⟩, ⟨a5, a6⟩, a7⟩ := hR
      refine ⟨⟨?_, ?_, ?_⟩, ⟨?_, ?_, ?_⟩, ⟨?_, ?_⟩, ?_⟩
      · rw [sA_uAn _ _ _ (by decide), sA_uA, Nat.add_zero, va_up_self]
      · rw [sA_uAn _ _ _ (by decide), sA_uAn _ _ _ (by decide)]; exact a1
      · rw [sA_uAn _ _ _ (by decide), sA_uAn _ _ _ (by decide)]; exact a2
      · rw [sA_uAn _ _ _ (by decide), sA_uAn _ _ _ (by decide)]; exact a3
      · rw [sA_uAn _ _ _ (by decide), sA_uAn _ _ _ (by decide)]; exact a4
      · rw [sA_uA, Nat.add_zero, va_up_self]
      · rw [sA_uAn _ _ _ (by decide), sA_uAn _ _ _ (by decide)]; exact a5
      · rw [sA_uAn _ _ _ (by decide), sA_uAn _ _ _ (by decide)]; exact a6
      · rw [sA_uAn _ _ _ (by decide), sA_uAn _ _ _ (by decide)]; exact a7
  · rw [h43, nI_clamp (by omega)]
    exact hZ
theorem dnR.pane {i : Nat} (hb : b ≤ 60) (hB : lyB Y np) (hm : np ≤ 36) (hc : c < 2 ^ 30) (hr : r < 2 ^ 30) (hi : nPA Y c r q np 0 0 = some i) : dnR s np Y b 3 c r q x y (yW Y i) (yH Y i) [paneN Y i x y] := by
  obtain ⟨i1, i2⟩ := nPA_lt hi
  obtain ⟨⟨b1, b2⟩, ⟨b3, b4⟩, -⟩ := hB i (by omega)
  have hrc : rch Y np 3 c r q = yH Y i := by
    show ((nPA Y c r q np 0 0).map (yH Y)).getD 0 = _
    rw [hi]; rfl
  refine ⟨⟨⟨1, ⟨b1, b3⟩, Or.inl ⟨2, nI (yO Y i), Or.inl rfl, rfl⟩⟩, (by decide : 0 < 1), fun v hv _ => ⟨i, by omega, by simp at hv; subst hv; rfl⟩⟩, fun V m p hV hR hL hp => ?_⟩
  have hgo : rGo V s np m p 3 c r q = uA (uA V 196 (160 * s + m) (nI 2)) 201 (160 * s + m) (nI (yO Y i)) := by
    rw [rGo_end hB hm hc hr (by omega) (by omega) hV.1 hR (fun z => by omega)]
    unfold moEnd
    rw [(rch_ok (V := V) (s := s) (m := m) (p := p) hB hm hc hr hV.1).1, hrc, if_neg (nI_ne0 (by omega) (by omega)), if_pos ⟨rfl, hR.1.2.2.2.symm⟩, moPA_y hV.1 hB hc hr np 0 0 (by omega), hi]
    show uA _ _ _ (sA V 215 i) = _
    rw [(hV.1 i (by omega)).1]
  have hk : rK s m (m + 1) p V (uA (uA V 196 (160 * s + m) (nI 2)) 201 (160 * s + m) (nI (yO Y i))) := (rK.rf.A (Or.inl (by omega))).A (Or.inl (by omega))
  have h43 : sF (uA (uA V 196 (160 * s + m) (nI 2)) 201 (160 * s + m) (nI (yO Y i))) 186 43 = nI p := hV.2.2.1
  have h195 : sA (uA (uA V 196 (160 * s + m) (nI 2)) 201 (160 * s + m) (nI (yO Y i))) 195 s = nI (m + 1) := by
    rw [sA_uAn _ _ _ (by decide), sA_uAn _ _ _ (by decide)]; exact hV.2.2.2
  rw [hgo]
  refine ⟨⟨p, by omega, h43⟩, h195, hV.2.1, _, hk, ⟨hk.ly hV.1, hV.2.1, h43, h195⟩, fun j v hj => ?_, fun f Z hZ => ?_⟩
  · cases j with
    | succ j => simp at hj
    | zero =>
      simp at hj
      subst hj
      obtain ⟨⟨a1, a2, a3, a4⟩, ⟨a5, a6⟩, a7⟩ := hR
      refine ⟨⟨?_, ?_, ?_⟩, ⟨?_, ?_, ?_⟩, ⟨?_, ?_⟩, ?_⟩
      · rw [sA_uAn _ _ _ (by decide), sA_uA, Nat.add_zero, va_up_self]; rfl
      · rw [sA_uAn _ _ _ (by decide), sA_uAn _ _ _ (by decide)]; exact a1
      · rw [sA_uAn _ _ _ (by decide), sA_uAn _ _ _ (by decide)]; exact a2
      · rw [sA_uAn _ _ _ (by decide), sA_uAn _ _ _ (by decide)]; exact a3
      · rw [sA_uAn _ _ _ (by decide), sA_uAn _ _ _ (by decide)]; exact a4
      · rw [sA_uA, Nat.add_zero, va_up_self]; rfl
      · rw [sA_uAn _ _ _ (by decide), sA_uAn _ _ _ (by decide)]; exact a5
      · rw [sA_uAn _ _ _ (by decide), sA_uAn _ _ _ (by decide)]; exact a6
      · rw [sA_uAn _ _ _ (by decide), sA_uAn _ _ _ (by decide)]; exact a7
  · rw [h43, nI_clamp (by omega)]
    exact hZ
end DN
/-! a piece on the stack -/
def rPc (S : xS) (p has c r q x y w h : Nat) (g : Option Nat) : Prop := (sA S 221 p = nI has ∧ sA S 222 p = nI c ∧ sA S 223 p = nI r ∧ sA S 224 p = nI q) ∧ sA S 229 p = cI g ∧ sA S 225 p = nI x ∧ sA S 226 p = nI y ∧ sA S 227 p = nI w ∧ sA S 228 p = nI h
theorem ofG_cI {g : Option Nat} (hg : g.getD 0 < 2 ^ 30) : ofG (cI g) = g := by
  cases g with
  | none => rfl
  | some f =>
    unfold ofG
    show (if nI f = -1 then none else some (nI f).toNatClampNeg) = some f
    have hf : f < 2 ^ 30 := hg
    rw [if_neg, nI_clamp (by omega)]
    intro e
    have := congrArg Int32.toInt e
    rw [nI_toInt (by omega)] at this
    have e2 : (-1 : Int32).toInt = -1 := by decide +kernel
    omega
def lkA (s m : Nat) (g : Option Nat) (W P : xS) : Prop := match g with
  | none => True
  | some f => (f + 1 = m → sA P 202 (160 * s + f) = nI m ∧ sA P 203 (160 * s + f) = sA W 203 (160 * s + f)) ∧ (f + 1 ≠ m → sA P 202 (160 * s + f) = sA W 202 (160 * s + f) ∧ sA P 203 (160 * s + f) = nI m)
/-- but for the list, what lies above the piece, and the link of the node it came from, nothing has moved -/
def rKg (s lo hi p : Nat) (g : Option Nat) (W P : xS) : Prop := (∀ k i, ¬ (196 ≤ k ∧ k ≤ 204 ∧ 160 * s + lo ≤ i ∧ i < 160 * s + hi) → ¬ (221 ≤ k ∧ k ≤ 229 ∧ p ≤ i) → k ≠ 195 → ((k = 202 ∨ k = 203) → ∀ f, g = some f → i ≠ 160 * s + f) → sA P k i = sA W k i) ∧
  (∀ i, i ≠ s → sA P 195 i = sA W 195 i) ∧ (∀ o k, (o ≠ 186 ∨ k ≠ 43) → sF P o k = sF W o k) ∧ sJ P = sJ W ∧ sR P = sR W ∧ sE P = sE W ∧ sN P = sN W ∧ sL P = sL W ∧ lkA s lo g W P
theorem moNd_at {U : xS} {s m p : Nat} : (sA (moNd U s m p) 197 (160 * s + m) = sA U 225 p ∧ sA (moNd U s m p) 198 (160 * s + m) = sA U 226 p ∧ sA (moNd U s m p) 199 (160 * s + m) = sA U 227 p ∧ sA (moNd U s m p) 200 (160 * s + m) = sA U 228 p) ∧ (sA (moNd U s m p) 202 (160 * s + m) = -1 ∧ sA (moNd U s m p) 203 (160 * s + m) = -1) ∧ sA (moNd U s m p) 204 (160 * s + m) = nI 0 ∧ sA (moNd U s m p) 195 s = nI (m + 1) := by
  unfold moNd
  refine ⟨⟨?_, ?_, ?_, ?_⟩, ⟨?_, ?_⟩, ?_, ?_⟩ <;> simp [uA, sA, up2, va_up]
theorem moNd_K {U : xS} {s m p : Nat} : rK s m (m + 1) p U (moNd U s m p) := by
  unfold moNd
  refine rK.A (rK.A (rK.A (rK.A (rK.A (rK.A (rK.A (rK.A rK.rf ?_) ?_) ?_) ?_) ?_) ?_) ?_) ?_
  · exact Or.inr (Or.inr ⟨rfl, rfl⟩)
  all_goals exact Or.inl (by omega)
theorem moNd_K195 {U : xS} {s m p i : Nat} (h : i ≠ s) : sA (moNd U s m p) 195 i = sA U 195 i := by
  unfold moNd
  simp [uA, sA, up2, va_up, h]
theorem moLk_A {V : xS} {s m : Nat} {g : Option Nat} {k i : Nat} (h : (k = 202 ∨ k = 203) → ∀ f, g = some f → i ≠ 160 * s + f) : sA (moLk V s m g) k i = sA V k i := by
  cases g with
  | none => rfl
  | some f =>
    unfold moLk
    simp only []
    by_cases e3 : k = 203
    · subst e3
      rw [sA_uA, va_up_ne _ _ (h (Or.inr rfl) f rfl), sA_uAn _ _ _ (by decide)]
    · rw [sA_uAn _ _ _ e3]
      by_cases e2 : k = 202
      · subst e2
        rw [sA_uA, va_up_ne _ _ (h (Or.inl rfl) f rfl)]
      · rw [sA_uAn _ _ _ e2]
theorem moLk_at {V : xS} {s m f : Nat} : (f + 1 = m → sA (moLk V s m (some f)) 202 (160 * s + f) = nI m ∧ sA (moLk V s m (some f)) 203 (160 * s + f) = sA V 203 (160 * s + f)) ∧ (f + 1 ≠ m → sA (moLk V s m (some f)) 202 (160 * s + f) = sA V 202 (160 * s + f) ∧ sA (moLk V s m (some f)) 203 (160 * s + f) = nI m) := by
  unfold moLk
  simp only []
  refine ⟨fun e => ?_, fun e => ?_⟩
  · rw [if_pos e, if_pos e]
    refine ⟨?_, ?_⟩
    · rw [sA_uAn _ _ _ (by decide), sA_uA, va_up_self]
    · rw [sA_uA, va_up_self]
  · rw [if_neg e, if_neg e]
    refine ⟨?_, ?_⟩
    · rw [sA_uAn _ _ _ (by decide), sA_uA, va_up_self]
    · rw [sA_uA, va_up_self]
/-- a piece is popped and run to its end -/
theorem dnR.run {s np : Nat} {Y : lY} {b has c r q x y w h : Nat} {L : List nd} (k : dnR s np Y b has c r q x y w h L) (h4 : has ≤ 4) (hq : q < 2 ^ 30) {W : xS} {m p : Nat} {g : Option Nat} (hg : ∀ f, g = some f → f < m) (hW : rSt s np Y W m (p + 1)) (hP : rPc W p has c r q x y w h g) (hL : m + L.length ≤ 145) (hb : b ≤ 60) (hp : p ≤ b) :
    ∃ P, rKg s m (m + L.length) p g W P ∧ rSt s np Y P (m + L.length) p ∧ (∀ j v, L[j]? = some v → rNd P s (m + j) v) ∧ ∀ f Z, moGA s np f P (m + L.length) p Z → moGA s np (f + L.length) W m (p + 1) Z := by
  obtain ⟨⟨-, k0, -⟩, k⟩ := k
  obtain ⟨⟨p1, p2, p3, p4⟩, p5, p6, p7, p8, p9⟩ := hP
  have hgb : g.getD 0 < 145 := by
    cases g with
    | none => decide
    | some f => have := hg f rfl; show f < 145; omega
  have ehas : moHas W p = has := by unfold moHas; rw [p1]; exact nI_clamp (by omega)
  have epn : moPn W p = q := by unfold moPn; rw [p4]; exact nI_clamp (by omega)
  have eg : ofG (sA W 229 p) = g := by rw [p5]; exact ofG_cI (by omega)
  obtain ⟨V, hV⟩ : ∃ V, V = moLk (moNd (moU W p) s m p) s m g := ⟨_, rfl⟩
  have hgr : moGr W s np m p = rGo V s np m p has c r q := by
    unfold moGr moGrow rGo
    rw [ehas, epn, eg, p2, p3, ← hV]
  have hUA : sA (moU W p) = sA W := rfl
  have hUF : ∀ o k, (o ≠ 186 ∨ k ≠ 43) → sF (moU W p) o k = sF W o k := fun o k z => by
    unfold moU
    by_cases e : o = 186
    · subst e; rw [sF_uF, va_up_ne _ _ (by omega)]
    · rw [sF_uFn _ _ _ e]
  have hVA : ∀ k i, ((k = 202 ∨ k = 203) → ∀ f, g = some f → i ≠ 160 * s + f) → sA V k i = sA (moNd (moU W p) s m p) k i := fun k i z => by rw [hV]; exact moLk_A z
  have hVF : sF V = sF (moU W p) := by rw [hV, moLk_F]; rfl
  have hnk := moNd_K (U := moU W p) (s := s) (m := m) (p := p)
  have hV0 : rSt s np Y V (m + 1) p := by
    refine ⟨fun i hi => ?_, ?_, ?_, ?_⟩
    · obtain ⟨a1, a2, a3, a4, a5⟩ := (hnk.ly (Y := Y) (m := np) (show lyM (moU W p) Y np from hW.1)) i hi
      exact ⟨(hVA _ _ (by omega)).trans a1, (hVA _ _ (by omega)).trans a2, (hVA _ _ (by omega)).trans a3, (hVA _ _ (by omega)).trans a4, (hVA _ _ (by omega)).trans a5⟩
    · rw [hVF, hUF _ _ (by omega)]; exact hW.2.1
    · rw [hVF]; unfold moU; rw [sF_uF, va_up_self]
    · rw [hVA _ _ (by omega)]; exact moNd_at.2.2.2
  have hlt : ∀ f, g = some f → 160 * s + m ≠ 160 * s + f := fun f hf => by have := hg f hf; omega
  have hR : rRc V s m x y w h := by
    obtain ⟨⟨a1, a2, a3, a4⟩, ⟨a5, a6⟩, a7, -⟩ := moNd_at (U := moU W p) (s := s) (m := m) (p := p)
    rw [hUA] at a1 a2 a3 a4
    exact ⟨⟨(hVA _ _ (by omega)).trans (a1.trans p6), (hVA _ _ (by omega)).trans (a2.trans p7), (hVA _ _ (by omega)).trans (a3.trans p8), (hVA _ _ (by omega)).trans (a4.trans p9)⟩, ⟨(hVA _ _ (fun _ => hlt)).trans a5, (hVA _ _ (fun _ => hlt)).trans a6⟩, (hVA _ _ (by omega)).trans a7⟩
  obtain ⟨⟨t, ht, e43⟩, e195, e36, P, hK, hS, hN, hrun⟩ := k V m p hV0 hR hL hp
  refine ⟨P, ⟨fun a i q1 q2 q3 q4 => ?_, fun i hi => ?_, fun o a z => ?_, hK.2.2.1.trans ?_, hK.2.2.2.1.trans ?_, hK.2.2.2.2.1.trans ?_, hK.2.2.2.2.2.1.trans ?_, hK.2.2.2.2.2.2.trans ?_, ?_⟩, hS, hN, fun f Z hZ => ?_⟩
  · rw [hK.at q1 q2 q3, hVA _ _ q4, hnk.at (fun z => q1 (by omega)) q2 q3, hUA]
  · rcases hK.1 195 i with e | e | e | e
    · rw [e, hVA _ _ (by omega), moNd_K195 hi, hUA]
    · omega
    · omega
    · omega
  · rw [hK.2.1 o a z, hVF, hUF _ _ z]
  · rw [hV]; cases g <;> rfl
  · rw [hV]; cases g <;> rfl
  · rw [hV]; cases g <;> rfl
  · rw [hV]; cases g <;> rfl
  · rw [hV]; cases g <;> rfl
  · cases g with
    | none => trivial
    | some f =>
      have hf := hg f rfl
      obtain ⟨l1, l2⟩ := moLk_at (V := moNd (moU W p) s m p) (s := s) (m := m) (f := f)
      rw [← hV] at l1 l2
      have n2 : sA (moNd (moU W p) s m p) 202 (160 * s + f) = sA W 202 (160 * s + f) := hnk.at (by omega) (by omega) (by decide)
      have n3 : sA (moNd (moU W p) s m p) 203 (160 * s + f) = sA W 203 (160 * s + f) := hnk.at (by omega) (by omega) (by decide)
      have k2 : sA P 202 (160 * s + f) = sA V 202 (160 * s + f) := hK.at (by omega) (by omega) (by decide)
      have k3 : sA P 203 (160 * s + f) = sA V 203 (160 * s + f) := hK.at (by omega) (by omega) (by decide)
      refine ⟨fun e => ?_, fun e => ?_⟩
      · obtain ⟨z1, z2⟩ := l1 e
        exact ⟨k2.trans z1, k3.trans (z2.trans n3)⟩
      · obtain ⟨z1, z2⟩ := l2 e
        exact ⟨k2.trans (z1.trans n2), k3.trans z2⟩
  · have hz := hrun f Z hZ
    rw [show f + L.length = (f + (L.length - 1)) + 1 by omega]
    show moGd W s np m p ∧ moGA s np (f + (L.length - 1)) (moGr W s np m p) (m + 1) (sF (moGr W s np m p) 186 43).toNatClampNeg Z
    rw [hgr]
    refine ⟨⟨⟨by omega, by omega⟩, ⟨by rw [ehas]; exact p1, by rw [ehas]; exact h4⟩, ⟨by rw [epn]; exact p4, by rw [epn]; exact hq⟩, ⟨by rw [eg]; exact p5, by rw [eg]; omega⟩, ⟨?_, ?_⟩, ?_, ?_⟩, hz⟩
    · rw [hgr, e43, nI_clamp (by omega)]
    · rw [hgr, e43, nI_clamp (by omega)]; omega
    · rw [hgr]; exact e195
    · rw [hgr]; exact e36
