/-! what an exact search finds -/
theorem cellL_le {Y : lY} {i l y h : Nat} : (cellL Y i l y h).length ≤ 3 := by
  unfold cellL
  rw [List.length_append, List.length_append]
  have := optN_le (z := decide (h ≤ yH Y i)) (v := (1, l, y, yW Y i, h, nI (yH Y i), 1 + [paneN Y i l y].length))
  have := restL_le (x := l) (y := y + yH Y i) (w := yW Y i) (h := h - yH Y i)
  have : [paneN Y i l y].length = 1 := rfl
  omega
theorem rowS_le {Y : lY} {i f y e h : Nat} : (rowS Y i f y e h).length ≤ 4 := by
  unfold rowS
  rw [List.length_append]
  have := optN_le (z := decide (e - f ≤ yW Y i)) (v := (0, f, y, e - f, h, nI (yW Y i), 1 + (cellL Y i f y h).length))
  have := cellL_le (Y := Y) (i := i) (l := f) (y := y) (h := h)
  omega
theorem rowG_le {Y : lY} {c r y e h : Nat} : ∀ k i f, (rowG Y c r y e h k i f).length ≤ 4 * k + 1
  | 0, i, f => restL_le
  | k + 1, i, f => by
    simp only [rowG]
    split
    · rw [List.length_append]
      have := rowS_le (Y := Y) (i := i) (f := f) (y := y) (e := e) (h := h)
      have := rowG_le (Y := Y) (c := c) (r := r) (y := y) (e := e) (h := h) k (i + 1) (f + yW Y i)
      omega
    · have := rowG_le (Y := Y) (c := c) (r := r) (y := y) (e := e) (h := h) k (i + 1) f
      omega
theorem colG_le {Y : lY} {m c l w h : Nat} : ∀ k r y, (colG Y m c l w h k r y).length ≤ (4 * m + 2) * k + 1
  | 0, r, y => restL_le
  | k + 1, r, y => by
    simp only [colG]
    rw [List.length_append]
    have h1 := colG_le (Y := Y) (m := m) (c := c) (l := l) (w := w) (h := h) k (r + 1) (y + nRH Y c r m)
    have h2 : (colS Y m c r l y w h).length ≤ 4 * m + 2 := by
      unfold colS
      rw [List.length_append]
      have := optN_le (z := decide (h - y ≤ nRH Y c r m)) (v := (1, l, y, w, h - y, nI (nRH Y c r m), 1 + (rowA Y m c r l y w).length))
      have : (rowA Y m c r l y w).length ≤ 4 * m + 1 := rowG_le m 0 l
      omega
    have : (4 * m + 2) * (k + 1) = (4 * m + 2) * k + (4 * m + 2) := by rw [Nat.mul_add, Nat.mul_one]
    omega
theorem groA_le {Y : lY} {m w h : Nat} (hm : m ≤ 3) (hc : nCo Y m ≤ m) (hr : ∀ c, nRo Y c m ≤ m) : (groA Y m w h).length ≤ 145 := by
  have key : ∀ k c f, (groG Y m w h k c f).length ≤ 44 * k + 1 := by
    intro k
    induction k with
    | zero => intro c f; exact restL_le
    | succ k ih =>
      intro c f
      simp only [groG]
      rw [List.length_append]
      have h1 := ih (c + 1) (f + nCWt Y m c)
      have h2 : (groS Y m c f w h).length ≤ 44 := by
        unfold groS
        rw [List.length_append]
        have := optN_le (z := decide (w - f ≤ nCWt Y m c)) (v := (0, f, 0, w - f, h, nI (nCWt Y m c), 1 + (colA Y m c f h).length))
        have h3 : (colA Y m c f h).length ≤ (4 * m + 2) * nRo Y c m + 1 := colG_le _ 0 0
        have h4 : (4 * m + 2) * nRo Y c m ≤ 14 * 3 := Nat.mul_le_mul (by omega) (by have := hr c; omega)
        omega
      omega
  have := key (nCo Y m) 0 0
  unfold groA
  omega
section RO
variable {W H N : Nat} {ow oh : Nat → Nat} {tu : Nat → Bool}
theorem rS_ok (hD : ∀ o, o < N → (1 ≤ ow o ∧ ow o ≤ 6000) ∧ 1 ≤ oh o ∧ oh o ≤ 6000) : ∀ (l : List Nat) (n : Nat) (Y Z : lY), rS ow oh tu W H l n Y = some Z → (∀ o ∈ l, o < N) → n + l.length ≤ 3 → lyB Y n → lyN Y n → nCo Y n ≤ n → (∀ c, nRo Y c n ≤ n) →
    (lyB Z (n + l.length) ∧ lyN Z (n + l.length)) ∧ (nCo Z (n + l.length) ≤ n + l.length ∧ ∀ c, nRo Z c (n + l.length) ≤ n + l.length) ∧ lyFt Z (n + l.length) W H ∧ (∀ i, i < n → yO Z i = yO Y i) ∧ ∀ i o, l[i]? = some o → yO Z (n + i) = o
  | [], n, Y, Z, h, _, _, hB, hN, hc, hr => by
    simp only [rS] at h
    by_cases e : lyFb Y n W H = true
    · rw [if_pos e] at h
      cases h
      exact ⟨⟨hB, hN⟩, ⟨hc, hr⟩, lyFb_iff.mp e, fun _ _ => rfl, fun i o z => by simp at z⟩
    · rw [if_neg e] at h; cases h
  | o :: t, n, Y, Z, h, hl, hn, hB, hN, hc, hr => by
    have hlen : (o :: t).length = t.length + 1 := rfl
    rw [hlen] at hn ⊢
    simp only [rS] at h
    obtain ⟨nb, -, hnb, hj⟩ := fS_some h
    split at hj
    · rename_i hcd
      obtain ⟨c1, c2, -⟩ := hcd
      obtain ⟨hw, hh⟩ := hD o (hl o (List.mem_cons_self ..))
      obtain ⟨c0, hc0⟩ : ∃ c, c = nb / 8 := ⟨_, rfl⟩
      obtain ⟨r0, hr0⟩ : ∃ r, r = nb / 2 % 4 := ⟨_, rfl⟩
      obtain ⟨t0, ht0⟩ : ∃ r, r = nb % 2 := ⟨_, rfl⟩
      rw [← hc0, ← hr0, ← ht0] at hj
      rw [← hc0] at c1
      rw [← hc0, ← hr0] at c2
      unfold pPut at hj
      have hww : 1 ≤ pW ow oh o t0 ∧ pW ow oh o t0 ≤ 6000 := by unfold pW; split; exact hh; exact hw
      have hhh : 1 ≤ pH ow oh o t0 ∧ pH ow oh o t0 ≤ 6000 := by unfold pH; split; exact hw; exact hh
      generalize pW ow oh o t0 = w at hj hww
      generalize pH ow oh o t0 = z at hj hhh
      have hrc := hr c0
      have n1 : ∀ c', c' < nCo (yPut Y n c0 r0 w z o) (n + 1) → ∃ i, i < n + 1 ∧ yC (yPut Y n c0 r0 w z o) i = c' := fun c' hc' => by
        rw [nCo_p1] at hc'
        by_cases e : c' < nCo Y n
        · obtain ⟨i, hi, ei⟩ := hN.1 c' e
          exact ⟨i, by omega, by rw [(yPut_ne (by omega)).1]; exact ei⟩
        · exact ⟨n, by omega, by rw [yPut_at.1]; omega⟩
      have n2 : ∀ c' r', r' < nRo (yPut Y n c0 r0 w z o) c' (n + 1) → ∃ i, i < n + 1 ∧ yIn (yPut Y n c0 r0 w z o) c' r' i = true := fun c' r' hr' => by
        rw [nRo_p1] at hr'
        by_cases e : c0 = c'
        · rw [if_pos e] at hr'
          by_cases e2 : r' < nRo Y c' n
          · obtain ⟨i, hi, ei⟩ := hN.2 c' r' e2
            exact ⟨i, by omega, by rw [yIn_put (by omega)]; exact ei⟩
          · subst e
            refine ⟨n, by omega, ?_⟩
            rw [yIn_putn, decide_eq_true rfl, decide_eq_true (by omega)]; rfl
        · rw [if_neg e] at hr'
          obtain ⟨i, hi, ei⟩ := hN.2 c' r' hr'
          exact ⟨i, by omega, by rw [yIn_put (by omega)]; exact ei⟩
      have n3 : ∀ c', nRo (yPut Y n c0 r0 w z o) c' (n + 1) ≤ n + 1 := fun c' => by
        rw [nRo_p1]
        have := hr c'
        split
        next e => subst e; omega
        next => omega
      obtain ⟨g1, g2, g3, g4, g5⟩ := rS_ok hD t (n + 1) (yPut Y n c0 r0 w z o) Z hj (fun o' ho' => hl o' (List.mem_cons_of_mem _ ho')) (by omega) (lyB_put hB hww hhh (by omega) (by omega)) ⟨n1, n2⟩ (by rw [nCo_p1]; omega) n3
      rw [show n + (t.length + 1) = n + 1 + t.length by omega]
      refine ⟨g1, g2, g3, fun i hi => by rw [g4 i (by omega)]; exact (yPut_ne (by omega)).2.2.2.2, fun i o' hi => ?_⟩
      cases i with
      | zero =>
        rw [List.getElem?_cons_zero] at hi
        rw [Nat.add_zero, g4 n (by omega), yPut_at.2.2.2.2]
        exact Option.some.inj hi
      | succ i =>
        rw [List.getElem?_cons_succ] at hi
        rw [show n + (i + 1) = n + 1 + i by omega]
        exact g5 i o' hi
    · cases hj
end RO
/-! names -/
def nmL (a b c : Int32) : List Int32 := a :: ((if b = -1 then [] else [b]) ++ (if c = -1 then [] else [c]))
theorem tiAddN_m1 {S : xS} {q : Nat} {x : Int32} (h : x = -1) : tiAddN S q x = (S, q) := if_pos h
theorem tiAddN_in {S : xS} {q : Nat} {x : Int32} (h : x ≠ -1) (hq : q < 3) : tiAddN S q x = (uF (uA S 65 q x) 64 3 (nI (q + 1)), q + 1) := (if_neg h).trans (if_neg (by omega))
theorem tiCall_L {S : xS} {a b c : Int32} : (tiCall S a b c).2 = (nmL a b c).length ∧ ∀ i x, (nmL a b c)[i]? = some x → sA (tiCall S a b c).1 65 i = x := by
  have h0 : sA (uF (uA S 65 0 a) 64 3 (nI 1)) 65 0 = a := by
    show sA (uA S 65 0 a) 65 0 = a
    rw [sA_uA, va_up_self]
  unfold tiCall nmL
  simp only []
  by_cases hb : b = -1
  · rw [tiAddN_m1 hb, if_pos hb]
    by_cases hc : c = -1
    · rw [tiAddN_m1 hc, if_pos hc]
      refine ⟨rfl, fun i x hx => ?_⟩
      cases i with
      | zero => rw [h0]; exact Option.some.inj hx
      | succ i => simp at hx
    · rw [tiAddN_in hc (by show 1 < 3; decide), if_neg hc]
      refine ⟨rfl, fun i x hx => ?_⟩
      show sA (uA (uF (uA S 65 0 a) 64 3 (nI 1)) 65 1 c) 65 i = x
      rw [sA_uA]
      match i, hx with
      | 0, hx => rw [va_up_ne _ _ (by decide), h0]; exact Option.some.inj hx
      | 1, hx => rw [va_up_self]; exact Option.some.inj hx
      | i + 2, hx => simp at hx
  · rw [tiAddN_in hb (by decide), if_neg hb]
    by_cases hc : c = -1
    · rw [tiAddN_m1 hc, if_pos hc]
      refine ⟨rfl, fun i x hx => ?_⟩
      show sA (uA (uF (uA S 65 0 a) 64 3 (nI 1)) 65 1 b) 65 i = x
      rw [sA_uA]
      match i, hx with
      | 0, hx => rw [va_up_ne _ _ (by decide), h0]; exact Option.some.inj hx
      | 1, hx => rw [va_up_self]; exact Option.some.inj hx
      | i + 2, hx => simp at hx
    · rw [tiAddN_in hc (by show 1 + 1 < 3; decide), if_neg hc]
      refine ⟨rfl, fun i x hx => ?_⟩
      show sA (uA (uF (uA (uF (uA S 65 0 a) 64 3 (nI 1)) 65 1 b) 64 3 (nI (1 + 1))) 65 (1 + 1) c) 65 i = x
      rw [sA_uA]
      show va_up (sA (uA (uF (uA S 65 0 a) 64 3 (nI 1)) 65 1 b) 65) (1 + 1) c i = x
      rw [sA_uA]
      match i, hx with
      | 0, hx => rw [va_up_ne _ _ (by decide), va_up_ne _ _ (by decide), h0]; exact Option.some.inj hx
      | 1, hx => rw [va_up_ne _ _ (by decide), va_up_self]; exact Option.some.inj hx
      | 2, hx => rw [va_up_self]; exact Option.some.inj hx
      | i + 3, hx => simp at hx
theorem all_at {α : Type} {l : List α} {p : α → Bool} {f : Nat → Bool} (h : ∀ i x, l[i]? = some x → f i = p x) : (List.range l.length).all f = l.all p := by
  refine beq_iff ?_
  rw [List.all_eq_true, List.all_eq_true]
  constructor
  · intro k x hx
    obtain ⟨i, hi, e⟩ := List.mem_iff_getElem.mp hx
    have hx' : l[i]? = some x := by rw [List.getElem?_eq_getElem hi, e]
    rw [← h i x hx']
    exact k i (List.mem_range.mpr hi)
  · intro k i hi
    have hi := List.mem_range.mp hi
    rw [h i _ (List.getElem?_eq_getElem hi)]
    exact k _ (List.getElem_mem hi)
theorem tiAll_kn {S : xS} {N : Nat} {a b c : Int32} : tiAll (tiCall S a b c).1 (tiCall S a b c).2 N = moKn N a b c := by
  obtain ⟨h1, h2⟩ := tiCall_L (S := S) (a := a) (b := b) (c := c)
  unfold tiAll
  rw [h1, all_at (p := inB N) (fun i x hx => by rw [h2 i x hx])]
  unfold nmL moKn
  by_cases hb : b = -1
  · by_cases hc : c = -1
    · rw [if_pos hb, if_pos hc, decide_eq_true hb, decide_eq_true hc]
      simp
    · rw [if_pos hb, if_neg hc, decide_eq_true hb, decide_eq_false hc]
      simp
  · by_cases hc : c = -1
    · rw [if_neg hb, if_pos hc, decide_eq_false hb, decide_eq_true hc]
      simp
    · rw [if_neg hb, if_neg hc, decide_eq_false hb, decide_eq_false hc]
      simp
theorem nI_m1 {k : Nat} (h : k < 2 ^ 31) : nI k ≠ -1 := fun z => by
  have := congrArg Int32.toInt z
  rw [nI_toInt h] at this
  have e : (-1 : Int32).toInt = -1 := by decide +kernel
  omega
theorem moKn_is {N : Nat} {a b c : Int32} (hN : N ≤ 6) (h : moKn N a b c = true) : ∃ (a' : Nat) (bo co : Option Nat), (a' < N ∧ a = nI a') ∧ ((∀ x, bo = some x → x < N) ∧ b = cI bo) ∧ (∀ x, co = some x → x < N) ∧ c = cI co := by
  unfold moKn at h
  obtain ⟨h1, h2⟩ := (Bool.and_eq_true _ _).mp h
  obtain ⟨h2, h3⟩ := (Bool.and_eq_true _ _).mp h2
  have one : ∀ x, inB N x = true → ∃ k, k < N ∧ x = nI k := fun x hx => by
    rcases inB_cases (N := N) (by omega) x with ⟨k, hk, e, -⟩ | z
    · exact ⟨k, hk, e⟩
    · rw [hx] at z; cases z
  have two : ∀ x, (decide (x = -1) || inB N x) = true → ∃ o : Option Nat, (∀ y, o = some y → y < N) ∧ x = cI o := fun x hx => by
    rcases (Bool.or_eq_true _ _).mp hx with z | z
    · exact ⟨none, (fun y hy => by cases hy), of_decide_eq_true z⟩
    · obtain ⟨k, hk, e⟩ := one x z
      exact ⟨some k, (fun y hy => by cases hy; exact hk), e⟩
  obtain ⟨a', ha, ea⟩ := one a h1
  obtain ⟨bo, hb, eb⟩ := two b h2
  obtain ⟨co, hc, ec⟩ := two c h3
  exact ⟨a', bo, co, ⟨ha, ea⟩, ⟨hb, eb⟩, hc, ec⟩
theorem nmL_is {N a : Nat} {bo co : Option Nat} (hN : N ≤ 6) (hb : ∀ x, bo = some x → x < N) (hc : ∀ x, co = some x → x < N) : nmL (nI a) (cI bo) (cI co) = (a :: nms bo co).map nI := by
  unfold nmL nms
  have e : ∀ o : Option Nat, (∀ x, o = some x → x < N) → (if cI o = -1 then [] else [cI o]) = o.toList.map nI := fun o ho => by
    cases o with
    | none => exact if_pos rfl
    | some k =>
      have := ho k rfl
      exact if_neg (nI_m1 (k := k) (by omega))
  rw [e bo hb, e co hc, List.map_cons, List.map_append]
/-- how often a name stands in a list -/
def lCt (o : Nat) : List Nat → Nat
  | [] => 0
  | x :: t => (if x = o then 1 else 0) + lCt o t
theorem lCt_app {o : Nat} {t : List Nat} : ∀ l : List Nat, lCt o (l ++ t) = lCt o l + lCt o t
  | [] => by simp [lCt]
  | x :: l => by
    rw [List.cons_append]
    simp only [lCt]
    rw [lCt_app l]
    omega
theorem lCt_0 {o : Nat} : ∀ {l : List Nat}, (∀ x ∈ l, x ≠ o) → lCt o l = 0
  | [], _ => rfl
  | x :: t, h => by
    simp only [lCt]
    rw [if_neg (h x (List.mem_cons_self ..)), lCt_0 (fun y hy => h y (List.mem_cons_of_mem _ hy))]
theorem times_ct {S : xS} {o : Nat} (ho : o < 2 ^ 30) : ∀ (l : List Nat), (∀ x ∈ l, x < 2 ^ 30) → (∀ i x, l[i]? = some x → sA S 65 i = nI x) → tiTimes S (nI o) l.length = lCt o l := by
  intro l hx hs
  have key : ∀ n, n ≤ l.length → tiTimes S (nI o) n = lCt o (l.take n) := by
    intro n
    induction n with
    | zero => intro _; rfl
    | succ n ih =>
      intro hn
      have hv : l[n]? = some (l[n]'(by omega)) := List.getElem?_eq_getElem (by omega)
      rw [List.take_add_one, hv, lCt_app]
      simp only [tiTimes, Option.toList, lCt]
      rw [ih (by omega), hs n _ hv]
      have hb := hx _ (List.getElem_mem (show n < l.length by omega))
      by_cases e : l[n]'(by omega) = o
      · rw [if_pos e, if_pos (by rw [e])]
      · rw [if_neg e, if_neg (fun z => e ((nI_eq (by omega) (by omega)).mp z))]
        omega
  have := key l.length (Nat.le_refl _)
  rw [List.take_length] at this
  exact this
theorem nCt_ct {Y : lY} {o : Nat} (l : List Nat) (hs : ∀ i x, l[i]? = some x → yO Y i = x) : nCt Y o l.length = lCt o l := by
  have key : ∀ n, n ≤ l.length → nCt Y o n = lCt o (l.take n) := by
    intro n
    induction n with
    | zero => intro _; rfl
    | succ n ih =>
      intro hn
      have hv : l[n]? = some (l[n]'(by omega)) := List.getElem?_eq_getElem (by omega)
      rw [List.take_add_one, hv, lCt_app]
      simp only [nCt, Option.toList, lCt]
      rw [ih (by omega), hs n _ hv]
      by_cases e : l[n]'(by omega) = o
      · rw [if_pos e, if_pos e]
      · rw [if_neg e, if_neg e]
        omega
  have := key l.length (Nat.le_refl _)
  rw [List.take_length] at this
  exact this
theorem moN3_ct {N a o : Nat} {bo co : Option Nat} (hN : N ≤ 6) (ha : a < N) (ho : o < N) (hb : ∀ x, bo = some x → x < N) (hc : ∀ x, co = some x → x < N) : moN3 (nI a) (cI bo) (cI co) o = nI (lCt o (a :: nms bo co)) := by
  unfold moN3
  have e1 : ∀ x, x < N → (if nI x = nI o then nI 1 else nI 0) = nI (if x = o then 1 else 0) := fun x hx => by
    by_cases e : x = o
    · rw [if_pos e, if_pos (by rw [e])]
    · rw [if_neg e, if_neg (fun z => e ((nI_eq (by omega) (by omega)).mp z))]
  have e2 : ∀ u : Option Nat, (∀ x, u = some x → x < N) → (if cI u = nI o then nI 1 else nI 0) = nI (lCt o u.toList) := fun u hu => by
    cases u with
    | none =>
      rw [if_neg (fun z => nI_m1 (k := o) (by omega) z.symm)]; rfl
    | some k =>
      show (if nI k = nI o then nI 1 else nI 0) = _
      rw [e1 k (hu k rfl)]
      congr 1
  rw [e1 a ha, e2 bo hb, e2 co hc, nI_add, nI_add]
  congr 1
  unfold nms
  simp only [lCt]
  rw [lCt_app]
  omega
theorem moHO_iff {S : xS} {a b c : Int32} : ∀ {n : Nat}, moHO S a b c n = true ↔ ∀ o, o < n → ¬ sA S 208 o < moN3 a b c o
  | 0 => ⟨fun _ o ho => by omega, fun _ => rfl⟩
  | n + 1 => by
    simp only [moHO]
    rw [Bool.and_eq_true, moHO_iff, Bool.not_eq_true', decide_eq_false_iff_not]
    constructor
    · rintro ⟨h1, h2⟩ o ho
      by_cases e : o = n
      · subst e; exact h2
      · exact h1 o (by omega)
    · intro h
      exact ⟨fun o ho => h o (by omega), h n (by omega)⟩
