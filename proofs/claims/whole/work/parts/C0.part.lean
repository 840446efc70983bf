/-! the flaws of a part -/
theorem mn_nI {a b : Nat} (ha : a < 2 ^ 31) (hb : b < 2 ^ 31) : mn (nI a) (nI b) = nI (min a b) := by
  unfold mn
  by_cases h : b < a
  · rw [if_pos ((nI_ltI hb ha).mpr h), Nat.min_eq_right (by omega)]
  · rw [if_neg (fun z => h ((nI_ltI hb ha).mp z)), Nat.min_eq_left (by omega)]
abbrev qd : Type := Nat × Nat × Nat × Nat
def prt (x y w h : Nat) (f : Nat → qd) : Nat → List qd
  | 0 => []
  | k + 1 => if min (x + w) ((f k).1 + (f k).2.2.1) ≤ max x (f k).1 then prt x y w h f k else if min (y + h) ((f k).2.1 + (f k).2.2.2) ≤ max y (f k).2.1 then prt x y w h f k else
    prt x y w h f k ++ [(max x (f k).1 - x, max y (f k).2.1 - y, min (x + w) ((f k).1 + (f k).2.2.1) - max x (f k).1, min (y + h) ((f k).2.1 + (f k).2.2.2) - max y (f k).2.1)]
theorem prt_len {x y w h : Nat} {f : Nat → qd} : ∀ k, (prt x y w h f k).length ≤ k
  | 0 => Nat.le_refl _
  | k + 1 => by
    have := prt_len (x := x) (y := y) (w := w) (h := h) (f := f) k
    simp only [prt]
    split
    · omega
    · split
      · omega
      · rw [List.length_append]; simp; omega
theorem prt_in {x y w h : Nat} {f : Nat → qd} : ∀ k, ∀ q ∈ prt x y w h f k, (q.1 + q.2.2.1 ≤ w ∧ q.2.1 + q.2.2.2 ≤ h) ∧ 1 ≤ q.2.2.1 ∧ 1 ≤ q.2.2.2
  | 0, q, hq => by cases hq
  | k + 1, q, hq => by
    simp only [prt] at hq
    split at hq
    · exact prt_in k q hq
    · split at hq
      · exact prt_in k q hq
      · rcases List.mem_append.mp hq with hq | hq
        · exact prt_in k q hq
        · rename_i z1 z2
          rw [List.mem_singleton.mp hq]
          simp only []
          omega
theorem put_at {A : List qd} {q r : qd} {c : Nat} (h : (A ++ [q])[c]? = some r) : (A[c]? = some r ∧ c < A.length) ∨ (c = A.length ∧ r = q) := by
  by_cases z : c < A.length
  · rw [List.getElem?_append_left z] at h
    exact Or.inl ⟨h, z⟩
  · rw [List.getElem?_append_right (by omega)] at h
    have : c - A.length = 0 := by
      have := (List.getElem?_eq_some_iff.mp h).1
      simp at this
      omega
    rw [this] at h
    exact Or.inr ⟨by omega, (Option.some.inj h).symm⟩
def fsC (S : xS) (a : Nat) (f : Nat → qd) (m : Nat) : Prop := ∀ k, k < m → sA S (a + 1) k = nI (f k).1 ∧ sA S (a + 2) k = nI (f k).2.1 ∧ sA S (a + 3) k = nI (f k).2.2.1 ∧ sA S (a + 4) k = nI (f k).2.2.2
def fsM (S : xS) (a p : Nat) (f : Nat → qd) (m : Nat) : Prop := ∀ k, k < m → sA S a (p + 4 * k) = nI (f k).1 ∧ sA S a (p + 4 * k + 1) = nI (f k).2.1 ∧ sA S a (p + 4 * k + 2) = nI (f k).2.2.1 ∧ sA S a (p + 4 * k + 3) = nI (f k).2.2.2
def fsB (f : Nat → qd) (m : Nat) : Prop := ∀ k, k < m → ((f k).1 + (f k).2.2.1 ≤ 6000 ∧ (f k).2.1 + (f k).2.2.2 ≤ 6000) ∧ 1 ≤ (f k).2.2.1 ∧ 1 ≤ (f k).2.2.2
theorem glPart_L {S : xS} {b a x y w h m : Nat} {f : Nat → qd} (hab : a + 5 ≤ b ∨ b + 5 ≤ a) (hf : fsC S a f m) (hb : fsB f m) (hr : x + w ≤ 6000 ∧ y + h ≤ 6000) (h6 : m ≤ 6) : ∀ k, k ≤ m → (glPart S b a (nI x) (nI y) (nI w) (nI h) k).2 = (prt x y w h f k).length ∧
    (∀ (c : Nat) (q : qd), (prt x y w h f k)[c]? = some q → sA (glPart S b a (nI x) (nI y) (nI w) (nI h) k).1 (b + 1) c = nI q.1 ∧ sA (glPart S b a (nI x) (nI y) (nI w) (nI h) k).1 (b + 2) c = nI q.2.1 ∧ sA (glPart S b a (nI x) (nI y) (nI w) (nI h) k).1 (b + 3) c = nI q.2.2.1 ∧ sA (glPart S b a (nI x) (nI y) (nI w) (nI h) k).1 (b + 4) c = nI q.2.2.2) ∧
    sF (glPart S b a (nI x) (nI y) (nI w) (nI h) k).1 b 4 = nI w ∧ sF (glPart S b a (nI x) (nI y) (nI w) (nI h) k).1 b 5 = nI h
  | 0, _ => ⟨rfl, fun c q z => by simp [prt] at z, by show sF (glBec S b _ _) b 4 = _; unfold glBec; rw [sF_uF, va_up_ne _ _ (by decide), sF_uF, va_up_ne _ _ (by decide), sF_uF, va_up_self], by show sF (glBec S b _ _) b 5 = _; unfold glBec; rw [sF_uF, va_up_ne _ _ (by decide), sF_uF, va_up_self]⟩
  | k + 1, hk => by
    have ih := glPart_L (x := x) (y := y) (w := w) (h := h) hab hf hb hr h6 k (by omega)
    obtain ⟨K, -, -⟩ := glPart_ok (S := S) (b := b) (a := a) (x := nI x) (y := nI y) (w := nI w) (h := nI h) k
    have e : ∀ t, 1 ≤ t → t ≤ 4 → sA (glPart S b a (nI x) (nI y) (nI w) (nI h) k).1 (a + t) = sA S (a + t) := fun t t1 t2 => (K.1 _ (by omega)).2.1
    obtain ⟨f1, f2, f3, f4⟩ := hf k (by omega)
    obtain ⟨⟨b1, b2⟩, -⟩ := hb k (by omega)
    have hl := prt_len (x := x) (y := y) (w := w) (h := h) (f := f) k
    obtain ⟨p, hp⟩ : ∃ p, p = glPart S b a (nI x) (nI y) (nI w) (nI h) k := ⟨_, rfl⟩
    rw [← hp] at ih e
    obtain ⟨i1, i2, i3, i4⟩ := ih
    simp only [glPart, prt]
    rw [← hp, e 1 (by omega) (by omega), e 2 (by omega) (by omega), e 3 (by omega) (by omega), e 4 (by omega) (by omega), f1, f2, f3, f4, nI_add, nI_add, nI_add, nI_add, mx_nI (by omega) (by omega), mx_nI (by omega) (by omega), mn_nI (by omega) (by omega), mn_nI (by omega) (by omega)]
    by_cases z1 : min (x + w) ((f k).1 + (f k).2.2.1) ≤ max x (f k).1
    · rw [if_pos ((nI_leI (by omega) (by omega)).mpr z1), if_pos z1]
      exact ⟨i1, i2, i3, i4⟩
    · rw [if_neg (fun z => z1 ((nI_leI (by omega) (by omega)).mp z)), if_neg z1]
      by_cases z2 : min (y + h) ((f k).2.1 + (f k).2.2.2) ≤ max y (f k).2.1
      · rw [if_pos ((nI_leI (by omega) (by omega)).mpr z2), if_pos z2]
        exact ⟨i1, i2, i3, i4⟩
      · rw [if_neg (fun z => z2 ((nI_leI (by omega) (by omega)).mp z)), if_neg z2, nI_subN (by omega), nI_subN (by omega), nI_subN (by omega), nI_subN (by omega)]
        simp only []
        have hp6 : p.2 < 6 := by omega
        have hg : ∀ x y w h, glAdd p.1 b p.2 x y w h = glFl p.1 b p.2 x y w h := fun x y w h => if_pos hp6
        rw [hg]
        refine ⟨?_, fun c q hc => ?_, ?_, ?_⟩
        · unfold glN
          rw [if_pos hp6, List.length_append, i1]; rfl
        · rcases put_at hc with ⟨hc1, hc2⟩ | ⟨hc1, hc2⟩
          · obtain ⟨j1, j2, j3, j4⟩ := i2 c q hc1
            have hne : c ≠ p.2 := by omega
            unfold glFl
            refine ⟨?_, ?_, ?_, ?_⟩
            · show sA (uA (uA (uA (uA _ _ _ _) _ _ _) _ _ _) _ _ _) _ _ = _
              rw [sA_uAn _ _ _ (by omega), sA_uAn _ _ _ (by omega), sA_uAn _ _ _ (by omega), sA_uA, va_up_ne _ _ hne]; exact j1
            · show sA (uA (uA (uA (uA _ _ _ _) _ _ _) _ _ _) _ _ _) _ _ = _
              rw [sA_uAn _ _ _ (by omega), sA_uAn _ _ _ (by omega), sA_uA, va_up_ne _ _ hne, sA_uAn _ _ _ (by omega)]; exact j2
            · show sA (uA (uA (uA (uA _ _ _ _) _ _ _) _ _ _) _ _ _) _ _ = _
              rw [sA_uAn _ _ _ (by omega), sA_uA, va_up_ne _ _ hne, sA_uAn _ _ _ (by omega), sA_uAn _ _ _ (by omega)]; exact j3
            · show sA (uA (uA (uA (uA _ _ _ _) _ _ _) _ _ _) _ _ _) _ _ = _
              rw [sA_uA, va_up_ne _ _ hne, sA_uAn _ _ _ (by omega), sA_uAn _ _ _ (by omega), sA_uAn _ _ _ (by omega)]; exact j4
          · have hne : c = p.2 := by omega
            rw [hc2, hne]
            simp only []
            unfold glFl
            refine ⟨?_, ?_, ?_, ?_⟩
            · show sA (uA (uA (uA (uA _ _ _ _) _ _ _) _ _ _) _ _ _) _ _ = _
              rw [sA_uAn _ _ _ (by omega), sA_uAn _ _ _ (by omega), sA_uAn _ _ _ (by omega), sA_uA, va_up_self]
            · show sA (uA (uA (uA (uA _ _ _ _) _ _ _) _ _ _) _ _ _) _ _ = _
              rw [sA_uAn _ _ _ (by omega), sA_uAn _ _ _ (by omega), sA_uA, va_up_self]
            · show sA (uA (uA (uA (uA _ _ _ _) _ _ _) _ _ _) _ _ _) _ _ = _
              rw [sA_uAn _ _ _ (by omega), sA_uA, va_up_self]
            · show sA (uA (uA (uA (uA _ _ _ _) _ _ _) _ _ _) _ _ _) _ _ = _
              rw [sA_uA, va_up_self]
        · unfold glFl
          rw [sF_uF, va_up_ne _ _ (by decide)]; exact i3
        · unfold glFl
          rw [sF_uF, va_up_ne _ _ (by decide)]; exact i4
theorem over_iff {a b c d : Nat} (h1 : a + b ≤ 6000) (h2 : c + d ≤ 6000) : moOver (nI a) (nI b) (nI c) (nI d) = true ↔ a < c + d ∧ c < a + b := by
  unfold moOver
  rw [nI_add, nI_add, Bool.and_eq_true, decide_eq_true_eq, decide_eq_true_eq, nI_ltI (by omega) (by omega), nI_ltI (by omega) (by omega)]
theorem moStL_L {S : xS} {o n s x y w h m : Nat} {f : Nat → qd} (hf : fsM S 194 (24 * s) f m) (hb : fsB f m) (hr : x + w ≤ 6000 ∧ y + h ≤ 6000) (hwh : 1 ≤ w ∧ 1 ≤ h) (hn : sA S 197 n = nI x ∧ sA S 198 n = nI y ∧ sA S 199 n = nI w ∧ sA S 200 n = nI h) : ∀ k, k ≤ m → (moStL S o n s k).2 = (prt x y w h f k).length ∧
    (∀ (c : Nat) (q : qd), (prt x y w h f k)[c]? = some q → sA (moStL S o n s k).1 214 (24 * o + 4 * c) = nI q.1 ∧ sA (moStL S o n s k).1 214 (24 * o + 4 * c + 1) = nI q.2.1 ∧ sA (moStL S o n s k).1 214 (24 * o + 4 * c + 2) = nI q.2.2.1 ∧ sA (moStL S o n s k).1 214 (24 * o + 4 * c + 3) = nI q.2.2.2) ∧
    sA (moStL S o n s k).1 211 o = nI w ∧ sA (moStL S o n s k).1 212 o = nI h
  | 0, _ => ⟨rfl, fun c q z => by simp [prt] at z, by show sA (moSt0 S o n) 211 o = _; unfold moSt0; rw [sA_uAn _ _ _ (by decide), sA_uAn _ _ _ (by decide), sA_uA, va_up_self, hn.2.2.1], by show sA (moSt0 S o n) 212 o = _; unfold moSt0; rw [sA_uAn _ _ _ (by decide), sA_uA, va_up_self, hn.2.2.2]⟩
  | k + 1, hk => by
    obtain ⟨i1, i2, i3, i4⟩ := moStL_L (o := o) (n := n) (x := x) (y := y) (w := w) (h := h) hf hb hr hwh hn k (by omega)
    obtain ⟨f1, f2, f3, f4⟩ := hf k (by omega)
    obtain ⟨⟨b1, b2⟩, b3, b4⟩ := hb k (by omega)
    obtain ⟨n1, n2, n3, n4⟩ := hn
    have hm : moMeets S s k (sA S 197 n) (sA S 198 n) (sA S 199 n) (sA S 200 n) = true ↔ ((f k).1 < x + w ∧ x < (f k).1 + (f k).2.2.1) ∧ ((f k).2.1 < y + h ∧ y < (f k).2.1 + (f k).2.2.2) := by
      unfold moMeets
      rw [n1, n2, n3, n4, f1, f2, f3, f4, Bool.and_eq_true, over_iff b1 hr.1, over_iff b2 hr.2]
    simp only [moStL, prt]
    by_cases z1 : min (x + w) ((f k).1 + (f k).2.2.1) ≤ max x (f k).1
    · rw [if_pos z1, if_neg (fun z => by have := hm.mp z; omega)]
      exact ⟨i1, i2, i3, i4⟩
    · rw [if_neg z1]
      by_cases z2 : min (y + h) ((f k).2.1 + (f k).2.2.2) ≤ max y (f k).2.1
      · rw [if_pos z2, if_neg (fun z => by have := hm.mp z; omega)]
        exact ⟨i1, i2, i3, i4⟩
      · rw [if_neg z2, if_pos (hm.mpr (by omega))]
        obtain ⟨p, hp⟩ : ∃ p, p = moStL S o n s k := ⟨_, rfl⟩
        rw [← hp] at i1 i2 i3 i4 ⊢
        simp only []
        unfold moStA moL moLo moRi moHi
        rw [n1, n2, n3, n4, f1, f2, f3, f4, nI_add, nI_add, nI_add, nI_add, mx_nI (by omega) (by omega), mx_nI (by omega) (by omega), mn_nI (by omega) (by omega), mn_nI (by omega) (by omega), nI_subN (by omega), nI_subN (by omega), nI_subN (by omega), nI_subN (by omega)]
        refine ⟨?_, fun c q hc => ?_, ?_, ?_⟩
        · rw [List.length_append, i1]; rfl
        · rw [sA_uAn _ _ _ (by decide), sA_uA, sA_uA, sA_uA, sA_uA]
          rcases put_at hc with ⟨hc1, hc2⟩ | ⟨hc1, hc2⟩
          · obtain ⟨j1, j2, j3, j4⟩ := i2 c q hc1
            rw [va_up_ne _ _ (by omega), va_up_ne _ _ (by omega), va_up_ne _ _ (by omega), va_up_ne _ _ (by omega), va_up_ne _ _ (by omega), va_up_ne _ _ (by omega), va_up_ne _ _ (by omega), va_up_ne _ _ (by omega), va_up_ne _ _ (by omega), va_up_ne _ _ (by omega), va_up_ne _ _ (by omega), va_up_ne _ _ (by omega), va_up_ne _ _ (by omega), va_up_ne _ _ (by omega), va_up_ne _ _ (by omega), va_up_ne _ _ (by omega)]
            exact ⟨j1, j2, j3, j4⟩
          · have hne : c = p.2 := by omega
            rw [hc2, hne]
            refine ⟨?_, ?_, ?_, ?_⟩
            · rw [va_up_ne _ _ (by omega), va_up_ne _ _ (by omega), va_up_ne _ _ (by omega), va_up_self]
            · rw [va_up_ne _ _ (by omega), va_up_ne _ _ (by omega), va_up_self]
            · rw [va_up_ne _ _ (by omega), va_up_self]
            · rw [va_up_self]
        · rw [sA_uAn _ _ _ (by decide), sA_uAn _ _ _ (by decide), sA_uAn _ _ _ (by decide), sA_uAn _ _ _ (by decide), sA_uAn _ _ _ (by decide)]; exact i3
        · rw [sA_uAn _ _ _ (by decide), sA_uAn _ _ _ (by decide), sA_uAn _ _ _ (by decide), sA_uAn _ _ _ (by decide), sA_uAn _ _ _ (by decide)]; exact i4
