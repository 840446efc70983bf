/-! the reference's search, in counts -/
def t1 (ow oh : Nat → Nat) (tu : Nat → Bool) (Y : lY) (n o nb : Nat) (k : lY → Option lY) : Option lY := if cnd ow oh tu Y n o nb then k (pPut ow oh Y n o (nb / 8) (nb / 2 % 4) (nb % 2)) else none
section RS
variable {X : xS} {s W H N q : Nat} {ow oh : Nat → Nat} {tu : Nat → Bool}
theorem rS_t1 {o n : Nat} {t : List Nat} {Y : lY} : rS ow oh tu W H (o :: t) n Y = fS (fun nb => t1 ow oh tu Y n o nb (rS ow oh tu W H t (n + 1))) 32 0 := rfl
theorem t1_fS {Y : lY} {n o nb m : Nat} {g : Nat → lY → Option lY} : fS (fun j => t1 ow oh tu Y n o nb (g j)) m 0 = t1 ow oh tu Y n o nb (fun Y' => fS (fun j => g j Y') m 0) := by
  unfold t1
  by_cases e : cnd ow oh tu Y n o nb
  · rw [if_pos e]
    exact fS_c (fun j _ _ => if_pos e)
  · rw [if_neg e]
    exact fS_no (fun j _ _ => if_neg e)
theorem rS_two {o : Nat} {t : List Nat} {Y : lY} : rS ow oh tu W H (o :: t) 0 Y = fS (fun nb => t1 ow oh tu Y 0 o nb (rS ow oh tu W H t 1)) 2 0 := by
  rw [rS_t1]
  refine fS_cut (by decide) (fun j h1 h2 => if_neg (fun z => ?_))
  have z1 : j / 8 ≤ 0 := z.1
  have z2 : j / 2 % 4 ≤ 0 := z.2.1
  omega
/-- what the reference knows of the orders -/
def oX (X : xS) (N : Nat) (ow oh : Nat → Nat) (tu : Nat → Bool) : Prop := ∀ o, o < N → (sA X 205 o = nI (ow o) ∧ sA X 206 o = nI (oh o) ∧ (sA X 207 o = 0 ↔ tu o = false)) ∧ (1 ≤ ow o ∧ ow o ≤ 6000) ∧ 1 ≤ oh o ∧ oh o ≤ 6000
theorem moNm_sim {Y : lY} {n o nb : Nat} {P : xS} (hX : oX X N ow oh tu) (ho : o < N) (hP : sKP X P ∧ lyM P Y n) (hB : lyB Y n) (hn : n ≤ 2) (hnb : nb < 32) :
    (cnd ow oh tu Y n o nb → (moNm P n o nb).1 = true ∧ rQ X (pPut ow oh Y n o (nb / 8) (nb / 2 % 4) (nb % 2)) (n + 1) (moNm P n o nb).2 ∧ lyB (pPut ow oh Y n o (nb / 8) (nb / 2 % 4) (nb % 2)) (n + 1)) ∧ (¬ cnd ow oh tu Y n o nb → moNm P n o nb = (false, P)) := by
  obtain ⟨⟨x5, x6, x7⟩, xw, xh⟩ := hX o ho
  obtain ⟨p1, p2⟩ := hP
  have e5 : sA P 205 o = nI (ow o) := by rw [p1.1 205 (by omega)]; exact x5
  have e6 : sA P 206 o = nI (oh o) := by rw [p1.1 206 (by omega)]; exact x6
  have e7 : sA P 207 o = 0 ↔ tu o = false := by rw [p1.1 207 (by omega)]; exact x7
  have hco := nCo_le hB n (Nat.le_refl _)
  have hro := nRo_le (c := nb / 8) hB n (Nat.le_refl _)
  have hiff : moNmB P n o nb = true ↔ cnd ow oh tu Y n o nb := by
    unfold moNmB cnd
    rw [moCo_y p2 hB n (Nat.le_refl _), moRo_y p2 hB (by omega) n (Nat.le_refl _), e5, e6, Bool.and_eq_true, Bool.and_eq_true, Bool.or_eq_true, Bool.and_eq_true, Bool.not_eq_true', Bool.not_eq_true', Bool.not_eq_true', Bool.not_eq_true', decide_eq_false_iff_not, decide_eq_false_iff_not, decide_eq_false_iff_not, decide_eq_false_iff_not, decide_eq_true_eq, nI_ltI (by omega) (by omega), nI_ltI (by omega) (by omega), e7, nI_eq (by omega) (by omega)]
    constructor
    · rintro ⟨h1, h2, h3⟩
      refine ⟨by omega, by omega, fun z => ?_⟩
      rcases h3 with h3 | ⟨h3, h4⟩
      · exact absurd z h3
      · refine ⟨?_, h4⟩
        cases w : tu o with
        | true => rfl
        | false => exact absurd w h3
    · rintro ⟨h1, h2, h3⟩
      refine ⟨by omega, by omega, ?_⟩
      by_cases z : nb % 2 = 1
      · obtain ⟨h4, h5⟩ := h3 z
        exact Or.inr ⟨(fun w => by rw [h4] at w; cases w), h5⟩
      · exact Or.inl z
  unfold moNm
  refine ⟨fun hc => ?_, fun hc => ?_⟩
  · rw [if_pos (hiff.mpr hc)]
    refine ⟨rfl, ⟨?_, fun i hi => ?_, ?_⟩, ?_⟩
    · show sKP X (moLay P n o (decide (nb % 2 = 1)) (nI (nb / 8)) (nI (nb / 2 % 4)))
      unfold moLay
      exact (((((p1.A (by omega)).A (by omega)).A (by omega)).A (by omega)).A (by omega)).F
    · show sA (moLay P n o (decide (nb % 2 = 1)) (nI (nb / 8)) (nI (nb / 2 % 4))) 215 i = _ ∧ sA (moLay P n o (decide (nb % 2 = 1)) (nI (nb / 8)) (nI (nb / 2 % 4))) 216 i = _ ∧ sA (moLay P n o (decide (nb % 2 = 1)) (nI (nb / 8)) (nI (nb / 2 % 4))) 217 i = _ ∧ sA (moLay P n o (decide (nb % 2 = 1)) (nI (nb / 8)) (nI (nb / 2 % 4))) 218 i = _ ∧ sA (moLay P n o (decide (nb % 2 = 1)) (nI (nb / 8)) (nI (nb / 2 % 4))) 219 i = _
      have ew : (if decide (nb % 2 = 1) = true then sA P 206 o else sA P 205 o) = nI (pW ow oh o (nb % 2)) := by
        unfold pW
        by_cases z : nb % 2 = 1
        · rw [decide_eq_true z, if_pos rfl, if_pos z, e6]
        · rw [decide_eq_false z, if_neg (by decide), if_neg z, e5]
      have eh : (if decide (nb % 2 = 1) = true then sA P 205 o else sA P 206 o) = nI (pH ow oh o (nb % 2)) := by
        unfold pH
        by_cases z : nb % 2 = 1
        · rw [decide_eq_true z, if_pos rfl, if_pos z, e5]
        · rw [decide_eq_false z, if_neg (by decide), if_neg z, e6]
      unfold moLay pPut
      rw [ew, eh]
      generalize pW ow oh o (nb % 2) = w
      generalize pH ow oh o (nb % 2) = z
      generalize nb / 8 = c
      generalize nb / 2 % 4 = r
      have f58 : sA (uF (uA (uA (uA (uA (uA P 215 n (nI o)) 216 n (nI w)) 217 n (nI z)) 218 n (nI c)) 219 n (nI r)) 186 36 (nI (n + 1))) 215 = va_up (sA P 215) n (nI o) := by
        show sA (uA (uA (uA (uA (uA P 215 n (nI o)) 216 n (nI w)) 217 n (nI z)) 218 n (nI c)) 219 n (nI r)) 215 = _
        rw [sA_uAn _ _ _ (by decide), sA_uAn _ _ _ (by decide), sA_uAn _ _ _ (by decide), sA_uAn _ _ _ (by decide), sA_uA]
      have f59 : sA (uF (uA (uA (uA (uA (uA P 215 n (nI o)) 216 n (nI w)) 217 n (nI z)) 218 n (nI c)) 219 n (nI r)) 186 36 (nI (n + 1))) 216 = va_up (sA P 216) n (nI w) := by
        show sA (uA (uA (uA (uA (uA P 215 n (nI o)) 216 n (nI w)) 217 n (nI z)) 218 n (nI c)) 219 n (nI r)) 216 = _
        rw [sA_uAn _ _ _ (by decide), sA_uAn _ _ _ (by decide), sA_uAn _ _ _ (by decide), sA_uA, sA_uAn _ _ _ (by decide)]
      have f60 : sA (uF (uA (uA (uA (uA (uA P 215 n (nI o)) 216 n (nI w)) 217 n (nI z)) 218 n (nI c)) 219 n (nI r)) 186 36 (nI (n + 1))) 217 = va_up (sA P 217) n (nI z) := by
        show sA (uA (uA (uA (uA (uA P 215 n (nI o)) 216 n (nI w)) 217 n (nI z)) 218 n (nI c)) 219 n (nI r)) 217 = _
        rw [sA_uAn _ _ _ (by decide), sA_uAn _ _ _ (by decide), sA_uA, sA_uAn _ _ _ (by decide), sA_uAn _ _ _ (by decide)]
      have f61 : sA (uF (uA (uA (uA (uA (uA P 215 n (nI o)) 216 n (nI w)) 217 n (nI z)) 218 n (nI c)) 219 n (nI r)) 186 36 (nI (n + 1))) 218 = va_up (sA P 218) n (nI c) := by
        show sA (uA (uA (uA (uA (uA P 215 n (nI o)) 216 n (nI w)) 217 n (nI z)) 218 n (nI c)) 219 n (nI r)) 218 = _
        rw [sA_uAn _ _ _ (by decide), sA_uA, sA_uAn _ _ _ (by decide), sA_uAn _ _ _ (by decide), sA_uAn _ _ _ (by decide)]
      have f62 : sA (uF (uA (uA (uA (uA (uA P 215 n (nI o)) 216 n (nI w)) 217 n (nI z)) 218 n (nI c)) 219 n (nI r)) 186 36 (nI (n + 1))) 219 = va_up (sA P 219) n (nI r) := by
        show sA (uA (uA (uA (uA (uA P 215 n (nI o)) 216 n (nI w)) 217 n (nI z)) 218 n (nI c)) 219 n (nI r)) 219 = _
        rw [sA_uA, sA_uAn _ _ _ (by decide), sA_uAn _ _ _ (by decide), sA_uAn _ _ _ (by decide), sA_uAn _ _ _ (by decide)]
      rw [f58, f59, f60, f61, f62]
      by_cases e : i = n
      · subst e
        obtain ⟨b1, b2, b3, b4, b5⟩ := yPut_at (Y := Y) (n := i) (c := c) (r := r) (w := w) (h := z) (o := o)
        rw [b1, b2, b3, b4, b5, va_up_self, va_up_self, va_up_self, va_up_self, va_up_self]
        exact ⟨rfl, rfl, rfl, rfl, rfl⟩
      · obtain ⟨b1, b2, b3, b4, b5⟩ := yPut_ne (Y := Y) (n := n) (c := c) (r := r) (w := w) (h := z) (o := o) e
        rw [b1, b2, b3, b4, b5, va_up_ne _ _ e, va_up_ne _ _ e, va_up_ne _ _ e, va_up_ne _ _ e, va_up_ne _ _ e]
        exact p2 i (by omega)
    · show sF (moLay P n o (decide (nb % 2 = 1)) (nI (nb / 8)) (nI (nb / 2 % 4))) 186 36 = _
      unfold moLay
      rw [sF_uF, va_up_self]
    · unfold pPut
      refine lyB_put hB ?_ ?_ (by omega) (by omega)
      · unfold pW; split
        · exact xh
        · exact xw
      · unfold pH; split
        · exact xw
        · exact xh
  · rw [if_neg (fun z => hc (hiff.mp z))]
theorem moFits_sim {Y : lY} {n : Nat} {P : xS} (hw : sA X 189 s = nI W ∧ sA X 190 s = nI H) (hW : W ≤ 6000 ∧ H ≤ 6000) (hP : rQ X Y n P) (hB : lyB Y n) (hn : n ≤ 36) : simO (sKP X) (fun P Z => rQ X Z n P) (moFits P s n, P) (rS ow oh tu W H [] n Y) := by
  simp only [rS]
  rw [moFits_y hP.2.1 hB hn (by rw [hP.1.1 189 (by omega)]; exact hw.1) (by rw [hP.1.1 190 (by omega)]; exact hw.2) hW]
  cases e : lyFb Y n W H with
  | true =>
    rw [if_pos rfl]
    exact ⟨fun z hz => by cases hz; exact ⟨rfl, hP⟩, fun hz => by cases hz⟩
  | false =>
    rw [if_neg (by decide)]
    exact simO.no hP.1
theorem moStep_sim {Gd : xS → lY → Prop} {Y : lY} {n o nb : Nat} {P : xS} {kt : xS → Bool × xS} {K : lY → Option lY} (hX : oX X N ow oh tu) (ho : o < N) (hP : sKP X P ∧ lyM P Y n) (hB : lyB Y n) (hn : n ≤ 2) (hnb : nb < 32)
    (hk : ∀ P', rQ X (pPut ow oh Y n o (nb / 8) (nb / 2 % 4) (nb % 2)) (n + 1) P' → lyB (pPut ow oh Y n o (nb / 8) (nb / 2 % 4) (nb % 2)) (n + 1) → simO (sKP X) Gd (kt P') (K (pPut ow oh Y n o (nb / 8) (nb / 2 % 4) (nb % 2)))) :
    simO (sKP X) Gd (if (moNm P n o nb).1 = false then (false, (moNm P n o nb).2) else kt (moNm P n o nb).2) (t1 ow oh tu Y n o nb K) := by
  obtain ⟨h1, h2⟩ := moNm_sim hX ho hP hB hn hnb
  unfold t1
  by_cases e : cnd ow oh tu Y n o nb
  · obtain ⟨g1, g2, g3⟩ := h1 e
    rw [if_pos e, if_neg (by rw [g1]; decide)]
    exact hk _ g2 g3
  · rw [h2 e, if_neg e, if_pos rfl]
    exact simO.no hP.1
theorem moLi_sim {Gd : xS → lY → Prop} {a : Nat} {bo co : Option Nat} {p : Nat → Nat → Nat → Option lY} (h : ∀ i j k P, i < 2 → j < 32 → k < 32 → sKP X P → simO (sKP X) Gd (moTry s a bo co i j k P) (p i j k)) {P : xS} (hP : sKP X P) : simO (sKP X) Gd (moLi s a bo co 2 0 P) (fS (fun i => fS (fun j => fS (fun k => p i j k) (moN32 co) 0) (moN32 bo) 0) 2 0) := by
  have h32 : ∀ bo : Option Nat, moN32 bo ≤ 32 := fun bo => by cases bo <;> simp [moN32]
  refine simO.loop (T := fun i P => moLj s a bo co i (moN32 bo) 0 P) (Lp := moLi s a bo co) (hi := 2) (fun _ _ => rfl) (fun _ _ _ => rfl) (fun i P1 hi hP1 => ?_) 2 0 P (by omega) hP
  refine simO.loop (T := fun j P => moLk3 s a bo co i j (moN32 co) 0 P) (Lp := moLj s a bo co i) (hi := 32) (fun _ _ => rfl) (fun _ _ _ => rfl) (fun j P2 hj hP2 => ?_) (moN32 bo) 0 P1 (by have := h32 bo; omega) hP1
  exact simO.loop (T := fun k P => moTry s a bo co i j k P) (Lp := moLk3 s a bo co i j) (hi := 32) (fun _ _ => rfl) (fun _ _ _ => rfl) (fun k P3 hk hP3 => h i j k P3 hi hj hk hP3) (moN32 co) 0 P2 (by have := h32 co; omega) hP2
/-- the names beside the first -/
def nms (bo co : Option Nat) : List Nat := bo.toList ++ co.toList
theorem moLi_rS {a : Nat} {bo co : Option Nat} {Y : lY} (hX : oX X N ow oh tu) (hw : sA X 189 s = nI W ∧ sA X 190 s = nI H) (hW : W ≤ 6000 ∧ H ≤ 6000) (ha : a < N) (hb : ∀ b, bo = some b → b < N) (hc : ∀ c, co = some c → c < N) {P : xS} (hP : sKP X P) : simO (sKP X) (fun P Z => rQ X Z (1 + (nms bo co).length) P) (moLi s a bo co 2 0 P) (rS ow oh tu W H (a :: nms bo co) 0 Y) := by
  rw [rS_two]
  have h0 : ∀ P, sKP X P → sKP X (uF P 186 36 (nI 0)) ∧ lyM (uF P 186 36 (nI 0)) Y 0 := fun P hP => ⟨hP.F, fun i hi => by omega⟩
  have hB0 : lyB Y 0 := fun i hi => by omega
  cases bo with
  | none =>
    cases co with
    | none =>
      have := moLi_sim (X := X) (Gd := fun P Z => rQ X Z 1 P) (s := s) (a := a) (bo := none) (co := none) (p := fun i _ _ => t1 ow oh tu Y 0 a i (rS ow oh tu W H [] 1)) (fun i j k P hi _ _ hP => moStep_sim (kt := fun P1 => (moFits P1 s 1, P1)) hX ha (h0 P hP) hB0 (by decide) (by omega) (fun P' hP' hB' => moFits_sim hw hW hP' hB' (by decide))) hP
      simp only [moN32, fS_1] at this
      exact this
    | some c =>
      have := moLi_sim (X := X) (Gd := fun P Z => rQ X Z 2 P) (s := s) (a := a) (bo := none) (co := some c) (p := fun i _ k => t1 ow oh tu Y 0 a i (fun Y => t1 ow oh tu Y 1 c k (rS ow oh tu W H [] 2))) (fun i j k P hi _ hk hP => moStep_sim (kt := fun P1 => if (moNm P1 1 c k).1 = false then (false, (moNm P1 1 c k).2) else (moFits (moNm P1 1 c k).2 s 2, (moNm P1 1 c k).2)) hX ha (h0 P hP) hB0 (by decide) (by omega) (fun P' hP' hB' => moStep_sim (kt := fun P1 => (moFits P1 s 2, P1)) hX (hc c rfl) ⟨hP'.1, hP'.2.1⟩ hB' (by decide) hk (fun P2 hP2 hB2 => moFits_sim hw hW hP2 hB2 (by decide)))) hP
      simp only [moN32, fS_1, t1_fS] at this
      exact this
  | some b =>
    cases co with
    | none =>
      have := moLi_sim (X := X) (Gd := fun P Z => rQ X Z 2 P) (s := s) (a := a) (bo := some b) (co := none) (p := fun i j _ => t1 ow oh tu Y 0 a i (fun Y => t1 ow oh tu Y 1 b j (rS ow oh tu W H [] 2))) (fun i j k P hi hj hk hP => moStep_sim (kt := fun P1 => if (moNm P1 1 b j).1 = false then (false, (moNm P1 1 b j).2) else (moFits (moNm P1 1 b j).2 s 2, (moNm P1 1 b j).2)) hX ha (h0 P hP) hB0 (by decide) (by omega) (fun P' hP' hB' => moStep_sim (kt := fun P1 => (moFits P1 s 2, P1)) hX (hb b rfl) ⟨hP'.1, hP'.2.1⟩ hB' (by decide) hj (fun P2 hP2 hB2 => moFits_sim hw hW hP2 hB2 (by decide)))) hP
      simp only [moN32, fS_1, t1_fS] at this
      exact this
    | some c =>
      have := moLi_sim (X := X) (Gd := fun P Z => rQ X Z 3 P) (s := s) (a := a) (bo := some b) (co := some c) (p := fun i j k => t1 ow oh tu Y 0 a i (fun Y => t1 ow oh tu Y 1 b j (fun Y => t1 ow oh tu Y 2 c k (rS ow oh tu W H [] 3)))) (fun i j k P hi hj hk hP => moStep_sim (kt := fun P1 => if (moNm P1 1 b j).1 = false then (false, (moNm P1 1 b j).2) else if (moNm (moNm P1 1 b j).2 2 c k).1 = false then (false, (moNm (moNm P1 1 b j).2 2 c k).2) else (moFits (moNm (moNm P1 1 b j).2 2 c k).2 s 3, (moNm (moNm P1 1 b j).2 2 c k).2)) hX ha (h0 P hP) hB0 (by decide) (by omega) (fun P' hP' hB' => moStep_sim (kt := fun P1 => if (moNm P1 2 c k).1 = false then (false, (moNm P1 2 c k).2) else (moFits (moNm P1 2 c k).2 s 3, (moNm P1 2 c k).2)) hX (hb b rfl) ⟨hP'.1, hP'.2.1⟩ hB' (by decide) hj (fun P2 hP2 hB2 => moStep_sim (kt := fun P1 => (moFits P1 s 3, P1)) hX (hc c rfl) ⟨hP2.1, hP2.2.1⟩ hB2 (by decide) hk (fun P3 hP3 hB3 => moFits_sim hw hW hP3 hB3 (by decide))))) hP
      simp only [moN32, t1_fS] at this
      exact this
end RS
