/-! class and reference: the choice is the same -/
def moCode (S : xS) (s fl x y : Nat) (room : Int32) (o : Nat) : Nat := if moPos S s fl x y room o false = true then 2 * o else 2 * o + 1
theorem moCode_2 {S : xS} {s fl x y : Nat} {room : Int32} {o : Nat} : moCode S s fl x y room o / 2 = o := by
  unfold moCode
  split <;> omega
theorem moCh_ch {S : xS} {s fl x y : Nat} {room : Int32} : ∀ n, moCh S s fl x y room n = (chB (fun o => moPos S s fl x y room o false || moPos S s fl x y room o true) (moBef S) n).map (moCode S s fl x y room)
  | 0 => rfl
  | n + 1 => by
    have ih := moCh_ch (S := S) (s := s) (fl := fl) (x := x) (y := y) (room := room) n
    simp only [moCh, chB, moChS]
    rw [ih]
    by_cases hz : moPos S s fl x y room n false = false ∧ moPos S s fl x y room n true = false
    · rw [if_pos hz]
      have hf : (moPos S s fl x y room n false || moPos S s fl x y room n true) = false := by rw [hz.1, hz.2]; rfl
      cases e : chB (fun o => moPos S s fl x y room o false || moPos S s fl x y room o true) (moBef S) n with
      | none => simp only [hf, Bool.false_eq_true, if_false]
      | some v => simp only [hf, Bool.false_eq_true, false_and, if_false]
    · rw [if_neg hz]
      have hf : (moPos S s fl x y room n false || moPos S s fl x y room n true) = true := by
        cases h1 : moPos S s fl x y room n false with
        | true => rfl
        | false =>
          cases h2 : moPos S s fl x y room n true with
          | true => rfl
          | false => exact absurd ⟨h1, h2⟩ hz
      cases e : chB (fun o => moPos S s fl x y room o false || moPos S s fl x y room o true) (moBef S) n with
      | none =>
        simp only [hf, if_true, Option.map_none, Option.map_some]
        rfl
      | some v =>
        simp only [hf, true_and, Option.map_some, moCode_2]
        by_cases q : moBef S n v = true
        · rw [if_pos q, if_pos q]; rfl
        · rw [if_neg q, if_neg q]; rfl
/-- the ranked row holds every order, and is sorted as the reference sorts -/
def rkSorted (S : xS) (N : Nat) (rk : Nat → Nat) : Prop := (∀ q, q < N → rk q < N) ∧ (∀ x, x < N → ∃ q, q < N ∧ rk q = x) ∧ ∀ a b, a < b → b < N → moBef S (rk a) (rk b) = true
theorem fstN_c {p q : Nat → Bool} : ∀ {n : Nat}, (∀ k, k < n → p k = q k) → fstN p n = fstN q n
  | 0, _ => rfl
  | n + 1, h => by
    simp only [fstN]
    rw [fstN_c (fun k hk => h k (by omega)), h n (by omega)]
theorem choice_eq {S : xS} {b s fl n x y N : Nat} {room : Int32} {D : Nat → Nat → Int32} {rk : Nat → Nat} (e : ∀ o, o < N → stEq S b s fl n x y room (D o) o) (hr : rkSorted S N rk) :
    moCh S s fl x y room N = (stFst S b fl n N D rk).map (fun k => if stCan S b fl n (D (rk k)) (rk k) false = true then 2 * rk k else 2 * rk k + 1) := by
  have hcf : chB (fun o => moPos S s fl x y room o false || moPos S s fl x y room o true) (moBef S) N = (fstN (fun k => moPos S s fl x y room (rk k) false || moPos S s fl x y room (rk k) true) N).map rk :=
    ch_fst (p := fun o => moPos S s fl x y room o false || moPos S s fl x y room o true) (lt := moBef S) (N := N) (rk := rk) (fun _ _ _ _ h k => moBef_asy h k) (fun _ _ _ _ _ _ h k => moBef_tr h k) (fun _ _ _ _ h => moBef_tot h) hr.1 hr.2.1 hr.2.2
  rw [moCh_ch, hcf]
  unfold stFst
  rw [fstN_c (p := stAny S b fl n D rk) (q := fun k => moPos S s fl x y room (rk k) false || moPos S s fl x y room (rk k) true) (fun k hk => any_eq (e (rk k) (hr.1 k hk)))]
  cases q : fstN (fun k => moPos S s fl x y room (rk k) false || moPos S s fl x y room (rk k) true) N with
  | none => rfl
  | some k =>
    have hk := (fstN_spec q).1
    simp only [Option.map_some]
    rw [can_plain (e (rk k) (hr.1 k hk))]
    rfl
