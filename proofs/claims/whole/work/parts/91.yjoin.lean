/-! class half of one state beside the reference half of another -/
def jn (C P : xS) : xS := (fun o => if o < 186 then sF C o else sF P o, fun o => if o < 186 then sA C o else sA P o, fun o => if o < 186 then sJ C o else sJ P o, sR C, sE C, sN C, sL C)
section JN
variable {C P : xS} {o : Nat}
theorem jn_lF (h : o < 186) : sF (jn C P) o = sF C o := if_pos h
theorem jn_hF (h : 186 ≤ o) : sF (jn C P) o = sF P o := if_neg (by omega)
theorem jn_lA (h : o < 186) : sA (jn C P) o = sA C o := if_pos h
theorem jn_hA (h : 186 ≤ o) : sA (jn C P) o = sA P o := if_neg (by omega)
end JN
theorem moPo_c {S Z : xS} {m : Bool} {s : Nat} {x y w h : Int32} (e : sA Z 194 = sA S 194) : ∀ n, moPo m Z s x y w h n = moPo m S s x y w h n
  | 0 => rfl
  | n + 1 => by
    simp only [moPo]
    rw [moPo_c e n, moMeets_c e]
theorem moPos_c {S Z : xS} {s fl x y : Nat} {room : Int32} {o : Nat} {t : Bool} (h : ∀ k, 186 ≤ k → sA Z k = sA S k) : moPos Z s fl x y room o t = moPos S s fl x y room o t := by
  unfold moPos moMay moPw moPh
  rw [moPo_c (h 194 (by decide)), h 208 (by decide), h 220 (by decide), h 190 (by decide), h 207 (by decide), h 206 (by decide), h 205 (by decide)]
theorem moBef_c {S Z : xS} {a b : Nat} (h : ∀ k, 186 ≤ k → sA Z k = sA S k) : moBef Z a b = moBef S a b := by
  unfold moBef
  rw [h 206 (by decide), h 205 (by decide)]
theorem moCh_c {S Z : xS} {s fl x y : Nat} {room : Int32} (h : ∀ k, 186 ≤ k → sA Z k = sA S k) : ∀ n, moCh Z s fl x y room n = moCh S s fl x y room n
  | 0 => rfl
  | n + 1 => by
    simp only [moCh]
    rw [moCh_c h n, moPos_c h, moPos_c h, show moBef Z n = moBef S n from funext fun v => moBef_c h]
theorem laCount_c {S Z : xS} {x : Int32} (h : sA Z 58 = sA S 58) : ∀ n, laCount Z x n = laCount S x n
  | 0 => rfl
  | n + 1 => by
    simp only [laCount]
    rw [laCount_c h n, h]
theorem glClear_c {S Z : xS} {b n : Nat} {x y w h : Int32} (e : ∀ t, 1 ≤ t → t ≤ 4 → sA Z (b + t) = sA S (b + t)) : glClear Z b n x y w h = glClear S b n x y w h := by
  unfold glClear glBes glAbo
  rw [e 1 (by decide) (by decide), e 2 (by decide) (by decide), e 3 (by decide) (by decide), e 4 (by decide) (by decide)]
theorem stCan_c {S Z : xS} {b fl n : Nat} {D : Nat → Int32} {o : Nat} {t : Bool} (h58 : sA Z 58 = sA S 58) (h63 : sF Z 63 = sF S 63) (hb : sF Z b = sF S b) (e : ∀ t, 1 ≤ t → t ≤ 4 → sA Z (b + t) = sA S (b + t)) : stCan Z b fl n D o t = stCan S b fl n D o t := by
  unfold stCan
  rw [laCount_c h58, h63, hb, glClear_c e]
theorem choice2 {C P : xS} {b s fl n x y N : Nat} {room : Int32} {D : Nat → Nat → Int32} {rk : Nat → Nat} (hb : b + 5 ≤ 186) (e : ∀ o, o < N → stEq (jn C P) b s fl n x y room (D o) o) (hr : rkSorted P N rk) :
    moCh P s fl x y room N = (stFst C b fl n N D rk).map (fun k => if stCan C b fl n (D (rk k)) (rk k) false = true then 2 * rk k else 2 * rk k + 1) := by
  have hh : ∀ k, 186 ≤ k → sA (jn C P) k = sA P k := fun k hk => jn_hA hk
  have hs : rkSorted (jn C P) N rk := ⟨hr.1, hr.2.1, fun a c h1 h2 => by rw [moBef_c hh]; exact hr.2.2 a c h1 h2⟩
  have key := choice_eq (S := jn C P) e hs
  have hcan : ∀ D o t, stCan (jn C P) b fl n D o t = stCan C b fl n D o t := fun D o t => stCan_c (jn_lA (by decide)) (jn_lF (by decide)) (jn_lF (by omega)) (fun t t1 t4 => jn_lA (by omega))
  rw [moCh_c hh] at key
  rw [key]
  unfold stFst
  rw [show stAny (jn C P) b fl n D rk = stAny C b fl n D rk from funext fun k => by unfold stAny; rw [hcan, hcan]]
  congr 1
  funext k
  rw [hcan]
theorem moCh_pos {S : xS} {s fl x y : Nat} {room : Int32} : ∀ {n v : Nat}, moCh S s fl x y room n = some v → v / 2 < n ∧ moPos S s fl x y room (v / 2) (decide (v % 2 = 1)) = true
  | n + 1, v, h => by
    simp only [moCh] at h
    unfold moChS at h
    have hnew : ∀ (pl tu : Bool), ¬ (pl = false ∧ tu = false) → pl = moPos S s fl x y room n false → tu = moPos S s fl x y room n true → some (if pl = true then 2 * n else 2 * n + 1) = some v → v / 2 < n + 1 ∧ moPos S s fl x y room (v / 2) (decide (v % 2 = 1)) = true := by
      intro pl tu hne hp ht hv
      have hv := Option.some.inj hv
      cases pl with
      | true =>
        rw [if_pos rfl] at hv
        subst hv
        rw [show 2 * n / 2 = n by omega, show decide (2 * n % 2 = 1) = false by simp]
        exact ⟨by omega, hp.symm⟩
      | false =>
        rw [if_neg (by decide)] at hv
        subst hv
        rw [show (2 * n + 1) / 2 = n by omega, show decide ((2 * n + 1) % 2 = 1) = true from decide_eq_true (by omega)]
        refine ⟨by omega, ?_⟩
        cases tu with
        | true => exact ht.symm
        | false => exact absurd ⟨rfl, rfl⟩ hne
    split at h
    · obtain ⟨h1, h2⟩ := moCh_pos h
      exact ⟨by omega, h2⟩
    next hne =>
      cases e : moCh S s fl x y room n with
      | none =>
        rw [e] at h
        exact hnew _ _ hne rfl rfl h
      | some u =>
        rw [e] at h
        simp only [] at h
        split at h
        · exact hnew _ _ hne rfl rfl h
        · have h := Option.some.inj h
          subst h
          obtain ⟨h1, h2⟩ := moCh_pos e
          exact ⟨by omega, h2⟩
/-! how many panes of an order are laid -/
def nCt (Y : lY) (o : Nat) : Nat → Nat
  | 0 => 0
  | i + 1 => if yO Y i = o then nCt Y o i + 1 else nCt Y o i
def nCs (Y : lY) (n : Nat) : Nat → Nat
  | 0 => 0
  | o + 1 => nCs Y n o + nCt Y o n
theorem laCount_y {S : xS} {Y : lY} {m o : Nat} (h : lyOf S Y m) (ho : o < 2 ^ 30) (hO : ∀ i, i < m → yO Y i < 2 ^ 30) : ∀ i, i ≤ m → laCount S (nI o) i = nCt Y o i
  | 0, _ => rfl
  | i + 1, hi => by
    have := hO i (by omega)
    simp only [laCount, nCt]
    rw [laCount_y h ho hO i (by omega), (h i (by omega)).1]
    by_cases e : yO Y i = o
    · rw [if_pos e, if_pos (by rw [e])]
    · rw [if_neg e, if_neg (fun q => e ((nI_eq (by omega) (by omega)).mp q))]
theorem nCs_1 {Y : lY} {n : Nat} : ∀ N, nCs Y (n + 1) N = nCs Y n N + (if yO Y n < N then 1 else 0)
  | 0 => rfl
  | N + 1 => by
    simp only [nCs]
    rw [nCs_1 N]
    simp only [nCt]
    by_cases e : yO Y n = N
    · rw [if_pos e, if_neg (by omega), if_pos (by omega)]; omega
    · rw [if_neg e]
      by_cases e2 : yO Y n < N
      · rw [if_pos e2, if_pos (by omega)]; omega
      · rw [if_neg e2, if_neg (by omega)]; omega
theorem nCs_n {Y : lY} {N : Nat} : ∀ n, (∀ i, i < n → yO Y i < N) → nCs Y n N = n
  | 0, _ => by
    induction N with
    | zero => rfl
    | succ N ih => simp only [nCs, nCt]; exact ih (fun i hi => by omega)
  | n + 1, h => by
    rw [nCs_1, nCs_n n (fun i hi => h i (by omega)), if_pos (h n (by omega))]
theorem nCs_le {Y : lY} {n : Nat} : ∀ N, (∀ o, o < N → nCt Y o n ≤ 6) → nCs Y n N ≤ 6 * N
  | 0, _ => Nat.le_refl _
  | N + 1, h => by
    have h1 := nCs_le N (fun o ho => h o (by omega))
    have h2 := h N (by omega)
    simp only [nCs]
    omega
theorem nCs_lt {Y : lY} {n o : Nat} : ∀ N, (∀ o, o < N → nCt Y o n ≤ 6) → o < N → nCt Y o n < 6 → nCs Y n N < 6 * N
  | 0, _, h, _ => by omega
  | N + 1, h, ho, hl => by
    simp only [nCs]
    by_cases e : o = N
    · subst e
      have := nCs_le (Y := Y) (n := n) o (fun q hq => h q (by omega))
      omega
    · have h1 := nCs_lt N (fun q hq => h q (by omega)) (show o < N by omega) hl
      have h2 := h N (by omega)
      omega
