/-! Tree: what its methods answer and change -/
def cI : Option Nat → Int32
  | none => -1
  | some i => nI i
/-- the first below n of which p holds -/
def fstN (p : Nat → Bool) : Nat → Option Nat
  | 0 => none
  | n + 1 => match fstN p n with
    | some i => some i
    | none => if p n = true then some n else none
theorem fstN_none {p : Nat → Bool} : ∀ {n : Nat}, (∀ j, j < n → p j = false) → fstN p n = none
  | 0, _ => rfl
  | n + 1, h => by
    unfold fstN
    rw [fstN_none (fun j hj => h j (by omega))]
    simp [h n (by omega)]
theorem fstN_some {p : Nat → Bool} {i : Nat} (hi : p i = true) (hb : ∀ j, j < i → p j = false) : ∀ {n : Nat}, i < n → fstN p n = some i
  | 0, h => by omega
  | n + 1, h => by
    unfold fstN
    by_cases hn : i < n
    · rw [fstN_some hi hb hn]
    · have : i = n := by omega
      subst this
      rw [fstN_none hb]
      simp [hi]
theorem fstN_spec {p : Nat → Bool} {i : Nat} : ∀ {n : Nat}, fstN p n = some i → i < n ∧ p i = true ∧ ∀ j, j < i → p j = false
  | 0, h => by cases h
  | n + 1, h => by
    unfold fstN at h
    cases hq : fstN p n with
    | some k =>
      rw [hq] at h
      cases h
      obtain ⟨a, b, c⟩ := fstN_spec hq
      exact ⟨by omega, b, c⟩
    | none =>
      rw [hq] at h
      by_cases hp : p n = true
      · simp [hp] at h
        subst h
        refine ⟨by omega, hp, fun j hj => ?_⟩
        cases hj2 : p j with
        | false => rfl
        | true =>
          exfalso
          have key : ∀ m, m ≤ n → j < m → fstN p m ≠ none := by
            intro m
            induction m with
            | zero => intro _ h; omega
            | succ m ih =>
              intro hm hjm e
              unfold fstN at e
              cases hq2 : fstN p m with
              | some z => rw [hq2] at e; cases e
              | none =>
                rw [hq2] at e
                by_cases hz : j < m
                · exact ih (by omega) hz hq2
                · have : j = m := by omega
                  subst this
                  simp [hj2] at e
          exact key n (Nat.le_refl _) hj hq
      · simp [hp] at h
def trCut (S : xS) (b i : Nat) : Bool := decide (sA S (b + 1) i = 0) || decide (sA S (b + 1) i = nI 1)
def trSurf (S : xS) (b i : Nat) : Int64 := (sA S (b + 4) i).toInt64 * (sA S (b + 5) i).toInt64
def trWaits (S : xS) (b i : Nat) : Bool := decide (sA S (b + 8) i = nI 1)
def trWait (S : xS) (b : Nat) : Nat → Int64
  | 0 => 0
  | i + 1 => if trWaits S b i = true then trWait S b i + trSurf S b i else trWait S b i
def trE (S : xS) (b : Nat) : Nat → Nat → Nat → Nat
  | 0, i, _ => i
  | k + 1, i, p => if p = 0 then i else trE S b k (i + 1) (if trCut S b i = true then p + 1 else p - 1)
theorem trE_ge {S : xS} {b : Nat} : ∀ (k i p : Nat), i ≤ trE S b k i p ∧ trE S b k i p ≤ i + k
  | 0, i, p => ⟨Nat.le_refl _, Nat.le_refl _⟩
  | k + 1, i, p => by
    unfold trE
    split
    · omega
    · have := trE_ge (S := S) (b := b) k (i + 1) (if trCut S b i = true then p + 1 else p - 1)
      omega
def trBrk (S : xS) (b f : Nat) : Nat → xS
  | 0 => S
  | k + 1 => uA (trBrk S b f k) (b + 8) (f + k) (nI 3)
def trTell (S : xS) (b i w : Nat) : Int32 := match w with
  | 6 => if trCut S b i = true then nI i + nI 1 else -1
  | 7 => sA S (b + 7) i
  | 8 => sA S (b + 8) i
  | w => sA S (b + (w + 1)) i
def trAdd (S : xS) (b n : Nat) (k x y w h m : Int32) : xS := uF (uA (uA (uA (uA (uA (uA (uA (uA S (b + 1) n k) (b + 2) n x) (b + 3) n y) (b + 4) n w) (b + 5) n h) (b + 6) n m) (b + 7) n (-1)) (b + 8) n (nI 0)) b 8 (nI (n + 1))
def tAdd (S : xS) (b n : Nat) (k x y w h m : Int32) : xS := if n < 145 then trAdd S b n k x y w h m else S
def tN (n : Nat) : Nat := if n < 145 then n + 1 else n
def tC (n : Nat) : Int32 := if n < 145 then nI n else -1
def tRest (S : xS) (b n : Nat) (x y w h : Int32) : xS × Nat := if w ≤ 0 then (S, n) else if h ≤ 0 then (S, n) else (tAdd S b n (nI 3) x y w h (-1), tN n)
def tSec (S : xS) (b n : Nat) (c : Int32) : xS := if c = -1 then S else uA S (b + 7) c.toNatClampNeg (nI n)
set_option maxRecDepth 100000 in
set_option maxHeartbeats 1000000 in
theorem c_Tr_isGrown {G : xG} {B d : Nat} {S : xS} (hG : xOkG G) {b n : Nat} (hb : isTree b) (hn : sF S b 8 = nI n) (h145 : n ≤ 145) : EX G m_Tr_isGrown d 0 [(0, .ref (B + b))] [] (mk G B S) (xRet G B (some (.int (bI (decide (0 < n))))) S) := by
  refine x_aload_n d_Tr_isGrown_0 rfl ?_
  refine y_getf (v := .int (nI n)) d_Tr_isGrown_1 gf_Tr_36 (k_tree hb) (congrArg (fun q => some (Value.int q)) hn) ?_
  refine z_if_le 11 d_Tr_isGrown_4 rfl (by omega) (fun hc4 => ?_) (fun hc4 => ?_)
  · skip
    skip
    refine x_iconst (v := nI 0) d_Tr_isGrown_11 (by decide +kernel) ?_
    refine x_ireturn d_Tr_isGrown_12 rfl (by decide +kernel) ?_
    refine ⟨?_, rfl⟩
    first | (rw [decide_eq_true hc4]; rfl) | (rw [decide_eq_false (by omega)]; rfl)
  · skip
    skip
    refine x_iconst (v := nI 1) d_Tr_isGrown_7 (by decide +kernel) ?_
    refine x_goto 12 d_Tr_isGrown_8 rfl ?_
    refine x_ireturn d_Tr_isGrown_12 rfl (by decide +kernel) ?_
    refine ⟨?_, rfl⟩
    first | (rw [decide_eq_true hc4]; rfl) | (rw [decide_eq_false (by omega)]; rfl)
set_option maxRecDepth 100000 in
set_option maxHeartbeats 1000000 in
theorem c_Tr_clear {G : xG} {B d : Nat} {S : xS} (hG : xOkG G) {b : Nat} (hb : isTree b) : EX G m_Tr_clear d 0 [(0, .ref (B + b))] [] (mk G B S) (xRet G B none (uF S b 8 (nI 0))) := by
  refine x_aload_n d_Tr_clear_0 rfl ?_
  refine x_iconst (v := nI 0) d_Tr_clear_1 (by decide +kernel) ?_
  refine y_puti d_Tr_clear_2 pf_Tr_36 (k_tree hb) (xBle rfl) rfl rfl rfl ?_
  refine x_return d_Tr_clear_5 rfl ?_
  exact ⟨rfl, rfl⟩
set_option maxRecDepth 100000 in
set_option maxHeartbeats 1000000 in
theorem c_Tr_has {G : xG} {B d : Nat} {S : xS} (hG : xOkG G) {b n : Nat} (hb : isTree b) (hn : sF S b 8 = nI n) (h145 : n ≤ 145) {i : Int32} : EX G m_Tr_has d 0 [(0, .ref (B + b)), (1, .int i)] [] (mk G B S) (xRet G B (some (.int (bI (decide (0 ≤ i) && decide (i < nI n))))) S) := by
  refine x_iload_n d_Tr_has_0 rfl ?_
  refine x_if_lt 16 d_Tr_has_1 rfl (fun hc1 => ?_) (fun hc1 => ?_)
  · skip
    skip
    refine x_iconst (v := nI 0) d_Tr_has_16 (by decide +kernel) ?_
    refine x_ireturn d_Tr_has_17 rfl (by decide +kernel) ?_
    refine ⟨?_, rfl⟩
    first
      | (rw [decide_eq_true (Int32.not_lt.mp hc1), decide_eq_true (Int32.not_le.mp hc9)]; rfl)
      | (rw [decide_eq_false (p := i < nI n) (Int32.not_lt.mpr hc9), Bool.and_false]; rfl)
      | (rw [decide_eq_false (p := 0 ≤ i) (Int32.not_le.mpr hc1), Bool.false_and]; rfl)
  · skip
    skip
    refine x_iload_n d_Tr_has_4 rfl ?_
    refine x_aload_n d_Tr_has_5 rfl ?_
    refine y_getf (v := .int (nI n)) d_Tr_has_6 gf_Tr_36 (k_tree hb) (congrArg (fun q => some (Value.int q)) hn) ?_
    refine x_icmp_ge 16 d_Tr_has_9 rfl (fun hc9 => ?_) (fun hc9 => ?_)
    · skip
      skip
      refine x_iconst (v := nI 0) d_Tr_has_16 (by decide +kernel) ?_
      refine x_ireturn d_Tr_has_17 rfl (by decide +kernel) ?_
      refine ⟨?_, rfl⟩
      first
        | (rw [decide_eq_true (Int32.not_lt.mp hc1), decide_eq_true (Int32.not_le.mp hc9)]; rfl)
        | (rw [decide_eq_false (p := i < nI n) (Int32.not_lt.mpr hc9), Bool.and_false]; rfl)
        | (rw [decide_eq_false (p := 0 ≤ i) (Int32.not_le.mpr hc1), Bool.false_and]; rfl)
    · skip
      skip
      refine x_iconst (v := nI 1) d_Tr_has_12 (by decide +kernel) ?_
      refine x_goto 17 d_Tr_has_13 rfl ?_
      refine x_ireturn d_Tr_has_17 rfl (by decide +kernel) ?_
      refine ⟨?_, rfl⟩
      first
        | (rw [decide_eq_true (Int32.not_lt.mp hc1), decide_eq_true (Int32.not_le.mp hc9)]; rfl)
        | (rw [decide_eq_false (p := i < nI n) (Int32.not_lt.mpr hc9), Bool.and_false]; rfl)
        | (rw [decide_eq_false (p := 0 ≤ i) (Int32.not_le.mpr hc1), Bool.false_and]; rfl)
set_option maxRecDepth 100000 in
set_option maxHeartbeats 1000000 in
theorem c_Tr_isCut {G : xG} {B d : Nat} {S : xS} (hG : xOkG G) {b i : Nat} (hb : isTree b) (hi : i < 145) : EX G m_Tr_isCut d 0 [(0, .ref (B + b)), (1, .int (nI i))] [] (mk G B S) (xRet G B (some (.int (bI (trCut S b i)))) S) := by
  refine x_aload_n d_Tr_isCut_0 rfl ?_
  refine y_getf d_Tr_isCut_1 gf_Tr_9 (k_tree hb) rfl ?_
  refine x_iload_n d_Tr_isCut_4 rfl ?_
  refine y_iald hG d_Tr_isCut_5 (k_trA1 hb) _ rfl (by omega) ?_
  refine x_if_eq 19 d_Tr_isCut_6 rfl (fun hc6 => ?_) (fun hc6 => ?_)
  · skip
    skip
    refine x_iconst (v := nI 1) d_Tr_isCut_19 (by decide +kernel) ?_
    refine x_goto 24 d_Tr_isCut_20 rfl ?_
    refine x_ireturn d_Tr_isCut_24 rfl (by decide +kernel) ?_
    refine ⟨?_, rfl⟩
    simp [trCut, bI, *]
  · skip
    skip
    refine x_aload_n d_Tr_isCut_9 rfl ?_
    refine y_getf d_Tr_isCut_10 gf_Tr_9 (k_tree hb) rfl ?_
    refine x_iload_n d_Tr_isCut_13 rfl ?_
    refine y_iald hG d_Tr_isCut_14 (k_trA1 hb) _ rfl (by omega) ?_
    refine x_iconst (v := nI 1) d_Tr_isCut_15 (by decide +kernel) ?_
    refine x_icmp_ne 23 d_Tr_isCut_16 rfl (fun hc16 => ?_) (fun hc16 => ?_)
    · skip
      skip
      refine x_iconst (v := nI 0) d_Tr_isCut_23 (by decide +kernel) ?_
      refine x_ireturn d_Tr_isCut_24 rfl (by decide +kernel) ?_
      refine ⟨?_, rfl⟩
      simp [trCut, bI, *]
    · skip
      skip
      refine x_iconst (v := nI 1) d_Tr_isCut_19 (by decide +kernel) ?_
      refine x_goto 24 d_Tr_isCut_20 rfl ?_
      refine x_ireturn d_Tr_isCut_24 rfl (by decide +kernel) ?_
      refine ⟨?_, rfl⟩
      simp [trCut, bI, *]
set_option maxRecDepth 100000 in
set_option maxHeartbeats 1000000 in
theorem c_Tr_surface {G : xG} {B d : Nat} {S : xS} (hG : xOkG G) {b i : Nat} (hb : isTree b) (hi : i < 145) : EX G m_Tr_surface d 0 [(0, .ref (B + b)), (1, .int (nI i))] [] (mk G B S) (xRet G B (some (.long (trSurf S b i))) S) := by
  refine x_aload_n d_Tr_surface_0 rfl ?_
  refine y_getf d_Tr_surface_1 gf_Tr_21 (k_tree hb) rfl ?_
  refine x_iload_n d_Tr_surface_4 rfl ?_
  refine y_iald hG d_Tr_surface_5 (k_trA4 hb) _ rfl (by omega) ?_
  refine x_i2l d_Tr_surface_6 ?_
  refine x_aload_n d_Tr_surface_7 rfl ?_
  refine y_getf d_Tr_surface_8 gf_Tr_24 (k_tree hb) rfl ?_
  refine x_iload_n d_Tr_surface_11 rfl ?_
  refine y_iald hG d_Tr_surface_12 (k_trA5 hb) _ rfl (by omega) ?_
  refine x_i2l d_Tr_surface_13 ?_
  refine x_lmul d_Tr_surface_14 ?_
  refine x_lreturn d_Tr_surface_15 rfl ?_
  exact ⟨rfl, rfl⟩
set_option maxRecDepth 100000 in
set_option maxHeartbeats 1000000 in
theorem c_Tr_firstWaiting {G : xG} {B d : Nat} {S : xS} (hG : xOkG G) {b n : Nat} (hb : isTree b) (hn : sF S b 8 = nI n) (h145 : n ≤ 145) : EX G m_Tr_firstWaiting d 0 [(0, .ref (B + b))] [] (mk G B S) ((xRet G B (some (.int (cI (fstN (trWaits S b) n)))) S)) := by
  refine x_iconst (v := nI 0) d_Tr_firstWaiting_0 (by decide +kernel) ?_
  refine s_istore_n (lv' := [(0, _), (1, _)]) d_Tr_firstWaiting_1 (by decide) rfl ?_
  have L2 : ∀ i, i ≤ n → (∀ j, j < i → trWaits S b j = false) → EX G m_Tr_firstWaiting d 2 [(0, .ref (B + b)), (1, .int (nI i))] [] (mk G B S) (xRet G B (some (.int (cI (fstN (trWaits S b) n)))) S) := by
    refine x_down (n) ?_ ?_
    · skip
      skip
      intro hp
      refine x_iload_n d_Tr_firstWaiting_2 rfl ?_
      refine x_aload_n d_Tr_firstWaiting_3 rfl ?_
      refine y_getf (v := .int (nI n)) d_Tr_firstWaiting_4 gf_Tr_36 (k_tree hb) (congrArg (fun q => some (Value.int q)) hn) ?_
      refine z_icmp_ge 28 d_Tr_firstWaiting_7 rfl (by omega) (by omega) (fun hc7 => ?_) (fun q => absurd q (by omega))
      refine x_iconst (v := -1) d_Tr_firstWaiting_28 (by decide +kernel) ?_
      refine x_ireturn d_Tr_firstWaiting_29 rfl rfl ?_
      refine ⟨?_, rfl⟩
      rw [fstN_none hp]; rfl
    · intro i hi ih
      intro hp
      refine x_iload_n d_Tr_firstWaiting_2 rfl ?_
      refine x_aload_n d_Tr_firstWaiting_3 rfl ?_
      refine y_getf (v := .int (nI n)) d_Tr_firstWaiting_4 gf_Tr_36 (k_tree hb) (congrArg (fun q => some (Value.int q)) hn) ?_
      refine z_icmp_ge 28 d_Tr_firstWaiting_7 rfl (by omega) (by omega) (fun q => absurd q (by omega)) (fun hc7 => ?_)
      refine x_aload_n d_Tr_firstWaiting_10 rfl ?_
      refine y_getf d_Tr_firstWaiting_11 gf_Tr_33 (k_tree hb) rfl ?_
      refine x_iload_n d_Tr_firstWaiting_14 rfl ?_
      refine y_iald hG d_Tr_firstWaiting_15 (k_trA8 hb) _ rfl (by omega) ?_
      refine x_iconst (v := nI 1) d_Tr_firstWaiting_16 (by decide +kernel) ?_
      refine x_icmp_ne 22 d_Tr_firstWaiting_17 rfl (fun hc17 => ?_) (fun hc17 => ?_)
      · skip
        skip
        refine s_iinc (lv' := [(0, _), (1, _)]) d_Tr_firstWaiting_22 rfl (xinc _) (by decide) rfl ?_
        refine x_goto 2 d_Tr_firstWaiting_25 rfl ?_
        refine x_lv (lv' := [(0, _), (1, _)]) [0, 1] rfl ?_
        exact ih (lt_s hp (by simp [trWaits, hc17]))
      · skip
        skip
        refine x_iload_n d_Tr_firstWaiting_20 rfl ?_
        refine x_ireturn d_Tr_firstWaiting_21 rfl rfl ?_
        refine ⟨?_, rfl⟩
        rw [fstN_some (i := i) (by simp [trWaits, hc17]) hp hi]; rfl
  refine x_lv (lv' := [(0, _), (1, _)]) [0, 1] rfl ?_
  exact L2 0 (Nat.zero_le _) lt_0
set_option maxRecDepth 100000 in
set_option maxHeartbeats 1000000 in
theorem c_Tr_waitingSurface {G : xG} {B d : Nat} {S : xS} (hG : xOkG G) {b n : Nat} (hb : isTree b) (hn : sF S b 8 = nI n) (h145 : n ≤ 145) : EX G m_Tr_waitingSurface (d + 1) 0 [(0, .ref (B + b))] [] (mk G B S) ((xRet G B (some (.long (trWait S b n))) S)) := by
  refine x_lconst (v := 0) d_Tr_waitingSurface_0 (by decide +kernel) ?_
  refine s_lstore_n (lv' := [(0, _), (1, _)]) d_Tr_waitingSurface_1 (by decide) rfl ?_
  refine x_iconst (v := nI 0) d_Tr_waitingSurface_2 (by decide +kernel) ?_
  refine s_istore_n (lv' := [(0, _), (1, _), (3, _)]) d_Tr_waitingSurface_3 (by decide) rfl ?_
  have L4 : ∀ i, i ≤ n →  EX G m_Tr_waitingSurface (d + 1) 4 [(0, .ref (B + b)), (1, .long (trWait S b i)), (3, .int (nI i))] [] (mk G B S) (xRet G B (some (.long (trWait S b n))) S) := by
    refine x_down (n) ?_ ?_
    · skip
      skip
      refine x_iload_n d_Tr_waitingSurface_4 rfl ?_
      refine x_aload_n d_Tr_waitingSurface_5 rfl ?_
      refine y_getf (v := .int (nI n)) d_Tr_waitingSurface_6 gf_Tr_36 (k_tree hb) (congrArg (fun q => some (Value.int q)) hn) ?_
      refine z_icmp_ge 36 d_Tr_waitingSurface_9 rfl (by omega) (by omega) (fun hc9 => ?_) (fun q => absurd q (by omega))
      refine x_lload_n d_Tr_waitingSurface_36 rfl ?_
      refine x_lreturn d_Tr_waitingSurface_37 rfl ?_
      exact ⟨rfl, rfl⟩
    · intro i hi ih
      refine x_iload_n d_Tr_waitingSurface_4 rfl ?_
      refine x_aload_n d_Tr_waitingSurface_5 rfl ?_
      refine y_getf (v := .int (nI n)) d_Tr_waitingSurface_6 gf_Tr_36 (k_tree hb) (congrArg (fun q => some (Value.int q)) hn) ?_
      refine z_icmp_ge 36 d_Tr_waitingSurface_9 rfl (by omega) (by omega) (fun q => absurd q (by omega)) (fun hc9 => ?_)
      refine x_aload_n d_Tr_waitingSurface_12 rfl ?_
      refine y_getf d_Tr_waitingSurface_13 gf_Tr_33 (k_tree hb) rfl ?_
      refine x_iload_n d_Tr_waitingSurface_16 rfl ?_
      refine y_iald hG d_Tr_waitingSurface_17 (k_trA8 hb) _ rfl (by omega) ?_
      refine x_iconst (v := nI 1) d_Tr_waitingSurface_18 (by decide +kernel) ?_
      refine x_icmp_ne 30 d_Tr_waitingSurface_19 rfl (fun hc19 => ?_) (fun hc19 => ?_)
      · skip
        skip
        refine s_iinc (lv' := [(0, _), (1, _), (3, _)]) d_Tr_waitingSurface_30 rfl (xinc _) (by decide) rfl ?_
        refine x_goto 4 d_Tr_waitingSurface_33 rfl ?_
        refine x_lv (lv' := [(0, _), (1, _), (3, _)]) [0, 1, 3] rfl ?_
        simp only [trWait, trWaits, hc19, decide_true, decide_false, if_true, if_false, Bool.false_eq_true] at ih
        exact ih
      · skip
        skip
        refine x_lload_n d_Tr_waitingSurface_22 rfl ?_
        refine x_aload_n d_Tr_waitingSurface_23 rfl ?_
        refine x_iload_n d_Tr_waitingSurface_24 rfl ?_
        refine w_callV (As := [_]) d_Tr_waitingSurface_25 k_Tr_93 (k_tree hb) rfl rfl rfl (c_Tr_surface hG hb (by omega)) ?_
        refine x_ladd d_Tr_waitingSurface_28 ?_
        refine s_lstore_n (lv' := [(0, _), (1, _), (3, _)]) d_Tr_waitingSurface_29 (by decide) rfl ?_
        refine s_iinc (lv' := [(0, _), (1, _), (3, _)]) d_Tr_waitingSurface_30 rfl (xinc _) (by decide) rfl ?_
        refine x_goto 4 d_Tr_waitingSurface_33 rfl ?_
        refine x_lv (lv' := [(0, _), (1, _), (3, _)]) [0, 1, 3] rfl ?_
        simp only [trWait, trWaits, hc19, decide_true, decide_false, if_true, if_false, Bool.false_eq_true] at ih
        exact ih
  refine x_lv (lv' := [(0, _), (1, _), (3, _)]) [0, 1, 3] rfl ?_
  exact L4 0 (Nat.zero_le _)
set_option maxRecDepth 100000 in
set_option maxHeartbeats 1000000 in
theorem c_Tr_endOf {G : xG} {B d : Nat} {S : xS} (hG : xOkG G) {b n : Nat} (hb : isTree b) (hn : sF S b 8 = nI n) (h145 : n ≤ 145) {f : Nat} (hf : f ≤ n) : EX G m_Tr_endOf (d + 1) 0 [(0, .ref (B + b)), (1, .int (nI f))] [] (mk G B S) (xRet G B (some (.int (nI (trE S b (n - f) f 1)))) S) := by
  refine x_iconst (v := nI 1) d_Tr_endOf_0 (by decide +kernel) ?_
  refine s_istore_n (lv' := [(0, _), (1, _), (2, _)]) d_Tr_endOf_1 (by decide) rfl ?_
  refine x_iload_n d_Tr_endOf_2 rfl ?_
  refine s_istore_n (lv' := [(0, _), (1, _), (2, _), (3, _)]) d_Tr_endOf_3 (by decide) rfl ?_
  have L4 : ∀ i, i ≤ n → ∀ p, p ≤ i + 1 → EX G m_Tr_endOf (d + 1) 4 [(0, .ref (B + b)), (1, .int (nI f)), (2, .int (nI p)), (3, .int (nI i))] [] (mk G B S) (xRet G B (some (.int (nI (trE S b (n - i) i p)))) S) := by
    refine x_down (n) ?_ ?_
    · skip
      skip
      intro p hp
      refine x_iload_n d_Tr_endOf_4 rfl ?_
      refine x_aload_n d_Tr_endOf_5 rfl ?_
      refine y_getf (v := .int (nI n)) d_Tr_endOf_6 gf_Tr_36 (k_tree hb) (congrArg (fun q => some (Value.int q)) hn) ?_
      refine z_icmp_ge 38 d_Tr_endOf_9 rfl (by omega) (by omega) (fun hc9 => ?_) (fun q => absurd q (by omega))
      refine x_iload_n d_Tr_endOf_38 rfl ?_
      refine x_ireturn d_Tr_endOf_39 rfl rfl ?_
      refine ⟨?_, rfl⟩
      first
        | (rw [Nat.sub_self]; rfl)
        | (rw [show n - i = (n - i - 1) + 1 by omega]; simp [trE, hc13])
    · intro i hi ih
      intro p hp
      refine x_iload_n d_Tr_endOf_4 rfl ?_
      refine x_aload_n d_Tr_endOf_5 rfl ?_
      refine y_getf (v := .int (nI n)) d_Tr_endOf_6 gf_Tr_36 (k_tree hb) (congrArg (fun q => some (Value.int q)) hn) ?_
      refine z_icmp_ge 38 d_Tr_endOf_9 rfl (by omega) (by omega) (fun q => absurd q (by omega)) (fun hc9 => ?_)
      refine x_iload_n d_Tr_endOf_12 rfl ?_
      refine z_if_le 38 d_Tr_endOf_13 rfl (by omega) (fun hc13 => ?_) (fun hc13 => ?_)
      · skip
        skip
        refine x_iload_n d_Tr_endOf_38 rfl ?_
        refine x_ireturn d_Tr_endOf_39 rfl rfl ?_
        refine ⟨?_, rfl⟩
        first
          | (rw [Nat.sub_self]; rfl)
          | (rw [show n - i = (n - i - 1) + 1 by omega]; simp [trE, hc13])
      · skip
        skip
        refine x_iload_n d_Tr_endOf_16 rfl ?_
        refine x_aload_n d_Tr_endOf_17 rfl ?_
        refine x_iload_n d_Tr_endOf_18 rfl ?_
        refine w_callV (As := [_]) d_Tr_endOf_19 k_Tr_97 (k_tree hb) rfl rfl rfl (c_Tr_isCut hG hb (by omega)) ?_
        refine z_bif_eq 29 d_Tr_endOf_22 rfl (fun hc22 => ?_) (fun hc22 => ?_)
        · skip
          skip
          refine x_iconst (v := -1) d_Tr_endOf_29 (by decide +kernel) ?_
          refine x_iadd d_Tr_endOf_30 ?_
          first | rw [nI_add] | (obtain ⟨z, rfl⟩ : ∃ z, p = z + 1 := ⟨p - 1, by omega⟩; rw [pk_m1])
          refine s_istore_n (lv' := [(0, _), (1, _), (2, _), (3, _)]) d_Tr_endOf_31 (by decide) rfl ?_
          refine s_iinc (lv' := [(0, _), (1, _), (2, _), (3, _)]) d_Tr_endOf_32 rfl (xinc _) (by decide) rfl ?_
          refine x_goto 4 d_Tr_endOf_35 rfl ?_
          refine x_lv (lv' := [(0, _), (1, _), (2, _), (3, _)]) [0, 1, 2, 3] rfl ?_
          first
  | (rw [show trE S b (n - i) i p = trE S b (n - (i + 1)) (i + 1) (p + 1) by
        rw [show n - i = (n - (i + 1)) + 1 by omega]
        simp [trE, hc22, Nat.pos_iff_ne_zero.mp hc13]]
     exact ih _ (by omega))
  | (rw [show trE S b (n - i) i (z + 1) = trE S b (n - (i + 1)) (i + 1) z by
        rw [show n - i = (n - (i + 1)) + 1 by omega]
        simp [trE, hc22]]
     exact ih _ (by omega))
        · skip
          skip
          refine x_iconst (v := nI 1) d_Tr_endOf_25 (by decide +kernel) ?_
          refine x_goto 30 d_Tr_endOf_26 rfl ?_
          refine x_iadd d_Tr_endOf_30 ?_
          first | rw [nI_add] | (obtain ⟨z, rfl⟩ : ∃ z, p = z + 1 := ⟨p - 1, by omega⟩; rw [pk_m1])
          refine s_istore_n (lv' := [(0, _), (1, _), (2, _), (3, _)]) d_Tr_endOf_31 (by decide) rfl ?_
          refine s_iinc (lv' := [(0, _), (1, _), (2, _), (3, _)]) d_Tr_endOf_32 rfl (xinc _) (by decide) rfl ?_
          refine x_goto 4 d_Tr_endOf_35 rfl ?_
          refine x_lv (lv' := [(0, _), (1, _), (2, _), (3, _)]) [0, 1, 2, 3] rfl ?_
          first
  | (rw [show trE S b (n - i) i p = trE S b (n - (i + 1)) (i + 1) (p + 1) by
        rw [show n - i = (n - (i + 1)) + 1 by omega]
        simp [trE, hc22, Nat.pos_iff_ne_zero.mp hc13]]
     exact ih _ (by omega))
  | (rw [show trE S b (n - i) i (z + 1) = trE S b (n - (i + 1)) (i + 1) z by
        rw [show n - i = (n - (i + 1)) + 1 by omega]
        simp [trE, hc22]]
     exact ih _ (by omega))
  refine x_lv (lv' := [(0, _), (1, _), (2, _), (3, _)]) [0, 1, 2, 3] rfl ?_
  exact L4 f hf 1 (by omega)
theorem trBrk_F {S : xS} {b f : Nat} : ∀ k, sF (trBrk S b f k) = sF S
  | 0 => rfl
  | k + 1 => trBrk_F k
set_option maxRecDepth 100000 in
set_option maxHeartbeats 1000000 in
theorem c_Tr_breakFrom {G : xG} {B d : Nat} {S : xS} (hG : xOkG G) {b n : Nat} (hb : isTree b) (hn : sF S b 8 = nI n) (h145 : n ≤ 145) {f : Nat} (hf : f ≤ n) : EX G m_Tr_breakFrom (d + 2) 0 [(0, .ref (B + b)), (1, .int (nI f))] [] (mk G B S) ((xRet G B none (trBrk S b f (trE S b (n - f) f 1 - f)))) := by
  have hE := trE_ge (S := S) (b := b) (n - f) f 1
  refine x_aload_n d_Tr_breakFrom_0 rfl ?_
  refine x_iload_n d_Tr_breakFrom_1 rfl ?_
  refine w_callV (As := [_]) d_Tr_breakFrom_2 k_Tr_101 (k_tree hb) rfl rfl rfl (c_Tr_endOf hG hb hn h145 hf) ?_
  refine s_istore_n (lv' := [(0, _), (1, _), (2, _)]) d_Tr_breakFrom_5 (by decide) rfl ?_
  refine x_iload_n d_Tr_breakFrom_6 rfl ?_
  refine s_istore_n (lv' := [(0, _), (1, _), (2, _), (3, _)]) d_Tr_breakFrom_7 (by decide) rfl ?_
  have L8 : ∀ i, i ≤ (trE S b (n - f) f 1 - f) →  EX G m_Tr_breakFrom (d + 2) 8 [(0, .ref (B + b)), (1, .int (nI f)), (2, .int (nI (trE S b (n - f) f 1))), (3, .int (nI (f + i)))] [] (mk G B (trBrk S b f i)) (xRet G B none (trBrk S b f (trE S b (n - f) f 1 - f))) := by
    refine x_down ((trE S b (n - f) f 1 - f)) ?_ ?_
    · skip
      skip
      refine x_iload_n d_Tr_breakFrom_8 rfl ?_
      refine x_iload_n d_Tr_breakFrom_9 rfl ?_
      refine z_icmp_ge 26 d_Tr_breakFrom_10 rfl (by omega) (by omega) (fun hc10 => ?_) (fun q => absurd q (by omega))
      refine x_return d_Tr_breakFrom_26 rfl ?_
      exact ⟨rfl, rfl⟩
    · intro i hi ih
      refine x_iload_n d_Tr_breakFrom_8 rfl ?_
      refine x_iload_n d_Tr_breakFrom_9 rfl ?_
      refine z_icmp_ge 26 d_Tr_breakFrom_10 rfl (by omega) (by omega) (fun q => absurd q (by omega)) (fun hc10 => ?_)
      refine x_aload_n d_Tr_breakFrom_13 rfl ?_
      refine y_getf d_Tr_breakFrom_14 gf_Tr_33 (k_tree hb) rfl ?_
      refine x_iload_n d_Tr_breakFrom_17 rfl ?_
      refine x_iconst (v := nI 3) d_Tr_breakFrom_18 (by decide +kernel) ?_
      refine y_iast hG d_Tr_breakFrom_19 (k_trA8 hb) _ rfl (by omega) ?_
      refine s_iinc (lv' := [(0, _), (1, _), (2, _), (3, _)]) d_Tr_breakFrom_20 rfl (xinc _) (by decide) rfl ?_
      refine x_goto 8 d_Tr_breakFrom_23 rfl ?_
      refine x_lv (lv' := [(0, _), (1, _), (2, _), (3, _)]) [0, 1, 2, 3] rfl ?_
      exact ih
  refine x_lv (lv' := [(0, _), (1, _), (2, _), (3, _)]) [0, 1, 2, 3] rfl ?_
  exact L8 0 (Nat.zero_le _)
set_option maxRecDepth 100000 in
set_option maxHeartbeats 1000000 in
theorem c_Tr_tell0 {G : xG} {B d : Nat} {S : xS} (hG : xOkG G) {b i : Nat} (hb : isTree b) (hi : i < 145) : EX G m_Tr_tell (d + 1) 0 [(0, .ref (B + b)), (1, .int (nI i)), (2, .int (nI 0))] [] (mk G B S) (xRet G B (some (.int (trTell S b i 0))) S) := by
  refine x_iload_n d_Tr_tell_0 rfl ?_
  refine x_tableIn (off := 47) 48 d_Tr_tell_1 (by decide +kernel) (by decide +kernel) (by decide +kernel) rfl ?_
  refine x_aload_n d_Tr_tell_48 rfl ?_
  refine y_getf d_Tr_tell_49 gf_Tr_9 (k_tree hb) rfl ?_
  refine x_iload_n d_Tr_tell_52 rfl ?_
  refine y_iald hG d_Tr_tell_53 (k_trA1 hb) _ rfl (by omega) ?_
  refine x_ireturn d_Tr_tell_54 rfl rfl ?_
  exact ⟨rfl, rfl⟩
set_option maxRecDepth 100000 in
set_option maxHeartbeats 1000000 in
theorem c_Tr_tell1 {G : xG} {B d : Nat} {S : xS} (hG : xOkG G) {b i : Nat} (hb : isTree b) (hi : i < 145) : EX G m_Tr_tell (d + 1) 0 [(0, .ref (B + b)), (1, .int (nI i)), (2, .int (nI 1))] [] (mk G B S) (xRet G B (some (.int (trTell S b i 1))) S) := by
  refine x_iload_n d_Tr_tell_0 rfl ?_
  refine x_tableIn (off := 54) 55 d_Tr_tell_1 (by decide +kernel) (by decide +kernel) (by decide +kernel) rfl ?_
  refine x_aload_n d_Tr_tell_55 rfl ?_
  refine y_getf d_Tr_tell_56 gf_Tr_15 (k_tree hb) rfl ?_
  refine x_iload_n d_Tr_tell_59 rfl ?_
  refine y_iald hG d_Tr_tell_60 (k_trA2 hb) _ rfl (by omega) ?_
  refine x_ireturn d_Tr_tell_61 rfl rfl ?_
  exact ⟨rfl, rfl⟩
set_option maxRecDepth 100000 in
set_option maxHeartbeats 1000000 in
theorem c_Tr_tell2 {G : xG} {B d : Nat} {S : xS} (hG : xOkG G) {b i : Nat} (hb : isTree b) (hi : i < 145) : EX G m_Tr_tell (d + 1) 0 [(0, .ref (B + b)), (1, .int (nI i)), (2, .int (nI 2))] [] (mk G B S) (xRet G B (some (.int (trTell S b i 2))) S) := by
  refine x_iload_n d_Tr_tell_0 rfl ?_
  refine x_tableIn (off := 61) 62 d_Tr_tell_1 (by decide +kernel) (by decide +kernel) (by decide +kernel) rfl ?_
  refine x_aload_n d_Tr_tell_62 rfl ?_
  refine y_getf d_Tr_tell_63 gf_Tr_18 (k_tree hb) rfl ?_
  refine x_iload_n d_Tr_tell_66 rfl ?_
  refine y_iald hG d_Tr_tell_67 (k_trA3 hb) _ rfl (by omega) ?_
  refine x_ireturn d_Tr_tell_68 rfl rfl ?_
  exact ⟨rfl, rfl⟩
set_option maxRecDepth 100000 in
set_option maxHeartbeats 1000000 in
theorem c_Tr_tell3 {G : xG} {B d : Nat} {S : xS} (hG : xOkG G) {b i : Nat} (hb : isTree b) (hi : i < 145) : EX G m_Tr_tell (d + 1) 0 [(0, .ref (B + b)), (1, .int (nI i)), (2, .int (nI 3))] [] (mk G B S) (xRet G B (some (.int (trTell S b i 3))) S) := by
  refine x_iload_n d_Tr_tell_0 rfl ?_
  refine x_tableIn (off := 68) 69 d_Tr_tell_1 (by decide +kernel) (by decide +kernel) (by decide +kernel) rfl ?_
  refine x_aload_n d_Tr_tell_69 rfl ?_
  refine y_getf d_Tr_tell_70 gf_Tr_21 (k_tree hb) rfl ?_
  refine x_iload_n d_Tr_tell_73 rfl ?_
  refine y_iald hG d_Tr_tell_74 (k_trA4 hb) _ rfl (by omega) ?_
  refine x_ireturn d_Tr_tell_75 rfl rfl ?_
  exact ⟨rfl, rfl⟩
set_option maxRecDepth 100000 in
set_option maxHeartbeats 1000000 in
theorem c_Tr_tell4 {G : xG} {B d : Nat} {S : xS} (hG : xOkG G) {b i : Nat} (hb : isTree b) (hi : i < 145) : EX G m_Tr_tell (d + 1) 0 [(0, .ref (B + b)), (1, .int (nI i)), (2, .int (nI 4))] [] (mk G B S) (xRet G B (some (.int (trTell S b i 4))) S) := by
  refine x_iload_n d_Tr_tell_0 rfl ?_
  refine x_tableIn (off := 75) 76 d_Tr_tell_1 (by decide +kernel) (by decide +kernel) (by decide +kernel) rfl ?_
  refine x_aload_n d_Tr_tell_76 rfl ?_
  refine y_getf d_Tr_tell_77 gf_Tr_24 (k_tree hb) rfl ?_
  refine x_iload_n d_Tr_tell_80 rfl ?_
  refine y_iald hG d_Tr_tell_81 (k_trA5 hb) _ rfl (by omega) ?_
  refine x_ireturn d_Tr_tell_82 rfl rfl ?_
  exact ⟨rfl, rfl⟩
set_option maxRecDepth 100000 in
set_option maxHeartbeats 1000000 in
theorem c_Tr_tell5 {G : xG} {B d : Nat} {S : xS} (hG : xOkG G) {b i : Nat} (hb : isTree b) (hi : i < 145) : EX G m_Tr_tell (d + 1) 0 [(0, .ref (B + b)), (1, .int (nI i)), (2, .int (nI 5))] [] (mk G B S) (xRet G B (some (.int (trTell S b i 5))) S) := by
  refine x_iload_n d_Tr_tell_0 rfl ?_
  refine x_tableIn (off := 82) 83 d_Tr_tell_1 (by decide +kernel) (by decide +kernel) (by decide +kernel) rfl ?_
  refine x_aload_n d_Tr_tell_83 rfl ?_
  refine y_getf d_Tr_tell_84 gf_Tr_27 (k_tree hb) rfl ?_
  refine x_iload_n d_Tr_tell_87 rfl ?_
  refine y_iald hG d_Tr_tell_88 (k_trA6 hb) _ rfl (by omega) ?_
  refine x_ireturn d_Tr_tell_89 rfl rfl ?_
  exact ⟨rfl, rfl⟩
set_option maxRecDepth 100000 in
set_option maxHeartbeats 1000000 in
theorem c_Tr_tell6 {G : xG} {B d : Nat} {S : xS} (hG : xOkG G) {b i : Nat} (hb : isTree b) (hi : i < 145) : EX G m_Tr_tell (d + 1) 0 [(0, .ref (B + b)), (1, .int (nI i)), (2, .int (nI 6))] [] (mk G B S) (xRet G B (some (.int (trTell S b i 6))) S) := by
  refine x_iload_n d_Tr_tell_0 rfl ?_
  refine x_tableIn (off := 89) 90 d_Tr_tell_1 (by decide +kernel) (by decide +kernel) (by decide +kernel) rfl ?_
  refine x_aload_n d_Tr_tell_90 rfl ?_
  refine x_iload_n d_Tr_tell_91 rfl ?_
  refine w_callV (As := [_]) d_Tr_tell_92 k_Tr_97 (k_tree hb) rfl rfl rfl (c_Tr_isCut hG hb hi) ?_
  refine z_bif_eq 104 d_Tr_tell_95 rfl (fun hc95 => ?_) (fun hc95 => ?_)
  · skip
    skip
    refine x_iconst (v := -1) d_Tr_tell_104 (by decide +kernel) ?_
    refine x_ireturn d_Tr_tell_105 rfl rfl ?_
    refine ⟨?_, rfl⟩
    simp [trTell, hc95]
  · skip
    skip
    refine x_iload_n d_Tr_tell_98 rfl ?_
    refine x_iconst (v := nI 1) d_Tr_tell_99 (by decide +kernel) ?_
    refine x_iadd d_Tr_tell_100 ?_
    refine x_goto 105 d_Tr_tell_101 rfl ?_
    refine x_ireturn d_Tr_tell_105 rfl rfl ?_
    refine ⟨?_, rfl⟩
    simp [trTell, hc95]
set_option maxRecDepth 100000 in
set_option maxHeartbeats 1000000 in
theorem c_Tr_tell7 {G : xG} {B d : Nat} {S : xS} (hG : xOkG G) {b i : Nat} (hb : isTree b) (hi : i < 145) : EX G m_Tr_tell (d + 1) 0 [(0, .ref (B + b)), (1, .int (nI i)), (2, .int (nI 7))] [] (mk G B S) (xRet G B (some (.int (trTell S b i 7))) S) := by
  refine x_iload_n d_Tr_tell_0 rfl ?_
  refine x_tableIn (off := 105) 106 d_Tr_tell_1 (by decide +kernel) (by decide +kernel) (by decide +kernel) rfl ?_
  refine x_aload_n d_Tr_tell_106 rfl ?_
  refine y_getf d_Tr_tell_107 gf_Tr_30 (k_tree hb) rfl ?_
  refine x_iload_n d_Tr_tell_110 rfl ?_
  refine y_iald hG d_Tr_tell_111 (k_trA7 hb) _ rfl (by omega) ?_
  refine x_ireturn d_Tr_tell_112 rfl rfl ?_
  exact ⟨rfl, rfl⟩
set_option maxRecDepth 100000 in
set_option maxHeartbeats 1000000 in
theorem c_Tr_tell8 {G : xG} {B d : Nat} {S : xS} (hG : xOkG G) {b i : Nat} (hb : isTree b) (hi : i < 145) : EX G m_Tr_tell (d + 1) 0 [(0, .ref (B + b)), (1, .int (nI i)), (2, .int (nI 8))] [] (mk G B S) (xRet G B (some (.int (trTell S b i 8))) S) := by
  refine x_iload_n d_Tr_tell_0 rfl ?_
  refine x_tableOut 113 d_Tr_tell_1 (by decide +kernel) rfl ?_
  refine x_aload_n d_Tr_tell_113 rfl ?_
  refine y_getf d_Tr_tell_114 gf_Tr_33 (k_tree hb) rfl ?_
  refine x_iload_n d_Tr_tell_117 rfl ?_
  refine y_iald hG d_Tr_tell_118 (k_trA8 hb) _ rfl (by omega) ?_
  refine x_ireturn d_Tr_tell_119 rfl rfl ?_
  exact ⟨rfl, rfl⟩
theorem va_at8 {F : Nat → Int32} {x : Int32} : va_up F 8 x 8 = x := va_up_self _ _ _
set_option maxRecDepth 100000 in
set_option maxHeartbeats 1000000 in
theorem c_Tr_add {G : xG} {B d : Nat} {S : xS} (hG : xOkG G) {b n : Nat} (hb : isTree b) (hn : sF S b 8 = nI n) (h145 : n ≤ 145) {k x y w h m : Int32} : EX G m_Tr_add d 0 [(0, .ref (B + b)), (1, .int k), (2, .int x), (3, .int y), (4, .int w), (5, .int h), (6, .int m)] [] (mk G B S) (xRet G B (some (.int (tC n))) (tAdd S b n k x y w h m)) := by
  refine x_aload_n d_Tr_add_0 rfl ?_
  refine y_getf (v := .int (nI n)) d_Tr_add_1 gf_Tr_36 (k_tree hb) (congrArg (fun q => some (Value.int q)) hn) ?_
  refine x_sipush (v := nI 145) d_Tr_add_4 (by decide +kernel) ?_
  refine z_icmp_lt 12 d_Tr_add_7 rfl (by omega) (by omega) (fun hc7 => ?_) (fun hc7 => ?_)
  · skip
    skip
    refine x_aload_n d_Tr_add_12 rfl ?_
    refine y_getf d_Tr_add_13 gf_Tr_9 (k_tree hb) rfl ?_
    refine x_aload_n d_Tr_add_16 rfl ?_
    refine y_getf (v := .int (nI n)) d_Tr_add_17 gf_Tr_36 (k_tree hb) (congrArg (fun q => some (Value.int q)) hn) ?_
    refine x_iload_n d_Tr_add_20 rfl ?_
    refine y_iast hG d_Tr_add_21 (k_trA1 hb) _ rfl (by omega) ?_
    refine x_aload_n d_Tr_add_22 rfl ?_
    refine y_getf d_Tr_add_23 gf_Tr_15 (k_tree hb) rfl ?_
    refine x_aload_n d_Tr_add_26 rfl ?_
    refine y_getf (v := .int (nI n)) d_Tr_add_27 gf_Tr_36 (k_tree hb) (congrArg (fun q => some (Value.int q)) hn) ?_
    refine x_iload_n d_Tr_add_30 rfl ?_
    refine y_iast hG d_Tr_add_31 (k_trA2 hb) _ rfl (by omega) ?_
    refine x_aload_n d_Tr_add_32 rfl ?_
    refine y_getf d_Tr_add_33 gf_Tr_18 (k_tree hb) rfl ?_
    refine x_aload_n d_Tr_add_36 rfl ?_
    refine y_getf (v := .int (nI n)) d_Tr_add_37 gf_Tr_36 (k_tree hb) (congrArg (fun q => some (Value.int q)) hn) ?_
    refine x_iload_n d_Tr_add_40 rfl ?_
    refine y_iast hG d_Tr_add_41 (k_trA3 hb) _ rfl (by omega) ?_
    refine x_aload_n d_Tr_add_42 rfl ?_
    refine y_getf d_Tr_add_43 gf_Tr_21 (k_tree hb) rfl ?_
    refine x_aload_n d_Tr_add_46 rfl ?_
    refine y_getf (v := .int (nI n)) d_Tr_add_47 gf_Tr_36 (k_tree hb) (congrArg (fun q => some (Value.int q)) hn) ?_
    refine x_iload d_Tr_add_50 rfl ?_
    refine y_iast hG d_Tr_add_52 (k_trA4 hb) _ rfl (by omega) ?_
    refine x_aload_n d_Tr_add_53 rfl ?_
    refine y_getf d_Tr_add_54 gf_Tr_24 (k_tree hb) rfl ?_
    refine x_aload_n d_Tr_add_57 rfl ?_
    refine y_getf (v := .int (nI n)) d_Tr_add_58 gf_Tr_36 (k_tree hb) (congrArg (fun q => some (Value.int q)) hn) ?_
    refine x_iload d_Tr_add_61 rfl ?_
    refine y_iast hG d_Tr_add_63 (k_trA5 hb) _ rfl (by omega) ?_
    refine x_aload_n d_Tr_add_64 rfl ?_
    refine y_getf d_Tr_add_65 gf_Tr_27 (k_tree hb) rfl ?_
    refine x_aload_n d_Tr_add_68 rfl ?_
    refine y_getf (v := .int (nI n)) d_Tr_add_69 gf_Tr_36 (k_tree hb) (congrArg (fun q => some (Value.int q)) hn) ?_
    refine x_iload d_Tr_add_72 rfl ?_
    refine y_iast hG d_Tr_add_74 (k_trA6 hb) _ rfl (by omega) ?_
    refine x_aload_n d_Tr_add_75 rfl ?_
    refine y_getf d_Tr_add_76 gf_Tr_30 (k_tree hb) rfl ?_
    refine x_aload_n d_Tr_add_79 rfl ?_
    refine y_getf (v := .int (nI n)) d_Tr_add_80 gf_Tr_36 (k_tree hb) (congrArg (fun q => some (Value.int q)) hn) ?_
    refine x_iconst (v := -1) d_Tr_add_83 (by decide +kernel) ?_
    refine y_iast hG d_Tr_add_84 (k_trA7 hb) _ rfl (by omega) ?_
    refine x_aload_n d_Tr_add_85 rfl ?_
    refine y_getf d_Tr_add_86 gf_Tr_33 (k_tree hb) rfl ?_
    refine x_aload_n d_Tr_add_89 rfl ?_
    refine y_getf (v := .int (nI n)) d_Tr_add_90 gf_Tr_36 (k_tree hb) (congrArg (fun q => some (Value.int q)) hn) ?_
    refine x_iconst (v := nI 0) d_Tr_add_93 (by decide +kernel) ?_
    refine y_iast hG d_Tr_add_94 (k_trA8 hb) _ rfl (by omega) ?_
    refine x_aload_n d_Tr_add_95 rfl ?_
    refine x_dup d_Tr_add_96 rfl ?_
    refine y_getf (v := .int (nI n)) d_Tr_add_97 gf_Tr_36 (k_tree hb) (congrArg (fun q => some (Value.int q)) hn) ?_
    refine x_iconst (v := nI 1) d_Tr_add_100 (by decide +kernel) ?_
    refine x_iadd d_Tr_add_101 ?_
    rw [nI_add]
    refine y_puti d_Tr_add_102 pf_Tr_36 (k_tree hb) (xBle rfl) rfl rfl rfl ?_
    refine x_aload_n d_Tr_add_105 rfl ?_
    refine y_getf (v := .int (nI (n + 1))) d_Tr_add_106 gf_Tr_36 (k_tree hb) (congrArg (fun q => some (Value.int q)) (show sF (uF _ b 8 (nI (n + 1))) b 8 = nI (n + 1) by rw [sF_uF]; exact va_up_self _ _ _)) ?_
    refine x_iconst (v := nI 1) d_Tr_add_109 (by decide +kernel) ?_
    refine x_isub d_Tr_add_110 ?_
    rw [pk_sub (by omega), Nat.add_sub_cancel]
    refine x_ireturn d_Tr_add_111 rfl rfl ?_
    unfold tC tAdd
    rw [if_pos (by omega), if_pos (by omega)]
    exact ⟨rfl, rfl⟩
  · skip
    skip
    refine x_iconst (v := -1) d_Tr_add_10 (by decide +kernel) ?_
    refine x_ireturn d_Tr_add_11 rfl rfl ?_
    unfold tC tAdd
    rw [if_neg (by omega), if_neg (by omega)]
    exact ⟨rfl, rfl⟩
set_option maxRecDepth 100000 in
set_option maxHeartbeats 1000000 in
theorem c_Tr_addRest {G : xG} {B d : Nat} {S : xS} (hG : xOkG G) {b n : Nat} (hb : isTree b) (hn : sF S b 8 = nI n) (h145 : n ≤ 145) {x y w h : Int32} : EX G m_Tr_addRest (d + 1) 0 [(0, .ref (B + b)), (1, .int x), (2, .int y), (3, .int w), (4, .int h)] [] (mk G B S) (xRet G B none (tRest S b n x y w h).1) := by
  refine x_iload_n d_Tr_addRest_0 rfl ?_
  refine x_if_le 21 d_Tr_addRest_1 rfl (fun hc1 => ?_) (fun hc1 => ?_)
  · skip
    skip
    refine x_return d_Tr_addRest_21 rfl ?_
    unfold tRest
    first | (rw [if_pos hc1]; exact ⟨rfl, rfl⟩) | (rw [if_neg hc1, if_pos hc6]; exact ⟨rfl, rfl⟩) | (rw [if_neg hc1, if_neg hc6]; exact ⟨rfl, rfl⟩)
  · skip
    skip
    refine x_iload d_Tr_addRest_4 rfl ?_
    refine x_if_le 21 d_Tr_addRest_6 rfl (fun hc6 => ?_) (fun hc6 => ?_)
    · skip
      skip
      refine x_return d_Tr_addRest_21 rfl ?_
      unfold tRest
      first | (rw [if_pos hc1]; exact ⟨rfl, rfl⟩) | (rw [if_neg hc1, if_pos hc6]; exact ⟨rfl, rfl⟩) | (rw [if_neg hc1, if_neg hc6]; exact ⟨rfl, rfl⟩)
    · skip
      skip
      refine x_aload_n d_Tr_addRest_9 rfl ?_
      refine x_iconst (v := nI 3) d_Tr_addRest_10 (by decide +kernel) ?_
      refine x_iload_n d_Tr_addRest_11 rfl ?_
      refine x_iload_n d_Tr_addRest_12 rfl ?_
      refine x_iload_n d_Tr_addRest_13 rfl ?_
      refine x_iload d_Tr_addRest_14 rfl ?_
      refine x_iconst (v := -1) d_Tr_addRest_16 (by decide +kernel) ?_
      refine w_callV (As := [_, _, _, _, _, _]) d_Tr_addRest_17 k_Tr_53 (k_tree hb) rfl rfl rfl (c_Tr_add hG hb hn h145) ?_
      refine x_pop d_Tr_addRest_20 rfl ?_
      refine x_return d_Tr_addRest_21 rfl ?_
      unfold tRest
      first | (rw [if_pos hc1]; exact ⟨rfl, rfl⟩) | (rw [if_neg hc1, if_pos hc6]; exact ⟨rfl, rfl⟩) | (rw [if_neg hc1, if_neg hc6]; exact ⟨rfl, rfl⟩)
set_option maxRecDepth 100000 in
set_option maxHeartbeats 1000000 in
theorem c_Tr_beginSecond {G : xG} {B d : Nat} {S : xS} (hG : xOkG G) {b n : Nat} (hb : isTree b) (hn : sF S b 8 = nI n) (h145 : n ≤ 145) {c : Int32} (hc : c = -1 ∨ ∃ j, j < 145 ∧ c = nI j) : EX G m_Tr_beginSecond d 0 [(0, .ref (B + b)), (1, .int c)] [] (mk G B S) (xRet G B none (tSec S b n c)) := by
  refine x_iload_n d_Tr_beginSecond_0 rfl ?_
  refine x_iconst (v := -1) d_Tr_beginSecond_1 (by decide +kernel) ?_
  refine x_icmp_eq 15 d_Tr_beginSecond_2 rfl (fun hc2 => ?_) (fun hc2 => ?_)
  · skip
    skip
    refine x_return d_Tr_beginSecond_15 rfl ?_
    unfold tSec
    first | (rw [if_pos hc2]; exact ⟨rfl, rfl⟩) | (rw [if_neg hc2]; exact ⟨rfl, rfl⟩)
  · skip
    skip
    refine x_aload_n d_Tr_beginSecond_5 rfl ?_
    refine y_getf d_Tr_beginSecond_6 gf_Tr_30 (k_tree hb) rfl ?_
    refine x_iload_n d_Tr_beginSecond_9 rfl ?_
    refine x_aload_n d_Tr_beginSecond_10 rfl ?_
    refine y_getf (v := .int (nI n)) d_Tr_beginSecond_11 gf_Tr_36 (k_tree hb) (congrArg (fun q => some (Value.int q)) hn) ?_
    refine y_iast hG d_Tr_beginSecond_14 (k_trA7 hb) c.toNatClampNeg (by obtain ⟨j, h1, h2⟩ := hc.resolve_left hc2; rw [h2, nI_clamp (by omega)]) (by obtain ⟨j, h1, h2⟩ := hc.resolve_left hc2; rw [h2, nI_clamp (by omega)]; exact h1) ?_
    refine x_return d_Tr_beginSecond_15 rfl ?_
    unfold tSec
    first | (rw [if_pos hc2]; exact ⟨rfl, rfl⟩) | (rw [if_neg hc2]; exact ⟨rfl, rfl⟩)
