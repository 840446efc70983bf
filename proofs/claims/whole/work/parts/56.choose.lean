theorem nI_div {a b : Nat} (ha : a < 2 ^ 31) (h0 : 0 < b) (hb : b < 2 ^ 31) : nI a / nI b = nI (a / b) := by
  have hq : a / b < 2 ^ 31 := Nat.lt_of_le_of_lt (Nat.div_le_self a b) ha
  apply Int32.toInt_inj.mp
  rw [Int32.toInt_div, nI_toInt ha, nI_toInt hb, nI_toInt hq]
  rw [Int.tdiv_eq_ediv_of_nonneg (by omega), ← Int.natCast_ediv]
  generalize a / b = q at hq ⊢
  rw [Int.bmod_eq_of_le (by omega) (by omega)]
theorem nI_rem {a b : Nat} (ha : a < 2 ^ 31) (h0 : 0 < b) (hb : b < 2 ^ 31) : nI a - nI a / nI b * nI b = nI (a % b) := by
  rw [nI_div ha h0 hb, nI_mul, pk_sub (Nat.div_mul_le_self a b), Nat.mod_eq_sub_div_mul]
def moPo (m : Bool) (S : xS) (s : Nat) (x y w h : Int32) : Nat → Bool
  | 0 => m
  | k + 1 => moPo m S s x y w h k && !moMeets S s k x y w h
theorem moPo_f {m : Bool} {S : xS} {s : Nat} {x y w h : Int32} {i : Nat} (hi : moPo m S s x y w h i = false) : ∀ {n : Nat}, i ≤ n → moPo m S s x y w h n = false
  | 0, h => by
    have : i = 0 := by omega
    subst this; exact hi
  | n + 1, h => by
    by_cases e : i = n + 1
    · subst e; exact hi
    · simp only [moPo, moPo_f hi (show i ≤ n by omega), Bool.false_and]
def moMay (S : xS) (s : Nat) (y room : Int32) (o : Nat) (t : Bool) (w h : Int32) : Bool := !decide (sA S 208 o ≤ sA S 220 o) && (!decide (room < w) && (!decide (sA S 190 s - y < h) && (!t || (!decide (sA S 207 o = 0) && !decide (w = h)))))
def moPw (S : xS) (o : Nat) (t : Bool) : Int32 := if t = true then sA S 206 o else sA S 205 o
def moPh (S : xS) (o : Nat) (t : Bool) : Int32 := if t = true then sA S 205 o else sA S 206 o
def moPos (S : xS) (s fl x y : Nat) (room : Int32) (o : Nat) (t : Bool) : Bool := moPo (moMay S s (nI y) room o t (moPw S o t) (moPh S o t)) S s (nI x) (nI y) (moPw S o t) (moPh S o t) fl
def moBef (S : xS) (a b : Nat) : Bool := decide (sA S 206 b < sA S 206 a) || (decide (sA S 206 a = sA S 206 b) && (decide (sA S 205 b < sA S 205 a) || (decide (sA S 205 a = sA S 205 b) && decide (a < b))))
def moChS (b : Option Nat) (pl tu : Bool) (bef : Nat → Bool) (o : Nat) : Option Nat := if pl = false ∧ tu = false then b else match b with
  | none => some (if pl = true then 2 * o else 2 * o + 1)
  | some v => if bef (v / 2) = true then some (if pl = true then 2 * o else 2 * o + 1) else b
def moCh (S : xS) (s fl x y : Nat) (room : Int32) : Nat → Option Nat
  | 0 => none
  | o + 1 => moChS (moCh S s fl x y room o) (moPos S s fl x y room o false) (moPos S s fl x y room o true) (moBef S o) o
theorem moCh_lt {S : xS} {s fl x y : Nat} {room : Int32} : ∀ {o v : Nat}, moCh S s fl x y room o = some v → v < 2 * o
  | o + 1, v, h => by
    simp only [moCh, moChS] at h
    split at h
    · have := moCh_lt h; omega
    · split at h
      · split at h <;> (cases h; omega)
      · rename_i e
        split at h
        · split at h <;> (cases h; omega)
        · have := moCh_lt h; omega
set_option maxRecDepth 100000 in
set_option maxHeartbeats 1000000 in
theorem c_Mo_isBefore {G : xG} {B d : Nat} {S : xS} (hG : xOkG G) {a b : Nat} (ha : a < 6) (hb : b < 6) : EX G m_Mo_isBefore d 0 [(0, .ref (B + 186)), (1, .int (nI a)), (2, .int (nI b))] [] (mk G B S) ((xRet G B (some (.int (bI (moBef S a b)))) S)) := by
  refine x_aload_n d_Mo_isBefore_0 rfl ?_
  refine y_getf d_Mo_isBefore_1 gf_Mo_68 k_model rfl ?_
  refine x_iload_n d_Mo_isBefore_4 rfl ?_
  refine y_iald hG d_Mo_isBefore_5 k_m_orderH _ rfl (by omega) ?_
  refine x_aload_n d_Mo_isBefore_6 rfl ?_
  refine y_getf d_Mo_isBefore_7 gf_Mo_68 k_model rfl ?_
  refine x_iload_n d_Mo_isBefore_10 rfl ?_
  refine y_iald hG d_Mo_isBefore_11 k_m_orderH _ rfl (by omega) ?_
  refine x_icmp_gt 65 d_Mo_isBefore_12 rfl (fun hc12 => ?_) (fun hc12 => ?_)
  · skip
    skip
    refine x_iconst (v := nI 1) d_Mo_isBefore_65 (by decide +kernel) ?_
    refine x_goto 70 d_Mo_isBefore_66 rfl ?_
    refine x_ireturn d_Mo_isBefore_70 rfl (by decide +kernel) ?_
    refine ⟨?_, rfl⟩
    unfold moBef
    first
      | (rw [decide_eq_true hc12, Bool.true_or]; rfl)
      | (rw [decide_eq_false hc12, decide_eq_false hc27]; rfl)
      | (rw [decide_eq_false hc12, decide_eq_true hc27, decide_eq_true hc42]; rfl)
      | (rw [decide_eq_false hc12, decide_eq_true hc27, decide_eq_false hc42, decide_eq_false hc57]; rfl)
      | (rw [decide_eq_false hc12, decide_eq_true hc27, decide_eq_false hc42, decide_eq_true hc57, decide_eq_true hc62]; rfl)
      | (rw [decide_eq_false hc12, decide_eq_true hc27, decide_eq_false hc42, decide_eq_true hc57, decide_eq_false (Nat.not_lt.mpr hc62)]; rfl)
  · skip
    skip
    refine x_aload_n d_Mo_isBefore_15 rfl ?_
    refine y_getf d_Mo_isBefore_16 gf_Mo_68 k_model rfl ?_
    refine x_iload_n d_Mo_isBefore_19 rfl ?_
    refine y_iald hG d_Mo_isBefore_20 k_m_orderH _ rfl (by omega) ?_
    refine x_aload_n d_Mo_isBefore_21 rfl ?_
    refine y_getf d_Mo_isBefore_22 gf_Mo_68 k_model rfl ?_
    refine x_iload_n d_Mo_isBefore_25 rfl ?_
    refine y_iald hG d_Mo_isBefore_26 k_m_orderH _ rfl (by omega) ?_
    refine x_icmp_ne 69 d_Mo_isBefore_27 rfl (fun hc27 => ?_) (fun hc27 => ?_)
    · skip
      skip
      refine x_iconst (v := nI 0) d_Mo_isBefore_69 (by decide +kernel) ?_
      refine x_ireturn d_Mo_isBefore_70 rfl (by decide +kernel) ?_
      refine ⟨?_, rfl⟩
      unfold moBef
      first
        | (rw [decide_eq_true hc12, Bool.true_or]; rfl)
        | (rw [decide_eq_false hc12, decide_eq_false hc27]; rfl)
        | (rw [decide_eq_false hc12, decide_eq_true hc27, decide_eq_true hc42]; rfl)
        | (rw [decide_eq_false hc12, decide_eq_true hc27, decide_eq_false hc42, decide_eq_false hc57]; rfl)
        | (rw [decide_eq_false hc12, decide_eq_true hc27, decide_eq_false hc42, decide_eq_true hc57, decide_eq_true hc62]; rfl)
        | (rw [decide_eq_false hc12, decide_eq_true hc27, decide_eq_false hc42, decide_eq_true hc57, decide_eq_false (Nat.not_lt.mpr hc62)]; rfl)
    · skip
      skip
      refine x_aload_n d_Mo_isBefore_30 rfl ?_
      refine y_getf d_Mo_isBefore_31 gf_Mo_65 k_model rfl ?_
      refine x_iload_n d_Mo_isBefore_34 rfl ?_
      refine y_iald hG d_Mo_isBefore_35 k_m_orderW _ rfl (by omega) ?_
      refine x_aload_n d_Mo_isBefore_36 rfl ?_
      refine y_getf d_Mo_isBefore_37 gf_Mo_65 k_model rfl ?_
      refine x_iload_n d_Mo_isBefore_40 rfl ?_
      refine y_iald hG d_Mo_isBefore_41 k_m_orderW _ rfl (by omega) ?_
      refine x_icmp_gt 65 d_Mo_isBefore_42 rfl (fun hc42 => ?_) (fun hc42 => ?_)
      · skip
        skip
        refine x_iconst (v := nI 1) d_Mo_isBefore_65 (by decide +kernel) ?_
        refine x_goto 70 d_Mo_isBefore_66 rfl ?_
        refine x_ireturn d_Mo_isBefore_70 rfl (by decide +kernel) ?_
        refine ⟨?_, rfl⟩
        unfold moBef
        first
          | (rw [decide_eq_true hc12, Bool.true_or]; rfl)
          | (rw [decide_eq_false hc12, decide_eq_false hc27]; rfl)
          | (rw [decide_eq_false hc12, decide_eq_true hc27, decide_eq_true hc42]; rfl)
          | (rw [decide_eq_false hc12, decide_eq_true hc27, decide_eq_false hc42, decide_eq_false hc57]; rfl)
          | (rw [decide_eq_false hc12, decide_eq_true hc27, decide_eq_false hc42, decide_eq_true hc57, decide_eq_true hc62]; rfl)
          | (rw [decide_eq_false hc12, decide_eq_true hc27, decide_eq_false hc42, decide_eq_true hc57, decide_eq_false (Nat.not_lt.mpr hc62)]; rfl)
      · skip
        skip
        refine x_aload_n d_Mo_isBefore_45 rfl ?_
        refine y_getf d_Mo_isBefore_46 gf_Mo_65 k_model rfl ?_
        refine x_iload_n d_Mo_isBefore_49 rfl ?_
        refine y_iald hG d_Mo_isBefore_50 k_m_orderW _ rfl (by omega) ?_
        refine x_aload_n d_Mo_isBefore_51 rfl ?_
        refine y_getf d_Mo_isBefore_52 gf_Mo_65 k_model rfl ?_
        refine x_iload_n d_Mo_isBefore_55 rfl ?_
        refine y_iald hG d_Mo_isBefore_56 k_m_orderW _ rfl (by omega) ?_
        refine x_icmp_ne 69 d_Mo_isBefore_57 rfl (fun hc57 => ?_) (fun hc57 => ?_)
        · skip
          skip
          refine x_iconst (v := nI 0) d_Mo_isBefore_69 (by decide +kernel) ?_
          refine x_ireturn d_Mo_isBefore_70 rfl (by decide +kernel) ?_
          refine ⟨?_, rfl⟩
          unfold moBef
          first
            | (rw [decide_eq_true hc12, Bool.true_or]; rfl)
            | (rw [decide_eq_false hc12, decide_eq_false hc27]; rfl)
            | (rw [decide_eq_false hc12, decide_eq_true hc27, decide_eq_true hc42]; rfl)
            | (rw [decide_eq_false hc12, decide_eq_true hc27, decide_eq_false hc42, decide_eq_false hc57]; rfl)
            | (rw [decide_eq_false hc12, decide_eq_true hc27, decide_eq_false hc42, decide_eq_true hc57, decide_eq_true hc62]; rfl)
            | (rw [decide_eq_false hc12, decide_eq_true hc27, decide_eq_false hc42, decide_eq_true hc57, decide_eq_false (Nat.not_lt.mpr hc62)]; rfl)
        · skip
          skip
          refine x_iload_n d_Mo_isBefore_60 rfl ?_
          refine x_iload_n d_Mo_isBefore_61 rfl ?_
          refine z_icmp_ge 69 d_Mo_isBefore_62 rfl (by omega) (by omega) (fun hc62 => ?_) (fun hc62 => ?_)
          · skip
            skip
            refine x_iconst (v := nI 0) d_Mo_isBefore_69 (by decide +kernel) ?_
            refine x_ireturn d_Mo_isBefore_70 rfl (by decide +kernel) ?_
            refine ⟨?_, rfl⟩
            unfold moBef
            first
              | (rw [decide_eq_true hc12, Bool.true_or]; rfl)
              | (rw [decide_eq_false hc12, decide_eq_false hc27]; rfl)
              | (rw [decide_eq_false hc12, decide_eq_true hc27, decide_eq_true hc42]; rfl)
              | (rw [decide_eq_false hc12, decide_eq_true hc27, decide_eq_false hc42, decide_eq_false hc57]; rfl)
              | (rw [decide_eq_false hc12, decide_eq_true hc27, decide_eq_false hc42, decide_eq_true hc57, decide_eq_true hc62]; rfl)
              | (rw [decide_eq_false hc12, decide_eq_true hc27, decide_eq_false hc42, decide_eq_true hc57, decide_eq_false (Nat.not_lt.mpr hc62)]; rfl)
          · skip
            skip
            refine x_iconst (v := nI 1) d_Mo_isBefore_65 (by decide +kernel) ?_
            refine x_goto 70 d_Mo_isBefore_66 rfl ?_
            refine x_ireturn d_Mo_isBefore_70 rfl (by decide +kernel) ?_
            refine ⟨?_, rfl⟩
            unfold moBef
            first
              | (rw [decide_eq_true hc12, Bool.true_or]; rfl)
              | (rw [decide_eq_false hc12, decide_eq_false hc27]; rfl)
              | (rw [decide_eq_false hc12, decide_eq_true hc27, decide_eq_true hc42]; rfl)
              | (rw [decide_eq_false hc12, decide_eq_true hc27, decide_eq_false hc42, decide_eq_false hc57]; rfl)
              | (rw [decide_eq_false hc12, decide_eq_true hc27, decide_eq_false hc42, decide_eq_true hc57, decide_eq_true hc62]; rfl)
              | (rw [decide_eq_false hc12, decide_eq_true hc27, decide_eq_false hc42, decide_eq_true hc57, decide_eq_false (Nat.not_lt.mpr hc62)]; rfl)
set_option maxRecDepth 100000 in
set_option maxHeartbeats 1000000 in
theorem c_Mo_isPossible0 {G : xG} {B d : Nat} {S : xS} (hG : xOkG G) {s fl x y o : Nat} {room : Int32} (hs : s < 8) (ho : o < 6) (hfl : sA S 193 s = nI fl) (hf6 : fl ≤ 6) (hx : x < 8192) (hy : y < 65536) : EX G m_Mo_isPossible (d + 2) 0 [(0, .ref (B + 186)), (1, .int (nI s)), (2, .int (nI (8192 * y + x))), (3, .int room), (4, .int (nI o)), (5, .int (nI 0))] [] (mk G B S) ((xRet G B (some (.int (bI (moPos S s fl x y room o false)))) S)) := by
  refine x_iload d_Mo_isPossible_0 rfl ?_
  refine z_if_eq 15 d_Mo_isPossible_2 rfl (by omega) (fun hc2 => ?_) (fun q => absurd q (by omega))
  refine x_aload_n d_Mo_isPossible_15 rfl ?_
  refine y_getf d_Mo_isPossible_16 gf_Mo_65 k_model rfl ?_
  refine x_iload d_Mo_isPossible_19 rfl ?_
  refine y_iald hG d_Mo_isPossible_21 k_m_orderW _ rfl (by omega) ?_
  show EX _ _ _ _ _ [.int (moPw S o false)] _ _
  refine s_istore (lv' := [(0, _), (1, _), (2, _), (3, _), (4, _), (5, _), (6, _)]) d_Mo_isPossible_22 (by decide) rfl ?_
  refine x_iload d_Mo_isPossible_24 rfl ?_
  refine z_if_eq 39 d_Mo_isPossible_26 rfl (by omega) (fun hc26 => ?_) (fun q => absurd q (by omega))
  refine x_aload_n d_Mo_isPossible_39 rfl ?_
  refine y_getf d_Mo_isPossible_40 gf_Mo_68 k_model rfl ?_
  refine x_iload d_Mo_isPossible_43 rfl ?_
  refine y_iald hG d_Mo_isPossible_45 k_m_orderH _ rfl (by omega) ?_
  show EX _ _ _ _ _ [.int (moPh S o false)] _ _
  refine s_istore (lv' := [(0, _), (1, _), (2, _), (3, _), (4, _), (5, _), (6, _), (7, _)]) d_Mo_isPossible_46 (by decide) rfl ?_
  refine x_iload_n d_Mo_isPossible_48 rfl ?_
  refine x_sipush (v := nI 8192) d_Mo_isPossible_49 (by decide +kernel) ?_
  refine x_irem d_Mo_isPossible_52 (by decide +kernel) ?_
  rw [nI_rem (by omega) (by decide) (by decide), show (8192 * y + x) % 8192 = x by omega]
  refine s_istore (lv' := [(0, _), (1, _), (2, _), (3, _), (4, _), (5, _), (6, _), (7, _), (8, _)]) d_Mo_isPossible_53 (by decide) rfl ?_
  refine x_iload_n d_Mo_isPossible_55 rfl ?_
  refine x_sipush (v := nI 8192) d_Mo_isPossible_56 (by decide +kernel) ?_
  refine x_idiv d_Mo_isPossible_59 (by decide +kernel) ?_
  rw [nI_div (by omega) (by decide) (by decide), show (8192 * y + x) / 8192 = y by omega]
  refine s_istore (lv' := [(0, _), (1, _), (2, _), (3, _), (4, _), (5, _), (6, _), (7, _), (8, _), (9, _)]) d_Mo_isPossible_60 (by decide) rfl ?_
  refine x_join 126 (.int (bI (moMay S s (nI y) room o false (moPw S o false) (moPh S o false)))) ?_ (fun J62 => ?_)
  · skip
    refine s_istore (lv' := [(0, _), (1, _), (2, _), (3, _), (4, _), (5, _), (6, _), (7, _), (8, _), (9, _), (10, _)]) d_Mo_isPossible_126 (by decide) rfl ?_
    refine x_iconst (v := nI 0) d_Mo_isPossible_128 (by decide +kernel) ?_
    refine s_istore (lv' := [(0, _), (1, _), (2, _), (3, _), (4, _), (5, _), (6, _), (7, _), (8, _), (9, _), (10, _), (11, _)]) d_Mo_isPossible_129 (by decide) rfl ?_
    have L131 : ∀ i, i ≤ fl →  EX G m_Mo_isPossible (d + 2) 131 [(0, .ref (B + 186)), (1, .int (nI s)), (2, .int (nI (8192 * y + x))), (3, .int room), (4, .int (nI o)), (5, .int (nI 0)), (6, .int (moPw S o false)), (7, .int (moPh S o false)), (8, .int (nI x)), (9, .int (nI y)), (10, .int (bI (moPo (moMay S s (nI y) room o false (moPw S o false) (moPh S o false)) S s (nI x) (nI y) (moPw S o false) (moPh S o false) i))), (11, .int (nI i))] [] (mk G B S) (xRet G B (some (.int (bI (moPos S s fl x y room o false)))) S) := by
      refine x_down (fl) ?_ ?_
      · skip
        skip
        refine x_iload d_Mo_isPossible_131 rfl ?_
        refine x_aload_n d_Mo_isPossible_133 rfl ?_
        refine y_getf d_Mo_isPossible_134 gf_Mo_29 k_model rfl ?_
        refine x_iload_n d_Mo_isPossible_137 rfl ?_
        refine y_iald hG d_Mo_isPossible_138 k_m_flawCounts _ rfl (by omega) ?_
        rw [hfl]
        refine z_icmp_ge 178 d_Mo_isPossible_139 rfl (by omega) (by omega) (fun hc139 => ?_) (fun q => absurd q (by omega))
        refine x_iload d_Mo_isPossible_178 rfl ?_
        refine x_ireturn d_Mo_isPossible_180 rfl bI_n ?_
        exact ⟨rfl, rfl⟩
      · intro i hi ih
        refine x_iload d_Mo_isPossible_131 rfl ?_
        refine x_aload_n d_Mo_isPossible_133 rfl ?_
        refine y_getf d_Mo_isPossible_134 gf_Mo_29 k_model rfl ?_
        refine x_iload_n d_Mo_isPossible_137 rfl ?_
        refine y_iald hG d_Mo_isPossible_138 k_m_flawCounts _ rfl (by omega) ?_
        rw [hfl]
        refine z_icmp_ge 178 d_Mo_isPossible_139 rfl (by omega) (by omega) (fun q => absurd q (by omega)) (fun hc139 => ?_)
        refine x_iload d_Mo_isPossible_142 rfl ?_
        refine z_bif_eq 178 d_Mo_isPossible_144 rfl (fun hc144 => ?_) (fun hc144 => ?_)
        · skip
          skip
          refine x_iload d_Mo_isPossible_178 rfl ?_
          refine x_ireturn d_Mo_isPossible_180 rfl bI_n ?_
          unfold moPos
          rw [moPo_f hc144 (Nat.le_of_lt hi), hc144]
          exact ⟨rfl, rfl⟩
        · skip
          skip
          refine x_aload_n d_Mo_isPossible_147 rfl ?_
          refine x_iload_n d_Mo_isPossible_148 rfl ?_
          refine x_iload d_Mo_isPossible_149 rfl ?_
          refine x_iload d_Mo_isPossible_151 rfl ?_
          refine x_iload d_Mo_isPossible_153 rfl ?_
          refine x_iload d_Mo_isPossible_155 rfl ?_
          refine x_iload d_Mo_isPossible_157 rfl ?_
          refine w_callV (As := [_, _, _, _, _, _]) d_Mo_isPossible_159 k_Mo_196 k_model rfl rfl rfl (c_Mo_meets hG (by omega) (by omega) (by omega)) ?_
          refine z_bif_ne 169 d_Mo_isPossible_162 rfl (fun hc162 => ?_) (fun hc162 => ?_)
          · skip
            rw [show moPo (moMay S s (nI y) room o false (moPw S o false) (moPh S o false)) S s (nI x) (nI y) (moPw S o false) (moPh S o false) (i + 1) = false by simp only [moPo, hc144, hc162]; rfl] at ih
            refine x_iconst (v := nI 0) d_Mo_isPossible_169 (by decide +kernel) ?_
            refine s_istore (lv' := [(0, _), (1, _), (2, _), (3, _), (4, _), (5, _), (6, _), (7, _), (8, _), (9, _), (10, _), (11, _)]) d_Mo_isPossible_170 (by decide) rfl ?_
            refine s_iinc (lv' := [(0, _), (1, _), (2, _), (3, _), (4, _), (5, _), (6, _), (7, _), (8, _), (9, _), (10, _), (11, _)]) d_Mo_isPossible_172 rfl (xinc _) (by decide) rfl ?_
            refine x_goto 131 d_Mo_isPossible_175 rfl ?_
            refine x_lv (lv' := [(0, _), (1, _), (2, _), (3, _), (4, _), (5, _), (6, _), (7, _), (8, _), (9, _), (10, _), (11, _)]) [0, 1, 2, 3, 4, 5, 6, 7, 8, 9, 10, 11] rfl ?_
            exact ih
          · skip
            rw [show moPo (moMay S s (nI y) room o false (moPw S o false) (moPh S o false)) S s (nI x) (nI y) (moPw S o false) (moPh S o false) (i + 1) = true by simp only [moPo, hc144, hc162]; rfl] at ih
            refine x_iconst (v := nI 1) d_Mo_isPossible_165 (by decide +kernel) ?_
            refine x_goto 170 d_Mo_isPossible_166 rfl ?_
            refine s_istore (lv' := [(0, _), (1, _), (2, _), (3, _), (4, _), (5, _), (6, _), (7, _), (8, _), (9, _), (10, _), (11, _)]) d_Mo_isPossible_170 (by decide) rfl ?_
            refine s_iinc (lv' := [(0, _), (1, _), (2, _), (3, _), (4, _), (5, _), (6, _), (7, _), (8, _), (9, _), (10, _), (11, _)]) d_Mo_isPossible_172 rfl (xinc _) (by decide) rfl ?_
            refine x_goto 131 d_Mo_isPossible_175 rfl ?_
            refine x_lv (lv' := [(0, _), (1, _), (2, _), (3, _), (4, _), (5, _), (6, _), (7, _), (8, _), (9, _), (10, _), (11, _)]) [0, 1, 2, 3, 4, 5, 6, 7, 8, 9, 10, 11] rfl ?_
            exact ih
    refine x_lv (lv' := [(0, _), (1, _), (2, _), (3, _), (4, _), (5, _), (6, _), (7, _), (8, _), (9, _), (10, _), (11, _)]) [0, 1, 2, 3, 4, 5, 6, 7, 8, 9, 10, 11] rfl ?_
    exact L131 0 (Nat.zero_le _)
  · skip
    refine x_aload_n d_Mo_isPossible_62 rfl ?_
    refine y_getf d_Mo_isPossible_63 gf_Mo_110 k_model rfl ?_
    refine x_iload d_Mo_isPossible_66 rfl ?_
    refine y_iald hG d_Mo_isPossible_68 k_m_taken _ rfl (by omega) ?_
    refine x_aload_n d_Mo_isPossible_69 rfl ?_
    refine y_getf d_Mo_isPossible_70 gf_Mo_74 k_model rfl ?_
    refine x_iload d_Mo_isPossible_73 rfl ?_
    refine y_iald hG d_Mo_isPossible_75 k_m_open _ rfl (by omega) ?_
    refine x_icmp_ge 125 d_Mo_isPossible_76 rfl (fun hc76 => ?_) (fun hc76 => ?_)
    · skip
      skip
      refine x_iconst (v := nI 0) d_Mo_isPossible_125 (by decide +kernel) ?_
      refine J62 _ ?_
      unfold moMay
      first
        | (rw [decide_eq_true hc76]; rfl)
        | (rw [decide_eq_false hc76, decide_eq_true (show room < (moPw S o false) from hc82)]; rfl)
        | (rw [decide_eq_false hc76, decide_eq_false (show ¬ room < (moPw S o false) from hc82), decide_eq_true (show sA S 190 s - nI y < moPh S o false from hc96)]; rfl)
        | (rw [decide_eq_false hc76, decide_eq_false (show ¬ room < (moPw S o false) from hc82), decide_eq_false (show ¬ sA S 190 s - nI y < moPh S o false from hc96)]; rfl)
    · skip
      skip
      refine x_iload d_Mo_isPossible_79 rfl ?_
      refine x_iload_n d_Mo_isPossible_81 rfl ?_
      refine x_icmp_gt 125 d_Mo_isPossible_82 rfl (fun hc82 => ?_) (fun hc82 => ?_)
      · skip
        skip
        refine x_iconst (v := nI 0) d_Mo_isPossible_125 (by decide +kernel) ?_
        refine J62 _ ?_
        unfold moMay
        first
          | (rw [decide_eq_true hc76]; rfl)
          | (rw [decide_eq_false hc76, decide_eq_true (show room < (moPw S o false) from hc82)]; rfl)
          | (rw [decide_eq_false hc76, decide_eq_false (show ¬ room < (moPw S o false) from hc82), decide_eq_true (show sA S 190 s - nI y < moPh S o false from hc96)]; rfl)
          | (rw [decide_eq_false hc76, decide_eq_false (show ¬ room < (moPw S o false) from hc82), decide_eq_false (show ¬ sA S 190 s - nI y < moPh S o false from hc96)]; rfl)
      · skip
        skip
        refine x_iload d_Mo_isPossible_85 rfl ?_
        refine x_aload_n d_Mo_isPossible_87 rfl ?_
        refine y_getf d_Mo_isPossible_88 gf_Mo_20 k_model rfl ?_
        refine x_iload_n d_Mo_isPossible_91 rfl ?_
        refine y_iald hG d_Mo_isPossible_92 k_m_heights _ rfl (by omega) ?_
        refine x_iload d_Mo_isPossible_93 rfl ?_
        refine x_isub d_Mo_isPossible_95 ?_
        refine x_icmp_gt 125 d_Mo_isPossible_96 rfl (fun hc96 => ?_) (fun hc96 => ?_)
        · skip
          skip
          refine x_iconst (v := nI 0) d_Mo_isPossible_125 (by decide +kernel) ?_
          refine J62 _ ?_
          unfold moMay
          first
            | (rw [decide_eq_true hc76]; rfl)
            | (rw [decide_eq_false hc76, decide_eq_true (show room < (moPw S o false) from hc82)]; rfl)
            | (rw [decide_eq_false hc76, decide_eq_false (show ¬ room < (moPw S o false) from hc82), decide_eq_true (show sA S 190 s - nI y < moPh S o false from hc96)]; rfl)
            | (rw [decide_eq_false hc76, decide_eq_false (show ¬ room < (moPw S o false) from hc82), decide_eq_false (show ¬ sA S 190 s - nI y < moPh S o false from hc96)]; rfl)
        · skip
          skip
          refine x_iload d_Mo_isPossible_99 rfl ?_
          refine z_if_eq 121 d_Mo_isPossible_101 rfl (by omega) (fun hc101 => ?_) (fun q => absurd q (by omega))
          refine x_iconst (v := nI 1) d_Mo_isPossible_121 (by decide +kernel) ?_
          refine x_goto 126 d_Mo_isPossible_122 rfl ?_
          refine J62 _ ?_
          unfold moMay
          first
            | (rw [decide_eq_true hc76]; rfl)
            | (rw [decide_eq_false hc76, decide_eq_true (show room < (moPw S o false) from hc82)]; rfl)
            | (rw [decide_eq_false hc76, decide_eq_false (show ¬ room < (moPw S o false) from hc82), decide_eq_true (show sA S 190 s - nI y < moPh S o false from hc96)]; rfl)
            | (rw [decide_eq_false hc76, decide_eq_false (show ¬ room < (moPw S o false) from hc82), decide_eq_false (show ¬ sA S 190 s - nI y < moPh S o false from hc96)]; rfl)
set_option maxRecDepth 100000 in
set_option maxHeartbeats 1000000 in
theorem c_Mo_isPossible1 {G : xG} {B d : Nat} {S : xS} (hG : xOkG G) {s fl x y o : Nat} {room : Int32} (hs : s < 8) (ho : o < 6) (hfl : sA S 193 s = nI fl) (hf6 : fl ≤ 6) (hx : x < 8192) (hy : y < 65536) : EX G m_Mo_isPossible (d + 2) 0 [(0, .ref (B + 186)), (1, .int (nI s)), (2, .int (nI (8192 * y + x))), (3, .int room), (4, .int (nI o)), (5, .int (nI 1))] [] (mk G B S) ((xRet G B (some (.int (bI (moPos S s fl x y room o true)))) S)) := by
  refine x_iload d_Mo_isPossible_0 rfl ?_
  refine z_if_eq 15 d_Mo_isPossible_2 rfl (by omega) (fun q => absurd q (by omega)) (fun hc2 => ?_)
  refine x_aload_n d_Mo_isPossible_5 rfl ?_
  refine y_getf d_Mo_isPossible_6 gf_Mo_68 k_model rfl ?_
  refine x_iload d_Mo_isPossible_9 rfl ?_
  refine y_iald hG d_Mo_isPossible_11 k_m_orderH _ rfl (by omega) ?_
  refine x_goto 22 d_Mo_isPossible_12 rfl ?_
  show EX _ _ _ _ _ [.int (moPw S o true)] _ _
  refine s_istore (lv' := [(0, _), (1, _), (2, _), (3, _), (4, _), (5, _), (6, _)]) d_Mo_isPossible_22 (by decide) rfl ?_
  refine x_iload d_Mo_isPossible_24 rfl ?_
  refine z_if_eq 39 d_Mo_isPossible_26 rfl (by omega) (fun q => absurd q (by omega)) (fun hc26 => ?_)
  refine x_aload_n d_Mo_isPossible_29 rfl ?_
  refine y_getf d_Mo_isPossible_30 gf_Mo_65 k_model rfl ?_
  refine x_iload d_Mo_isPossible_33 rfl ?_
  refine y_iald hG d_Mo_isPossible_35 k_m_orderW _ rfl (by omega) ?_
  refine x_goto 46 d_Mo_isPossible_36 rfl ?_
  show EX _ _ _ _ _ [.int (moPh S o true)] _ _
  refine s_istore (lv' := [(0, _), (1, _), (2, _), (3, _), (4, _), (5, _), (6, _), (7, _)]) d_Mo_isPossible_46 (by decide) rfl ?_
  refine x_iload_n d_Mo_isPossible_48 rfl ?_
  refine x_sipush (v := nI 8192) d_Mo_isPossible_49 (by decide +kernel) ?_
  refine x_irem d_Mo_isPossible_52 (by decide +kernel) ?_
  rw [nI_rem (by omega) (by decide) (by decide), show (8192 * y + x) % 8192 = x by omega]
  refine s_istore (lv' := [(0, _), (1, _), (2, _), (3, _), (4, _), (5, _), (6, _), (7, _), (8, _)]) d_Mo_isPossible_53 (by decide) rfl ?_
  refine x_iload_n d_Mo_isPossible_55 rfl ?_
  refine x_sipush (v := nI 8192) d_Mo_isPossible_56 (by decide +kernel) ?_
  refine x_idiv d_Mo_isPossible_59 (by decide +kernel) ?_
  rw [nI_div (by omega) (by decide) (by decide), show (8192 * y + x) / 8192 = y by omega]
  refine s_istore (lv' := [(0, _), (1, _), (2, _), (3, _), (4, _), (5, _), (6, _), (7, _), (8, _), (9, _)]) d_Mo_isPossible_60 (by decide) rfl ?_
  refine x_join 126 (.int (bI (moMay S s (nI y) room o true (moPw S o true) (moPh S o true)))) ?_ (fun J62 => ?_)
  · skip
    refine s_istore (lv' := [(0, _), (1, _), (2, _), (3, _), (4, _), (5, _), (6, _), (7, _), (8, _), (9, _), (10, _)]) d_Mo_isPossible_126 (by decide) rfl ?_
    refine x_iconst (v := nI 0) d_Mo_isPossible_128 (by decide +kernel) ?_
    refine s_istore (lv' := [(0, _), (1, _), (2, _), (3, _), (4, _), (5, _), (6, _), (7, _), (8, _), (9, _), (10, _), (11, _)]) d_Mo_isPossible_129 (by decide) rfl ?_
    have L131 : ∀ i, i ≤ fl →  EX G m_Mo_isPossible (d + 2) 131 [(0, .ref (B + 186)), (1, .int (nI s)), (2, .int (nI (8192 * y + x))), (3, .int room), (4, .int (nI o)), (5, .int (nI 1)), (6, .int (moPw S o true)), (7, .int (moPh S o true)), (8, .int (nI x)), (9, .int (nI y)), (10, .int (bI (moPo (moMay S s (nI y) room o true (moPw S o true) (moPh S o true)) S s (nI x) (nI y) (moPw S o true) (moPh S o true) i))), (11, .int (nI i))] [] (mk G B S) (xRet G B (some (.int (bI (moPos S s fl x y room o true)))) S) := by
      refine x_down (fl) ?_ ?_
      · skip
        skip
        refine x_iload d_Mo_isPossible_131 rfl ?_
        refine x_aload_n d_Mo_isPossible_133 rfl ?_
        refine y_getf d_Mo_isPossible_134 gf_Mo_29 k_model rfl ?_
        refine x_iload_n d_Mo_isPossible_137 rfl ?_
        refine y_iald hG d_Mo_isPossible_138 k_m_flawCounts _ rfl (by omega) ?_
        rw [hfl]
        refine z_icmp_ge 178 d_Mo_isPossible_139 rfl (by omega) (by omega) (fun hc139 => ?_) (fun q => absurd q (by omega))
        refine x_iload d_Mo_isPossible_178 rfl ?_
        refine x_ireturn d_Mo_isPossible_180 rfl bI_n ?_
        exact ⟨rfl, rfl⟩
      · intro i hi ih
        refine x_iload d_Mo_isPossible_131 rfl ?_
        refine x_aload_n d_Mo_isPossible_133 rfl ?_
        refine y_getf d_Mo_isPossible_134 gf_Mo_29 k_model rfl ?_
        refine x_iload_n d_Mo_isPossible_137 rfl ?_
        refine y_iald hG d_Mo_isPossible_138 k_m_flawCounts _ rfl (by omega) ?_
        rw [hfl]
        refine z_icmp_ge 178 d_Mo_isPossible_139 rfl (by omega) (by omega) (fun q => absurd q (by omega)) (fun hc139 => ?_)
        refine x_iload d_Mo_isPossible_142 rfl ?_
        refine z_bif_eq 178 d_Mo_isPossible_144 rfl (fun hc144 => ?_) (fun hc144 => ?_)
        · skip
          skip
          refine x_iload d_Mo_isPossible_178 rfl ?_
          refine x_ireturn d_Mo_isPossible_180 rfl bI_n ?_
          unfold moPos
          rw [moPo_f hc144 (Nat.le_of_lt hi), hc144]
          exact ⟨rfl, rfl⟩
        · skip
          skip
          refine x_aload_n d_Mo_isPossible_147 rfl ?_
          refine x_iload_n d_Mo_isPossible_148 rfl ?_
          refine x_iload d_Mo_isPossible_149 rfl ?_
          refine x_iload d_Mo_isPossible_151 rfl ?_
          refine x_iload d_Mo_isPossible_153 rfl ?_
          refine x_iload d_Mo_isPossible_155 rfl ?_
          refine x_iload d_Mo_isPossible_157 rfl ?_
          refine w_callV (As := [_, _, _, _, _, _]) d_Mo_isPossible_159 k_Mo_196 k_model rfl rfl rfl (c_Mo_meets hG (by omega) (by omega) (by omega)) ?_
          refine z_bif_ne 169 d_Mo_isPossible_162 rfl (fun hc162 => ?_) (fun hc162 => ?_)
          · skip
            rw [show moPo (moMay S s (nI y) room o true (moPw S o true) (moPh S o true)) S s (nI x) (nI y) (moPw S o true) (moPh S o true) (i + 1) = false by simp only [moPo, hc144, hc162]; rfl] at ih
            refine x_iconst (v := nI 0) d_Mo_isPossible_169 (by decide +kernel) ?_
            refine s_istore (lv' := [(0, _), (1, _), (2, _), (3, _), (4, _), (5, _), (6, _), (7, _), (8, _), (9, _), (10, _), (11, _)]) d_Mo_isPossible_170 (by decide) rfl ?_
            refine s_iinc (lv' := [(0, _), (1, _), (2, _), (3, _), (4, _), (5, _), (6, _), (7, _), (8, _), (9, _), (10, _), (11, _)]) d_Mo_isPossible_172 rfl (xinc _) (by decide) rfl ?_
            refine x_goto 131 d_Mo_isPossible_175 rfl ?_
            refine x_lv (lv' := [(0, _), (1, _), (2, _), (3, _), (4, _), (5, _), (6, _), (7, _), (8, _), (9, _), (10, _), (11, _)]) [0, 1, 2, 3, 4, 5, 6, 7, 8, 9, 10, 11] rfl ?_
            exact ih
          · skip
            rw [show moPo (moMay S s (nI y) room o true (moPw S o true) (moPh S o true)) S s (nI x) (nI y) (moPw S o true) (moPh S o true) (i + 1) = true by simp only [moPo, hc144, hc162]; rfl] at ih
            refine x_iconst (v := nI 1) d_Mo_isPossible_165 (by decide +kernel) ?_
            refine x_goto 170 d_Mo_isPossible_166 rfl ?_
            refine s_istore (lv' := [(0, _), (1, _), (2, _), (3, _), (4, _), (5, _), (6, _), (7, _), (8, _), (9, _), (10, _), (11, _)]) d_Mo_isPossible_170 (by decide) rfl ?_
            refine s_iinc (lv' := [(0, _), (1, _), (2, _), (3, _), (4, _), (5, _), (6, _), (7, _), (8, _), (9, _), (10, _), (11, _)]) d_Mo_isPossible_172 rfl (xinc _) (by decide) rfl ?_
            refine x_goto 131 d_Mo_isPossible_175 rfl ?_
            refine x_lv (lv' := [(0, _), (1, _), (2, _), (3, _), (4, _), (5, _), (6, _), (7, _), (8, _), (9, _), (10, _), (11, _)]) [0, 1, 2, 3, 4, 5, 6, 7, 8, 9, 10, 11] rfl ?_
            exact ih
    refine x_lv (lv' := [(0, _), (1, _), (2, _), (3, _), (4, _), (5, _), (6, _), (7, _), (8, _), (9, _), (10, _), (11, _)]) [0, 1, 2, 3, 4, 5, 6, 7, 8, 9, 10, 11] rfl ?_
    exact L131 0 (Nat.zero_le _)
  · skip
    refine x_aload_n d_Mo_isPossible_62 rfl ?_
    refine y_getf d_Mo_isPossible_63 gf_Mo_110 k_model rfl ?_
    refine x_iload d_Mo_isPossible_66 rfl ?_
    refine y_iald hG d_Mo_isPossible_68 k_m_taken _ rfl (by omega) ?_
    refine x_aload_n d_Mo_isPossible_69 rfl ?_
    refine y_getf d_Mo_isPossible_70 gf_Mo_74 k_model rfl ?_
    refine x_iload d_Mo_isPossible_73 rfl ?_
    refine y_iald hG d_Mo_isPossible_75 k_m_open _ rfl (by omega) ?_
    refine x_icmp_ge 125 d_Mo_isPossible_76 rfl (fun hc76 => ?_) (fun hc76 => ?_)
    · skip
      skip
      refine x_iconst (v := nI 0) d_Mo_isPossible_125 (by decide +kernel) ?_
      refine J62 _ ?_
      unfold moMay
      first
        | (rw [decide_eq_true hc76]; rfl)
        | (rw [decide_eq_false hc76, decide_eq_true (show room < (moPw S o true) from hc82)]; rfl)
        | (rw [decide_eq_false hc76, decide_eq_false (show ¬ room < (moPw S o true) from hc82), decide_eq_true (show sA S 190 s - nI y < moPh S o true from hc96)]; rfl)
        | (rw [decide_eq_false hc76, decide_eq_false (show ¬ room < (moPw S o true) from hc82), decide_eq_false (show ¬ sA S 190 s - nI y < moPh S o true from hc96), decide_eq_true hc111]; rfl)
        | (rw [decide_eq_false hc76, decide_eq_false (show ¬ room < (moPw S o true) from hc82), decide_eq_false (show ¬ sA S 190 s - nI y < moPh S o true from hc96), decide_eq_false hc111, decide_eq_true (show moPw S o true = moPh S o true from hc118)]; rfl)
        | (rw [decide_eq_false hc76, decide_eq_false (show ¬ room < (moPw S o true) from hc82), decide_eq_false (show ¬ sA S 190 s - nI y < moPh S o true from hc96), decide_eq_false hc111, decide_eq_false (show ¬ moPw S o true = moPh S o true from hc118)]; rfl)
    · skip
      skip
      refine x_iload d_Mo_isPossible_79 rfl ?_
      refine x_iload_n d_Mo_isPossible_81 rfl ?_
      refine x_icmp_gt 125 d_Mo_isPossible_82 rfl (fun hc82 => ?_) (fun hc82 => ?_)
      · skip
        skip
        refine x_iconst (v := nI 0) d_Mo_isPossible_125 (by decide +kernel) ?_
        refine J62 _ ?_
        unfold moMay
        first
          | (rw [decide_eq_true hc76]; rfl)
          | (rw [decide_eq_false hc76, decide_eq_true (show room < (moPw S o true) from hc82)]; rfl)
          | (rw [decide_eq_false hc76, decide_eq_false (show ¬ room < (moPw S o true) from hc82), decide_eq_true (show sA S 190 s - nI y < moPh S o true from hc96)]; rfl)
          | (rw [decide_eq_false hc76, decide_eq_false (show ¬ room < (moPw S o true) from hc82), decide_eq_false (show ¬ sA S 190 s - nI y < moPh S o true from hc96), decide_eq_true hc111]; rfl)
          | (rw [decide_eq_false hc76, decide_eq_false (show ¬ room < (moPw S o true) from hc82), decide_eq_false (show ¬ sA S 190 s - nI y < moPh S o true from hc96), decide_eq_false hc111, decide_eq_true (show moPw S o true = moPh S o true from hc118)]; rfl)
          | (rw [decide_eq_false hc76, decide_eq_false (show ¬ room < (moPw S o true) from hc82), decide_eq_false (show ¬ sA S 190 s - nI y < moPh S o true from hc96), decide_eq_false hc111, decide_eq_false (show ¬ moPw S o true = moPh S o true from hc118)]; rfl)
      · skip
        skip
        refine x_iload d_Mo_isPossible_85 rfl ?_
        refine x_aload_n d_Mo_isPossible_87 rfl ?_
        refine y_getf d_Mo_isPossible_88 gf_Mo_20 k_model rfl ?_
        refine x_iload_n d_Mo_isPossible_91 rfl ?_
        refine y_iald hG d_Mo_isPossible_92 k_m_heights _ rfl (by omega) ?_
        refine x_iload d_Mo_isPossible_93 rfl ?_
        refine x_isub d_Mo_isPossible_95 ?_
        refine x_icmp_gt 125 d_Mo_isPossible_96 rfl (fun hc96 => ?_) (fun hc96 => ?_)
        · skip
          skip
          refine x_iconst (v := nI 0) d_Mo_isPossible_125 (by decide +kernel) ?_
          refine J62 _ ?_
          unfold moMay
          first
            | (rw [decide_eq_true hc76]; rfl)
            | (rw [decide_eq_false hc76, decide_eq_true (show room < (moPw S o true) from hc82)]; rfl)
            | (rw [decide_eq_false hc76, decide_eq_false (show ¬ room < (moPw S o true) from hc82), decide_eq_true (show sA S 190 s - nI y < moPh S o true from hc96)]; rfl)
            | (rw [decide_eq_false hc76, decide_eq_false (show ¬ room < (moPw S o true) from hc82), decide_eq_false (show ¬ sA S 190 s - nI y < moPh S o true from hc96), decide_eq_true hc111]; rfl)
            | (rw [decide_eq_false hc76, decide_eq_false (show ¬ room < (moPw S o true) from hc82), decide_eq_false (show ¬ sA S 190 s - nI y < moPh S o true from hc96), decide_eq_false hc111, decide_eq_true (show moPw S o true = moPh S o true from hc118)]; rfl)
            | (rw [decide_eq_false hc76, decide_eq_false (show ¬ room < (moPw S o true) from hc82), decide_eq_false (show ¬ sA S 190 s - nI y < moPh S o true from hc96), decide_eq_false hc111, decide_eq_false (show ¬ moPw S o true = moPh S o true from hc118)]; rfl)
        · skip
          skip
          refine x_iload d_Mo_isPossible_99 rfl ?_
          refine z_if_eq 121 d_Mo_isPossible_101 rfl (by omega) (fun q => absurd q (by omega)) (fun hc101 => ?_)
          refine x_aload_n d_Mo_isPossible_104 rfl ?_
          refine y_getf d_Mo_isPossible_105 gf_Mo_71 k_model rfl ?_
          refine x_iload d_Mo_isPossible_108 rfl ?_
          refine y_zald hG d_Mo_isPossible_110 k_m_turns _ rfl (by omega) ?_
          refine x_if_eq 125 d_Mo_isPossible_111 rfl (fun hc111 => ?_) (fun hc111 => ?_)
          · skip
            skip
            refine x_iconst (v := nI 0) d_Mo_isPossible_125 (by decide +kernel) ?_
            refine J62 _ ?_
            unfold moMay
            first
              | (rw [decide_eq_true hc76]; rfl)
              | (rw [decide_eq_false hc76, decide_eq_true (show room < (moPw S o true) from hc82)]; rfl)
              | (rw [decide_eq_false hc76, decide_eq_false (show ¬ room < (moPw S o true) from hc82), decide_eq_true (show sA S 190 s - nI y < moPh S o true from hc96)]; rfl)
              | (rw [decide_eq_false hc76, decide_eq_false (show ¬ room < (moPw S o true) from hc82), decide_eq_false (show ¬ sA S 190 s - nI y < moPh S o true from hc96), decide_eq_true hc111]; rfl)
              | (rw [decide_eq_false hc76, decide_eq_false (show ¬ room < (moPw S o true) from hc82), decide_eq_false (show ¬ sA S 190 s - nI y < moPh S o true from hc96), decide_eq_false hc111, decide_eq_true (show moPw S o true = moPh S o true from hc118)]; rfl)
              | (rw [decide_eq_false hc76, decide_eq_false (show ¬ room < (moPw S o true) from hc82), decide_eq_false (show ¬ sA S 190 s - nI y < moPh S o true from hc96), decide_eq_false hc111, decide_eq_false (show ¬ moPw S o true = moPh S o true from hc118)]; rfl)
          · skip
            skip
            refine x_iload d_Mo_isPossible_114 rfl ?_
            refine x_iload d_Mo_isPossible_116 rfl ?_
            refine x_icmp_eq 125 d_Mo_isPossible_118 rfl (fun hc118 => ?_) (fun hc118 => ?_)
            · skip
              skip
              refine x_iconst (v := nI 0) d_Mo_isPossible_125 (by decide +kernel) ?_
              refine J62 _ ?_
              unfold moMay
              first
                | (rw [decide_eq_true hc76]; rfl)
                | (rw [decide_eq_false hc76, decide_eq_true (show room < (moPw S o true) from hc82)]; rfl)
                | (rw [decide_eq_false hc76, decide_eq_false (show ¬ room < (moPw S o true) from hc82), decide_eq_true (show sA S 190 s - nI y < moPh S o true from hc96)]; rfl)
                | (rw [decide_eq_false hc76, decide_eq_false (show ¬ room < (moPw S o true) from hc82), decide_eq_false (show ¬ sA S 190 s - nI y < moPh S o true from hc96), decide_eq_true hc111]; rfl)
                | (rw [decide_eq_false hc76, decide_eq_false (show ¬ room < (moPw S o true) from hc82), decide_eq_false (show ¬ sA S 190 s - nI y < moPh S o true from hc96), decide_eq_false hc111, decide_eq_true (show moPw S o true = moPh S o true from hc118)]; rfl)
                | (rw [decide_eq_false hc76, decide_eq_false (show ¬ room < (moPw S o true) from hc82), decide_eq_false (show ¬ sA S 190 s - nI y < moPh S o true from hc96), decide_eq_false hc111, decide_eq_false (show ¬ moPw S o true = moPh S o true from hc118)]; rfl)
            · skip
              skip
              refine x_iconst (v := nI 1) d_Mo_isPossible_121 (by decide +kernel) ?_
              refine x_goto 126 d_Mo_isPossible_122 rfl ?_
              refine J62 _ ?_
              unfold moMay
              first
                | (rw [decide_eq_true hc76]; rfl)
                | (rw [decide_eq_false hc76, decide_eq_true (show room < (moPw S o true) from hc82)]; rfl)
                | (rw [decide_eq_false hc76, decide_eq_false (show ¬ room < (moPw S o true) from hc82), decide_eq_true (show sA S 190 s - nI y < moPh S o true from hc96)]; rfl)
                | (rw [decide_eq_false hc76, decide_eq_false (show ¬ room < (moPw S o true) from hc82), decide_eq_false (show ¬ sA S 190 s - nI y < moPh S o true from hc96), decide_eq_true hc111]; rfl)
                | (rw [decide_eq_false hc76, decide_eq_false (show ¬ room < (moPw S o true) from hc82), decide_eq_false (show ¬ sA S 190 s - nI y < moPh S o true from hc96), decide_eq_false hc111, decide_eq_true (show moPw S o true = moPh S o true from hc118)]; rfl)
                | (rw [decide_eq_false hc76, decide_eq_false (show ¬ room < (moPw S o true) from hc82), decide_eq_false (show ¬ sA S 190 s - nI y < moPh S o true from hc96), decide_eq_false hc111, decide_eq_false (show ¬ moPw S o true = moPh S o true from hc118)]; rfl)
set_option maxRecDepth 100000 in
set_option maxHeartbeats 1000000 in
theorem c_Mo_choose {G : xG} {B d : Nat} {S : xS} (hG : xOkG G) {N : Nat} (hN : sF S 186 20 = nI N) (hN6 : N ≤ 6) {s fl x y : Nat} {room : Int32} (hs : s < 8) (hfl : sA S 193 s = nI fl) (hf6 : fl ≤ 6) (hx : x < 8192) (hy : y < 65536) : EX G m_Mo_choose (d + 3) 0 [(0, .ref (B + 186)), (1, .int (nI s)), (2, .int (nI (8192 * y + x))), (3, .int room)] [] (mk G B S) ((xRet G B (some (.int (cI (moCh S s fl x y room N)))) S)) := by
  refine x_iconst (v := -1) d_Mo_choose_0 (by decide +kernel) ?_
  refine s_istore (lv' := [(0, _), (1, _), (2, _), (3, _), (4, _)]) d_Mo_choose_1 (by decide) rfl ?_
  refine x_iconst (v := nI 0) d_Mo_choose_3 (by decide +kernel) ?_
  refine s_istore (lv' := [(0, _), (1, _), (2, _), (3, _), (4, _), (5, _)]) d_Mo_choose_4 (by decide) rfl ?_
  have L6 : ∀ i, i ≤ N →  EX G m_Mo_choose (d + 3) 6 [(0, .ref (B + 186)), (1, .int (nI s)), (2, .int (nI (8192 * y + x))), (3, .int room), (4, .int (cI (moCh S s fl x y room i))), (5, .int (nI i))] [] (mk G B S) (xRet G B (some (.int (cI (moCh S s fl x y room N)))) S) := by
    refine x_down (N) ?_ ?_
    · skip
      skip
      refine x_iload d_Mo_choose_6 rfl ?_
      refine x_aload_n d_Mo_choose_8 rfl ?_
      refine y_getf (v := .int (nI N)) d_Mo_choose_9 gf_Mo_144 k_model (congrArg (fun q => some (Value.int q)) hN) ?_
      refine z_icmp_ge 93 d_Mo_choose_12 rfl (by omega) (by omega) (fun hc12 => ?_) (fun q => absurd q (by omega))
      refine x_iload d_Mo_choose_93 rfl ?_
      refine x_ireturn d_Mo_choose_95 rfl rfl ?_
      exact ⟨rfl, rfl⟩
    · intro i hi ih
      rw [show moCh S s fl x y room (i + 1) = moChS (moCh S s fl x y room i) (moPos S s fl x y room i false) (moPos S s fl x y room i true) (moBef S i) i from rfl] at ih
      refine x_iload d_Mo_choose_6 rfl ?_
      refine x_aload_n d_Mo_choose_8 rfl ?_
      refine y_getf (v := .int (nI N)) d_Mo_choose_9 gf_Mo_144 k_model (congrArg (fun q => some (Value.int q)) hN) ?_
      refine z_icmp_ge 93 d_Mo_choose_12 rfl (by omega) (by omega) (fun q => absurd q (by omega)) (fun hc12 => ?_)
      refine x_aload_n d_Mo_choose_15 rfl ?_
      refine x_iload_n d_Mo_choose_16 rfl ?_
      refine x_iload_n d_Mo_choose_17 rfl ?_
      refine x_iload_n d_Mo_choose_18 rfl ?_
      refine x_iload d_Mo_choose_19 rfl ?_
      refine x_iconst (v := nI 0) d_Mo_choose_21 (by decide +kernel) ?_
      refine w_callV (As := [_, _, _, _, _]) d_Mo_choose_22 k_Mo_200 k_model rfl rfl rfl (c_Mo_isPossible0 hG hs (by omega) hfl hf6 hx hy) ?_
      refine s_istore (lv' := [(0, _), (1, _), (2, _), (3, _), (4, _), (5, _), (6, _)]) d_Mo_choose_25 (by decide) rfl ?_
      refine x_aload_n d_Mo_choose_27 rfl ?_
      refine x_iload_n d_Mo_choose_28 rfl ?_
      refine x_iload_n d_Mo_choose_29 rfl ?_
      refine x_iload_n d_Mo_choose_30 rfl ?_
      refine x_iload d_Mo_choose_31 rfl ?_
      refine x_iconst (v := nI 1) d_Mo_choose_33 (by decide +kernel) ?_
      refine w_callV (As := [_, _, _, _, _]) d_Mo_choose_34 k_Mo_200 k_model rfl rfl rfl (c_Mo_isPossible1 hG hs (by omega) hfl hf6 hx hy) ?_
      refine s_istore (lv' := [(0, _), (1, _), (2, _), (3, _), (4, _), (5, _), (6, _), (7, _)]) d_Mo_choose_37 (by decide) rfl ?_
      refine x_iload d_Mo_choose_39 rfl ?_
      refine z_bif_ne 49 d_Mo_choose_41 rfl (fun hc41 => ?_) (fun hc41 => ?_)
      · skip
        skip
        have hpt : ¬ ((moPos S s fl x y room i false) = false ∧ (moPos S s fl x y room i true) = false) := fun q => by
          first
            | exact Bool.noConfusion (hc41.symm.trans q.1)
            | exact Bool.noConfusion (hc46.symm.trans q.2)
        unfold moChS at ih
        rw [if_neg hpt] at ih
        rcases hq : moCh S s fl x y room i with _ | v
        · skip
          rw [hq] at ih
          refine x_iload d_Mo_choose_49 rfl ?_
          refine x_if_lt 67 d_Mo_choose_51 rfl (fun hc51 => ?_) (fun q => absurd q (by decide +kernel))
          refine x_iload d_Mo_choose_67 rfl ?_
          refine z_bif_eq 79 d_Mo_choose_69 rfl (fun hc69 => ?_) (fun hc69 => ?_)
          · skip
            simp only [hc69, Bool.false_eq_true, if_false] at ih
            refine x_iconst (v := nI 2) d_Mo_choose_79 (by decide +kernel) ?_
            refine x_iload d_Mo_choose_80 rfl ?_
            refine x_imul d_Mo_choose_82 ?_
            rw [nI_mul]
            refine x_iconst (v := nI 1) d_Mo_choose_83 (by decide +kernel) ?_
            refine x_iadd d_Mo_choose_84 ?_
            rw [nI_add]
            refine s_istore (lv' := [(0, _), (1, _), (2, _), (3, _), (4, _), (5, _), (6, _), (7, _)]) d_Mo_choose_85 (by decide) rfl ?_
            refine s_iinc (lv' := [(0, _), (1, _), (2, _), (3, _), (4, _), (5, _), (6, _), (7, _)]) d_Mo_choose_87 rfl (xinc _) (by decide) rfl ?_
            refine x_goto 6 d_Mo_choose_90 rfl ?_
            refine x_lv (lv' := [(0, _), (1, _), (2, _), (3, _), (4, _), (5, _)]) [0, 1, 2, 3, 4, 5] rfl ?_
            exact ih
          · skip
            simp only [hc69, if_true] at ih
            refine x_iconst (v := nI 2) d_Mo_choose_72 (by decide +kernel) ?_
            refine x_iload d_Mo_choose_73 rfl ?_
            refine x_imul d_Mo_choose_75 ?_
            rw [nI_mul]
            refine x_goto 85 d_Mo_choose_76 rfl ?_
            refine s_istore (lv' := [(0, _), (1, _), (2, _), (3, _), (4, _), (5, _), (6, _), (7, _)]) d_Mo_choose_85 (by decide) rfl ?_
            refine s_iinc (lv' := [(0, _), (1, _), (2, _), (3, _), (4, _), (5, _), (6, _), (7, _)]) d_Mo_choose_87 rfl (xinc _) (by decide) rfl ?_
            refine x_goto 6 d_Mo_choose_90 rfl ?_
            refine x_lv (lv' := [(0, _), (1, _), (2, _), (3, _), (4, _), (5, _)]) [0, 1, 2, 3, 4, 5] rfl ?_
            exact ih
        · skip
          rw [hq] at ih
          have hv := moCh_lt hq
          refine x_iload d_Mo_choose_49 rfl ?_
          refine x_if_lt 67 d_Mo_choose_51 rfl (fun q => absurd q (nI_pos (by omega))) (fun hc51 => ?_)
          refine x_aload_n d_Mo_choose_54 rfl ?_
          refine x_iload d_Mo_choose_55 rfl ?_
          refine x_iload d_Mo_choose_57 rfl ?_
          refine x_iconst (v := nI 2) d_Mo_choose_59 (by decide +kernel) ?_
          refine x_idiv d_Mo_choose_60 (by decide +kernel) ?_
          rw [show cI (some v) / nI 2 = nI (v / 2) from nI_div (by omega) (by decide) (by decide)]
          refine w_callV (As := [_, _]) d_Mo_choose_61 k_Mo_204 k_model rfl rfl rfl (c_Mo_isBefore hG (by omega) (by omega)) ?_
          refine z_bif_eq 87 d_Mo_choose_64 rfl (fun hc64 => ?_) (fun hc64 => ?_)
          · skip
            simp only [hc64, Bool.false_eq_true, if_false] at ih
            refine s_iinc (lv' := [(0, _), (1, _), (2, _), (3, _), (4, _), (5, _), (6, _), (7, _)]) d_Mo_choose_87 rfl (xinc _) (by decide) rfl ?_
            refine x_goto 6 d_Mo_choose_90 rfl ?_
            refine x_lv (lv' := [(0, _), (1, _), (2, _), (3, _), (4, _), (5, _)]) [0, 1, 2, 3, 4, 5] rfl ?_
            exact ih
          · skip
            simp only [hc64, if_true] at ih
            refine x_iload d_Mo_choose_67 rfl ?_
            refine z_bif_eq 79 d_Mo_choose_69 rfl (fun hc69 => ?_) (fun hc69 => ?_)
            · skip
              simp only [hc69, Bool.false_eq_true, if_false] at ih
              refine x_iconst (v := nI 2) d_Mo_choose_79 (by decide +kernel) ?_
              refine x_iload d_Mo_choose_80 rfl ?_
              refine x_imul d_Mo_choose_82 ?_
              rw [nI_mul]
              refine x_iconst (v := nI 1) d_Mo_choose_83 (by decide +kernel) ?_
              refine x_iadd d_Mo_choose_84 ?_
              rw [nI_add]
              refine s_istore (lv' := [(0, _), (1, _), (2, _), (3, _), (4, _), (5, _), (6, _), (7, _)]) d_Mo_choose_85 (by decide) rfl ?_
              refine s_iinc (lv' := [(0, _), (1, _), (2, _), (3, _), (4, _), (5, _), (6, _), (7, _)]) d_Mo_choose_87 rfl (xinc _) (by decide) rfl ?_
              refine x_goto 6 d_Mo_choose_90 rfl ?_
              refine x_lv (lv' := [(0, _), (1, _), (2, _), (3, _), (4, _), (5, _)]) [0, 1, 2, 3, 4, 5] rfl ?_
              exact ih
            · skip
              simp only [hc69, if_true] at ih
              refine x_iconst (v := nI 2) d_Mo_choose_72 (by decide +kernel) ?_
              refine x_iload d_Mo_choose_73 rfl ?_
              refine x_imul d_Mo_choose_75 ?_
              rw [nI_mul]
              refine x_goto 85 d_Mo_choose_76 rfl ?_
              refine s_istore (lv' := [(0, _), (1, _), (2, _), (3, _), (4, _), (5, _), (6, _), (7, _)]) d_Mo_choose_85 (by decide) rfl ?_
              refine s_iinc (lv' := [(0, _), (1, _), (2, _), (3, _), (4, _), (5, _), (6, _), (7, _)]) d_Mo_choose_87 rfl (xinc _) (by decide) rfl ?_
              refine x_goto 6 d_Mo_choose_90 rfl ?_
              refine x_lv (lv' := [(0, _), (1, _), (2, _), (3, _), (4, _), (5, _)]) [0, 1, 2, 3, 4, 5] rfl ?_
              exact ih
      · skip
        skip
        refine x_iload d_Mo_choose_44 rfl ?_
        refine z_bif_eq 87 d_Mo_choose_46 rfl (fun hc46 => ?_) (fun hc46 => ?_)
        · skip
          rw [show moChS (moCh S s fl x y room i) (moPos S s fl x y room i false) (moPos S s fl x y room i true) (moBef S i) i = moCh S s fl x y room i from if_pos ⟨hc41, hc46⟩] at ih
          refine s_iinc (lv' := [(0, _), (1, _), (2, _), (3, _), (4, _), (5, _), (6, _), (7, _)]) d_Mo_choose_87 rfl (xinc _) (by decide) rfl ?_
          refine x_goto 6 d_Mo_choose_90 rfl ?_
          refine x_lv (lv' := [(0, _), (1, _), (2, _), (3, _), (4, _), (5, _)]) [0, 1, 2, 3, 4, 5] rfl ?_
          exact ih
        · skip
          skip
          have hpt : ¬ ((moPos S s fl x y room i false) = false ∧ (moPos S s fl x y room i true) = false) := fun q => by
            first
              | exact Bool.noConfusion (hc41.symm.trans q.1)
              | exact Bool.noConfusion (hc46.symm.trans q.2)
          unfold moChS at ih
          rw [if_neg hpt] at ih
          rcases hq : moCh S s fl x y room i with _ | v
          · skip
            rw [hq] at ih
            refine x_iload d_Mo_choose_49 rfl ?_
            refine x_if_lt 67 d_Mo_choose_51 rfl (fun hc51 => ?_) (fun q => absurd q (by decide +kernel))
            refine x_iload d_Mo_choose_67 rfl ?_
            refine z_bif_eq 79 d_Mo_choose_69 rfl (fun hc69 => ?_) (fun hc69 => ?_)
            · skip
              simp only [hc69, Bool.false_eq_true, if_false] at ih
              refine x_iconst (v := nI 2) d_Mo_choose_79 (by decide +kernel) ?_
              refine x_iload d_Mo_choose_80 rfl ?_
              refine x_imul d_Mo_choose_82 ?_
              rw [nI_mul]
              refine x_iconst (v := nI 1) d_Mo_choose_83 (by decide +kernel) ?_
              refine x_iadd d_Mo_choose_84 ?_
              rw [nI_add]
              refine s_istore (lv' := [(0, _), (1, _), (2, _), (3, _), (4, _), (5, _), (6, _), (7, _)]) d_Mo_choose_85 (by decide) rfl ?_
              refine s_iinc (lv' := [(0, _), (1, _), (2, _), (3, _), (4, _), (5, _), (6, _), (7, _)]) d_Mo_choose_87 rfl (xinc _) (by decide) rfl ?_
              refine x_goto 6 d_Mo_choose_90 rfl ?_
              refine x_lv (lv' := [(0, _), (1, _), (2, _), (3, _), (4, _), (5, _)]) [0, 1, 2, 3, 4, 5] rfl ?_
              exact ih
            · skip
              simp only [hc69, if_true] at ih
              refine x_iconst (v := nI 2) d_Mo_choose_72 (by decide +kernel) ?_
              refine x_iload d_Mo_choose_73 rfl ?_
              refine x_imul d_Mo_choose_75 ?_
              rw [nI_mul]
              refine x_goto 85 d_Mo_choose_76 rfl ?_
              refine s_istore (lv' := [(0, _), (1, _), (2, _), (3, _), (4, _), (5, _), (6, _), (7, _)]) d_Mo_choose_85 (by decide) rfl ?_
              refine s_iinc (lv' := [(0, _), (1, _), (2, _), (3, _), (4, _), (5, _), (6, _), (7, _)]) d_Mo_choose_87 rfl (xinc _) (by decide) rfl ?_
              refine x_goto 6 d_Mo_choose_90 rfl ?_
              refine x_lv (lv' := [(0, _), (1, _), (2, _), (3, _), (4, _), (5, _)]) [0, 1, 2, 3, 4, 5] rfl ?_
              exact ih
          · skip
            rw [hq] at ih
            have hv := moCh_lt hq
            refine x_iload d_Mo_choose_49 rfl ?_
            refine x_if_lt 67 d_Mo_choose_51 rfl (fun q => absurd q (nI_pos (by omega))) (fun hc51 => ?_)
            refine x_aload_n d_Mo_choose_54 rfl ?_
            refine x_iload d_Mo_choose_55 rfl ?_
            refine x_iload d_Mo_choose_57 rfl ?_
            refine x_iconst (v := nI 2) d_Mo_choose_59 (by decide +kernel) ?_
            refine x_idiv d_Mo_choose_60 (by decide +kernel) ?_
            rw [show cI (some v) / nI 2 = nI (v / 2) from nI_div (by omega) (by decide) (by decide)]
            refine w_callV (As := [_, _]) d_Mo_choose_61 k_Mo_204 k_model rfl rfl rfl (c_Mo_isBefore hG (by omega) (by omega)) ?_
            refine z_bif_eq 87 d_Mo_choose_64 rfl (fun hc64 => ?_) (fun hc64 => ?_)
            · skip
              simp only [hc64, Bool.false_eq_true, if_false] at ih
              refine s_iinc (lv' := [(0, _), (1, _), (2, _), (3, _), (4, _), (5, _), (6, _), (7, _)]) d_Mo_choose_87 rfl (xinc _) (by decide) rfl ?_
              refine x_goto 6 d_Mo_choose_90 rfl ?_
              refine x_lv (lv' := [(0, _), (1, _), (2, _), (3, _), (4, _), (5, _)]) [0, 1, 2, 3, 4, 5] rfl ?_
              exact ih
            · skip
              simp only [hc64, if_true] at ih
              refine x_iload d_Mo_choose_67 rfl ?_
              refine z_bif_eq 79 d_Mo_choose_69 rfl (fun hc69 => ?_) (fun hc69 => ?_)
              · skip
                simp only [hc69, Bool.false_eq_true, if_false] at ih
                refine x_iconst (v := nI 2) d_Mo_choose_79 (by decide +kernel) ?_
                refine x_iload d_Mo_choose_80 rfl ?_
                refine x_imul d_Mo_choose_82 ?_
                rw [nI_mul]
                refine x_iconst (v := nI 1) d_Mo_choose_83 (by decide +kernel) ?_
                refine x_iadd d_Mo_choose_84 ?_
                rw [nI_add]
                refine s_istore (lv' := [(0, _), (1, _), (2, _), (3, _), (4, _), (5, _), (6, _), (7, _)]) d_Mo_choose_85 (by decide) rfl ?_
                refine s_iinc (lv' := [(0, _), (1, _), (2, _), (3, _), (4, _), (5, _), (6, _), (7, _)]) d_Mo_choose_87 rfl (xinc _) (by decide) rfl ?_
                refine x_goto 6 d_Mo_choose_90 rfl ?_
                refine x_lv (lv' := [(0, _), (1, _), (2, _), (3, _), (4, _), (5, _)]) [0, 1, 2, 3, 4, 5] rfl ?_
                exact ih
              · skip
                simp only [hc69, if_true] at ih
                refine x_iconst (v := nI 2) d_Mo_choose_72 (by decide +kernel) ?_
                refine x_iload d_Mo_choose_73 rfl ?_
                refine x_imul d_Mo_choose_75 ?_
                rw [nI_mul]
                refine x_goto 85 d_Mo_choose_76 rfl ?_
                refine s_istore (lv' := [(0, _), (1, _), (2, _), (3, _), (4, _), (5, _), (6, _), (7, _)]) d_Mo_choose_85 (by decide) rfl ?_
                refine s_iinc (lv' := [(0, _), (1, _), (2, _), (3, _), (4, _), (5, _), (6, _), (7, _)]) d_Mo_choose_87 rfl (xinc _) (by decide) rfl ?_
                refine x_goto 6 d_Mo_choose_90 rfl ?_
                refine x_lv (lv' := [(0, _), (1, _), (2, _), (3, _), (4, _), (5, _)]) [0, 1, 2, 3, 4, 5] rfl ?_
                exact ih
  refine x_lv (lv' := [(0, _), (1, _), (2, _), (3, _), (4, _), (5, _)]) [0, 1, 2, 3, 4, 5] rfl ?_
  exact L6 0 (Nat.zero_le _)
/-! the pieces that are still to be cut -/
def moPush (S : xS) (n : Nat) (h c r p q : Int32) : xS := uF (uA (uA (uA (uA (uA S 221 n h) 222 n c) 223 n r) 224 n p) 229 n q) 186 43 (nI (n + 1))
def moAt (S : xS) (n : Nat) (x y w h : Int32) : xS := uA (uA (uA (uA S 225 n x) 226 n y) 227 n w) 228 n h
def moReach (S : xS) (n has : Nat) (c r : Int32) (p : Nat) : Int32 := match has with
  | 0 => moCW S c n n
  | 1 => moRH S c r n
  | 2 => match moPA S c r p n 0 0 with
    | none => nI 0
    | some i => sA S 216 i
  | 3 => match moPA S c r p n 0 0 with
    | none => nI 0
    | some i => sA S 217 i
  | _ => nI 0
theorem moPA_lt {S : xS} {c r : Int32} {p : Nat} : ∀ {k i q j : Nat}, moPA S c r p k i q = some j → j < i + k
  | k + 1, i, q, j, h => by
    unfold moPA at h
    split at h
    · split at h
      · cases h; omega
      · have := moPA_lt h; omega
    · have := moPA_lt h; omega
set_option maxRecDepth 100000 in
set_option maxHeartbeats 1000000 in
theorem c_Mo_push {G : xG} {B d : Nat} {S : xS} (hG : xOkG G) {n : Nat} (hq : sF S 186 43 = nI n) (hn : n < 64) {h c r p q : Int32} : EX G m_Mo_push d 0 [(0, .ref (B + 186)), (1, .int h), (2, .int c), (3, .int r), (4, .int p), (5, .int q)] [] (mk G B S) (xRet G B none (moPush S n h c r p q)) := by
  refine x_aload_n d_Mo_push_0 rfl ?_
  refine y_getf d_Mo_push_1 gf_Mo_113 k_model rfl ?_
  refine x_aload_n d_Mo_push_4 rfl ?_
  refine y_getf (v := .int (nI n)) d_Mo_push_5 gf_Mo_216 k_model (congrArg (fun q => some (Value.int q)) hq) ?_
  refine x_iload_n d_Mo_push_8 rfl ?_
  refine y_iast hG d_Mo_push_9 k_m_pieceHas _ rfl (by omega) ?_
  refine x_aload_n d_Mo_push_10 rfl ?_
  refine y_getf d_Mo_push_11 gf_Mo_116 k_model rfl ?_
  refine x_aload_n d_Mo_push_14 rfl ?_
  refine y_getf (v := .int (nI n)) d_Mo_push_15 gf_Mo_216 k_model (congrArg (fun q => some (Value.int q)) hq) ?_
  refine x_iload_n d_Mo_push_18 rfl ?_
  refine y_iast hG d_Mo_push_19 k_m_pieceColumn _ rfl (by omega) ?_
  refine x_aload_n d_Mo_push_20 rfl ?_
  refine y_getf d_Mo_push_21 gf_Mo_119 k_model rfl ?_
  refine x_aload_n d_Mo_push_24 rfl ?_
  refine y_getf (v := .int (nI n)) d_Mo_push_25 gf_Mo_216 k_model (congrArg (fun q => some (Value.int q)) hq) ?_
  refine x_iload_n d_Mo_push_28 rfl ?_
  refine y_iast hG d_Mo_push_29 k_m_pieceRow _ rfl (by omega) ?_
  refine x_aload_n d_Mo_push_30 rfl ?_
  refine y_getf d_Mo_push_31 gf_Mo_122 k_model rfl ?_
  refine x_aload_n d_Mo_push_34 rfl ?_
  refine y_getf (v := .int (nI n)) d_Mo_push_35 gf_Mo_216 k_model (congrArg (fun q => some (Value.int q)) hq) ?_
  refine x_iload d_Mo_push_38 rfl ?_
  refine y_iast hG d_Mo_push_40 k_m_piecePane _ rfl (by omega) ?_
  refine x_aload_n d_Mo_push_41 rfl ?_
  refine y_getf d_Mo_push_42 gf_Mo_137 k_model rfl ?_
  refine x_aload_n d_Mo_push_45 rfl ?_
  refine y_getf (v := .int (nI n)) d_Mo_push_46 gf_Mo_216 k_model (congrArg (fun q => some (Value.int q)) hq) ?_
  refine x_iload d_Mo_push_49 rfl ?_
  refine y_iast hG d_Mo_push_51 k_m_pieceOf _ rfl (by omega) ?_
  refine x_aload_n d_Mo_push_52 rfl ?_
  refine x_dup d_Mo_push_53 rfl ?_
  refine y_getf (v := .int (nI n)) d_Mo_push_54 gf_Mo_216 k_model (congrArg (fun q => some (Value.int q)) hq) ?_
  refine x_iconst (v := nI 1) d_Mo_push_57 (by decide +kernel) ?_
  refine x_iadd d_Mo_push_58 ?_
  rw [nI_add]
  refine y_puti d_Mo_push_59 pf_Mo_216 k_model (xBle rfl) rfl rfl rfl ?_
  refine x_return d_Mo_push_62 rfl ?_
  exact ⟨rfl, rfl⟩
set_option maxRecDepth 100000 in
set_option maxHeartbeats 1000000 in
theorem c_Mo_at {G : xG} {B d : Nat} {S : xS} (hG : xOkG G) {n : Nat} (hq : sF S 186 43 = nI (n + 1)) (hn : n < 64) {x y w h : Int32} : EX G m_Mo_at d 0 [(0, .ref (B + 186)), (1, .int x), (2, .int y), (3, .int w), (4, .int h)] [] (mk G B S) (xRet G B none (moAt S n x y w h)) := by
  refine x_aload_n d_Mo_at_0 rfl ?_
  refine y_getf d_Mo_at_1 gf_Mo_125 k_model rfl ?_
  refine x_aload_n d_Mo_at_4 rfl ?_
  refine y_getf (v := .int (nI (n + 1))) d_Mo_at_5 gf_Mo_216 k_model (congrArg (fun q => some (Value.int q)) hq) ?_
  refine x_iconst (v := nI 1) d_Mo_at_8 (by decide +kernel) ?_
  refine x_isub d_Mo_at_9 ?_
  rw [pk_sub (by omega), Nat.add_sub_cancel]
  refine x_iload_n d_Mo_at_10 rfl ?_
  refine y_iast hG d_Mo_at_11 k_m_pieceX _ rfl (by omega) ?_
  refine x_aload_n d_Mo_at_12 rfl ?_
  refine y_getf d_Mo_at_13 gf_Mo_128 k_model rfl ?_
  refine x_aload_n d_Mo_at_16 rfl ?_
  refine y_getf (v := .int (nI (n + 1))) d_Mo_at_17 gf_Mo_216 k_model (congrArg (fun q => some (Value.int q)) hq) ?_
  refine x_iconst (v := nI 1) d_Mo_at_20 (by decide +kernel) ?_
  refine x_isub d_Mo_at_21 ?_
  rw [pk_sub (by omega), Nat.add_sub_cancel]
  refine x_iload_n d_Mo_at_22 rfl ?_
  refine y_iast hG d_Mo_at_23 k_m_pieceY _ rfl (by omega) ?_
  refine x_aload_n d_Mo_at_24 rfl ?_
  refine y_getf d_Mo_at_25 gf_Mo_131 k_model rfl ?_
  refine x_aload_n d_Mo_at_28 rfl ?_
  refine y_getf (v := .int (nI (n + 1))) d_Mo_at_29 gf_Mo_216 k_model (congrArg (fun q => some (Value.int q)) hq) ?_
  refine x_iconst (v := nI 1) d_Mo_at_32 (by decide +kernel) ?_
  refine x_isub d_Mo_at_33 ?_
  rw [pk_sub (by omega), Nat.add_sub_cancel]
  refine x_iload_n d_Mo_at_34 rfl ?_
  refine y_iast hG d_Mo_at_35 k_m_pieceW _ rfl (by omega) ?_
  refine x_aload_n d_Mo_at_36 rfl ?_
  refine y_getf d_Mo_at_37 gf_Mo_134 k_model rfl ?_
  refine x_aload_n d_Mo_at_40 rfl ?_
  refine y_getf (v := .int (nI (n + 1))) d_Mo_at_41 gf_Mo_216 k_model (congrArg (fun q => some (Value.int q)) hq) ?_
  refine x_iconst (v := nI 1) d_Mo_at_44 (by decide +kernel) ?_
  refine x_isub d_Mo_at_45 ?_
  rw [pk_sub (by omega), Nat.add_sub_cancel]
  refine x_iload d_Mo_at_46 rfl ?_
  refine y_iast hG d_Mo_at_48 k_m_pieceH _ rfl (by omega) ?_
  refine x_return d_Mo_at_49 rfl ?_
  exact ⟨rfl, rfl⟩
set_option maxRecDepth 100000 in
set_option maxHeartbeats 1000000 in
theorem c_Mo_paneAt {G : xG} {B d : Nat} {S : xS} (hG : xOkG G) {n : Nat} (hp : sF S 186 36 = nI n) (hp40 : n ≤ 40) {c r : Int32} {p : Nat} (hpp : p < 2 ^ 31) : EX G m_Mo_paneAt d 0 [(0, .ref (B + 186)), (1, .int c), (2, .int r), (3, .int (nI p))] [] (mk G B S) ((xRet G B (some (.int (cI (moPA S c r p n 0 0)))) S)) := by
  refine x_iconst (v := nI 0) d_Mo_paneAt_0 (by decide +kernel) ?_
  refine s_istore (lv' := [(0, _), (1, _), (2, _), (3, _), (4, _)]) d_Mo_paneAt_1 (by decide) rfl ?_
  refine x_iconst (v := nI 0) d_Mo_paneAt_3 (by decide +kernel) ?_
  refine s_istore (lv' := [(0, _), (1, _), (2, _), (3, _), (4, _), (5, _)]) d_Mo_paneAt_4 (by decide) rfl ?_
  have L6 : ∀ i, i ≤ n → ∀ q, q ≤ i → EX G m_Mo_paneAt d 6 [(0, .ref (B + 186)), (1, .int c), (2, .int r), (3, .int (nI p)), (4, .int (nI q)), (5, .int (nI i))] [] (mk G B S) (xRet G B (some (.int (cI (moPA S c r p (n - i) i q)))) S) := by
    refine x_down (n) ?_ ?_
    · skip
      rw [Nat.sub_self]
      intro q hqi
      refine x_iload d_Mo_paneAt_6 rfl ?_
      refine x_aload_n d_Mo_paneAt_8 rfl ?_
      refine y_getf (v := .int (nI n)) d_Mo_paneAt_9 gf_Mo_174 k_model (congrArg (fun q => some (Value.int q)) hp) ?_
      refine z_icmp_ge 55 d_Mo_paneAt_12 rfl (by omega) (by omega) (fun hc12 => ?_) (fun q => absurd q (by omega))
      refine x_iconst (v := -1) d_Mo_paneAt_55 (by decide +kernel) ?_
      refine x_ireturn d_Mo_paneAt_56 rfl rfl ?_
      exact ⟨rfl, rfl⟩
    · intro i hi ih
      intro q hqi
      rw [show n - i = n - (i + 1) + 1 by omega]
      simp only [moPA]
      refine x_iload d_Mo_paneAt_6 rfl ?_
      refine x_aload_n d_Mo_paneAt_8 rfl ?_
      refine y_getf (v := .int (nI n)) d_Mo_paneAt_9 gf_Mo_174 k_model (congrArg (fun q => some (Value.int q)) hp) ?_
      refine z_icmp_ge 55 d_Mo_paneAt_12 rfl (by omega) (by omega) (fun q => absurd q (by omega)) (fun hc12 => ?_)
      refine x_aload_n d_Mo_paneAt_15 rfl ?_
      refine y_getf d_Mo_paneAt_16 gf_Mo_104 k_model rfl ?_
      refine x_iload d_Mo_paneAt_19 rfl ?_
      refine y_iald hG d_Mo_paneAt_21 k_m_paneColumn _ rfl (by omega) ?_
      refine x_iload_n d_Mo_paneAt_22 rfl ?_
      refine x_icmp_ne 49 d_Mo_paneAt_23 rfl (fun hc23 => ?_) (fun hc23 => ?_)
      · skip
        rw [if_neg (moInR_1 hc23)]
        replace ih := ih q (by omega)
        refine s_iinc (lv' := [(0, _), (1, _), (2, _), (3, _), (4, _), (5, _)]) d_Mo_paneAt_49 rfl (xinc _) (by decide) rfl ?_
        refine x_goto 6 d_Mo_paneAt_52 rfl ?_
        refine x_lv (lv' := [(0, _), (1, _), (2, _), (3, _), (4, _), (5, _)]) [0, 1, 2, 3, 4, 5] rfl ?_
        exact ih
      · skip
        skip
        refine x_aload_n d_Mo_paneAt_26 rfl ?_
        refine y_getf d_Mo_paneAt_27 gf_Mo_107 k_model rfl ?_
        refine x_iload d_Mo_paneAt_30 rfl ?_
        refine y_iald hG d_Mo_paneAt_32 k_m_paneRow _ rfl (by omega) ?_
        refine x_iload_n d_Mo_paneAt_33 rfl ?_
        refine x_icmp_ne 49 d_Mo_paneAt_34 rfl (fun hc34 => ?_) (fun hc34 => ?_)
        · skip
          rw [if_neg (moInR_2 hc34)]
          replace ih := ih q (by omega)
          refine s_iinc (lv' := [(0, _), (1, _), (2, _), (3, _), (4, _), (5, _)]) d_Mo_paneAt_49 rfl (xinc _) (by decide) rfl ?_
          refine x_goto 6 d_Mo_paneAt_52 rfl ?_
          refine x_lv (lv' := [(0, _), (1, _), (2, _), (3, _), (4, _), (5, _)]) [0, 1, 2, 3, 4, 5] rfl ?_
          exact ih
        · skip
          rw [if_pos (moInR_t hc23 hc34)]
          refine x_iload d_Mo_paneAt_37 rfl ?_
          refine x_iload_n d_Mo_paneAt_39 rfl ?_
          refine z_icmp_ne 46 d_Mo_paneAt_40 rfl (by omega) (by omega) (fun hc40 => ?_) (fun hc40 => ?_)
          · skip
            rw [if_neg hc40]
            replace ih := ih (q + 1) (by omega)
            refine s_iinc (lv' := [(0, _), (1, _), (2, _), (3, _), (4, _), (5, _)]) d_Mo_paneAt_46 rfl (xinc _) (by decide) rfl ?_
            refine s_iinc (lv' := [(0, _), (1, _), (2, _), (3, _), (4, _), (5, _)]) d_Mo_paneAt_49 rfl (xinc _) (by decide) rfl ?_
            refine x_goto 6 d_Mo_paneAt_52 rfl ?_
            refine x_lv (lv' := [(0, _), (1, _), (2, _), (3, _), (4, _), (5, _)]) [0, 1, 2, 3, 4, 5] rfl ?_
            exact ih
          · skip
            rw [if_pos hc40]
            refine x_iload d_Mo_paneAt_43 rfl ?_
            refine x_ireturn d_Mo_paneAt_45 rfl rfl ?_
            exact ⟨rfl, rfl⟩
  refine x_lv (lv' := [(0, _), (1, _), (2, _), (3, _), (4, _), (5, _)]) [0, 1, 2, 3, 4, 5] rfl ?_
  exact L6 0 (Nat.zero_le _) 0 (Nat.le_refl _)
set_option maxRecDepth 100000 in
set_option maxHeartbeats 1000000 in
theorem c_Mo_reach0 {G : xG} {B d : Nat} {S : xS} (hG : xOkG G) {n : Nat} (hp : sF S 186 36 = nI n) (hp40 : n ≤ 40) {c r : Int32} {p : Nat} (hpp : p < 2 ^ 31) : EX G m_Mo_reach (d + 2) 0 [(0, .ref (B + 186)), (1, .int (nI 0)), (2, .int c), (3, .int r), (4, .int (nI p))] [] (mk G B S) ((xRet G B (some (.int (moReach S n 0 c r p))) S)) := by
  refine x_iload_n d_Mo_reach_0 rfl ?_
  refine x_iconst (v := nI 1) d_Mo_reach_1 (by decide +kernel) ?_
  refine z_icmp_le 21 d_Mo_reach_2 rfl (by omega) (by omega) (fun hc2 => ?_) (fun q => absurd q (by omega))
  refine x_iconst (v := -1) d_Mo_reach_21 (by decide +kernel) ?_
  refine s_istore (lv' := [(0, _), (1, _), (2, _), (3, _), (4, _), (5, _)]) d_Mo_reach_22 (by decide) rfl ?_
  refine x_iload_n d_Mo_reach_24 rfl ?_
  refine z_if_ne 34 d_Mo_reach_25 rfl (by omega) (fun q => absurd q (by omega)) (fun hc25 => ?_)
  refine x_aload_n d_Mo_reach_28 rfl ?_
  refine x_iload_n d_Mo_reach_29 rfl ?_
  refine w_callV (As := [_]) d_Mo_reach_30 k_Mo_183 k_model rfl rfl rfl (c_Mo_columnWidth hG hp hp40) ?_
  refine x_ireturn d_Mo_reach_33 rfl rfl ?_
  exact ⟨rfl, rfl⟩
set_option maxRecDepth 100000 in
set_option maxHeartbeats 1000000 in
theorem c_Mo_reach1 {G : xG} {B d : Nat} {S : xS} (hG : xOkG G) {n : Nat} (hp : sF S 186 36 = nI n) (hp40 : n ≤ 40) {c r : Int32} {p : Nat} (hpp : p < 2 ^ 31) : EX G m_Mo_reach (d + 2) 0 [(0, .ref (B + 186)), (1, .int (nI 1)), (2, .int c), (3, .int r), (4, .int (nI p))] [] (mk G B S) ((xRet G B (some (.int (moReach S n 1 c r p))) S)) := by
  refine x_iload_n d_Mo_reach_0 rfl ?_
  refine x_iconst (v := nI 1) d_Mo_reach_1 (by decide +kernel) ?_
  refine z_icmp_le 21 d_Mo_reach_2 rfl (by omega) (by omega) (fun hc2 => ?_) (fun q => absurd q (by omega))
  refine x_iconst (v := -1) d_Mo_reach_21 (by decide +kernel) ?_
  refine s_istore (lv' := [(0, _), (1, _), (2, _), (3, _), (4, _), (5, _)]) d_Mo_reach_22 (by decide) rfl ?_
  refine x_iload_n d_Mo_reach_24 rfl ?_
  refine z_if_ne 34 d_Mo_reach_25 rfl (by omega) (fun hc25 => ?_) (fun q => absurd q (by omega))
  refine x_iload_n d_Mo_reach_34 rfl ?_
  refine x_iconst (v := nI 1) d_Mo_reach_35 (by decide +kernel) ?_
  refine z_icmp_ne 46 d_Mo_reach_36 rfl (by omega) (by omega) (fun q => absurd q (by omega)) (fun hc36 => ?_)
  refine x_aload_n d_Mo_reach_39 rfl ?_
  refine x_iload_n d_Mo_reach_40 rfl ?_
  refine x_iload_n d_Mo_reach_41 rfl ?_
  refine w_callV (As := [_, _]) d_Mo_reach_42 k_Mo_189 k_model rfl rfl rfl (c_Mo_rowHeight hG hp hp40) ?_
  refine x_ireturn d_Mo_reach_45 rfl rfl ?_
  exact ⟨rfl, rfl⟩
set_option maxRecDepth 100000 in
set_option maxHeartbeats 1000000 in
theorem c_Mo_reach2 {G : xG} {B d : Nat} {S : xS} (hG : xOkG G) {n : Nat} (hp : sF S 186 36 = nI n) (hp40 : n ≤ 40) {c r : Int32} {p : Nat} (hpp : p < 2 ^ 31) : EX G m_Mo_reach (d + 2) 0 [(0, .ref (B + 186)), (1, .int (nI 2)), (2, .int c), (3, .int r), (4, .int (nI p))] [] (mk G B S) ((xRet G B (some (.int (moReach S n 2 c r p))) S)) := by
  refine x_iload_n d_Mo_reach_0 rfl ?_
  refine x_iconst (v := nI 1) d_Mo_reach_1 (by decide +kernel) ?_
  refine z_icmp_le 21 d_Mo_reach_2 rfl (by omega) (by omega) (fun q => absurd q (by omega)) (fun hc2 => ?_)
  refine x_iload_n d_Mo_reach_5 rfl ?_
  refine x_iconst (v := nI 4) d_Mo_reach_6 (by decide +kernel) ?_
  refine z_icmp_ge 21 d_Mo_reach_7 rfl (by omega) (by omega) (fun q => absurd q (by omega)) (fun hc7 => ?_)
  refine x_aload_n d_Mo_reach_10 rfl ?_
  refine x_iload_n d_Mo_reach_11 rfl ?_
  refine x_iload_n d_Mo_reach_12 rfl ?_
  refine x_iload d_Mo_reach_13 rfl ?_
  rcases hq : moPA S c r p n 0 0 with _ | i
  · skip
    refine w_callV (As := [_, _, _]) d_Mo_reach_15 k_Mo_219 k_model rfl rfl rfl (c_Mo_paneAt hG hp hp40 hpp) ?_
    rw [hq, show cI none = -1 from rfl]
    refine x_goto 22 d_Mo_reach_18 rfl ?_
    refine s_istore (lv' := [(0, _), (1, _), (2, _), (3, _), (4, _), (5, _)]) d_Mo_reach_22 (by decide) rfl ?_
    refine x_iload_n d_Mo_reach_24 rfl ?_
    refine z_if_ne 34 d_Mo_reach_25 rfl (by omega) (fun hc25 => ?_) (fun q => absurd q (by omega))
    refine x_iload_n d_Mo_reach_34 rfl ?_
    refine x_iconst (v := nI 1) d_Mo_reach_35 (by decide +kernel) ?_
    refine z_icmp_ne 46 d_Mo_reach_36 rfl (by omega) (by omega) (fun hc36 => ?_) (fun q => absurd q (by omega))
    refine x_iload d_Mo_reach_46 rfl ?_
    refine x_if_ge 55 d_Mo_reach_48 rfl (fun q => absurd q (by decide +kernel)) (fun hc48 => ?_)
    refine x_iconst (v := nI 0) d_Mo_reach_51 (by decide +kernel) ?_
    refine x_goto 77 d_Mo_reach_52 rfl ?_
    refine x_ireturn d_Mo_reach_77 rfl rfl ?_
    simp only [moReach, hq]
    exact ⟨rfl, rfl⟩
  · skip
    refine w_callV (As := [_, _, _]) d_Mo_reach_15 k_Mo_219 k_model rfl rfl rfl (c_Mo_paneAt hG hp hp40 hpp) ?_
    rw [hq, show cI (some i) = nI i from rfl]
    have hi := moPA_lt hq
    refine x_goto 22 d_Mo_reach_18 rfl ?_
    refine s_istore (lv' := [(0, _), (1, _), (2, _), (3, _), (4, _), (5, _)]) d_Mo_reach_22 (by decide) rfl ?_
    refine x_iload_n d_Mo_reach_24 rfl ?_
    refine z_if_ne 34 d_Mo_reach_25 rfl (by omega) (fun hc25 => ?_) (fun q => absurd q (by omega))
    refine x_iload_n d_Mo_reach_34 rfl ?_
    refine x_iconst (v := nI 1) d_Mo_reach_35 (by decide +kernel) ?_
    refine z_icmp_ne 46 d_Mo_reach_36 rfl (by omega) (by omega) (fun hc36 => ?_) (fun q => absurd q (by omega))
    refine x_iload d_Mo_reach_46 rfl ?_
    refine z_if_ge 55 d_Mo_reach_48 rfl (by omega) ?_
    refine x_iload_n d_Mo_reach_55 rfl ?_
    refine x_iconst (v := nI 2) d_Mo_reach_56 (by decide +kernel) ?_
    refine z_icmp_ne 70 d_Mo_reach_57 rfl (by omega) (by omega) (fun q => absurd q (by omega)) (fun hc57 => ?_)
    refine x_aload_n d_Mo_reach_60 rfl ?_
    refine y_getf d_Mo_reach_61 gf_Mo_98 k_model rfl ?_
    refine x_iload d_Mo_reach_64 rfl ?_
    refine y_iald hG d_Mo_reach_66 k_m_paneW _ rfl (by omega) ?_
    refine x_goto 77 d_Mo_reach_67 rfl ?_
    refine x_ireturn d_Mo_reach_77 rfl rfl ?_
    simp only [moReach, hq]
    exact ⟨rfl, rfl⟩
set_option maxRecDepth 100000 in
set_option maxHeartbeats 1000000 in
theorem c_Mo_reach3 {G : xG} {B d : Nat} {S : xS} (hG : xOkG G) {n : Nat} (hp : sF S 186 36 = nI n) (hp40 : n ≤ 40) {c r : Int32} {p : Nat} (hpp : p < 2 ^ 31) : EX G m_Mo_reach (d + 2) 0 [(0, .ref (B + 186)), (1, .int (nI 3)), (2, .int c), (3, .int r), (4, .int (nI p))] [] (mk G B S) ((xRet G B (some (.int (moReach S n 3 c r p))) S)) := by
  refine x_iload_n d_Mo_reach_0 rfl ?_
  refine x_iconst (v := nI 1) d_Mo_reach_1 (by decide +kernel) ?_
  refine z_icmp_le 21 d_Mo_reach_2 rfl (by omega) (by omega) (fun q => absurd q (by omega)) (fun hc2 => ?_)
  refine x_iload_n d_Mo_reach_5 rfl ?_
  refine x_iconst (v := nI 4) d_Mo_reach_6 (by decide +kernel) ?_
  refine z_icmp_ge 21 d_Mo_reach_7 rfl (by omega) (by omega) (fun q => absurd q (by omega)) (fun hc7 => ?_)
  refine x_aload_n d_Mo_reach_10 rfl ?_
  refine x_iload_n d_Mo_reach_11 rfl ?_
  refine x_iload_n d_Mo_reach_12 rfl ?_
  refine x_iload d_Mo_reach_13 rfl ?_
  rcases hq : moPA S c r p n 0 0 with _ | i
  · skip
    refine w_callV (As := [_, _, _]) d_Mo_reach_15 k_Mo_219 k_model rfl rfl rfl (c_Mo_paneAt hG hp hp40 hpp) ?_
    rw [hq, show cI none = -1 from rfl]
    refine x_goto 22 d_Mo_reach_18 rfl ?_
    refine s_istore (lv' := [(0, _), (1, _), (2, _), (3, _), (4, _), (5, _)]) d_Mo_reach_22 (by decide) rfl ?_
    refine x_iload_n d_Mo_reach_24 rfl ?_
    refine z_if_ne 34 d_Mo_reach_25 rfl (by omega) (fun hc25 => ?_) (fun q => absurd q (by omega))
    refine x_iload_n d_Mo_reach_34 rfl ?_
    refine x_iconst (v := nI 1) d_Mo_reach_35 (by decide +kernel) ?_
    refine z_icmp_ne 46 d_Mo_reach_36 rfl (by omega) (by omega) (fun hc36 => ?_) (fun q => absurd q (by omega))
    refine x_iload d_Mo_reach_46 rfl ?_
    refine x_if_ge 55 d_Mo_reach_48 rfl (fun q => absurd q (by decide +kernel)) (fun hc48 => ?_)
    refine x_iconst (v := nI 0) d_Mo_reach_51 (by decide +kernel) ?_
    refine x_goto 77 d_Mo_reach_52 rfl ?_
    refine x_ireturn d_Mo_reach_77 rfl rfl ?_
    simp only [moReach, hq]
    exact ⟨rfl, rfl⟩
  · skip
    refine w_callV (As := [_, _, _]) d_Mo_reach_15 k_Mo_219 k_model rfl rfl rfl (c_Mo_paneAt hG hp hp40 hpp) ?_
    rw [hq, show cI (some i) = nI i from rfl]
    have hi := moPA_lt hq
    refine x_goto 22 d_Mo_reach_18 rfl ?_
    refine s_istore (lv' := [(0, _), (1, _), (2, _), (3, _), (4, _), (5, _)]) d_Mo_reach_22 (by decide) rfl ?_
    refine x_iload_n d_Mo_reach_24 rfl ?_
    refine z_if_ne 34 d_Mo_reach_25 rfl (by omega) (fun hc25 => ?_) (fun q => absurd q (by omega))
    refine x_iload_n d_Mo_reach_34 rfl ?_
    refine x_iconst (v := nI 1) d_Mo_reach_35 (by decide +kernel) ?_
    refine z_icmp_ne 46 d_Mo_reach_36 rfl (by omega) (by omega) (fun hc36 => ?_) (fun q => absurd q (by omega))
    refine x_iload d_Mo_reach_46 rfl ?_
    refine z_if_ge 55 d_Mo_reach_48 rfl (by omega) ?_
    refine x_iload_n d_Mo_reach_55 rfl ?_
    refine x_iconst (v := nI 2) d_Mo_reach_56 (by decide +kernel) ?_
    refine z_icmp_ne 70 d_Mo_reach_57 rfl (by omega) (by omega) (fun hc57 => ?_) (fun q => absurd q (by omega))
    refine x_aload_n d_Mo_reach_70 rfl ?_
    refine y_getf d_Mo_reach_71 gf_Mo_101 k_model rfl ?_
    refine x_iload d_Mo_reach_74 rfl ?_
    refine y_iald hG d_Mo_reach_76 k_m_paneH _ rfl (by omega) ?_
    refine x_ireturn d_Mo_reach_77 rfl rfl ?_
    simp only [moReach, hq]
    exact ⟨rfl, rfl⟩
set_option maxRecDepth 100000 in
set_option maxHeartbeats 1000000 in
theorem c_Mo_reach4 {G : xG} {B d : Nat} {S : xS} (hG : xOkG G) {n : Nat} (hp : sF S 186 36 = nI n) (hp40 : n ≤ 40) {c r : Int32} {p : Nat} (hpp : p < 2 ^ 31) : EX G m_Mo_reach (d + 2) 0 [(0, .ref (B + 186)), (1, .int (nI 4)), (2, .int c), (3, .int r), (4, .int (nI p))] [] (mk G B S) ((xRet G B (some (.int (moReach S n 4 c r p))) S)) := by
  refine x_iload_n d_Mo_reach_0 rfl ?_
  refine x_iconst (v := nI 1) d_Mo_reach_1 (by decide +kernel) ?_
  refine z_icmp_le 21 d_Mo_reach_2 rfl (by omega) (by omega) (fun q => absurd q (by omega)) (fun hc2 => ?_)
  refine x_iload_n d_Mo_reach_5 rfl ?_
  refine x_iconst (v := nI 4) d_Mo_reach_6 (by decide +kernel) ?_
  refine z_icmp_ge 21 d_Mo_reach_7 rfl (by omega) (by omega) (fun hc7 => ?_) (fun q => absurd q (by omega))
  refine x_iconst (v := -1) d_Mo_reach_21 (by decide +kernel) ?_
  refine s_istore (lv' := [(0, _), (1, _), (2, _), (3, _), (4, _), (5, _)]) d_Mo_reach_22 (by decide) rfl ?_
  refine x_iload_n d_Mo_reach_24 rfl ?_
  refine z_if_ne 34 d_Mo_reach_25 rfl (by omega) (fun hc25 => ?_) (fun q => absurd q (by omega))
  refine x_iload_n d_Mo_reach_34 rfl ?_
  refine x_iconst (v := nI 1) d_Mo_reach_35 (by decide +kernel) ?_
  refine z_icmp_ne 46 d_Mo_reach_36 rfl (by omega) (by omega) (fun hc36 => ?_) (fun q => absurd q (by omega))
  refine x_iload d_Mo_reach_46 rfl ?_
  refine x_if_ge 55 d_Mo_reach_48 rfl (fun q => absurd q (by decide +kernel)) (fun hc48 => ?_)
  refine x_iconst (v := nI 0) d_Mo_reach_51 (by decide +kernel) ?_
  refine x_goto 77 d_Mo_reach_52 rfl ?_
  refine x_ireturn d_Mo_reach_77 rfl rfl ?_
  exact ⟨rfl, rfl⟩
