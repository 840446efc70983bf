/-! rows for a walk over the fixed heap: numbers that are counts, calls that come back -/
def bI (b : Bool) : Int32 := if b = true then nI 1 else nI 0
theorem bI_t : bI true = nI 1 := rfl
theorem bI_f : bI false = nI 0 := rfl
theorem bI_0 {b : Bool} : bI b = 0 ↔ b = false := by cases b <;> decide +kernel
theorem bI_n {b : Bool} : narrow .boolean (.int (bI b)) = .int (bI b) := by cases b <;> decide +kernel
theorem xinc (i : Nat) : nI i + Int32.ofInt 1 = nI (i + 1) := (nI_1 i)
def mx (x y : Int32) : Int32 := if x < y then y else x
def mn (x y : Int32) : Int32 := if y < x then y else x
section WM
variable {G : xG} {M : xM} {d pc : Nat} {lv : List (Nat × Value)} {st : List Value} {h : xH} {Q : xR → xH → Prop} {index : Nat}
theorem w_max {x y : Int32} (hd : decode M.2.1 pc = .ok (.invokestatic index, 3)) (hlk : .methodLink M.1.cls index Lib.Math.max.name ∈ xWS) (hW : Nat.ble (st.map fun v => v.category).sum 64 = true) (kk : EX G M d (pc + 3) lv (.int (mx x y) :: st) h Q) : EX G M d pc lv (.int y :: .int x :: st) h Q :=
  x_max hd hlk j_max_s j_math j_max_c (Nat.le_of_ble_eq_true hW) kk
theorem w_min {x y : Int32} (hd : decode M.2.1 pc = .ok (.invokestatic index, 3)) (hlk : .methodLink M.1.cls index Lib.Math.min.name ∈ xWS) (hW : Nat.ble (st.map fun v => v.category).sum 64 = true) (kk : EX G M d (pc + 3) lv (.int (mn x y) :: st) h Q) : EX G M d pc lv (.int y :: .int x :: st) h Q :=
  x_min hd hlk j_min_s j_math j_min_c (Nat.le_of_ble_eq_true hW) kk
end WM
/-- it returns v, the heap is as S' says -/
def xRet (G : xG) (B : Nat) (v : Option Value) (S : xS) : xR → xH → Prop := fun r h => r = .inl v ∧ h = mk G B S
section SR
variable {G : xG} {M : xM} {d pc : Nat} {lv lv' : List (Nat × Value)} {st : List Value} {h : xH} {Q : xR → xH → Prop}
theorem s_istore_n {k0 : Fin 4} {x : Int32} (hd : decode M.2.1 pc = .ok (.istore_n k0, 1)) (hn : (k0 : Nat) < M.2.2.1) (he : lvIns (lvK1 k0 lv) k0 (.int x) = lv') (k : EX G M d (pc + 1) lv' st h Q) : EX G M d pc lv (.int x :: st) h Q := x_istore_n hd hn (he ▸ k)
theorem s_istore {i : Nat} {x : Int32} (hd : decode M.2.1 pc = .ok (.istore i, 2)) (hn : i < M.2.2.1) (he : lvIns (lvK1 i lv) i (.int x) = lv') (k : EX G M d (pc + 2) lv' st h Q) : EX G M d pc lv (.int x :: st) h Q := x_istore hd hn (he ▸ k)
theorem s_lstore_n {k0 : Fin 4} {x : Int64} (hd : decode M.2.1 pc = .ok (.lstore_n k0, 1)) (hn : (k0 : Nat) + 1 < M.2.2.1) (he : lvIns (lvK2 k0 lv) k0 (.long x) = lv') (k : EX G M d (pc + 1) lv' st h Q) : EX G M d pc lv (.long x :: st) h Q := x_lstore_n hd hn (he ▸ k)
theorem s_lstore {i : Nat} {x : Int64} (hd : decode M.2.1 pc = .ok (.lstore i, 2)) (hn : i + 1 < M.2.2.1) (he : lvIns (lvK2 i lv) i (.long x) = lv') (k : EX G M d (pc + 2) lv' st h Q) : EX G M d pc lv (.long x :: st) h Q := x_lstore hd hn (he ▸ k)
theorem s_astore_n {k0 : Fin 4} {x : Nat} (hd : decode M.2.1 pc = .ok (.astore_n k0, 1)) (hn : (k0 : Nat) < M.2.2.1) (he : lvIns (lvK1 k0 lv) k0 (.ref x) = lv') (k : EX G M d (pc + 1) lv' st h Q) : EX G M d pc lv (.ref x :: st) h Q := x_astore_n hd hn (he ▸ k)
theorem s_astore {i : Nat} {x : Nat} (hd : decode M.2.1 pc = .ok (.astore i, 2)) (hn : i < M.2.2.1) (he : lvIns (lvK1 i lv) i (.ref x) = lv') (k : EX G M d (pc + 2) lv' st h Q) : EX G M d pc lv (.ref x :: st) h Q := x_astore hd hn (he ▸ k)
theorem s_astore_nN {k0 : Fin 4} (hd : decode M.2.1 pc = .ok (.astore_n k0, 1)) (hn : (k0 : Nat) < M.2.2.1) (he : lvIns (lvK1 k0 lv) k0 .null = lv') (k : EX G M d (pc + 1) lv' st h Q) : EX G M d pc lv (.null :: st) h Q := x_astore_nN hd hn (he ▸ k)
theorem s_astoreN {i : Nat} (hd : decode M.2.1 pc = .ok (.astore i, 2)) (hn : i < M.2.2.1) (he : lvIns (lvK1 i lv) i .null = lv') (k : EX G M d (pc + 2) lv' st h Q) : EX G M d pc lv (.null :: st) h Q := x_astoreN hd hn (he ▸ k)
theorem s_iinc {i : Nat} {n : Int} {x v : Int32} (hd : decode M.2.1 pc = .ok (.iinc i n, 3)) (hv : lvG lv i = some (.int x)) (hx : x + Int32.ofInt n = v) (hn : i < M.2.2.1) (he : lvIns (lvK1 i lv) i (.int v) = lv') (k : EX G M d (pc + 3) lv' st h Q) : EX G M d pc lv st h Q := x_iinc hd hv hx hn (he ▸ k)
end SR
section ZR
variable {G : xG} {M M' : xM} {d pc : Nat} {lv : List (Nat × Value)} {st : List Value} {h : xH} {Q : xR → xH → Prop}
theorem z_icmp_ge {a b : Nat} {off : Int} (tgt : Nat) (hd : decode M.2.1 pc = .ok (.if_icmp .ge off, 3)) (ht : (pc : Int) + off = (tgt : Int)) (ha : a < 2 ^ 31) (hb : b < 2 ^ 31) (kt : b ≤ a → EX G M d tgt lv st h Q) (kf : a < b → EX G M d (pc + 3) lv st h Q) : EX G M d pc lv (.int (nI b) :: .int (nI a) :: st) h Q :=
  x_icmp_ge tgt hd ht (fun q => kt ((nI_leI hb ha).mp q)) (fun q => kf (Nat.not_le.mp fun z => q ((nI_leI hb ha).mpr z)))
theorem z_icmp_lt {a b : Nat} {off : Int} (tgt : Nat) (hd : decode M.2.1 pc = .ok (.if_icmp .lt off, 3)) (ht : (pc : Int) + off = (tgt : Int)) (ha : a < 2 ^ 31) (hb : b < 2 ^ 31) (kt : a < b → EX G M d tgt lv st h Q) (kf : b ≤ a → EX G M d (pc + 3) lv st h Q) : EX G M d pc lv (.int (nI b) :: .int (nI a) :: st) h Q :=
  x_icmp_lt tgt hd ht (fun q => kt ((nI_ltI ha hb).mp q)) (fun q => kf (Nat.not_lt.mp fun z => q ((nI_ltI ha hb).mpr z)))
theorem z_icmp_gt {a b : Nat} {off : Int} (tgt : Nat) (hd : decode M.2.1 pc = .ok (.if_icmp .gt off, 3)) (ht : (pc : Int) + off = (tgt : Int)) (ha : a < 2 ^ 31) (hb : b < 2 ^ 31) (kt : b < a → EX G M d tgt lv st h Q) (kf : a ≤ b → EX G M d (pc + 3) lv st h Q) : EX G M d pc lv (.int (nI b) :: .int (nI a) :: st) h Q :=
  x_icmp_gt tgt hd ht (fun q => kt ((nI_ltI hb ha).mp q)) (fun q => kf (Nat.not_lt.mp fun z => q ((nI_ltI hb ha).mpr z)))
theorem z_icmp_le {a b : Nat} {off : Int} (tgt : Nat) (hd : decode M.2.1 pc = .ok (.if_icmp .le off, 3)) (ht : (pc : Int) + off = (tgt : Int)) (ha : a < 2 ^ 31) (hb : b < 2 ^ 31) (kt : a ≤ b → EX G M d tgt lv st h Q) (kf : b < a → EX G M d (pc + 3) lv st h Q) : EX G M d pc lv (.int (nI b) :: .int (nI a) :: st) h Q :=
  x_icmp_le tgt hd ht (fun q => kt ((nI_leI ha hb).mp q)) (fun q => kf (Nat.not_le.mp fun z => q ((nI_leI ha hb).mpr z)))
theorem z_icmp_eq {a b : Nat} {off : Int} (tgt : Nat) (hd : decode M.2.1 pc = .ok (.if_icmp .eq off, 3)) (ht : (pc : Int) + off = (tgt : Int)) (ha : a < 2 ^ 31) (hb : b < 2 ^ 31) (kt : a = b → EX G M d tgt lv st h Q) (kf : a ≠ b → EX G M d (pc + 3) lv st h Q) : EX G M d pc lv (.int (nI b) :: .int (nI a) :: st) h Q :=
  x_icmp_eq tgt hd ht (fun q => kt ((nI_eq ha hb).mp q)) (fun q => kf (fun z => q ((nI_eq ha hb).mpr z)))
theorem z_icmp_ne {a b : Nat} {off : Int} (tgt : Nat) (hd : decode M.2.1 pc = .ok (.if_icmp .ne off, 3)) (ht : (pc : Int) + off = (tgt : Int)) (ha : a < 2 ^ 31) (hb : b < 2 ^ 31) (kt : a ≠ b → EX G M d tgt lv st h Q) (kf : a = b → EX G M d (pc + 3) lv st h Q) : EX G M d pc lv (.int (nI b) :: .int (nI a) :: st) h Q :=
  x_icmp_ne tgt hd ht (fun q => kt (fun z => q ((nI_eq ha hb).mpr z))) (fun q => kf ((nI_eq ha hb).mp q))
theorem nI_ez {a : Nat} (ha : a < 2 ^ 31) : nI a = 0 ↔ a = 0 := by rw [← nI_0]; exact nI_eq ha (by decide)
theorem z_if_eq {a : Nat} {off : Int} (tgt : Nat) (hd : decode M.2.1 pc = .ok (.ifCond .eq off, 3)) (ht : (pc : Int) + off = (tgt : Int)) (ha : a < 2 ^ 31) (kt : a = 0 → EX G M d tgt lv st h Q) (kf : a ≠ 0 → EX G M d (pc + 3) lv st h Q) : EX G M d pc lv (.int (nI a) :: st) h Q :=
  x_if_eq tgt hd ht (fun q => kt ((nI_ez ha).mp q)) (fun q => kf (fun z => q ((nI_ez ha).mpr z)))
theorem z_if_ne {a : Nat} {off : Int} (tgt : Nat) (hd : decode M.2.1 pc = .ok (.ifCond .ne off, 3)) (ht : (pc : Int) + off = (tgt : Int)) (ha : a < 2 ^ 31) (kt : a ≠ 0 → EX G M d tgt lv st h Q) (kf : a = 0 → EX G M d (pc + 3) lv st h Q) : EX G M d pc lv (.int (nI a) :: st) h Q :=
  x_if_ne tgt hd ht (fun q => kt (fun z => q ((nI_ez ha).mpr z))) (fun q => kf ((nI_ez ha).mp q))
theorem z_if_le {a : Nat} {off : Int} (tgt : Nat) (hd : decode M.2.1 pc = .ok (.ifCond .le off, 3)) (ht : (pc : Int) + off = (tgt : Int)) (ha : a < 2 ^ 31) (kt : a = 0 → EX G M d tgt lv st h Q) (kf : 0 < a → EX G M d (pc + 3) lv st h Q) : EX G M d pc lv (.int (nI a) :: st) h Q :=
  x_if_le tgt hd ht (fun q => kt (by rw [← nI_0] at q; have := (nI_leI ha (by decide)).mp q; omega)) (fun q => kf (Nat.pos_of_ne_zero fun z => q (by rw [z, nI_0]; decide)))
theorem z_if_gt {a : Nat} {off : Int} (tgt : Nat) (hd : decode M.2.1 pc = .ok (.ifCond .gt off, 3)) (ht : (pc : Int) + off = (tgt : Int)) (ha : a < 2 ^ 31) (kt : 0 < a → EX G M d tgt lv st h Q) (kf : a = 0 → EX G M d (pc + 3) lv st h Q) : EX G M d pc lv (.int (nI a) :: st) h Q :=
  x_if_gt tgt hd ht (fun q => kt (by rw [← nI_0] at q; exact (nI_ltI (by decide) ha).mp q)) (fun q => kf (Nat.eq_zero_of_not_pos fun z => q (by rw [← nI_0]; exact (nI_ltI (by decide) ha).mpr z)))
theorem z_if_lt {a : Nat} {off : Int} (hd : decode M.2.1 pc = .ok (.ifCond .lt off, 3)) {tgt : Nat} (ht : (pc : Int) + off = (tgt : Int)) (ha : a < 2 ^ 31) (kf : EX G M d (pc + 3) lv st h Q) : EX G M d pc lv (.int (nI a) :: st) h Q :=
  x_if_lt tgt hd ht (fun q => absurd q (nI_pos ha)) (fun _ => kf)
theorem z_if_ge {a : Nat} {off : Int} (tgt : Nat) (hd : decode M.2.1 pc = .ok (.ifCond .ge off, 3)) (ht : (pc : Int) + off = (tgt : Int)) (ha : a < 2 ^ 31) (kt : EX G M d tgt lv st h Q) : EX G M d pc lv (.int (nI a) :: st) h Q :=
  x_if_ge tgt hd ht (fun _ => kt) (fun q => absurd (nI_pos' ha) q)
theorem z_bif_eq {b : Bool} {off : Int} (tgt : Nat) (hd : decode M.2.1 pc = .ok (.ifCond .eq off, 3)) (ht : (pc : Int) + off = (tgt : Int)) (kt : b = false → EX G M d tgt lv st h Q) (kf : b = true → EX G M d (pc + 3) lv st h Q) : EX G M d pc lv (.int (bI b) :: st) h Q :=
  x_if_eq tgt hd ht (fun q => kt (bI_0.mp q)) (fun q => kf (by cases b with | true => rfl | false => exact absurd rfl (fun z => q (bI_0.mpr z))))
theorem z_bif_ne {b : Bool} {off : Int} (tgt : Nat) (hd : decode M.2.1 pc = .ok (.ifCond .ne off, 3)) (ht : (pc : Int) + off = (tgt : Int)) (kt : b = true → EX G M d tgt lv st h Q) (kf : b = false → EX G M d (pc + 3) lv st h Q) : EX G M d pc lv (.int (bI b) :: st) h Q :=
  x_if_ne tgt hd ht (fun q => kt (by cases b with | true => rfl | false => exact absurd rfl (fun z => q (bI_0.mpr z)))) (fun q => kf (bI_0.mp q))
/-! calls that come back -/
variable {B : Nat} {S S' : xS} {As : List Value} {index n ci o : Nat} {v : Option Value} {f : (Nat → Int32) → (Nat → Int64) → List Value}
theorem xBle {a b : Nat} (h : Nat.ble a b = true) : a ≤ b := Nat.le_of_ble_eq_true h
theorem w_callV (hd : decode M.2.1 pc = .ok (.invokevirtual index, 3)) (hk : xLkV M.1.cls index M' n ci) (ho : kO G B o ci f) (hAs : As.length = n) (hlen : Nat.ble (lg_sl (.ref (B + o) :: As)).length M'.2.2.1 = true) (hW : Nat.ble ((st.map fun v => v.category).sum + (M'.2.2.1 + 11)) 64 = true)
    (hK : EX G M' d 0 (lv_args 0 (.ref (B + o) :: As)) [] (mk G B S) (xRet G B v S')) (k : EX G M (d + 1) (pc + 3) lv (v.toList ++ st) (mk G B S') Q) : EX G M (d + 1) pc lv (As.reverse ++ .ref (B + o) :: st) (mk G B S) Q :=
  x_callV hd hk (by rw [mk_at ho.1, ho.2]) hAs (xBle hlen) (xBle hW) hK (fun w h' q => by obtain ⟨e1, e2⟩ := q; cases e1; subst e2; exact k) (fun a h' q => by obtain ⟨e1, -⟩ := q; cases e1)
theorem w_callS (hd : decode M.2.1 pc = .ok (.invokestatic index, 3)) (hk : xLkS M.1.cls index M' n) (hAs : As.length = n) (hlen : Nat.ble (lg_sl As).length M'.2.2.1 = true) (hW : Nat.ble ((st.map fun v => v.category).sum + (M'.2.2.1 + 11)) 64 = true)
    (hK : EX G M' d 0 (lv_args 0 As) [] (mk G B S) (xRet G B v S')) (k : EX G M (d + 1) (pc + 3) lv (v.toList ++ st) (mk G B S') Q) : EX G M (d + 1) pc lv (As.reverse ++ st) (mk G B S) Q :=
  x_callS hd hk hAs (xBle hlen) (xBle hW) hK (fun w h' q => by obtain ⟨e1, e2⟩ := q; cases e1; subst e2; exact k) (fun a h' q => by obtain ⟨e1, -⟩ := q; cases e1)
/-- downwards from the loop's end -/
theorem x_down {P : Nat → Prop} (n : Nat) (last : P n) (step : ∀ i, i < n → P (i + 1) → P i) : ∀ i, i ≤ n → P i := by
  have key : ∀ k i, i + k = n → P i := by
    intro k
    induction k with
    | zero => intro i hi; rw [Nat.add_zero] at hi; rw [hi]; exact last
    | succ k ih => intro i hi; exact step i (by omega) (ih (i + 1) (by omega))
  intro i hi
  exact key (n - i) i (by omega)
end ZR
