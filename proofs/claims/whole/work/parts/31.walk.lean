/-! rows for a walk over the fixed heap: numbers that are counts, calls that come back -/
def bI (b : Bool) : Int32 := if b = true then nI 1 else nI 0
theorem bI_t : bI true = nI 1 := rfl
theorem bI_f : bI false = nI 0 := rfl
theorem bI_0 {b : Bool} : bI b = 0 ↔ b = false := by cases b <;> decide +kernel
theorem bI_n {b : Bool} : narrow .boolean (.int (bI b)) = .int (bI b) := by cases b <;> decide +kernel
theorem xinc (i : Nat) : nI i + Int32.ofInt 1 = nI (i + 1) := (nI_1 i)
/-- it returns v, the heap is as S' says -/
def xRet (G : xG) (B : Nat) (v : Option Value) (S : xS) : xR → xH → Prop := fun r h => r = .inl v ∧ h = mk G B S
section ZR
variable {G : xG} {M M' : xM} {d pc : Nat} {lv : List (Nat × Value)} {st : List Value} {h : xH} {Q : xR → xH → Prop}
theorem z_icmp_ge {a b : Nat} {off : Int} (tgt : Nat) (hd : decode M.2.1 pc = .ok (.if_icmp .ge off, 3)) (ht : (pc : Int) + off = (tgt : Int)) (ha : a < 2 ^ 31) (hb : b < 2 ^ 31) (kt : b ≤ a → EX G M d tgt lv st h Q) (kf : a < b → EX G M d (pc + 3) lv st h Q) : EX G M d pc lv (.int (nI b) :: .int (nI a) :: st) h Q :=
  x_icmp_ge tgt hd ht (fun q => kt ((nI_leI hb ha).mp q)) (fun q => kf (Nat.not_le.mp fun z => q ((nI_leI hb ha).mpr z)))
theorem z_icmp_lt {a b : Nat} {off : Int} (tgt : Nat) (hd : decode M.2.1 pc = .ok (.if_icmp .lt off, 3)) (ht : (pc : Int) + off = (tgt : Int)) (ha : a < 2 ^ 31) (hb : b < 2 ^ 31) (kt : a < b → EX G M d tgt lv st h Q) (kf : b ≤ a → EX G M d (pc + 3) lv st h Q) : EX G M d pc lv (.int (nI b) :: .int (nI a) :: st) h Q :=
  x_icmp_lt tgt hd ht (fun q => kt ((nI_ltI ha hb).mp q)) (fun q => kf (Nat.not_lt.mp fun z => q ((nI_ltI ha hb).mpr z)))
theorem z_icmp_gt {a b : Nat} {off : Int} (tgt : Nat) (hd : decode M.2.1 pc = .ok (.if_icmp .gt off, 3)) (ht : (pc : Int) + off = (tgt : Int)) (ha : a < 2 ^ 31) (hb : b < 2 ^ 31) (kt : b < a → EX G M d tgt lv st h Q) (kf : a ≤ b → EX G M d (pc + 3) lv st h Q) : EX G M d pc lv (.int (nI b) :: .int (nI a) :: st) h Q :=
  x_icmp_gt tgt hd ht (fun q => kt ((nI_ltI hb ha).mp q)) (fun q => kf (Nat.not_lt.mp fun z => q ((nI_ltI hb ha).mpr z)))
theorem z_icmp_le {a b : Nat} {off : Int} (tgt : Nat) (hd : decode M.2.1 pc = .ok (.if_icmp .le off, 3)) (ht : (pc : Int) + off = (tgt : Int)) (ha : a < 2 ^ 31) (hb : b < 2 ^ 31) (kt : a ≤ b → EX G M d tgt lv st h Q) (kf : b < a → EX G M d (pc + 3) lv st h Q) : EX G M d pc lv (.int (nI b) :: .int (nI a) :: st) h Q :=
  x_icmp_le tgt hd ht (fun q => kt ((nI_leI ha hb).mp q)) (fun q => kf (Nat.not_le.mp fun z => q ((nI_leI ha hb).mpr z)))
theorem z_icmp_eq {a b : Nat} {off : Int} (tgt : Nat) (hd : decode M.2.1 pc = .ok (.if_icmp .eq off, 3)) (ht : (pc : Int) + off = (tgt : Int)) (ha : a < 2 ^ 31) (hb : b < 2 ^ 31) (kt : a = b → EX G M d tgt lv st h Q) (kf : a ≠ b → EX G M d (pc + 3) lv st h Q) : EX G M d pc lv (.int (nI b) :: .int (nI a) :: st) h Q :=
  x_icmp_eq tgt hd ht (fun q => kt ((nI_eq ha hb).mp q)) (fun q => kf (fun z => q ((nI_eq ha hb).mpr z)))
theorem z_icmp_ne {a b : Nat} {off : Int} (tgt : Nat) (hd : decode M.2.1 pc = .ok (.if_icmp .ne off, 3)) (ht : (pc : Int) + off = (tgt : Int)) (ha : a < 2 ^ 31) (hb : b < 2 ^ 31) (kt : a ≠ b → EX G M d tgt lv st h Q) (kf : a = b → EX G M d (pc + 3) lv st h Q) : EX G M d pc lv (.int (nI b) :: .int (nI a) :: st) h Q :=
  x_icmp_ne tgt hd ht (fun q => kt (fun z => q ((nI_eq ha hb).mpr z))) (fun q => kf ((nI_eq ha hb).mp q))
theorem nI_ez {a : Nat} (ha : a < 2 ^ 31) : nI a = 0 ↔ a = 0 := by rw [← nI_0]; exact nI_eq ha (by decide)
theorem z_if_eq {a : Nat} {off : Int} (tgt : Nat) (hd : decode M.2.1 pc = .ok (.ifCond .eq off, 3)) (ht : (pc : Int) + off = (tgt : Int)) (ha : a < 2 ^ 31) (kt : a = 0 → EX G M d tgt lv st h Q) (kf : a ≠ 0 → EX G M d (pc + 3) lv st h Q) : EX G M d pc lv (.int (nI a) :: st) h Q :=
  x_if_eq tgt hd ht (fun q => kt ((nI_ez ha).mp q)) (fun q => kf (fun z => q ((nI_ez ha).mpr z)))
theorem z_if_ne {a : Nat} {off : Int} (tgt : Nat) (hd : decode M.2.1 pc = .ok (.ifCond .ne off, 3)) (ht : (pc : Int) + off = (tgt : Int)) (ha : a < 2 ^ 31) (kt : a ≠ 0 → EX G M d tgt lv st h Q) (kf : a = 0 → EX G M d (pc + 3) lv st h Q) : EX G M d pc lv (.int (nI a) :: st) h Q :=
  x_if_ne tgt hd ht (fun q => kt (fun z => q ((nI_ez ha).mpr z))) (fun q => kf ((nI_ez ha).mp q))
theorem z_if_le {a : Nat} {off : Int} (tgt : Nat) (hd : decode M.2.1 pc = .ok (.ifCond .le off, 3)) (ht : (pc : Int) + off = (tgt : Int)) (ha : a < 2 ^ 31) (kt : a = 0 → EX G M d tgt lv st h Q) (kf : 0 < a → EX G M d (pc + 3) lv st h Q) : EX G M d pc lv (.int (nI a) :: st) h Q :=
  x_if_le tgt hd ht (fun q => kt (by rw [← nI_0] at q; have := (nI_leI ha (by decide)).mp q; omega)) (fun q => kf (Nat.pos_of_ne_zero fun z => q (by rw [z, nI_0]; decide)))
theorem z_if_gt {a : Nat} {off : Int} (tgt : Nat) (hd : decode M.2.1 pc = .ok (.ifCond .gt off, 3)) (ht : (pc : Int) + off = (tgt : Int)) (ha : a < 2 ^ 31) (kt : 0 < a → EX G M d tgt lv st h Q) (kf : a = 0 → EX G M d (pc + 3) lv st h Q) : EX G M d pc lv (.int (nI a) :: st) h Q :=
  x_if_gt tgt hd ht (fun q => kt (by rw [← nI_0] at q; exact (nI_ltI (by decide) ha).mp q)) (fun q => kf (Nat.eq_zero_of_not_pos fun z => q (by rw [← nI_0]; exact (nI_ltI (by decide) ha).mpr z)))
theorem z_if_lt {a : Nat} {off : Int} (hd : decode M.2.1 pc = .ok (.ifCond .lt off, 3)) {tgt : Nat} (ht : (pc : Int) + off = (tgt : Int)) (ha : a < 2 ^ 31) (kf : EX G M d (pc + 3) lv st h Q) : EX G M d pc lv (.int (nI a) :: st) h Q :=
  x_if_lt tgt hd ht (fun q => absurd q (nI_pos ha)) (fun _ => kf)
theorem z_if_ge {a : Nat} {off : Int} (tgt : Nat) (hd : decode M.2.1 pc = .ok (.ifCond .ge off, 3)) (ht : (pc : Int) + off = (tgt : Int)) (ha : a < 2 ^ 31) (kt : EX G M d tgt lv st h Q) : EX G M d pc lv (.int (nI a) :: st) h Q :=
  x_if_ge tgt hd ht (fun _ => kt) (fun q => absurd (nI_pos' ha) q)
theorem z_bif_eq {b : Bool} {off : Int} (tgt : Nat) (hd : decode M.2.1 pc = .ok (.ifCond .eq off, 3)) (ht : (pc : Int) + off = (tgt : Int)) (kt : b = false → EX G M d tgt lv st h Q) (kf : b = true → EX G M d (pc + 3) lv st h Q) : EX G M d pc lv (.int (bI b) :: st) h Q :=
  x_if_eq tgt hd ht (fun q => kt (bI_0.mp q)) (fun q => kf (by cases b with | true => rfl | false => exact absurd rfl (fun z => q (bI_0.mpr z))))
theorem z_bif_ne {b : Bool} {off : Int} (tgt : Nat) (hd : decode M.2.1 pc = .ok (.ifCond .ne off, 3)) (ht : (pc : Int) + off = (tgt : Int)) (kt : b = true → EX G M d tgt lv st h Q) (kf : b = false → EX G M d (pc + 3) lv st h Q) : EX G M d pc lv (.int (bI b) :: st) h Q :=
  x_if_ne tgt hd ht (fun q => kt (by cases b with | true => rfl | false => exact absurd rfl (fun z => q (bI_0.mpr z)))) (fun q => kf (bI_0.mp q))
/-! calls that come back -/
variable {B : Nat} {S S' : xS} {As : List Value} {index n ci o : Nat} {v : Option Value} {f : (Nat → Int32) → (Nat → Int64) → List Value}
theorem xBle {a b : Nat} (h : Nat.ble a b = true) : a ≤ b := Nat.le_of_ble_eq_true h
theorem w_callV (hd : decode M.2.1 pc = .ok (.invokevirtual index, 3)) (hk : xLkV M.1.cls index M' n ci) (ho : kO G B o ci f) (hAs : As.length = n) (hlen : Nat.ble (lg_sl (.ref (B + o) :: As)).length M'.2.2.1 = true) (hW : Nat.ble ((st.map fun v => v.category).sum + (M'.2.2.1 + 11)) 64 = true)
    (hK : EX G M' d 0 (lv_args 0 (.ref (B + o) :: As)) [] (mk G B S) (xRet G B v S')) (k : EX G M (d + 1) (pc + 3) lv (v.toList ++ st) (mk G B S') Q) : EX G M (d + 1) pc lv (As.reverse ++ .ref (B + o) :: st) (mk G B S) Q :=
  x_callV hd hk (by rw [mk_at ho.1, ho.2]) hAs (xBle hlen) (xBle hW) hK (fun w h' q => by obtain ⟨e1, e2⟩ := q; cases e1; subst e2; exact k) (fun a h' q => by obtain ⟨e1, -⟩ := q; cases e1)
theorem w_callS (hd : decode M.2.1 pc = .ok (.invokestatic index, 3)) (hk : xLkS M.1.cls index M' n) (hAs : As.length = n) (hlen : Nat.ble (lg_sl As).length M'.2.2.1 = true) (hW : Nat.ble ((st.map fun v => v.category).sum + (M'.2.2.1 + 11)) 64 = true)
    (hK : EX G M' d 0 (lv_args 0 As) [] (mk G B S) (xRet G B v S')) (k : EX G M (d + 1) (pc + 3) lv (v.toList ++ st) (mk G B S') Q) : EX G M (d + 1) pc lv (As.reverse ++ st) (mk G B S) Q :=
  x_callS hd hk hAs (xBle hlen) (xBle hW) hK (fun w h' q => by obtain ⟨e1, e2⟩ := q; cases e1; subst e2; exact k) (fun a h' q => by obtain ⟨e1, -⟩ := q; cases e1)
/-- downwards from the loop's end -/
theorem x_down {P : Nat → Prop} (n : Nat) (last : P n) (step : ∀ i, i < n → P (i + 1) → P i) : ∀ i, i ≤ n → P i := by
  have key : ∀ k i, i + k = n → P i := by
    intro k
    induction k with
    | zero => intro i hi; rw [Nat.add_zero] at hi; rw [hi]; exact last
    | succ k ih => intro i hi; exact step i (by omega) (ih (i + 1) (by omega))
  intro i hi
  exact key (n - i) i (by omega)
end ZR
