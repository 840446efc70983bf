/-! joins; what a method leaves as it was -/
section JN
variable {G : xG} {M M' : xM} {d pc : Nat} {lv : List (Nat × Value)} {st : List Value} {h : xH} {Q : xR → xH → Prop}
theorem x_join (pm : Nat) (z : Value) (hJ : EX G M d pm lv (z :: st) h Q) (k : (∀ u, u = z → EX G M d pm lv (u :: st) h Q) → EX G M d pc lv st h Q) : EX G M d pc lv st h Q := k fun u hu => hu ▸ hJ
variable {B : Nat} {S : xS} {o k n ow ci N : Nat} {i : Int32} {C : String} {T : u_T} {f : (Nat → Int32) → (Nat → Int64) → List Value}
theorem y_aast (hG : xOkG G) (hd : decode M.2.1 pc = .ok (.aastore, 1)) (ho : kR G B o k n) (hC : xTys[k]? = some (.object C)) (hw : kO G B ow ci f) (hc : xcl[ci]? = some (C, T, N)) (j : Nat) (hi : i = nI j) (hj : j < n) (kk : EX G M d (pc + 1) lv st (mk G B (uR S o j (some (B + ow)))) Q) : EX G M d pc lv (.ref (B + ow) :: .int i :: .ref (B + o) :: st) (mk G B S) Q := by
  refine x_aast (r := (C, T, N)) hd (tA_at hG k hC) (by rw [mk_at ho.1, ho.2.2]) (by rw [mk_at hw.1, hw.2]) hc hi hj ho.2.1 ?_
  rw [mk_set (S := S) (S' := uR S o j (some (B + ow))) ho.1 rfl rfl rfl (by rw [ho.2.2, sR_uR]) (fun p hp => ⟨rfl, rfl, rfl, up2_ne _ _ _ hp⟩)]
  exact kk
end JN
/-- only the offsets from lo below hi have changed -/
def sK (lo hi : Nat) (S S' : xS) : Prop := (∀ o, (o < lo ∨ hi ≤ o) → sF S' o = sF S o ∧ sA S' o = sA S o ∧ sJ S' o = sJ S o ∧ sR S' o = sR S o) ∧ sE S' = sE S ∧ sN S' = sN S ∧ sL S' = sL S
theorem sK.rf {lo hi : Nat} {S : xS} : sK lo hi S S := ⟨fun _ _ => ⟨rfl, rfl, rfl, rfl⟩, rfl, rfl, rfl⟩
theorem sK.trans {lo hi : Nat} {S S1 S2 : xS} (h : sK lo hi S S1) (k : sK lo hi S1 S2) : sK lo hi S S2 :=
  ⟨fun o ho => by obtain ⟨a1, a2, a3, a4⟩ := h.1 o ho; obtain ⟨b1, b2, b3, b4⟩ := k.1 o ho; exact ⟨b1.trans a1, b2.trans a2, b3.trans a3, b4.trans a4⟩, k.2.1.trans h.2.1, k.2.2.1.trans h.2.2.1, k.2.2.2.trans h.2.2.2⟩
theorem sK.mono {lo hi lo' hi' : Nat} {S S' : xS} (h : sK lo hi S S') (h1 : lo' ≤ lo) (h2 : hi ≤ hi') : sK lo' hi' S S' := ⟨fun o ho => h.1 o (by omega), h.2⟩
theorem sK.F {lo hi : Nat} {S S1 : xS} {o k : Nat} {v : Int32} (h : sK lo hi S S1) (ho : lo ≤ o ∧ o < hi) : sK lo hi S (uF S1 o k v) :=
  h.trans ⟨fun p hp => ⟨sF_uFn _ _ _ (by omega), rfl, rfl, rfl⟩, rfl, rfl, rfl⟩
theorem sK.A {lo hi : Nat} {S S1 : xS} {o k : Nat} {v : Int32} (h : sK lo hi S S1) (ho : lo ≤ o ∧ o < hi) : sK lo hi S (uA S1 o k v) :=
  h.trans ⟨fun p hp => ⟨rfl, sA_uAn _ _ _ (by omega), rfl, rfl⟩, rfl, rfl, rfl⟩
theorem sK.J {lo hi : Nat} {S S1 : xS} {o k : Nat} {v : Int64} (h : sK lo hi S S1) (ho : lo ≤ o ∧ o < hi) : sK lo hi S (uJ S1 o k v) :=
  h.trans ⟨fun p hp => ⟨rfl, rfl, sJ_uJn _ _ _ (by omega), rfl⟩, rfl, rfl, rfl⟩
theorem sK.R {lo hi : Nat} {S S1 : xS} {o k : Nat} {v : Option Nat} (h : sK lo hi S S1) (ho : lo ≤ o ∧ o < hi) : sK lo hi S (uR S1 o k v) :=
  h.trans ⟨fun p hp => ⟨rfl, rfl, rfl, sR_uRn _ _ _ (by omega)⟩, rfl, rfl, rfl⟩
/-! the orders: cells that are made later -/
def eO (D : Nat → Int32) : va_E := .inr (2, [.int (D 0), .int (D 1), .int (D 2), .int (D 3), .int (D 4), .int (D 5)])
theorem uE_uE (S : xS) (a : Nat) (e e' : va_E) : uE (uE S a e) a e' = uE S a e' := by
  show ((sF S, sA S, sJ S, sR S, va_up (va_up (sE S) a (some e)) a (some e'), sN S, sL S) : xS) = _
  congr 5
  have : va_up (va_up (sE S) a (some e)) a (some e') = va_up (sE S) a (some e') := by
    funext b
    by_cases hb : b = a
    · subst hb; rw [va_up_self, va_up_self]
    · rw [va_up_ne _ _ hb, va_up_ne _ _ hb, va_up_ne _ _ hb]
  rw [this]
theorem sE_uE (S : xS) (a : Nat) (e : va_E) : sE (uE S a e) a = some e := va_up_self _ _ _
theorem sE_uEn (S : xS) {a b : Nat} (e : va_E) (h : b ≠ a) : sE (uE S a e) b = sE S b := va_up_ne _ _ h
section YE
variable {G : xG} {M M' : xM} {d pc : Nat} {lv : List (Nat × Value)} {st : List Value} {Q : xR → xH → Prop} {B : Nat} {S S' : xS} {a k n o ci index : Nat} {i : Int32} {D : Nat → Int32} {v : Option Value} {As : List Value}
def xDyn (B : Nat) (S : xS) (a : Nat) (D : Nat → Int32) : Prop := B + 231 ≤ a ∧ sE S a = some (eO D)
theorem y_getE {w : Value} (hd : decode M.2.1 pc = .ok (.getfield index, 3)) (hk : xFd M.1.cls index 2 k) (ha : xDyn B S a D) (hv : [Value.int (D 0), .int (D 1), .int (D 2), .int (D 3), .int (D 4), .int (D 5)][k]? = some w) (kk : EX G M d (pc + 3) lv (w :: st) (mk G B S) Q) : EX G M d pc lv (.ref a :: st) (mk G B S) Q :=
  x_getf hd hk (by rw [mk_dyn ha.1, ha.2]; rfl) hv kk
theorem y_putE {x : Int32} (hd : decode M.2.1 pc = .ok (.putfield index, 3)) (hk : xPd M.1.cls index 2 k .int) (ha : xDyn B S a D) (hl : k < 6) (hf : [Value.int (D 0), .int (D 1), .int (D 2), .int (D 3), .int (D 4), .int (D 5)].set k (.int x) = [Value.int (va_up D k x 0), .int (va_up D k x 1), .int (va_up D k x 2), .int (va_up D k x 3), .int (va_up D k x 4), .int (va_up D k x 5)]) (kk : EX G M d (pc + 3) lv st (mk G B (uE S a (eO (va_up D k x)))) Q) : EX G M d pc lv (.int x :: .ref a :: st) (mk G B S) Q := by
  refine x_putf hd hk (by rw [mk_dyn ha.1, ha.2]; rfl) (by simpa using hl) rfl rfl ?_
  rw [hf, mk_setE ha.1]
  exact kk
theorem y_aastD (hG : xOkG G) (hd : decode M.2.1 pc = .ok (.aastore, 1)) (ho : kR G B o 5 n) (ha : xDyn B S a D) (j : Nat) (hi : i = nI j) (hj : j < n) (kk : EX G M d (pc + 1) lv st (mk G B (uR S o j (some a))) Q) : EX G M d pc lv (.ref a :: .int i :: .ref (B + o) :: st) (mk G B S) Q := by
  refine x_aast (r := (ROr, TOr, 6)) (ci := 2) hd (tA_at hG 5 rfl) (by rw [mk_at ho.1, ho.2.2]) (by rw [mk_dyn ha.1, ha.2]; rfl) rfl hi hj ho.2.1 ?_
  rw [mk_set (S := S) (S' := uR S o j (some a)) ho.1 rfl rfl rfl (by rw [ho.2.2, sR_uR]) (fun p hp => ⟨rfl, rfl, rfl, up2_ne _ _ _ hp⟩)]
  exact kk
theorem w_callE (hd : decode M.2.1 pc = .ok (.invokevirtual index, 3)) (hk : xLkV M.1.cls index M' n 2) (ha : xDyn B S a D) (hAs : As.length = n) (hlen : Nat.ble (lg_sl (.ref a :: As)).length M'.2.2.1 = true) (hW : Nat.ble ((st.map fun v => v.category).sum + (M'.2.2.1 + 11)) 64 = true)
    (hK : EX G M' d 0 (lv_args 0 (.ref a :: As)) [] (mk G B S) (xRet G B v S')) (kk : EX G M (d + 1) (pc + 3) lv (v.toList ++ st) (mk G B S') Q) : EX G M (d + 1) pc lv (As.reverse ++ .ref a :: st) (mk G B S) Q :=
  x_callV hd hk (by rw [mk_dyn ha.1, ha.2]; rfl) hAs (xBle hlen) (xBle hW) hK (fun w h' q => by obtain ⟨e1, e2⟩ := q; cases e1; subst e2; exact kk) (fun b h' q => by obtain ⟨e1, -⟩ := q; cases e1)
end YE
