/-! joins; what a method leaves as it was -/
section JN
variable {G : xG} {M M' : xM} {d pc : Nat} {lv : List (Nat × Value)} {st : List Value} {h : xH} {Q : xR → xH → Prop}
theorem x_join (pm : Nat) (z : Value) (hJ : EX G M d pm lv (z :: st) h Q) (k : (∀ u, u = z → EX G M d pm lv (u :: st) h Q) → EX G M d pc lv st h Q) : EX G M d pc lv st h Q := k fun u hu => hu ▸ hJ
variable {B : Nat} {S : xS} {o k n ow ci N : Nat} {i : Int32} {C : String} {T : u_T} {f : (Nat → Int32) → (Nat → Int64) → List Value}
theorem y_aast (hG : xOkG G) (hd : decode M.2.1 pc = .ok (.aastore, 1)) (ho : kR G B o k n) (hC : xTys[k]? = some (.object C)) (hw : kO G B ow ci f) (hc : xcl[ci]? = some (C, T, N)) (j : Nat) (hi : i = nI j) (hj : j < n) (kk : EX G M d (pc + 1) lv st (mk G B (uR S o j (some (B + ow)))) Q) : EX G M d pc lv (.ref (B + ow) :: .int i :: .ref (B + o) :: st) (mk G B S) Q := by
  refine x_aast (r := (C, T, N)) hd (tA_at hG k hC) (by rw [mk_at ho.1, ho.2.2]) (by rw [mk_at hw.1, hw.2]) hc hi hj ho.2.1 ?_
  rw [mk_set (S := S) (S' := uR S o j (some (B + ow))) ho.1 rfl rfl rfl (by rw [ho.2.2, sR_uR]) (fun p hp => ⟨rfl, rfl, rfl, up2_ne _ _ _ hp⟩)]
  exact kk
end JN
/-- only the offsets from lo below hi have changed -/
def sK (lo hi : Nat) (S S' : xS) : Prop := (∀ o, (o < lo ∨ hi ≤ o) → sF S' o = sF S o ∧ sA S' o = sA S o ∧ sJ S' o = sJ S o ∧ sR S' o = sR S o) ∧ sE S' = sE S ∧ sN S' = sN S ∧ sL S' = sL S
theorem sK.rf {lo hi : Nat} {S : xS} : sK lo hi S S := ⟨fun _ _ => ⟨rfl, rfl, rfl, rfl⟩, rfl, rfl, rfl⟩
theorem sK.trans {lo hi : Nat} {S S1 S2 : xS} (h : sK lo hi S S1) (k : sK lo hi S1 S2) : sK lo hi S S2 :=
  ⟨fun o ho => by obtain ⟨a1, a2, a3, a4⟩ := h.1 o ho; obtain ⟨b1, b2, b3, b4⟩ := k.1 o ho; exact ⟨b1.trans a1, b2.trans a2, b3.trans a3, b4.trans a4⟩, k.2.1.trans h.2.1, k.2.2.1.trans h.2.2.1, k.2.2.2.trans h.2.2.2⟩
theorem sK.mono {lo hi lo' hi' : Nat} {S S' : xS} (h : sK lo hi S S') (h1 : lo' ≤ lo) (h2 : hi ≤ hi') : sK lo' hi' S S' := ⟨fun o ho => h.1 o (by omega), h.2⟩
theorem sK.F {lo hi : Nat} {S S1 : xS} {o k : Nat} {v : Int32} (h : sK lo hi S S1) (ho : lo ≤ o ∧ o < hi) : sK lo hi S (uF S1 o k v) :=
  h.trans ⟨fun p hp => ⟨sF_uFn _ _ _ (by omega), rfl, rfl, rfl⟩, rfl, rfl, rfl⟩
theorem sK.A {lo hi : Nat} {S S1 : xS} {o k : Nat} {v : Int32} (h : sK lo hi S S1) (ho : lo ≤ o ∧ o < hi) : sK lo hi S (uA S1 o k v) :=
  h.trans ⟨fun p hp => ⟨rfl, sA_uAn _ _ _ (by omega), rfl, rfl⟩, rfl, rfl, rfl⟩
theorem sK.J {lo hi : Nat} {S S1 : xS} {o k : Nat} {v : Int64} (h : sK lo hi S S1) (ho : lo ≤ o ∧ o < hi) : sK lo hi S (uJ S1 o k v) :=
  h.trans ⟨fun p hp => ⟨rfl, rfl, sJ_uJn _ _ _ (by omega), rfl⟩, rfl, rfl, rfl⟩
theorem sK.R {lo hi : Nat} {S S1 : xS} {o k : Nat} {v : Option Nat} (h : sK lo hi S S1) (ho : lo ≤ o ∧ o < hi) : sK lo hi S (uR S1 o k v) :=
  h.trans ⟨fun p hp => ⟨rfl, rfl, rfl, sR_uRn _ _ _ (by omega)⟩, rfl, rfl, rfl⟩
