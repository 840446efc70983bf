/-! the heap: fields, arrays, new cells -/
def xSet (h : xH) (a : Nat) (e : va_E) : xH := (h.1, h.2.1, va_up h.2.2 a (some e))
def xNew (h : xH) (N : Nat) (e : va_E) : xH := (h.1 + 1, h.2.1 + N, va_up h.2.2 h.1 (some e))
section XH
theorem xVm {D : va_G} {cl : List vw_C} {a : Nat} {e : va_E} {H : Heap} (h : va_at D cl (a, e) H) : ∃ cell : Cell, H[a]? = some cell ∧ cell.vm = .none := by
  cases e with
  | inl x =>
    obtain ⟨cA, n, f | f | f | f | f⟩ := x
    all_goals exact ⟨_, h, rfl⟩
  | inr o =>
    obtain ⟨r, -, cell, h2, -, h3, -⟩ := h
    exact ⟨cell, h2, h3⟩
theorem xKeepS.set {D : va_G} {cl : List vw_C} {a : Nat} {e : va_E} {H H' : Heap} (h : va_at D cl (a, e) H) (ho : ∀ q : Nat, q ≠ a → H'[q]? = H[q]?) : xKeepS H H' := by
  intro q c hc hs
  by_cases hq : q = a
  · subst hq
    obtain ⟨cell, h1, h2⟩ := xVm h
    cases h1.symm.trans hc
    rw [h2] at hs
    cases hs
  · rw [ho q hq]; exact hc
theorem xKeepS.push {H H' : Heap} (ho : ∀ q : Nat, q < H.size → H'[q]? = H[q]?) : xKeepS H H' := by
  intro q c hc hs
  rw [ho q (Array.getElem?_eq_some_iff.mp hc).1]; exact hc
theorem xRep.set {G : xG} {h : xH} {H H' : Heap} {a : Nat} {e0 e : va_E} (hr : xRep G h H) (h0 : h.2.2 a = some e0) (hsz : H'.size = H.size) (ho : ∀ q : Nat, q ≠ a → H'[q]? = H[q]?) (he : va_at (gD G) xcl (a, e) H') : xRep G (xSet h a e) H' := by
  obtain ⟨r1, r2, r3, r4, ⟨r5, r6⟩, r7⟩ := hr
  have hlo := (r7 a e0 h0).1
  refine ⟨hsz.trans r1, r2, r3, r4, ⟨r5, by rw [ho _ (by omega)]; exact r6⟩, fun b e' hb => ?_⟩
  by_cases hba : b = a
  · subst hba
    rw [show (xSet h b e).2.2 b = some e from va_up_self _ _ _] at hb
    cases hb
    exact ⟨hlo, he⟩
  · rw [show (xSet h a e).2.2 b = h.2.2 b from va_up_ne _ _ hba] at hb
    exact ⟨(r7 b e' hb).1, (r7 b e' hb).2.kept (ho b hba)⟩
theorem xRep.push {G : xG} {h : xH} {H H' : Heap} {N : Nat} {e : va_E} (hr : xRep G h H) (hsz : H'.size = h.1 + 1) (ho : ∀ q : Nat, q < h.1 → H'[q]? = H[q]?) (he : va_at (gD G) xcl (h.1, e) H') (hc : h.1 + 1 ≤ gC G) (hs : h.2.1 + N ≤ gS G) : xRep G (xNew h N e) H' := by
  obtain ⟨r1, r2, r3, r4, ⟨r5, r6⟩, r7⟩ := hr
  refine ⟨hsz, hc, hs, by show gA G ≤ h.1 + 1; omega, ⟨r5, by rw [ho _ (by omega)]; exact r6⟩, fun b e' hb => ?_⟩
  by_cases hba : b = h.1
  · subst hba
    rw [show (xNew h N e).2.2 h.1 = some e from va_up_self _ _ _] at hb
    cases hb
    exact ⟨r4, he⟩
  · rw [show (xNew h N e).2.2 b = h.2.2 b from va_up_ne _ _ hba] at hb
    have h2 := (r7 b e' hb).2
    exact ⟨(r7 b e' hb).1, h2.kept (ho b (by have := h2.lt; rw [r1] at this; exact this))⟩
/-- a class of the list: its layout's words stand in the tables -/
def xCl (ci : Nat) (C : String) (T : u_T) (N : Nat) : Prop := xcl[ci]? = some (C, T, N) ∧ (∀ w ∈ u_ws C T N, w ∈ xWS) ∧ (∃ ty0 : Nat → FieldType, ∀ k, k < N → parseFieldDescriptor (T k).2.2.1 = some (ty0 k)) ∧ ∀ a, a < N → ∀ b, b < N → a ≠ b → (T a).2.1 ≠ (T b).2.1
def xFd (own : String) (index ci k : Nat) : Prop := ∃ C T N, xCl ci C T N ∧ k < N ∧ (T k).1 = C ∧ (.fieldLink own index C (T k).2.1 (T k).2.2.1 ∈ xWS ∨ ∃ host, .fieldLinkNest own index C (T k).2.1 (T k).2.2.1 host ∈ xWS)
def xPd (own : String) (index ci k : Nat) (ty : FieldType) : Prop := ∃ C T N, xCl ci C T N ∧ k < N ∧ (T k).1 = C ∧ (T k).2.2.2 = false ∧ parseFieldDescriptor (T k).2.2.1 = some ty ∧ (.fieldLink own index C (T k).2.1 (T k).2.2.1 ∈ xWS ∨ ∃ host, .fieldLinkNest own index C (T k).2.1 (T k).2.2.1 host ∈ xWS)
def xPf (own : String) (index ci k : Nat) (ty : FieldType) : Prop := ∃ T N, xCl ci own T N ∧ k < N ∧ (T k).1 = own ∧ (T k).2.2.2 = true ∧ parseFieldDescriptor (T k).2.2.1 = some ty ∧ .fieldLink own index own (T k).2.1 (T k).2.2.1 ∈ xWS
variable {G : xG} {M : xM} {d pc : Nat} {lv : List (Nat × Value)} {st : List Value} {h : xH} {Q : xR → xH → Prop} {index ci k a : Nat} {fs : List Value} {v : Value}
theorem x_getf (hd : decode M.2.1 pc = .ok (.getfield index, 3)) (hk : xFd M.1.cls index ci k) (ha : h.2.2 a = some (.inr (ci, fs))) (hv : fs[k]? = some v) (kk : EX G M d (pc + 3) lv (v :: st) h Q) : EX G M d pc lv (.ref a :: st) h Q := by
  intro p e R s m args below meth c n0 ls H locs hF hl hr hz ho h1 h2
  obtain ⟨C, T, N, ⟨hc, hin, -, -⟩, hkN, hC, hlk⟩ := hk
  obtain ⟨f1, f2, f3, f4, f5, f6, f7, f8, f9, f10, f11, f12, -⟩ := id hF
  have hown := findClass_of_methodNamed f7
  have K := kk p e R s m args below meth c n0 ls H locs hF hl hr hz ho h1 h2
  rcases hlk with hlk | ⟨host, hlk⟩
  · exact va_get f1 f2 (fun w hw => f9.use hw) hin hown f12 (hr.P ha) 0 rfl hc k hkN (f9.use hlk) (fun x hx => by rw [← hC]; exact hx) hv hd K
  · exact va_getN f1 f2 (fun w hw => f9.use hw) hin hown f12 (hr.P ha) 0 rfl hc k hkN (f9.use hlk) (fun x hx => by rw [← hC]; exact hx) hv hd K
theorem xLocs {G : xG} {locs : List Loc} {a i : Nat} (ho : ∀ q ∈ locs, gA G ≤ q.base) (ha : gA G ≤ a) : ∀ q ∈ locs ++ [(⟨a, i⟩ : Loc)], gA G ≤ q.base := by
  intro q hq
  rcases List.mem_append.mp hq with x | x
  · exact ho q x
  · rw [List.mem_singleton] at x
    rw [x]; exact ha
set_option maxHeartbeats 1000000 in
theorem x_putf {ty : FieldType} (hd : decode M.2.1 pc = .ok (.putfield index, 3)) (hk : xPd M.1.cls index ci k ty) (ha : h.2.2 a = some (.inr (ci, fs))) (hl0 : k < fs.length) (hn : narrow ty v = v) (hfit : fits ty v = true)
    (kk : EX G M d (pc + 3) lv st (xSet h a (.inr (ci, fs.set k v))) Q) : EX G M d pc lv (v :: .ref a :: st) h Q := by
  intro p e R s m args below meth c n0 ls H locs hF hl hr hz ho h1 h2
  obtain ⟨C, T, N, ⟨hc, hin, ⟨ty0, hty⟩, hnm⟩, hkN, hC, hfin, hdsc, hlk⟩ := hk
  obtain ⟨f1, f2, f3, f4, f5, f6, f7, f8, f9, f10, f11, f12, -⟩ := id hF
  have hown := findClass_of_methodNamed f7
  have hts : ∀ w ∈ xWS, w.before args s = true := fun w hw => f9.use hw
  have hap := va_apart (own := M.1.cls) hts hin ty0 hty hnm f12 hc
  have hat := (hr.2.2.2.2.2 a _ ha).2
  obtain ⟨r, r1, cell, q1, q2, q3, q4⟩ := id hat
  have hrr : r = (C, T, N) := Option.some.inj (r1.symm.trans hc)
  subst hrr
  obtain ⟨hS, hfc, kC, hkC, hkind⟩ := f12.1 ci _ hc
  obtain ⟨cf, kf, fi, f, hi, hsl⟩ := hS k hkN
  have hlay := hts _ (hin _ (u_in_lay hkN))
  unfold u_lay at hlay
  rw [if_neg (by rw [hfin]; decide)] at hlay
  have hst := (u_facts hfc hkC (u_lays hts hin hkN) hi).1
  have h6 := u_store hfc hkC hkind hlay hi hdsc hn hfit
  have hi2 : s.fieldFound? C (T k).2.1 (T k).2.2.1 = some (cf, kf, fi, f) := by rw [← hi]; rw [hC]
  have fin : ∀ H' : Heap, H'[a]? = some (cell.setSlot f.slot v) → H'.size = H.size → (∀ q, q ≠ a → H'[q]? = H[q]?) → W p (gL G) e R s m args below meth c H' (locs ++ [⟨a, f.slot⟩]) (h.1 - s.heap.size) (h.2.1 - n0) (xEnd G s below n0 Q) (F0 m (pc + 3) ls st) := by
    intro H' e1 e2 e3
    rw [hsl] at e1
    have hat2 : va_at (gD G) xcl (a, .inr (ci, fs.set k v)) H' := ⟨_, hc, t_OB.to (V := updV (vp_V fs) k v) ⟨_, e1, q2, q3, t_set q4 hap hkN v⟩ (fun j _ => vp_updV_set hl0 v j)⟩
    exact kk p e R s m args below meth c n0 ls H' _ hF hl (hr.set ha e2 e3 hat2) (hz.trans (xKeepS.set hat e3)) (xLocs ho (hr.lo ha)) h1 h2
  rcases hlk with hlk | ⟨host, hlk⟩
  · exact W.putK f1 f2 (f := f) ⟨hown, f9.use hlk, ⟨_, _, _, hi2⟩, hst⟩ (by rw [q2]; exact h6) q1 q3 (by rw [hsl]; exact k2_hasslot (q4 k hkN)) rfl rfl hd fin
  · exact va_WputK f1 f2 (f := f) hown (f9.use hlk) hi2 hst (by rw [q2]; exact h6) q1 q3 (by rw [hsl]; exact k2_hasslot (q4 k hkN)) rfl rfl hd fin
set_option maxHeartbeats 1000000 in
theorem x_putF {ty : FieldType} (hd : decode M.2.1 pc = .ok (.putfield index, 3)) (hM : M.1.name = "<init>") (hk : xPf M.1.cls index ci k ty) (ha : h.2.2 a = some (.inr (ci, fs))) (hl0 : k < fs.length) (hn : narrow ty v = v) (hfit : fits ty v = true)
    (kk : EX G M d (pc + 3) lv st (xSet h a (.inr (ci, fs.set k v))) Q) : EX G M d pc lv (v :: .ref a :: st) h Q := by
  intro p e R s m args below meth c n0 ls H locs hF hl hr hz ho h1 h2
  obtain ⟨T, N, ⟨hc, hin, ⟨ty0, hty⟩, hnm⟩, hkN, hC, hfin, hdsc, hlk⟩ := hk
  obtain ⟨f1, f2, f3, f4, f5, f6, f7, f8, f9, f10, f11, f12, -⟩ := id hF
  have hown := findClass_of_methodNamed f7
  have hin2 : meth.name = "<init>" := (name_of_methodNamed f7 f8).1.trans hM
  have hts : ∀ w ∈ xWS, w.before args s = true := fun w hw => f9.use hw
  have hap := va_apart (own := M.1.cls) hts hin ty0 hty hnm f12 hc
  have hat := (hr.2.2.2.2.2 a _ ha).2
  obtain ⟨r, r1, cell, q1, q2, q3, q4⟩ := id hat
  have hrr : r = (M.1.cls, T, N) := Option.some.inj (r1.symm.trans hc)
  subst hrr
  obtain ⟨hS, hfc, kC, hkC, hkind⟩ := f12.1 ci _ hc
  obtain ⟨cf, kf, fi, f, hi, hsl⟩ := hS k hkN
  have hlay := hts _ (hin _ (u_in_lay hkN))
  unfold u_lay at hlay
  rw [if_pos hfin] at hlay
  have hst := (u_facts hfc hkC (u_lays hts hin hkN) hi).1
  have hcf : m.cls = cf := by
    obtain ⟨_, _, c', _, _, _, -, -, hf', -, -, -, hown2, -⟩ := Cond.laysFinal_spec hlay
    have e1 : c' = cf := by have := hi.symm.trans hf'; simp at this; exact this.1.symm
    rw [hC] at hown2
    rw [← e1]; exact Option.some.inj (hown.symm.trans hown2)
  have h6 := u_fits hfc hkC hkind (Or.inr hlay) hi hdsc hn hfit
  have hi2 : s.fieldFound? M.1.cls (T k).2.1 (T k).2.2.1 = some (cf, kf, fi, f) := by rw [← hi]; rw [hC]
  refine W.putFinK f1 f2 hown (f9.use hlk) hi2 hst hcf hin2 (by rw [q2]; exact h6) q1 q3 (by rw [hsl]; exact k2_hasslot (q4 k hkN)) rfl rfl hd fun H' e1 e2 e3 => ?_
  rw [hsl] at e1
  have hat2 : va_at (gD G) xcl (a, .inr (ci, fs.set k v)) H' := ⟨_, hc, t_OB.to (V := updV (vp_V fs) k v) ⟨_, e1, q2, q3, t_set q4 hap hkN v⟩ (fun j _ => vp_updV_set hl0 v j)⟩
  exact kk p e R s m args below meth c n0 ls H' _ hF hl (hr.set ha e2 e3 hat2) (hz.trans (xKeepS.set hat e3)) (xLocs ho (hr.lo ha)) h1 h2
/-! arrays -/
variable {t0 n j : Nat} {cA : ClassId} {i : Int32}
theorem x_iald {f : Nat → Int32} (hd : decode M.2.1 pc = .ok (.iaload, 1)) (ht : (gT G)[t0]? = some (cA, .int)) (ha : h.2.2 a = some (.inl (cA, n, .inl f))) (hi : i = nI j) (hj : j < n) (hn : n < 2 ^ 31)
    (kk : EX G M d (pc + 1) lv (.int (f j) :: st) h Q) : EX G M d pc lv (.int i :: .ref a :: st) h Q := by
  subst hi
  intro p e R s m args below meth c n0 ls H locs hF hl hr hz ho h1 h2
  have K := kk p e R s m args below meth c n0 ls H locs hF hl hr hz ho h1 h2
  rw [← nI_clamp (n := j) (by omega)] at K
  exact va_iald hF.1 hF.2.1 hF.2.2.2.2.2.2.2.2.2.2.2.1 (hr.P ha) 0 t0 rfl ht (vp_in_nI hj hn) hd K
theorem x_zald {f : Nat → Int32} (hd : decode M.2.1 pc = .ok (.baload, 1)) (ht : (gT G)[t0]? = some (cA, .boolean)) (ha : h.2.2 a = some (.inl (cA, n, .inl f))) (hi : i = nI j) (hj : j < n) (hn : n < 2 ^ 31)
    (kk : EX G M d (pc + 1) lv (.int (f j) :: st) h Q) : EX G M d pc lv (.int i :: .ref a :: st) h Q := by
  subst hi
  intro p e R s m args below meth c n0 ls H locs hF hl hr hz ho h1 h2
  have K := kk p e R s m args below meth c n0 ls H locs hF hl hr hz ho h1 h2
  rw [← nI_clamp (n := j) (by omega)] at K
  exact va_zald hF.1 hF.2.1 hF.2.2.2.2.2.2.2.2.2.2.2.1 (hr.P ha) 0 t0 rfl ht (vp_in_nI hj hn) hd K
theorem x_lald {f : Nat → Int64} (hd : decode M.2.1 pc = .ok (.laload, 1)) (ht : (gT G)[t0]? = some (cA, .long)) (ha : h.2.2 a = some (.inl (cA, n, .inr (.inl f)))) (hi : i = nI j) (hj : j < n) (hn : n < 2 ^ 31)
    (kk : EX G M d (pc + 1) lv (.long (f j) :: st) h Q) : EX G M d pc lv (.int i :: .ref a :: st) h Q := by
  subst hi
  intro p e R s m args below meth c n0 ls H locs hF hl hr hz ho h1 h2
  have K := kk p e R s m args below meth c n0 ls H locs hF hl hr hz ho h1 h2
  rw [← nI_clamp (n := j) (by omega)] at K
  exact va_lald hF.1 hF.2.1 hF.2.2.2.2.2.2.2.2.2.2.2.1 (hr.P ha) 0 t0 rfl ht (vp_in_nI hj hn) hd K
theorem x_aald {C : String} {f : Nat → Option Nat} (hd : decode M.2.1 pc = .ok (.aaload, 1)) (ht : (gT G)[t0]? = some (cA, .object C)) (ha : h.2.2 a = some (.inl (cA, n, .inr (.inr (.inr (.inr f)))))) (hi : i = nI j) (hj : j < n) (hn : n < 2 ^ 31)
    (kk : EX G M d (pc + 1) lv (va_rf (f j) :: st) h Q) : EX G M d pc lv (.int i :: .ref a :: st) h Q := by
  subst hi
  intro p e R s m args below meth c n0 ls H locs hF hl hr hz ho h1 h2
  have K := kk p e R s m args below meth c n0 ls H locs hF hl hr hz ho h1 h2
  rw [← nI_clamp (n := j) (by omega)] at K
  exact va_aldq hF.1 hF.2.1 hF.2.2.2.2.2.2.2.2.2.2.2.1 (hr.P ha) 0 t0 rfl ht (vp_in_nI hj hn) hd K
theorem x_alen {x : vp_A} {ty : FieldType} (hd : decode M.2.1 pc = .ok (.arraylength, 1)) (ht : (gT G)[t0]? = some (cA, ty)) (ha : h.2.2 a = some (.inl (cA, x))) (kk : EX G M d (pc + 1) lv (.int (nI x.1) :: st) h Q) : EX G M d pc lv (.ref a :: st) h Q := by
  intro p e R s m args below meth c n0 ls H locs hF hl hr hz ho h1 h2
  exact va_alen hF.1 hF.2.1 hF.2.2.2.2.2.2.2.2.2.2.2.1 (hr.P ha) 0 t0 rfl ht rfl hd (kk p e R s m args below meth c n0 ls H locs hF hl hr hz ho h1 h2)
theorem x_iast {f : Nat → Int32} {x : Int32} (hd : decode M.2.1 pc = .ok (.iastore, 1)) (ht : (gT G)[t0]? = some (cA, .int)) (ha : h.2.2 a = some (.inl (cA, n, .inl f))) (hi : i = nI j) (hj : j < n) (hn : n < 2 ^ 31)
    (kk : EX G M d (pc + 1) lv st (xSet h a (.inl (cA, n, .inl (va_up f j x)))) Q) : EX G M d pc lv (.int x :: .int i :: .ref a :: st) h Q := by
  subst hi
  intro p e R s m args below meth c n0 ls H locs hF hl hr hz ho h1 h2
  have hin := vp_in_nI hj hn
  have hat := (hr.2.2.2.2.2 a _ ha).2
  have hcl := nI_clamp (n := j) (by omega)
  refine W.iast hF.1 hF.2.1 hat ((hF.2.2.2.2.2.2.2.2.2.2.2.1.2 t0 _ ht).1 n (fun j => .int (f j))) (fun q => by cases q) (by show ¬ (_ ∨ (arrV _ _ _).slots.size ≤ _); rw [arrV_size]; exact hin) rfl rfl hd fun H1 e z oq => ?_
  have hat2 : va_at (gD G) xcl (a, .inl (cA, n, .inl (va_up f j x))) H1 := by
    show H1[a]? = some (vp_cell _ _)
    rw [e, vp_cell_i, vp_cell_i, arrV_store, hcl]
    congr 2
    funext q
    by_cases hq : q = j
    · subst hq; simp [updV, va_up]
    · simp [updV, va_up, hq]
  exact kk p _ R s m args below meth c n0 ls H1 _ hF hl (hr.set ha z oq hat2) (hz.trans (xKeepS.set hat oq)) (xLocs ho (hr.lo ha)) h1 h2
theorem x_zast {f : Nat → Int32} {x : Int32} (hd : decode M.2.1 pc = .ok (.bastore, 1)) (ht : (gT G)[t0]? = some (cA, .boolean)) (ha : h.2.2 a = some (.inl (cA, n, .inl f))) (hi : i = nI j) (hj : j < n) (hn : n < 2 ^ 31) (hx : narrow .boolean (.int x) = .int x)
    (kk : EX G M d (pc + 1) lv st (xSet h a (.inl (cA, n, .inl (va_up f j x)))) Q) : EX G M d pc lv (.int x :: .int i :: .ref a :: st) h Q := by
  subst hi
  intro p e R s m args below meth c n0 ls H locs hF hl hr hz ho h1 h2
  have hin := vp_in_nI hj hn
  have hat := (hr.2.2.2.2.2 a _ ha).2
  have hcl := nI_clamp (n := j) (by omega)
  refine W.zast hF.1 hF.2.1 hat ((hF.2.2.2.2.2.2.2.2.2.2.2.1.2 t0 _ ht).1 n (fun j => .int (f j))) (fun q => by cases q) (by show ¬ (_ ∨ (arrV _ _ _).slots.size ≤ _); rw [arrV_size]; exact hin) rfl rfl hd fun H1 e z oq => ?_
  have hat2 : va_at (gD G) xcl (a, .inl (cA, n, .inl (va_up f j x))) H1 := by
    show H1[a]? = some (vp_cell _ _)
    rw [e, hx, vp_cell_i, vp_cell_i, arrV_store, hcl]
    congr 2
    funext q
    by_cases hq : q = j
    · subst hq; simp [updV, va_up]
    · simp [updV, va_up, hq]
  exact kk p _ R s m args below meth c n0 ls H1 _ hF hl (hr.set ha z oq hat2) (hz.trans (xKeepS.set hat oq)) (xLocs ho (hr.lo ha)) h1 h2
theorem x_last {f : Nat → Int64} {x : Int64} (hd : decode M.2.1 pc = .ok (.lastore, 1)) (ht : (gT G)[t0]? = some (cA, .long)) (ha : h.2.2 a = some (.inl (cA, n, .inr (.inl f)))) (hi : i = nI j) (hj : j < n) (hn : n < 2 ^ 31)
    (kk : EX G M d (pc + 1) lv st (xSet h a (.inl (cA, n, .inr (.inl (va_up f j x))))) Q) : EX G M d pc lv (.long x :: .int i :: .ref a :: st) h Q := by
  subst hi
  intro p e R s m args below meth c n0 ls H locs hF hl hr hz ho h1 h2
  have hin := vp_in_nI hj hn
  have hat := (hr.2.2.2.2.2 a _ ha).2
  have hcl := nI_clamp (n := j) (by omega)
  refine W.last hF.1 hF.2.1 hat ((hF.2.2.2.2.2.2.2.2.2.2.2.1.2 t0 _ ht).1 n (fun j => .long (f j))) (fun q => by cases q) (by show ¬ (_ ∨ (arrV _ _ _).slots.size ≤ _); rw [arrV_size]; exact hin) rfl rfl hd fun H1 e z oq => ?_
  have hat2 : va_at (gD G) xcl (a, .inl (cA, n, .inr (.inl (va_up f j x)))) H1 := by
    show H1[a]? = some (vp_cell _ _)
    rw [e, vp_cell_l, vp_cell_l, arrV_store, hcl]
    congr 2
    funext q
    by_cases hq : q = j
    · subst hq; simp [updV, va_up]
    · simp [updV, va_up, hq]
  exact kk p _ R s m args below meth c n0 ls H1 _ hF hl (hr.set ha z oq hat2) (hz.trans (xKeepS.set hat oq)) (xLocs ho (hr.lo ha)) h1 h2
theorem x_aast {r : vw_C} {vs : List Value} {w : Nat} {f : Nat → Option Nat} (hd : decode M.2.1 pc = .ok (.aastore, 1)) (ht : (gT G)[t0]? = some (cA, .object r.1)) (ha : h.2.2 a = some (.inl (cA, n, .inr (.inr (.inr (.inr f)))))) (hw : h.2.2 w = some (.inr (ci, vs))) (hc : xcl[ci]? = some r) (hi : i = nI j) (hj : j < n) (hn : n < 2 ^ 31)
    (kk : EX G M d (pc + 1) lv st (xSet h a (.inl (cA, n, .inr (.inr (.inr (.inr (va_up f j (some w)))))))) Q) : EX G M d pc lv (.ref w :: .int i :: .ref a :: st) h Q := by
  subst hi
  intro p e R s m args below meth c n0 ls H locs hF hl hr hz ho h1 h2
  have hin := vp_in_nI hj hn
  have hK := hF.2.2.2.2.2.2.2.2.2.2.2.1
  have hat := (hr.2.2.2.2.2 a _ ha).2
  have hcl := nI_clamp (n := j) (by omega)
  obtain ⟨r', hr', cellV, g1, g2, g3, -⟩ := (hr.2.2.2.2.2 w _ hw).2
  have hcls := (hK.1 ci r hc).2
  obtain ⟨kA, comp, k1, k2, k3, -⟩ := (hK.2 t0 _ ht).2
  have hcomp : comp = (gD G).1 ci := Option.some.inj (k3.symm.trans hcls.1)
  subst hcomp
  obtain ⟨kC, hkC, -⟩ := hcls.2
  have hlt : (nI j).toNatClampNeg < n := Nat.not_le.mp fun q => hin (Or.inr q)
  refine W.aast hF.1 hF.2.1 hat (fun q h => by cases h) (fun h => by cases h) k1 k2 rfl hkC ⟨fun q => hin (Or.inl q), by show _ < (arrV _ _ _).slots.size; rw [arrV_size]; exact hlt⟩ g1 (fun q h => by rw [g3] at h; cases h) (by rw [g2]; exact hkC) (by rw [g2]; exact va_assign hcls) rfl rfl hd fun H1 e z oq => ?_
  have hat2 : va_at (gD G) xcl (a, .inl (cA, n, .inr (.inr (.inr (.inr (va_up f j (some w))))))) H1 := by
    show H1[a]? = some (vp_cell _ _)
    rw [e, vp_cell_q, vp_cell_q, arrV_store, hcl]
    congr 2
    funext q
    by_cases hq : q = j
    · subst hq; simp [updV, va_up, va_rf]
    · simp [updV, va_up, hq]
  exact kk p _ R s m args below meth c n0 ls H1 _ hF hl (hr.set ha z oq hat2) (hz.trans (xKeepS.set hat oq)) (xLocs ho (hr.lo ha)) h1 h2
/-! new cells -/
theorem xCs {h1 s1 N : Nat} (h : s1 ≤ h1) : h1 - s1 + N = h1 + N - s1 := by omega
theorem x_new {C : String} {T : u_T} {N : Nat} {ty : Nat → FieldType} (hd : decode M.2.1 pc = .ok (.new index, 3)) (hk : xCl ci C T N) (hty : ∀ k, k < N → parseFieldDescriptor (T k).2.2.1 = some (ty k)) (hcl : .classLink M.1.cls index C ∈ xWS) (hin : .instantiable C N ∈ xWS) (hini : .initialized C ∈ xWS)
    (hfs : ∀ j, j < N → defaultValue (ty j) = vp_V fs j) (hc : h.1 + 1 ≤ gC G) (hs : h.2.1 + N ≤ gS G) (kk : EX G M d (pc + 3) lv (.ref h.1 :: st) (xNew h N (.inr (ci, fs))) Q) : EX G M d pc lv st h Q := by
  intro p e R s m args below meth c n0 ls H locs hF hl hr hz ho h1 h2
  obtain ⟨hcc, hws, -, -⟩ := hk
  obtain ⟨f1, f2, f3, f4, f5, f6, f7, f8, f9, f10, f11, f12, f13, f14, f15, f16⟩ := id hF
  have hown := findClass_of_methodNamed f7
  have hKn := f12.1 ci _ hcc
  refine W.newcK f1 f2 hown (f9.use hcl) (f9.use hin) (f9.use hini) rfl hd (by omega) (by omega) hKn.2.1 hr.1 fun H1 kC hkC e1 z1 o1 => ?_
  rw [xCs h1, xCs h2]
  have hat : va_at (gD G) xcl (h.1, .inr (ci, fs)) H1 := ⟨_, hcc, (u_born ty (fun w hw => f9.use (args := args) hw) hws hKn hkC e1 hty).to hfs⟩
  exact kk p e R s m args below meth c n0 ls H1 locs hF hl (hr.push z1 o1 hat hc hs) (hz.trans (xKeepS.push fun q hq => o1 q (by rw [hr.1] at hq; exact hq))) ho (by show _ ≤ h.1 + 1; omega) (by show _ ≤ h.2.1 + N; omega)
theorem x_newa {atype : ArrayType} {ty : FieldType} {N : Nat} {a0 : vp_A} {w : Int32} (hd : decode M.2.1 pc = .ok (.newarray atype, 2)) (hty : newarray.typeOf atype = ty) (hpr : ∀ C, ty ≠ .object C) (ht : (gT G)[t0]? = some (cA, ty)) (hw : .arrayClass ty ∈ xWS) (hi : w = nI N) (hN : N < 2 ^ 20) (ha : ∀ cA : ClassId, vp_cell cA a0 = arrV cA N (fun _ => defaultValue ty)) (hby : componentBytes ty ≤ 8)
    (hc : h.1 + 1 ≤ gC G) (hs : h.2.1 + N ≤ gS G) (kk : EX G M d (pc + 2) lv (.ref h.1 :: st) (xNew h N (.inl (cA, a0))) Q) : EX G M d pc lv (.int w :: st) h Q := by
  subst hi
  subst hty
  intro p e R s m args below meth c n0 ls H locs hF hl hr hz ho h1 h2
  obtain ⟨f1, f2, f3, f4, f5, f6, f7, f8, f9, f10, f11, f12, f13, f14, f15, f16⟩ := id hF
  refine va_newaK f1 f2 (f9.use hw) rfl hd rfl (nI_pos (by omega)) (nI_clamp (by omega)) (by have := Nat.mul_le_mul_left N hby; omega) (by omega) (by omega) hr.1 fun H1 cA' e1 z1 o1 hAr hNm => ?_
  have hcA : cA' = cA := by
    have h3 := (f12.2 t0 _ ht).2
    have h4 : s.vm.findClass ("[" ++ (newarray.typeOf atype).toString) = some cA := by
      cases atype <;> exact h3
    exact Option.some.inj (hNm.symm.trans h4)
  subst hcA
  rw [xCs h1, xCs h2]
  have hat : va_at (gD G) xcl (h.1, .inl (cA', a0)) H1 := by
    show H1[h.1]? = some (vp_cell _ _)
    rw [ha]; exact e1
  exact kk p e R s m args below meth c n0 ls H1 locs hF hl (hr.push z1 o1 hat hc hs) (hz.trans (xKeepS.push fun q hq => o1 q (by rw [hr.1] at hq; exact hq))) ho (by show _ ≤ h.1 + 1; omega) (by show _ ≤ h.2.1 + N; omega)
theorem x_anew {C : String} {N : Nat} {w : Int32} (hd : decode M.2.1 pc = .ok (.anewarray index, 3)) (ht : (gT G)[t0]? = some (cA, .object C)) (hcl : .classLink M.1.cls index C ∈ xWS) (hw : .arrayOver (.object C) ∈ xWS) (hi : w = nI N) (hN : N < 2 ^ 20)
    (hc : h.1 + 1 ≤ gC G) (hs : h.2.1 + N ≤ gS G) (kk : EX G M d (pc + 3) lv (.ref h.1 :: st) (xNew h N (.inl (cA, N, .inr (.inr (.inr (.inr fun _ => none)))))) Q) : EX G M d pc lv (.int w :: st) h Q := by
  subst hi
  intro p e R s m args below meth c n0 ls H locs hF hl hr hz ho h1 h2
  obtain ⟨f1, f2, f3, f4, f5, f6, f7, f8, f9, f10, f11, f12, f13, f14, f15, f16⟩ := id hF
  have hown := findClass_of_methodNamed f7
  have hcl' := nI_clamp (n := N) (by omega)
  refine W.anew f1 f2 hown (f9.use hcl) (f9.use hw) rfl hd rfl (nI_pos (by omega)) (by rw [hcl']; omega) (by omega) (by rw [hcl']; omega) fun cA' kA comp g1 g2 g3 g4 => ?_
  obtain ⟨kA2, comp2, -, -, -, h4⟩ := (f12.2 t0 _ ht).2
  have hcA : cA' = cA := Option.some.inj (g1.symm.trans h4)
  subst hcA
  rw [hcl', xCs h1, xCs h2]
  generalize hH1 : H.push ({ cls := cA', slots := Array.replicate N .null, vm := .none } : Cell) = H1
  have z1 : H1.size = h.1 + 1 := by rw [← hH1, Array.size_push, hr.1]
  have e1 : H1[h.1]? = some (arrV cA' N (fun _ => .null)) := by rw [← hH1, ← hr.1, Array.getElem?_push_size, ← arrV_new]
  have o1 : ∀ q : Nat, q < h.1 → H1[q]? = H[q]? := fun q hq => by rw [← hH1, Array.getElem?_push, if_neg (by rw [hr.1]; omega)]
  have hat : va_at (gD G) xcl (h.1, .inl (cA', N, .inr (.inr (.inr (.inr fun _ => none))))) H1 := by
    show H1[h.1]? = some (vp_cell _ _)
    rw [vp_cell_q]; exact e1
  have K := kk p e R s m args below meth c n0 ls H1 locs hF hl (hr.push z1 o1 hat hc hs) (hz.trans (xKeepS.push fun q hq => o1 q (by rw [hr.1] at hq; exact hq))) ho (by show _ ≤ h.1 + 1; omega) (by show _ ≤ h.2.1 + N; omega)
  rw [hr.1]
  exact K
/-! what the JDK gives -/
theorem x_objInit (hd : decode M.2.1 pc = .ok (.invokespecial index, 3)) (hlk : .methodLink M.1.cls index Lib.objectInit ∈ xWS) (hi : .instanceMethod Lib.objectInit ∈ xWS) (hc : .code Lib.objectInit ⟨#[0xb1]⟩ 1 none ∈ xWS) (hW : (st.map fun v => v.category).sum ≤ 64)
    (kk : EX G M d (pc + 3) lv st h Q) : EX G M d pc lv (.ref a :: st) h Q := by
  intro p e R s m args below meth c n0 ls H locs hF hl hr hz ho h1 h2
  obtain ⟨f1, f2, f3, f4, f5, f6, f7, f8, f9, f10, f11, f12, f13, f14, f15, f16⟩ := id hF
  exact W.objInit f1 f2 (findClass_of_methodNamed f7) (f9.use hlk) (f9.use hi) (f9.use hc) rfl (hl.1.trans f3.symm) rfl hd (by omega) (by show 2 * 0 + _ + 12 ≤ _; omega) (kk p e R s m args below meth c n0 ls H locs hF hl hr hz ho h1 h2)
theorem x_max {x y : Int32} (hd : decode M.2.1 pc = .ok (.invokestatic index, 3)) (hlk : .methodLink M.1.cls index Lib.Math.max.name ∈ xWS) (hi : .static Lib.Math.max.name ∈ xWS) (hn : .initialized "java/lang/Math" ∈ xWS) (hc : .code Lib.Math.max.name Lib.Math.max.code 2 (some .int) ∈ xWS) (hW : (st.map fun v => v.category).sum ≤ 64)
    (kk : EX G M d (pc + 3) lv (.int (if x < y then y else x) :: st) h Q) : EX G M d pc lv (.int y :: .int x :: st) h Q := by
  intro p e R s m args below meth c n0 ls H locs hF hl hr hz ho h1 h2
  obtain ⟨f1, f2, f3, f4, f5, f6, f7, f8, f9, f10, f11, f12, f13, f14, f15, f16⟩ := id hF
  have hb1 := hr.2.1
  have hb2 := hr.2.2.1
  exact va_mmax f1 f2 (f3.trans hl.1.symm) (findClass_of_methodNamed f7) (f9.use hlk) (f9.use hi) (f9.use hn) (f9.use hc) (by omega) (by omega) (by omega) (by omega) hd (kk p e R s m args below meth c n0 ls H locs hF hl hr hz ho h1 h2)
theorem x_min {x y : Int32} (hd : decode M.2.1 pc = .ok (.invokestatic index, 3)) (hlk : .methodLink M.1.cls index Lib.Math.min.name ∈ xWS) (hi : .static Lib.Math.min.name ∈ xWS) (hn : .initialized "java/lang/Math" ∈ xWS) (hc : .code Lib.Math.min.name Lib.Math.min.code 2 (some .int) ∈ xWS) (hW : (st.map fun v => v.category).sum ≤ 64)
    (kk : EX G M d (pc + 3) lv (.int (if y < x then y else x) :: st) h Q) : EX G M d pc lv (.int y :: .int x :: st) h Q := by
  intro p e R s m args below meth c n0 ls H locs hF hl hr hz ho h1 h2
  obtain ⟨f1, f2, f3, f4, f5, f6, f7, f8, f9, f10, f11, f12, f13, f14, f15, f16⟩ := id hF
  have hb1 := hr.2.1
  have hb2 := hr.2.2.1
  exact va_mmin f1 f2 (f3.trans hl.1.symm) (findClass_of_methodNamed f7) (f9.use hlk) (f9.use hi) (f9.use hn) (f9.use hc) (by omega) (by omega) (by omega) (by omega) hd (kk p e R s m args below meth c n0 ls H locs hF hl hr hz ho h1 h2)
end XH
