/-! what always holds: an order more -/
theorem bkSh_A2 {S : xS} {rk : Nat → Nat} {n : Nat} : ∀ c q, c ≤ n → n - c < q → q ≤ n → sA (bkSh S rk n c) 4 q = nI (rk (q - 1))
  | 0, q, _, h1, h2 => by omega
  | c + 1, q, hc, h1, h2 => by
    show sA (uA (bkSh S rk n c) 4 (n - c) (nI (rk (n - c - 1)))) 4 q = _
    rw [sA_uA]
    by_cases e : q = n - c
    · rw [e, va_up_self]
    · rw [va_up_ne _ _ e]
      exact bkSh_A2 c q (by omega) (by omega) h2
theorem bkSh_K {S : xS} {rk : Nat → Nat} {n : Nat} : ∀ c, sK 4 5 S (bkSh S rk n c)
  | 0 => sK.rf
  | c + 1 => (bkSh_K c).A (by omega)
theorem bkIns_rk {S : xS} {rk : Nat → Nat} {n r a : Nat} (hr : r ≤ n) (h : ∀ q, q < n → sA S 4 q = nI (rk q)) : ∀ q, q < n + 1 → sA (bkIns S rk n (n - r) a) 4 q = nI (rkIns rk n r q) := by
  intro q hq
  show sA (uA (bkSh S rk n (n - r)) 4 (n - (n - r)) (nI n)) 4 q = _
  rw [sA_uA, show n - (n - r) = r by omega]
  unfold rkIns
  by_cases e : q = r
  · rw [e, va_up_self, if_neg (by omega), if_pos rfl]
  · rw [va_up_ne _ _ e]
    by_cases z : q < r
    · rw [if_pos z, bkSh_A (n - r) q (by omega)]
      exact h q (by omega)
    · rw [if_neg z, if_neg e]
      exact bkSh_A2 (n - r) q (by omega) (by omega) (by omega)
theorem haI_ord {S : xS} {B N R r : Nat} {oa : Nat → Nat} {D : Nat → Nat → Int32} {rk g tn fl : Nat → Nat} (h : haI S B N R oa D rk g tn fl) (hN : N < 6) (hoa : ∀ k, k < N → oa k < sN S) (hB : B + 231 ≤ sN S) (hr : r ≤ N) {w z t n : Int32} :
    haI (bkIns (haOrdS S w z t n) rk N (N - r) (sN S)) B (N + 1) R (va_up oa N (sN S)) (va_up D N (orD w z t n)) (rkIns rk N r) g tn fl := by
  have hg : ∀ k, k < 10 → ∃ t, t < 10 ∧ g k = 7 + 5 * t := fun k hk => rkGl h hk
  obtain ⟨a1, a2, a3, a4, a5, a6, a7, a8, a9, a10, a11, a12, a13⟩ := h
  have hK := bkSh_K (S := haOrdS S w z t n) (rk := rk) (n := N) (N - r)
  have eF : ∀ q, q ≠ 2 → sF (bkIns (haOrdS S w z t n) rk N (N - r) (sN S)) q = sF S q := fun q hq => by
    unfold bkIns
    rw [sF_uFn _ _ _ hq]
    show sF (bkSh (haOrdS S w z t n) rk N (N - r)) q = _
    rw [(bkSh_F (N - r)).1]; rfl
  have eA : ∀ q, q ≠ 4 → sA (bkIns (haOrdS S w z t n) rk N (N - r) (sN S)) q = sA S q := fun q hq => by
    show sA (uA (bkSh (haOrdS S w z t n) rk N (N - r)) 4 (N - (N - r)) (nI N)) q = _
    rw [sA_uAn _ _ _ hq, (hK.1 q (by omega)).2.1]; rfl
  have eR : ∀ q, sR (bkIns (haOrdS S w z t n) rk N (N - r) (sN S)) q = up2 (sR S) 3 N (some (sN S)) q := fun q => by
    show up2 (sR (bkSh (haOrdS S w z t n) rk N (N - r))) 3 N (some (sN S)) q = _
    rw [(bkSh_F (N - r)).2.1]; rfl
  have eE : sE (bkIns (haOrdS S w z t n) rk N (N - r) (sN S)) = va_up (va_up (sE S) (sN S) (some (eO fun _ => 0))) (sN S) (some (eO (orD w z t n))) := by
    show sE (bkSh (haOrdS S w z t n) rk N (N - r)) = _
    rw [(bkSh_F (N - r)).2.2]; rfl
  refine ⟨fun j hj => ?_, ⟨?_, by omega⟩, fun k hk => ?_, fun x y hx hy e => ?_, fun q hq => ⟨bkIns_rk (S := haOrdS S w z t n) hr (fun q hq => (a5 q hq).1) q hq, ?_⟩, ?_, fun k hk => ⟨?_, (a7 k hk).2⟩, a8, fun j hj => ?_, fun j hj => ?_, fun k hk => ?_, fun j i hj hi h2 => ?_, ?_⟩
  · rw [eR, up2_ne _ _ _ (by decide)]; exact a1 j hj
  · unfold bkIns; rw [sF_uF, va_up_self]
  · rw [eR, up2_self]
    unfold xDyn
    rw [eE]
    by_cases e : k = N
    · subst e
      rw [va_up_self, va_up_self, va_up_self, va_up_self]
      exact ⟨rfl, hB, rfl⟩
    · have hlt := hoa k (by omega)
      rw [va_up_ne _ _ e, va_up_ne _ _ e, va_up_ne _ _ e, va_up_ne _ _ (Nat.ne_of_lt hlt), va_up_ne _ _ (Nat.ne_of_lt hlt)]
      exact ⟨(a3 k (by omega)).1, (a3 k (by omega)).2⟩
  · by_cases ex : x = N
    · by_cases ey : y = N
      · omega
      · rw [ex, va_up_self, va_up_ne _ _ ey] at e
        have := hoa y (by omega); omega
    · by_cases ey : y = N
      · rw [ey, va_up_self, va_up_ne _ _ ex] at e
        have := hoa x (by omega); omega
      · rw [va_up_ne _ _ ex, va_up_ne _ _ ey] at e
        exact a4 x y (by omega) (by omega) e
  · unfold rkIns
    split
    · have := (a5 q (by omega)).2; omega
    · split
      · omega
      · have := (a5 (q - 1) (by omega)).2; omega
  · rw [eF 5 (by decide)]; exact a6
  · rw [eR, up2_ne _ _ _ (by decide)]; exact (a7 k hk).1
  · rw [eF _ (by omega)]; exact a9 j hj
  · rw [eF _ (by omega)]; exact a10 j hj
  · obtain ⟨t', ht', et'⟩ := hg k hk
    rw [eF _ (by omega)]; exact a11 k hk
  · rw [eA _ (by omega)] at h2
    rw [eA _ (by omega)]
    obtain ⟨x, hx, e⟩ := a12 j i hj hi h2
    exact ⟨x, by omega, e⟩
  · rw [eF 57 (by decide)]; exact a13
