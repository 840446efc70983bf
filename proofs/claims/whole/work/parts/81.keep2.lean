/-! what always holds: an order more -/
theorem bkSh_A2 {S : xS} {rk : Nat → Nat} {n : Nat} : ∀ c q, c ≤ n → n - c < q → q ≤ n → sA (bkSh S rk n c) 4 q = nI (rk (q - 1))
  | 0, q, _, h1, h2 => by omega
  | c + 1, q, hc, h1, h2 => by
    show sA (uA (bkSh S rk n c) 4 (n - c) (nI (rk (n - c - 1)))) 4 q = _
    rw [sA_uA]
    by_cases e : q = n - c
    · rw [e, va_up_self]
    · rw [va_up_ne _ _ e]
      exact bkSh_A2 c q (by omega) (by omega) h2
theorem bkSh_K {S : xS} {rk : Nat → Nat} {n : Nat} : ∀ c, sK 4 5 S (bkSh S rk n c)
  | 0 => sK.rf
  | c + 1 => (bkSh_K c).A (by omega)
theorem bkIns_rk {S : xS} {rk : Nat → Nat} {n r a : Nat} (hr : r ≤ n) (h : ∀ q, q < n → sA S 4 q = nI (rk q)) : ∀ q, q < n + 1 → sA (bkIns S rk n (n - r) a) 4 q = nI (rkIns rk n r q) := by
  intro q hq
  show sA (uA (bkSh S rk n (n - r)) 4 (n - (n - r)) (nI n)) 4 q = _
  rw [sA_uA, show n - (n - r) = r by omega]
  unfold rkIns
  by_cases e : q = r
  · rw [e, va_up_self, if_neg (by omega), if_pos rfl]
  · rw [va_up_ne _ _ e]
    by_cases z : q < r
    · rw [if_pos z, bkSh_A (n - r) q (by omega)]
      exact h q (by omega)
    · rw [if_neg z, if_neg e]
      exact bkSh_A2 (n - r) q (by omega) (by omega) (by omega)
