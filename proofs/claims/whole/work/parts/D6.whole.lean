/-! the start, and the whole -/
theorem liA_0 {B : Nat} : liA B 0 (S0 B) := by
  have z0 : (0 : Int32) = nI 0 := nI_0.symm
  have r1 : ∀ j, j < 8 → sR (S0 B) 1 j = some (B + (66 + 15 * j)) := fun j hj => by
    show R0 B 1 j = _
    unfold R0
    rw [if_pos ⟨rfl, hj⟩]
  have r6 : ∀ k, k < 10 → sR (S0 B) 6 k = some (B + (7 + 5 * k)) := fun k hk => by
    show R0 B 6 k = _
    unfold R0
    rw [if_neg (fun z => by omega), if_pos ⟨rfl, hk⟩]
  have th : ∀ j, thB (S0 B) j = false := fun j => by unfold thB; rfl
  refine ⟨0, 0, 0, fun _ => 0, fun _ _ => 0, fun _ => 0, fun k => 7 + 5 * k, fun _ => 0, fun _ => 0, fun _ => 0, ⟨r1, ⟨z0, by omega⟩, fun k hk => by omega, fun a b ha => by omega, fun q hq => by omega, ⟨z0, by omega⟩, fun k hk => ⟨r6 k hk, Or.inr ⟨k, hk, rfl⟩⟩, fun k hk => by show 7 + 5 * k + 5 ≤ 57; omega, fun j hj => ⟨z0, Nat.zero_le _⟩, fun j hj => ⟨z0, Nat.zero_le _⟩, fun k hk => ⟨0, by omega, z0⟩, fun j i hj hi => absurd hi (Nat.not_lt_zero _), ⟨0, by omega, z0⟩⟩,
    ⟨⟨⟨z0, z0⟩, ⟨z0, z0⟩, (fun j hj t => by rw [th] at t; cases t), (fun i j hi hj t => by rw [th] at t; cases t)⟩, ⟨rfl, rfl, rfl, rfl⟩, fun j hj => ⟨0, 0, ⟨by omega, by omega⟩, ⟨⟨z0, z0⟩, z0, z0⟩, (fun t => by rw [th] at t; cases t), ⟨z0, fun k hk => absurd hk (Nat.not_lt_zero _)⟩, ⟨(fun t => by rw [th] at t; cases t), fun t => absurd rfl t⟩, rfl⟩, fun j hj => ⟨(fun t => by rw [th] at t; cases t), fun _ => rfl, ⟨z0, Nat.zero_le _⟩, fun i hi => absurd hi (Nat.not_lt_zero _), fun t => absurd t (Nat.not_lt_zero _)⟩, fun k hk => by omega, ⟨fun q hq => by omega, fun x hx => by omega, fun a b h1 h2 => by omega⟩, fun k hk => by omega, fun a b _ _ h => by have h : 7 + 5 * a = 7 + 5 * b := h; omega⟩,
    ⟨fun k hk => by omega, fun k _ => ⟨z0, z0⟩⟩, ⟨Nat.le_refl _, Nat.le_refl _⟩, Nat.le_refl _, Nat.le_refl _⟩
theorem owed_ok : owed := by
  intro G B hG hc hs
  refine ⟨liA B, liA_0, fun t S ht h => ?_, fun t S h => h.skip⟩
  obtain ⟨N, R, E, oa, D, rk, g, tn, fl, nc, h⟩ := h
  exact ⟨fun _ _ => op_sheet hG hc hs ht h, fun _ _ _ _ _ => op_flaw hG hc hs ht h, fun _ _ _ _ => op_order hG hc hs ht h, fun _ => op_plan hG hc hs ht h, fun _ _ _ _ => op_exact hG hc hs ht h, fun _ _ _ => op_node hG hc hs ht h, fun _ => op_nodes hG hc hs ht h, fun _ => op_score hG hc hs ht h, fun _ _ => op_broke hG hc hs ht h, fun _ => op_cancel hG hc hs ht h, fun _ => op_use hG hc hs ht h, fun _ _ => op_rack hG hc hs ht h, fun _ _ => op_fit hG hc hs ht h, fun _ _ _ => op_flawed hG hc hs ht h, fun _ _ => op_panes hG hc hs ht h, fun _ => op_area hG hc hs ht h, fun _ => op_total hG hc hs ht h⟩
theorem i_vc : Claimed_1_1 ∧ Claimed_1_2 := i_vc_of owed_ok
