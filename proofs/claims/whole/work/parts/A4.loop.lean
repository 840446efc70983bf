/-! the law: its loop and its beginning -/
def ops (G : xG) (B : Nat) (LI : Nat → xS → Prop) (t : Nat) (S : xS) : Prop := (∀ (a0 : Int32) (a1 : Int32), opW G B t LI S m_Ha_sheet m_Mo_sheet [.int a0, .int a1] [12, 13]) ∧
  (∀ (a0 : Int32) (a1 : Int32) (a2 : Int32) (a3 : Int32) (a4 : Int32), opW G B t LI S m_Ha_flaw m_Mo_flaw [.int a0, .int a1, .int a2, .int a3, .int a4] [11, 12, 13]) ∧
  (∀ (a0 : Int32) (a1 : Int32) (a2 : Bool) (a3 : Int32), opW G B t LI S m_Ha_order m_Mo_order [.int a0, .int a1, .int (bI a2), .int a3] [12, 13]) ∧
  (∀ (a0 : Int32), opW G B t LI S m_Ha_plan m_Mo_plan [.int a0] [11, 13]) ∧
  (∀ (a0 : Int32) (a1 : Int32) (a2 : Int32) (a3 : Int32), opW G B t LI S m_Ha_exact m_Mo_exact [.int a0, .int a1, .int a2, .int a3] [11, 13]) ∧
  (∀ (a0 : Int32) (a1 : Int32) (a2 : Int32), opW G B t LI S m_Ha_node m_Mo_node [.int a0, .int a1, .int a2] [11, 13, 14, 12]) ∧
  (∀ (a0 : Int32), opW G B t LI S m_Ha_nodes m_Mo_nodes [.int a0] [11, 13]) ∧
  (∀ (a0 : Int32), opW G B t LI S m_Ha_score m_Mo_score [.int a0] [11, 13]) ∧
  (∀ (a0 : Int32) (a1 : Int32), opW G B t LI S m_Ha_broke m_Mo_broke [.int a0, .int a1] [11, 13, 14]) ∧
  (∀ (a0 : Int32), opW G B t LI S m_Ha_cancel m_Mo_cancel [.int a0] [11, 13]) ∧
  (∀ (a0 : Int32), opW G B t LI S m_Ha_use m_Mo_use [.int a0] [11, 13]) ∧
  (∀ (a0 : Int32) (a1 : Int32), opW G B t LI S m_Ha_rack m_Mo_rack [.int a0, .int a1] [11, 12]) ∧
  (∀ (a0 : Int32) (a1 : Int32), opI G B t LI S m_Ha_fit m_Mo_fit [.int a0, .int a1]) ∧
  (∀ (a0 : Int32) (a1 : Int32) (a2 : Int32), opW G B t LI S m_Ha_flawed m_Mo_flawed [.int a0, .int a1, .int a2] [11, 14, 12]) ∧
  (∀ (a0 : Int32) (a1 : Int32), opW G B t LI S m_Ha_panes m_Mo_panes [.int a0, .int a1] [11, 12]) ∧
  (∀ (a0 : Int32), opJ G B t LI S m_Ha_area m_Mo_area [.int a0]) ∧
  (∀ (a0 : Int32), opI G B t LI S m_Ha_total m_Mo_total [.int a0])
theorem lp_cmp {L k : Nat} (hL : L ≤ 3072) (hk : k ≤ 513) : nI L - nI 6 < nI (6 * k) ↔ L < 6 * k + 6 := by
  by_cases h : 6 ≤ L
  · rw [nI_subN h, nI_ltI (by omega) (by omega)]
    omega
  · refine ⟨fun _ => by omega, fun _ => ?_⟩
    have hn : nI L - nI 6 < 0 := by
      have : L = 0 ∨ L = 1 ∨ L = 2 ∨ L = 3 ∨ L = 4 ∨ L = 5 := by omega
      rcases this with rfl | rfl | rfl | rfl | rfl | rfl <;> decide +kernel
    exact Int32.lt_of_lt_of_le hn (nI_pos' (by omega))
theorem sw17 (w : Int32) : (∃ j, j < 17 ∧ w = nI j) ∨ (w.toInt < 0 ∨ 16 < w.toInt) := by
  by_cases h0 : w < 0
  · exact Or.inr (Or.inl (Int32.lt_iff_toInt_lt.mp h0))
  · obtain ⟨j, hj, rfl⟩ := nI_of h0
    by_cases h : j < 17
    · exact Or.inl ⟨j, h, rfl⟩
    · refine Or.inr (Or.inr ?_)
      rw [nI_toInt hj]
      omega
set_option maxRecDepth 100000 in
set_option maxHeartbeats 2000000 in
theorem lw_loop {G : xG} {B L : Nat} {xs : Nat → Int32} {LI : Nat → xS → Prop} (hG : xOkG G) (hx : scO G L xs) (hL : L ≤ 3072) (hops : ∀ t S, t < 512 → LI t S → ops G B LI t S) (hskip : ∀ t S, LI t S → LI (t + 1) S) : ∀ m k S, k + m = 513 → LI k S → EX G m_Lw_law 20 23 (lwL G B k) [] (mk G B S) (fun r _ => r = .inl (some (.int (nI 1)))) := by
  intro m
  induction m with
  | zero =>
    intro k S hk hS
    refine x_iload d_Lw_law_23 rfl ?_
    refine x_aload_n d_Lw_law_25 rfl ?_
    refine x_slen hx d_Lw_law_26 ?_
    refine x_bipush d_Lw_law_27 (v := nI 6) (by decide +kernel) ?_
    refine x_isub d_Lw_law_29 ?_
    refine x_icmp_gt 1234 d_Lw_law_30 rfl (fun _ => ?_) (fun z => absurd ((lp_cmp hL (by omega)).mpr (by omega)) z)
    refine x_iconst (v := nI 1) d_Lw_law_1234 (by decide +kernel) ?_
    exact x_ireturn d_Lw_law_1235 rfl (by decide +kernel) rfl
  | succ m ihm =>
    intro k S hk hS
    have next : ∀ S', LI (k + 1) S' → EX G m_Lw_law 20 1228 (lwL G B k) [] (mk G B S') (fun r _ => r = .inl (some (.int (nI 1)))) := fun S' hS' => by
      refine s_iinc d_Lw_law_1228 rfl (v := nI (6 * (k + 1))) (by rw [show Int32.ofInt 6 = nI 6 from rfl, nI_add]; rfl) (by decide) rfl ?_
      refine x_goto 23 d_Lw_law_1231 rfl ?_
      exact ihm (k + 1) S' (by omega) hS'
    refine x_iload d_Lw_law_23 rfl ?_
    refine x_aload_n d_Lw_law_25 rfl ?_
    refine x_slen hx d_Lw_law_26 ?_
    refine x_bipush d_Lw_law_27 (v := nI 6) (by decide +kernel) ?_
    refine x_isub d_Lw_law_29 ?_
    refine x_icmp_gt 1234 d_Lw_law_30 rfl (fun _ => ?_) (fun z => ?_)
    · refine x_iconst (v := nI 1) d_Lw_law_1234 (by decide +kernel) ?_
      exact x_ireturn d_Lw_law_1235 rfl (by decide +kernel) rfl
    · have hle : 6 * k + 6 ≤ L := by
        have := fun u => z ((lp_cmp (L := L) (k := k) hL (by omega)).mpr u)
        exact Nat.not_lt.mp this
      refine x_aload_n d_Lw_law_33 rfl ?_
      refine x_iload d_Lw_law_34 rfl ?_
      refine x_sld hx d_Lw_law_36 rfl (by omega) (by omega) ?_
      refine x_bipush d_Lw_law_37 (v := nI 31) (by decide +kernel) ?_
      refine x_iand d_Lw_law_39 ?_
      obtain ⟨o0, o1, o2, o3, o4, o5, o6, o7, o8, o9, o10, o11, o12, o13, o14, o15, o16⟩ := hops k S (by omega) hS
      rcases sw17 (xs (6 * k) &&& nI 31) with ⟨j, hj, e⟩ | e
      · rw [e]
        have : j = 0 ∨ j = 1 ∨ j = 2 ∨ j = 3 ∨ j = 4 ∨ j = 5 ∨ j = 6 ∨ j = 7 ∨ j = 8 ∨ j = 9 ∨ j = 10 ∨ j = 11 ∨ j = 12 ∨ j = 13 ∨ j = 14 ∨ j = 15 ∨ j = 16 := by omega
        rcases this with rfl | rfl | rfl | rfl | rfl | rfl | rfl | rfl | rfl | rfl | rfl | rfl | rfl | rfl | rfl | rfl | rfl
        · refine x_tableIn 124 d_Lw_law_40 (off := 84) (by decide +kernel) (by decide +kernel) (by decide +kernel) rfl ?_
          exact lc_sheet hG hx hle hL (o0 _ _) next
        · refine x_tableIn 192 d_Lw_law_40 (off := 152) (by decide +kernel) (by decide +kernel) (by decide +kernel) rfl ?_
          exact lc_flaw hG hx hle hL (o1 _ _ _ _ _) next
        · refine x_tableIn 296 d_Lw_law_40 (off := 256) (by decide +kernel) (by decide +kernel) (by decide +kernel) rfl ?_
          exact lc_order hG hx hle hL (o2 _ _ _ _) next
        · refine x_tableIn 404 d_Lw_law_40 (off := 364) (by decide +kernel) (by decide +kernel) (by decide +kernel) rfl ?_
          exact lc_plan hG hx hle hL (o3 _) next
        · refine x_tableIn 460 d_Lw_law_40 (off := 420) (by decide +kernel) (by decide +kernel) (by decide +kernel) rfl ?_
          exact lc_exact hG hx hle hL (o4 _ _ _ _) next
        · refine x_tableIn 552 d_Lw_law_40 (off := 512) (by decide +kernel) (by decide +kernel) (by decide +kernel) rfl ?_
          exact lc_node hG hx hle hL (o5 _ _ _) next
        · refine x_tableIn 632 d_Lw_law_40 (off := 592) (by decide +kernel) (by decide +kernel) (by decide +kernel) rfl ?_
          exact lc_nodes hG hx hle hL (o6 _) next
        · refine x_tableIn 688 d_Lw_law_40 (off := 648) (by decide +kernel) (by decide +kernel) (by decide +kernel) rfl ?_
          exact lc_score hG hx hle hL (o7 _) next
        · refine x_tableIn 744 d_Lw_law_40 (off := 704) (by decide +kernel) (by decide +kernel) (by decide +kernel) rfl ?_
          exact lc_broke hG hx hle hL (o8 _ _) next
        · refine x_tableIn 812 d_Lw_law_40 (off := 772) (by decide +kernel) (by decide +kernel) (by decide +kernel) rfl ?_
          exact lc_cancel hG hx hle hL (o9 _) next
        · refine x_tableIn 868 d_Lw_law_40 (off := 828) (by decide +kernel) (by decide +kernel) (by decide +kernel) rfl ?_
          exact lc_use hG hx hle hL (o10 _) next
        · refine x_tableIn 924 d_Lw_law_40 (off := 884) (by decide +kernel) (by decide +kernel) (by decide +kernel) rfl ?_
          exact lc_rack hG hx hle hL (o11 _ _) next
        · refine x_tableIn 992 d_Lw_law_40 (off := 952) (by decide +kernel) (by decide +kernel) (by decide +kernel) rfl ?_
          exact lc_fit hG hx hle hL (o12 _ _) next
        · refine x_tableIn 1029 d_Lw_law_40 (off := 989) (by decide +kernel) (by decide +kernel) (by decide +kernel) rfl ?_
          exact lc_flawed hG hx hle hL (o13 _ _ _) next
        · refine x_tableIn 1109 d_Lw_law_40 (off := 1069) (by decide +kernel) (by decide +kernel) (by decide +kernel) rfl ?_
          exact lc_panes hG hx hle hL (o14 _ _) next
        · refine x_tableIn 1177 d_Lw_law_40 (off := 1137) (by decide +kernel) (by decide +kernel) (by decide +kernel) rfl ?_
          exact lc_area hG hx hle hL (o15 _) next
        · refine x_tableIn 1203 d_Lw_law_40 (off := 1163) (by decide +kernel) (by decide +kernel) (by decide +kernel) rfl ?_
          exact lc_total hG hx hle hL (o16 _) next
      · refine x_tableOut 1228 d_Lw_law_40 e rfl ?_
        exact next S (hskip k S hS)
/-- what the law begins with: all zero -/
def S0 (B : Nat) : xS := (fun _ _ => 0, fun _ _ => 0, fun _ _ => 0, R0 B, fun _ => none, B + 231, 23106)
theorem hP_mk {G : xG} {B : Nat} : hP G B 231 23106 (fun _ => none) = mk G B (S0 B) := by
  unfold hP mk
  refine Prod.ext rfl (Prod.ext rfl (funext fun a => ?_))
  simp only []
  by_cases e2 : a < B
  · rw [if_pos e2, if_pos e2]
  · rw [if_neg e2, if_neg e2]
    by_cases e3 : a < B + 231
    · rw [if_pos e3, if_pos e3]
      rfl
    · rw [if_neg e3, if_neg e3]
      rfl
set_option maxRecDepth 100000 in
set_option maxHeartbeats 2000000 in
theorem lw_begin {G : xG} {B L : Nat} {xs : Nat → Int32} {LI : Nat → xS → Prop} (hG : xOkG G) (hx : scO G L xs) (hL : L ≤ 3072) (hops : ∀ t S, t < 512 → LI t S → ops G B LI t S) (hskip : ∀ t S, LI t S → LI (t + 1) S) (h0 : LI 0 (S0 B)) (hc : B + 231 ≤ gC G) (hs : 23106 ≤ gS G) :
    EX G m_Lw_law 20 0 [(0, .ref (gB G))] [] (hP G B 0 0 (fun _ => none)) (fun r _ => r = .inl (some (.int (nI 1)))) := by
  refine p_new (N := 11) d_Lw_law_0 cl_Ha tyHa_ok nw_Lw_8 ns_Ha ni_Ha df_Ha (by omega) (by omega) ?_
  refine x_dup d_Lw_law_3 rfl ?_
  refine p_callI (As := []) d_Lw_law_4 k_Lw_65 rfl rfl rfl (c_Ha_init hG (by omega) (by omega) rfl) ?_
  refine s_astore_n d_Lw_law_7 (by decide) rfl ?_
  refine p_new (N := 53) d_Lw_law_8 cl_Mo tyMo_ok nw_Lw_66 ns_Mo ni_Mo df_Mo (by omega) (by omega) ?_
  refine x_dup d_Lw_law_11 rfl ?_
  refine p_callI (As := []) d_Lw_law_12 k_Lw_68 rfl rfl rfl (c_Mo_init hG (fun t ht => rfl) (by omega) (by omega)) ?_
  refine s_astore_n d_Lw_law_15 (by decide) rfl ?_
  refine x_iconst d_Lw_law_16 (v := nI 1) (by decide +kernel) ?_
  refine p_newJ hG d_Lw_law_17 (N := 1) rfl (by decide) (show z0 G B 230 = _ from rfl) rfl (by omega) (by omega) ?_
  refine s_astore_n d_Lw_law_19 (by decide) rfl ?_
  refine x_iconst d_Lw_law_20 (v := nI 0) (by decide +kernel) ?_
  refine s_istore d_Lw_law_21 (by decide) rfl ?_
  have := lw_loop hG hx hL hops hskip 513 0 (S0 B) (by omega) h0
  rw [← hP_mk] at this
  exact this
