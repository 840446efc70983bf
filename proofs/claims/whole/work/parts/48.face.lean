/-! what always holds of the hall -/
def haI (S : xS) (B N R : Nat) (oa : Nat → Nat) (D : Nat → Nat → Int32) (rk g tn fl : Nat → Nat) : Prop :=
  slOk S B ∧ (sF S 2 2 = nI N ∧ N ≤ 6) ∧ bkOk S B N oa D ∧ (∀ a b, a < N → b < N → oa a = oa b → a = b) ∧ (∀ q, q < N → sA S 4 q = nI (rk q) ∧ rk q < N) ∧ (sF S 5 1 = nI R ∧ R ≤ 10) ∧ rkOk S B g ∧ rkIn g ∧
  (∀ j, j < 8 → sF S (72 + 15 * j) 8 = nI (tn j) ∧ tn j ≤ 145) ∧ (∀ j, j < 8 → sF S (67 + 15 * j) 6 = nI (fl j) ∧ fl j ≤ 6) ∧ (∀ k, k < 10 → ∃ m, m ≤ 6 ∧ sF S (g k) 6 = nI m) ∧
  (∀ j i, j < 8 → i < tn j → sA S (72 + 15 * j + 1) i = nI 2 → ∃ x, x < N ∧ sA S (72 + 15 * j + 6) i = nI x) ∧ ∃ n, n ≤ 36 ∧ sF S 57 5 = nI n
theorem haCases (S : xS) (x : Int32) (tn : Nat → Nat) : fstN (idB S x) 8 = none ∨ (∃ j, fstN (idB S x) 8 = some j ∧ tn j = 0) ∨ ∃ j, fstN (idB S x) 8 = some j ∧ 0 < tn j := by
  rcases fstN (idB S x) 8 with _ | j
  · exact Or.inl rfl
  · by_cases h : tn j = 0
    · exact Or.inr (Or.inl ⟨j, rfl, h⟩)
    · exact Or.inr (Or.inr ⟨j, rfl, by omega⟩)
theorem le8 {w : Int32} (h : ¬ w < 0) (h8 : w ≤ nI 8) : w = nI 0 ∨ w = nI 1 ∨ w = nI 2 ∨ w = nI 3 ∨ w = nI 4 ∨ w = nI 5 ∨ w = nI 6 ∨ w = nI 7 ∨ w = nI 8 := by
  obtain ⟨k, hk, rfl⟩ := nI_of h
  have := (nI_leI hk (by decide)).mp h8
  have : k = 0 ∨ k = 1 ∨ k = 2 ∨ k = 3 ∨ k = 4 ∨ k = 5 ∨ k = 6 ∨ k = 7 ∨ k = 8 := by omega
  rcases this with rfl | rfl | rfl | rfl | rfl | rfl | rfl | rfl | rfl <;> simp
abbrev rI (x : Int32) : xO := .inl (some (.int x))
def haSheet (S : xS) (w h : Int32) : xO × xS :=
  if haLen w = false then (.inr 12, S) else if haLen h = false then (.inr 12, S) else
  match fstN (fun j => !thB S j) 8 with
  | none => (.inr 13, S)
  | some j => (rI (sF S 0 6), haIn (uJ (glBec S (67 + 15 * j) w h) 0 7 (sJ S 0 7 + glSurf (glBec S (67 + 15 * j) w h) (67 + 15 * j))) j)
theorem glBec_0 {S : xS} {j k : Nat} {w h : Int32} : sF (glBec S (67 + 15 * j) w h) 0 k = sF S 0 k := by
  rw [(glBec_K.1 0 (by omega)).1]
set_option maxRecDepth 100000 in
set_option maxHeartbeats 1000000 in
theorem c_Ha_sheet {G : xG} {B d : Nat} {S : xS} (hG : xOkG G) {N R : Nat} {oa : Nat → Nat} {D : Nat → Nat → Int32} {rk g tn fl : Nat → Nat} (hI : haI S B N R oa D rk g tn fl) (hrm : xRm G B S) {w h : Int32} : EX G m_Ha_sheet (d + 1) 0 [(0, .ref (B + 0)), (1, .int w), (2, .int h)] [] (mk G B S) (xDo G B (haSheet S w h)) := by
  obtain ⟨hsl, ⟨hN, hN6⟩, ho, hinj, hrkd, ⟨hR, hR10⟩, hrk, hgi, htn, hfl, hgm, hmk, ⟨ln, hln, hly⟩⟩ := id hI
  refine x_iload_n d_Ha_sheet_0 rfl ?_
  refine w_callS (As := [_]) d_Ha_sheet_1 k_Ha_53 rfl rfl rfl (c_Ha_isLength hG) ?_
  refine z_bif_eq 14 d_Ha_sheet_4 rfl (fun hc4 => ?_) (fun hc4 => ?_)
  · skip
    skip
    refine y_throw hG d_Ha_sheet_14 d_Ha_sheet_17 d_Ha_sheet_18 d_Ha_sheet_21 (te_Iae nw_Ha_57 k_Ha_59) rfl hrm rfl ?_
    exact xDo.thr (by simp [haSheet, hc4])
  · skip
    skip
    refine x_iload_n d_Ha_sheet_7 rfl ?_
    refine w_callS (As := [_]) d_Ha_sheet_8 k_Ha_53 rfl rfl rfl (c_Ha_isLength hG) ?_
    refine z_bif_ne 22 d_Ha_sheet_11 rfl (fun hc11 => ?_) (fun hc11 => ?_)
    · skip
      skip
      refine x_aload_n d_Ha_sheet_22 rfl ?_
      rcases hf : fstN (fun j => !thB S j) 8 with _ | j
      · skip
        refine w_callV (As := []) d_Ha_sheet_23 k_Ha_60 k_hall rfl rfl rfl (c_Ha_findFreeSlotN hG hsl hf) ?_
        refine s_astore_nN (lv' := [(0, _), (1, _), (2, _), (3, _)]) d_Ha_sheet_26 (by decide) rfl ?_
        refine x_aload_nN d_Ha_sheet_27 rfl ?_
        refine x_ifnonnullN d_Ha_sheet_28 ?_
        refine y_throw hG d_Ha_sheet_31 d_Ha_sheet_34 d_Ha_sheet_35 d_Ha_sheet_38 (te_Ise nw_Ha_64 k_Ha_66) rfl hrm rfl ?_
        exact xDo.thr (by simp [haSheet, hf, hc4, hc11, hf])
      · skip
        refine w_callV (As := []) d_Ha_sheet_23 k_Ha_60 k_hall rfl rfl rfl (c_Ha_findFreeSlot hG hsl hf) ?_
        refine s_astore_n (lv' := [(0, _), (1, _), (2, _), (3, _)]) d_Ha_sheet_26 (by decide) rfl ?_
        refine x_aload_n d_Ha_sheet_27 rfl ?_
        refine x_ifnonnull 39 d_Ha_sheet_28 rfl ?_
        refine x_aload_n d_Ha_sheet_39 rfl ?_
        refine y_getf d_Ha_sheet_40 gf_Ha_67 (k_sheet (fsL hf)) rfl ?_
        refine x_iload_n d_Ha_sheet_43 rfl ?_
        refine x_iload_n d_Ha_sheet_44 rfl ?_
        refine w_callV (As := [_, _]) d_Ha_sheet_45 k_Ha_71 (k_glass (glS (fsL hf))) rfl rfl rfl (c_Gl_become hG (glS (fsL hf))) ?_
        refine x_aload_n d_Ha_sheet_48 rfl ?_
        refine x_dup d_Ha_sheet_49 rfl ?_
        refine y_getf d_Ha_sheet_50 gf_Ha_77 k_hall rfl ?_
        refine x_aload_n d_Ha_sheet_53 rfl ?_
        refine y_getf d_Ha_sheet_54 gf_Ha_67 (k_sheet (fsL hf)) rfl ?_
        refine w_callV (As := []) d_Ha_sheet_57 k_Ha_81 (k_glass (glS (fsL hf))) rfl rfl rfl (c_Gl_surface hG (glS (fsL hf))) ?_
        refine x_ladd d_Ha_sheet_60 ?_
        refine y_putl d_Ha_sheet_61 pf_Ha_77 k_hall (xBle rfl) rfl ?_
        refine x_aload_n d_Ha_sheet_64 rfl ?_
        refine x_aload_n d_Ha_sheet_65 rfl ?_
        refine w_callV (As := [_]) d_Ha_sheet_66 k_Ha_85 k_hall rfl rfl rfl (c_Ha_bringIn hG (fsL hf)) ?_
        refine x_ireturn d_Ha_sheet_69 rfl rfl ?_
        exact xDo.ret (by simp only [haSheet, hc4, hc11, hf]; exact congrArg (fun q => (rI q, _)) glBec_0.symm)
    · skip
      skip
      refine y_throw hG d_Ha_sheet_14 d_Ha_sheet_17 d_Ha_sheet_18 d_Ha_sheet_21 (te_Iae nw_Ha_57 k_Ha_59) rfl hrm rfl ?_
      exact xDo.thr (by simp [haSheet, hc4, hc11])
def haFlaw (S : xS) (tn fl : Nat → Nat) (x a b w h : Int32) : xO × xS := match fstN (idB S x) 8 with
  | none => (.inr 11, S)
  | some j => if w < nI 1 then (.inr 12, S) else if h < nI 1 then (.inr 12, S) else if haLies a w (sF S (67 + 15 * j) 4) = false then (.inr 12, S) else if haLies b h (sF S (67 + 15 * j) 5) = false then (.inr 12, S) else
    if 0 < tn j then (.inr 13, S) else if 6 ≤ fl j then (.inr 13, S) else (rI (nI (fl j + 1)), glAdd S (67 + 15 * j) (fl j) a b w h)
set_option maxRecDepth 100000 in
set_option maxHeartbeats 1000000 in
theorem c_Ha_flaw {G : xG} {B d : Nat} {S : xS} (hG : xOkG G) {N R : Nat} {oa : Nat → Nat} {D : Nat → Nat → Int32} {rk g tn fl : Nat → Nat} (hI : haI S B N R oa D rk g tn fl) (hrm : xRm G B S) {x a b w h : Int32} : EX G m_Ha_flaw (d + 1) 0 [(0, .ref (B + 0)), (1, .int x), (2, .int a), (3, .int b), (4, .int w), (5, .int h)] [] (mk G B S) (xDo G B (haFlaw S tn fl x a b w h)) := by
  obtain ⟨hsl, ⟨hN, hN6⟩, ho, hinj, hrkd, ⟨hR, hR10⟩, hrk, hgi, htn, hfl, hgm, hmk, ⟨ln, hln, hly⟩⟩ := id hI
  refine x_aload_n d_Ha_flaw_0 rfl ?_
  refine x_iload_n d_Ha_flaw_1 rfl ?_
  rcases hf : fstN (idB S x) 8 with _ | j
  · skip
    refine w_callT (As := [_]) d_Ha_flaw_2 k_Ha_89 k_hall rfl rfl rfl (c_Ha_findSheetT hG hsl hrm hf) rfl ?_
    exact xDo.thr (by simp only [haFlaw, hf])
  · skip
    have hj := fsL hf
    refine w_callV (As := [_]) d_Ha_flaw_2 k_Ha_89 k_hall rfl rfl rfl (c_Ha_findSheet hG hsl hf) ?_
    refine s_astore (lv' := [(0, _), (1, _), (2, _), (3, _), (4, _), (5, _), (6, _)]) d_Ha_flaw_5 (by decide) rfl ?_
    refine x_aload d_Ha_flaw_7 rfl ?_
    refine y_getf d_Ha_flaw_9 gf_Ha_67 (k_sheet (fsL hf)) rfl ?_
    refine s_astore (lv' := [(0, _), (1, _), (2, _), (3, _), (4, _), (5, _), (6, _), (7, _)]) d_Ha_flaw_12 (by decide) rfl ?_
    refine x_iload d_Ha_flaw_14 rfl ?_
    refine x_iconst (v := nI 1) d_Ha_flaw_16 (by decide +kernel) ?_
    refine x_icmp_lt 54 d_Ha_flaw_17 rfl (fun hc17 => ?_) (fun hc17 => ?_)
    · skip
      skip
      refine y_throw hG d_Ha_flaw_54 d_Ha_flaw_57 d_Ha_flaw_58 d_Ha_flaw_61 (te_Iae nw_Ha_57 k_Ha_59) rfl hrm rfl ?_
      exact xDo.thr (by simp [haFlaw, hf, hc17])
    · skip
      skip
      refine x_iload d_Ha_flaw_20 rfl ?_
      refine x_iconst (v := nI 1) d_Ha_flaw_22 (by decide +kernel) ?_
      refine x_icmp_lt 54 d_Ha_flaw_23 rfl (fun hc23 => ?_) (fun hc23 => ?_)
      · skip
        skip
        refine y_throw hG d_Ha_flaw_54 d_Ha_flaw_57 d_Ha_flaw_58 d_Ha_flaw_61 (te_Iae nw_Ha_57 k_Ha_59) rfl hrm rfl ?_
        exact xDo.thr (by simp [haFlaw, hf, hc17, hc23])
      · skip
        skip
        refine x_iload_n d_Ha_flaw_26 rfl ?_
        refine x_iload d_Ha_flaw_27 rfl ?_
        refine x_aload d_Ha_flaw_29 rfl ?_
        refine y_getf d_Ha_flaw_31 gf_Ha_93 (k_glass (glS (fsL hf))) rfl ?_
        refine w_callS (As := [_, _, _]) d_Ha_flaw_34 k_Ha_97 rfl rfl rfl (c_Ha_liesIn hG) ?_
        refine z_bif_eq 54 d_Ha_flaw_37 rfl (fun hc37 => ?_) (fun hc37 => ?_)
        · skip
          skip
          refine y_throw hG d_Ha_flaw_54 d_Ha_flaw_57 d_Ha_flaw_58 d_Ha_flaw_61 (te_Iae nw_Ha_57 k_Ha_59) rfl hrm rfl ?_
          exact xDo.thr (by simp [haFlaw, hf, hc17, hc23, hc37])
        · skip
          skip
          refine x_iload_n d_Ha_flaw_40 rfl ?_
          refine x_iload d_Ha_flaw_41 rfl ?_
          refine x_aload d_Ha_flaw_43 rfl ?_
          refine y_getf d_Ha_flaw_45 gf_Ha_101 (k_glass (glS (fsL hf))) rfl ?_
          refine w_callS (As := [_, _, _]) d_Ha_flaw_48 k_Ha_97 rfl rfl rfl (c_Ha_liesIn hG) ?_
          refine z_bif_ne 62 d_Ha_flaw_51 rfl (fun hc51 => ?_) (fun hc51 => ?_)
          · skip
            skip
            refine x_aload d_Ha_flaw_62 rfl ?_
            refine y_getf d_Ha_flaw_64 gf_Ha_104 (k_sheet (fsL hf)) rfl ?_
            refine w_callV (As := []) d_Ha_flaw_67 k_Ha_108 (k_tree (trS (fsL hf))) rfl rfl rfl (c_Tr_isGrown hG (trS hj) (htn j hj).1 (htn j hj).2) ?_
            refine z_bif_ne 83 d_Ha_flaw_70 rfl (fun hc70 => ?_) (fun hc70 => ?_)
            · skip
              have h70 : 0 < tn j := of_decide_eq_true hc70
              refine y_throw hG d_Ha_flaw_83 d_Ha_flaw_86 d_Ha_flaw_87 d_Ha_flaw_90 (te_Ise nw_Ha_64 k_Ha_66) rfl hrm rfl ?_
              first | exact xDo.thr (by simp only [haFlaw, hf, hc17, hc23, hc37, hc51, hc70, h70, if_true, if_false, Bool.true_eq_false]) | exact xDo.thr (by simp [haFlaw, hf, hc17, hc23, hc37, hc51, hc70, h70])
            · skip
              have h70 : ¬ 0 < tn j := of_decide_eq_false hc70
              refine x_aload d_Ha_flaw_73 rfl ?_
              refine y_getf (v := .int (nI (fl j))) d_Ha_flaw_75 gf_Ha_114 (k_glass (glS (fsL hf))) (congrArg (fun q => some (Value.int q)) (hfl j hj).1) ?_
              refine x_bipush (v := nI 6) d_Ha_flaw_78 (by decide +kernel) ?_
              refine z_icmp_lt 91 d_Ha_flaw_80 rfl (by have := (hfl j hj).2; omega) (by omega) (fun hc80 => ?_) (fun hc80 => ?_)
              · skip
                skip
                refine x_aload d_Ha_flaw_91 rfl ?_
                refine x_iload_n d_Ha_flaw_93 rfl ?_
                refine x_iload_n d_Ha_flaw_94 rfl ?_
                refine x_iload d_Ha_flaw_95 rfl ?_
                refine x_iload d_Ha_flaw_97 rfl ?_
                refine w_callV (As := [_, _, _, _]) d_Ha_flaw_99 k_Ha_117 (k_glass (glS (fsL hf))) rfl rfl rfl (c_Gl_addFlaw hG (glS hj) (hfl j hj).1 (hfl j hj).2) ?_
                refine x_aload d_Ha_flaw_102 rfl ?_
                refine y_getf (v := .int (nI (fl j + 1))) d_Ha_flaw_104 gf_Ha_114 (k_glass (glS (fsL hf))) (congrArg (fun q => some (Value.int q)) (by rw [glAdd_n (hfl j hj).1, glN, if_pos hc80])) ?_
                refine x_ireturn d_Ha_flaw_107 rfl rfl ?_
                exact xDo.ret (by simp [haFlaw, hf, hc17, hc23, hc37, hc51, hc70, hc80, h70, Nat.not_le.mpr hc80])
              · skip
                skip
                refine y_throw hG d_Ha_flaw_83 d_Ha_flaw_86 d_Ha_flaw_87 d_Ha_flaw_90 (te_Ise nw_Ha_64 k_Ha_66) rfl hrm rfl ?_
                first | exact xDo.thr (by simp only [haFlaw, hf, hc17, hc23, hc37, hc51, hc70, hc80, h70, if_true, if_false, Bool.true_eq_false]) | exact xDo.thr (by simp [haFlaw, hf, hc17, hc23, hc37, hc51, hc70, hc80, h70])
          · skip
            skip
            refine y_throw hG d_Ha_flaw_54 d_Ha_flaw_57 d_Ha_flaw_58 d_Ha_flaw_61 (te_Iae nw_Ha_57 k_Ha_59) rfl hrm rfl ?_
            exact xDo.thr (by simp [haFlaw, hf, hc17, hc23, hc37, hc51])
def haNodes (S : xS) (tn : Nat → Nat) (x : Int32) : xO × xS := match fstN (idB S x) 8 with
  | none => (.inr 11, S)
  | some j => if tn j = 0 then (.inr 13, S) else (rI (nI (tn j)), S)
def haNode (S : xS) (tn : Nat → Nat) (x i w : Int32) : xO × xS := match fstN (idB S x) 8 with
  | none => (.inr 11, S)
  | some j => if tn j = 0 then (.inr 13, S) else if inB (tn j) i = false then (.inr 14, S) else if w < 0 then (.inr 12, S) else if ¬ w ≤ nI 8 then (.inr 12, S) else (rI (trTell S (72 + 15 * j) i.toNatClampNeg w.toNatClampNeg), S)
set_option maxRecDepth 100000 in
set_option maxHeartbeats 1000000 in
theorem c_Ha_nodes {G : xG} {B d : Nat} {S : xS} (hG : xOkG G) {N R : Nat} {oa : Nat → Nat} {D : Nat → Nat → Int32} {rk g tn fl : Nat → Nat} (hI : haI S B N R oa D rk g tn fl) (hrm : xRm G B S) {x : Int32} : EX G m_Ha_nodes (d + 2) 0 [(0, .ref (B + 0)), (1, .int x)] [] (mk G B S) (xDo G B (haNodes S tn x)) := by
  obtain ⟨hsl, ⟨hN, hN6⟩, ho, hinj, hrkd, ⟨hR, hR10⟩, hrk, hgi, htn, hfl, hgm, hmk, ⟨ln, hln, hly⟩⟩ := id hI
  refine x_aload_n d_Ha_nodes_0 rfl ?_
  refine x_iload_n d_Ha_nodes_1 rfl ?_
  rcases haCases S x tn with hf | ⟨j, hf, h0⟩ | ⟨j, hf, h0⟩
  · skip
    refine w_callT (As := [_]) d_Ha_nodes_2 k_Ha_154 k_hall rfl rfl rfl (c_Ha_findPlannedT hG hsl hrm hf) rfl ?_
    exact xDo.thr (by simp only [haNodes, hf])
  · skip
    refine w_callT (As := [_]) d_Ha_nodes_2 k_Ha_154 k_hall rfl rfl rfl (c_Ha_findPlannedU hG hsl hrm hf (htn _ (fsL hf)).1 (htn _ (fsL hf)).2 h0) rfl ?_
    exact xDo.thr (by simp only [haNodes, hf, h0, if_true])
  · skip
    have hj := fsL hf
    have h1 : ¬ tn j = 0 := by omega
    refine w_callV (As := [_]) d_Ha_nodes_2 k_Ha_154 k_hall rfl rfl rfl (c_Ha_findPlanned hG hsl hf (htn _ (fsL hf)).1 (htn _ (fsL hf)).2 h0) ?_
    refine y_getf d_Ha_nodes_5 gf_Ha_104 (k_sheet (fsL hf)) rfl ?_
    refine y_getf (v := .int (nI (tn j))) d_Ha_nodes_8 gf_Ha_167 (k_tree (trS (fsL hf))) (congrArg (fun q => some (Value.int q)) (htn j (fsL hf)).1) ?_
    refine x_ireturn d_Ha_nodes_11 rfl rfl ?_
    exact xDo.ret (by simp [haNodes, hf, h1])
set_option maxRecDepth 100000 in
set_option maxHeartbeats 1000000 in
theorem c_Ha_node {G : xG} {B d : Nat} {S : xS} (hG : xOkG G) {N R : Nat} {oa : Nat → Nat} {D : Nat → Nat → Int32} {rk g tn fl : Nat → Nat} (hI : haI S B N R oa D rk g tn fl) (hrm : xRm G B S) {x i w : Int32} : EX G m_Ha_node (d + 2) 0 [(0, .ref (B + 0)), (1, .int x), (2, .int i), (3, .int w)] [] (mk G B S) (xDo G B (haNode S tn x i w)) := by
  obtain ⟨hsl, ⟨hN, hN6⟩, ho, hinj, hrkd, ⟨hR, hR10⟩, hrk, hgi, htn, hfl, hgm, hmk, ⟨ln, hln, hly⟩⟩ := id hI
  refine x_aload_n d_Ha_node_0 rfl ?_
  refine x_iload_n d_Ha_node_1 rfl ?_
  rcases haCases S x tn with hf | ⟨j, hf, h0⟩ | ⟨j, hf, h0⟩
  · skip
    refine w_callT (As := [_]) d_Ha_node_2 k_Ha_154 k_hall rfl rfl rfl (c_Ha_findPlannedT hG hsl hrm hf) rfl ?_
    exact xDo.thr (by simp only [haNode, hf])
  · skip
    refine w_callT (As := [_]) d_Ha_node_2 k_Ha_154 k_hall rfl rfl rfl (c_Ha_findPlannedU hG hsl hrm hf (htn _ (fsL hf)).1 (htn _ (fsL hf)).2 h0) rfl ?_
    exact xDo.thr (by simp only [haNode, hf, h0, if_true])
  · skip
    have hj := fsL hf
    have h1 : ¬ tn j = 0 := by omega
    refine w_callV (As := [_]) d_Ha_node_2 k_Ha_154 k_hall rfl rfl rfl (c_Ha_findPlanned hG hsl hf (htn _ (fsL hf)).1 (htn _ (fsL hf)).2 h0) ?_
    refine y_getf d_Ha_node_5 gf_Ha_104 (k_sheet (fsL hf)) rfl ?_
    refine s_astore (lv' := [(0, _), (1, _), (2, _), (3, _), (4, _)]) d_Ha_node_8 (by decide) rfl ?_
    refine x_aload d_Ha_node_10 rfl ?_
    refine x_iload_n d_Ha_node_12 rfl ?_
    have hb := (htn j hj).2
    rcases inB_cases (N := tn j) (by omega) i with ⟨k, hk, rfl, hz⟩ | hz
    · skip
      refine w_callV (As := [_]) d_Ha_node_13 k_Ha_157 (k_tree (trS (fsL hf))) rfl rfl rfl (c_Tr_has hG (trS hj) (htn j hj).1 (htn j hj).2) ?_
      rw [show (decide (0 ≤ nI k) && decide (nI k < nI (tn j))) = true from hz]
      refine z_bif_ne 27 d_Ha_node_16 rfl (fun hc16 => ?_) (fun q => absurd q (by decide))
      refine x_iload_n d_Ha_node_27 rfl ?_
      refine x_if_lt 37 d_Ha_node_28 rfl (fun hc28 => ?_) (fun hc28 => ?_)
      · skip
        skip
        refine y_throw hG d_Ha_node_37 d_Ha_node_40 d_Ha_node_41 d_Ha_node_44 (te_Iae nw_Ha_57 k_Ha_59) rfl hrm rfl ?_
        exact xDo.thr (by simp [haNode, hf, h1, hz, hc16, hc28])
      · skip
        skip
        refine x_iload_n d_Ha_node_31 rfl ?_
        refine x_bipush (v := nI 8) d_Ha_node_32 (by decide +kernel) ?_
        refine x_icmp_le 45 d_Ha_node_34 rfl (fun hc34 => ?_) (fun hc34 => ?_)
        · skip
          skip
          refine x_aload d_Ha_node_45 rfl ?_
          refine x_iload_n d_Ha_node_47 rfl ?_
          refine x_iload_n d_Ha_node_48 rfl ?_
          rcases le8 hc28 hc34 with hw | hw | hw | hw | hw | hw | hw | hw | hw
          · skip
            subst hw
            refine w_callV (As := [_, _]) d_Ha_node_49 k_Ha_163 (k_tree (trS (fsL hf))) rfl rfl rfl (c_Tr_tell0 hG (trS hj) (by omega)) ?_
            refine x_ireturn d_Ha_node_52 rfl rfl ?_
            exact xDo.ret (by simp only [haNode, hf, h1, hz, hc28, hc34, if_false, Bool.true_eq_false, not_true_eq_false, nI_clamp (show k < 2 ^ 31 by omega), nI_clamp (show 0 < 2 ^ 31 by decide)])
          · skip
            subst hw
            refine w_callV (As := [_, _]) d_Ha_node_49 k_Ha_163 (k_tree (trS (fsL hf))) rfl rfl rfl (c_Tr_tell1 hG (trS hj) (by omega)) ?_
            refine x_ireturn d_Ha_node_52 rfl rfl ?_
            exact xDo.ret (by simp only [haNode, hf, h1, hz, hc28, hc34, if_false, Bool.true_eq_false, not_true_eq_false, nI_clamp (show k < 2 ^ 31 by omega), nI_clamp (show 1 < 2 ^ 31 by decide)])
          · skip
            subst hw
            refine w_callV (As := [_, _]) d_Ha_node_49 k_Ha_163 (k_tree (trS (fsL hf))) rfl rfl rfl (c_Tr_tell2 hG (trS hj) (by omega)) ?_
            refine x_ireturn d_Ha_node_52 rfl rfl ?_
            exact xDo.ret (by simp only [haNode, hf, h1, hz, hc28, hc34, if_false, Bool.true_eq_false, not_true_eq_false, nI_clamp (show k < 2 ^ 31 by omega), nI_clamp (show 2 < 2 ^ 31 by decide)])
          · skip
            subst hw
            refine w_callV (As := [_, _]) d_Ha_node_49 k_Ha_163 (k_tree (trS (fsL hf))) rfl rfl rfl (c_Tr_tell3 hG (trS hj) (by omega)) ?_
            refine x_ireturn d_Ha_node_52 rfl rfl ?_
            exact xDo.ret (by simp only [haNode, hf, h1, hz, hc28, hc34, if_false, Bool.true_eq_false, not_true_eq_false, nI_clamp (show k < 2 ^ 31 by omega), nI_clamp (show 3 < 2 ^ 31 by decide)])
          · skip
            subst hw
            refine w_callV (As := [_, _]) d_Ha_node_49 k_Ha_163 (k_tree (trS (fsL hf))) rfl rfl rfl (c_Tr_tell4 hG (trS hj) (by omega)) ?_
            refine x_ireturn d_Ha_node_52 rfl rfl ?_
            exact xDo.ret (by simp only [haNode, hf, h1, hz, hc28, hc34, if_false, Bool.true_eq_false, not_true_eq_false, nI_clamp (show k < 2 ^ 31 by omega), nI_clamp (show 4 < 2 ^ 31 by decide)])
          · skip
            subst hw
            refine w_callV (As := [_, _]) d_Ha_node_49 k_Ha_163 (k_tree (trS (fsL hf))) rfl rfl rfl (c_Tr_tell5 hG (trS hj) (by omega)) ?_
            refine x_ireturn d_Ha_node_52 rfl rfl ?_
            exact xDo.ret (by simp only [haNode, hf, h1, hz, hc28, hc34, if_false, Bool.true_eq_false, not_true_eq_false, nI_clamp (show k < 2 ^ 31 by omega), nI_clamp (show 5 < 2 ^ 31 by decide)])
          · skip
            subst hw
            refine w_callV (As := [_, _]) d_Ha_node_49 k_Ha_163 (k_tree (trS (fsL hf))) rfl rfl rfl (c_Tr_tell6 hG (trS hj) (by omega)) ?_
            refine x_ireturn d_Ha_node_52 rfl rfl ?_
            exact xDo.ret (by simp only [haNode, hf, h1, hz, hc28, hc34, if_false, Bool.true_eq_false, not_true_eq_false, nI_clamp (show k < 2 ^ 31 by omega), nI_clamp (show 6 < 2 ^ 31 by decide)])
          · skip
            subst hw
            refine w_callV (As := [_, _]) d_Ha_node_49 k_Ha_163 (k_tree (trS (fsL hf))) rfl rfl rfl (c_Tr_tell7 hG (trS hj) (by omega)) ?_
            refine x_ireturn d_Ha_node_52 rfl rfl ?_
            exact xDo.ret (by simp only [haNode, hf, h1, hz, hc28, hc34, if_false, Bool.true_eq_false, not_true_eq_false, nI_clamp (show k < 2 ^ 31 by omega), nI_clamp (show 7 < 2 ^ 31 by decide)])
          · skip
            subst hw
            refine w_callV (As := [_, _]) d_Ha_node_49 k_Ha_163 (k_tree (trS (fsL hf))) rfl rfl rfl (c_Tr_tell8 hG (trS hj) (by omega)) ?_
            refine x_ireturn d_Ha_node_52 rfl rfl ?_
            exact xDo.ret (by simp only [haNode, hf, h1, hz, hc28, hc34, if_false, Bool.true_eq_false, not_true_eq_false, nI_clamp (show k < 2 ^ 31 by omega), nI_clamp (show 8 < 2 ^ 31 by decide)])
        · skip
          skip
          refine y_throw hG d_Ha_node_37 d_Ha_node_40 d_Ha_node_41 d_Ha_node_44 (te_Iae nw_Ha_57 k_Ha_59) rfl hrm rfl ?_
          exact xDo.thr (by simp [haNode, hf, h1, hz, hc16, hc28, hc34])
    · skip
      refine w_callV (As := [_]) d_Ha_node_13 k_Ha_157 (k_tree (trS (fsL hf))) rfl rfl rfl (c_Tr_has hG (trS hj) (htn j hj).1 (htn j hj).2) ?_
      rw [show (decide (0 ≤ i) && decide (i < nI (tn j))) = false from hz]
      refine z_bif_ne 27 d_Ha_node_16 rfl (fun q => absurd q (by decide)) (fun hc16 => ?_)
      refine y_throw hG d_Ha_node_19 d_Ha_node_22 d_Ha_node_23 d_Ha_node_26 (te_Ioo nw_Ha_160 k_Ha_162) rfl hrm rfl ?_
      exact xDo.thr (by simp [haNode, hf, h1, hz, hc16])
/-- a switch's value: none if it goes past -/
def swV (k : Nat) (w : Int32) : Option Nat := if 0 ≤ w ∧ w < nI k then some w.toNatClampNeg else none
theorem swN3 {w : Int32} (h : w.toInt < 0 ∨ 2 < w.toInt) : swV 3 w = none := by
  unfold swV
  rw [if_neg]
  rintro ⟨h1, h2⟩
  have h3 := Int32.le_iff_toInt_le.mp h1
  have h4 := Int32.lt_iff_toInt_lt.mp h2
  rw [nI_toInt' (by decide)] at h4
  have : (0 : Int32).toInt = 0 := by decide +kernel
  omega
theorem sw3_0 : swV 3 (nI 0) = some 0 := by decide +kernel
theorem sw3_1 : swV 3 (nI 1) = some 1 := by decide +kernel
theorem sw3_2 : swV 3 (nI 2) = some 2 := by decide +kernel
theorem swN4 {w : Int32} (h : w.toInt < 0 ∨ 3 < w.toInt) : swV 4 w = none := by
  unfold swV
  rw [if_neg]
  rintro ⟨h1, h2⟩
  have h3 := Int32.le_iff_toInt_le.mp h1
  have h4 := Int32.lt_iff_toInt_lt.mp h2
  rw [nI_toInt' (by decide)] at h4
  have : (0 : Int32).toInt = 0 := by decide +kernel
  omega
theorem sw4_0 : swV 4 (nI 0) = some 0 := by decide +kernel
theorem sw4_1 : swV 4 (nI 1) = some 1 := by decide +kernel
theorem sw4_2 : swV 4 (nI 2) = some 2 := by decide +kernel
theorem sw4_3 : swV 4 (nI 3) = some 3 := by decide +kernel
theorem swN5 {w : Int32} (h : w.toInt < 0 ∨ 4 < w.toInt) : swV 5 w = none := by
  unfold swV
  rw [if_neg]
  rintro ⟨h1, h2⟩
  have h3 := Int32.le_iff_toInt_le.mp h1
  have h4 := Int32.lt_iff_toInt_lt.mp h2
  rw [nI_toInt' (by decide)] at h4
  have : (0 : Int32).toInt = 0 := by decide +kernel
  omega
theorem sw5_0 : swV 5 (nI 0) = some 0 := by decide +kernel
theorem sw5_1 : swV 5 (nI 1) = some 1 := by decide +kernel
theorem sw5_2 : swV 5 (nI 2) = some 2 := by decide +kernel
theorem sw5_3 : swV 5 (nI 3) = some 3 := by decide +kernel
theorem sw5_4 : swV 5 (nI 4) = some 4 := by decide +kernel
theorem swN7 {w : Int32} (h : w.toInt < 0 ∨ 6 < w.toInt) : swV 7 w = none := by
  unfold swV
  rw [if_neg]
  rintro ⟨h1, h2⟩
  have h3 := Int32.le_iff_toInt_le.mp h1
  have h4 := Int32.lt_iff_toInt_lt.mp h2
  rw [nI_toInt' (by decide)] at h4
  have : (0 : Int32).toInt = 0 := by decide +kernel
  omega
theorem sw7_0 : swV 7 (nI 0) = some 0 := by decide +kernel
theorem sw7_1 : swV 7 (nI 1) = some 1 := by decide +kernel
theorem sw7_2 : swV 7 (nI 2) = some 2 := by decide +kernel
theorem sw7_3 : swV 7 (nI 3) = some 3 := by decide +kernel
theorem sw7_4 : swV 7 (nI 4) = some 4 := by decide +kernel
theorem sw7_5 : swV 7 (nI 5) = some 5 := by decide +kernel
theorem sw7_6 : swV 7 (nI 6) = some 6 := by decide +kernel
def haRack (S : xS) (R : Nat) (g : Nat → Nat) (k w : Int32) : xO × xS := if inB R k = false then (.inr 11, S) else match swV 3 w with
  | none => (.inr 12, S)
  | some t => (rI (sF S (g k.toNatClampNeg) (4 + t)), S)
def haPanes (S : xS) (N : Nat) (D : Nat → Nat → Int32) (k w : Int32) : xO × xS := if inB N k = false then (.inr 11, S) else match swV 3 w with
  | none => (.inr 12, S)
  | some t => (rI (D k.toNatClampNeg (3 + t)), S)
def haFlawed (S : xS) (fl : Nat → Nat) (x k w : Int32) : xO × xS := match fstN (idB S x) 8 with
  | none => (.inr 11, S)
  | some j => if inB (fl j) k = false then (.inr 14, S) else match swV 4 w with
    | none => (.inr 12, S)
    | some t => (rI (sA S (67 + 15 * j + (t + 1)) k.toNatClampNeg), S)
def haArea (S : xS) (R : Nat) (g tn : Nat → Nat) (w : Int32) : Int64 := match swV 7 w with
  | some 0 => haUn S tn 8
  | some 1 => sJ S 0 8
  | some 2 => rkSurf S g R
  | some 3 => sJ S 0 9
  | some 4 => sJ S 0 10
  | some 5 => haWa S tn 8
  | some 6 => sJ S 0 7
  | _ => 0
def haTotal (S : xS) (N R : Nat) (tn : Nat → Nat) (w : Int32) : Int32 := match swV 5 w with
  | some 0 => nI (haCo S tn false 8)
  | some 1 => nI (haCo S tn true 8)
  | some 2 => nI N
  | some 3 => nI R
  | some 4 => sF S 0 6
  | _ => -1
set_option maxRecDepth 100000 in
set_option maxHeartbeats 1000000 in
theorem c_Ha_rack {G : xG} {B d : Nat} {S : xS} (hG : xOkG G) {N R : Nat} {oa : Nat → Nat} {D : Nat → Nat → Int32} {rk g tn fl : Nat → Nat} (hI : haI S B N R oa D rk g tn fl) (hrm : xRm G B S) {k w : Int32} : EX G m_Ha_rack (d + 2) 0 [(0, .ref (B + 0)), (1, .int k), (2, .int w)] [] (mk G B S) (xDo G B (haRack S R g k w)) := by
  obtain ⟨hsl, ⟨hN, hN6⟩, ho, hinj, hrkd, ⟨hR, hR10⟩, hrk, hgi, htn, hfl, hgm, hmk, ⟨ln, hln, hly⟩⟩ := id hI
  refine x_aload_n d_Ha_rack_0 rfl ?_
  refine x_iload_n d_Ha_rack_1 rfl ?_
  rcases inB_cases (N := R) (by omega) k with ⟨q, hq, rfl, hz⟩ | hz
  · skip
    refine w_callV (As := [_]) d_Ha_rack_2 k_Ha_207 k_hall rfl rfl rfl (c_Ha_findOffcut hG hR hR10 hrk hq) ?_
    refine s_astore_n (lv' := [(0, _), (1, _), (2, _), (3, _)]) d_Ha_rack_5 (by decide) rfl ?_
    refine x_iload_n d_Ha_rack_6 rfl ?_
    rcases sw3 w with hw | hw | hw | hw
    · skip
      subst hw
      refine x_tableIn (off := 25) 32 d_Ha_rack_7 (by decide +kernel) (by decide +kernel) (by decide +kernel) rfl ?_
      refine x_aload_n d_Ha_rack_32 rfl ?_
      refine y_getf d_Ha_rack_33 gf_Ha_93 (k_glass (hrk q (by omega)).2) rfl ?_
      refine x_ireturn d_Ha_rack_36 rfl rfl ?_
      exact xDo.ret (by simp only [haRack, hz, sw3_0, if_false, Bool.true_eq_false, nI_clamp (show q < 2 ^ 31 by omega)])
    · skip
      subst hw
      refine x_tableIn (off := 30) 37 d_Ha_rack_7 (by decide +kernel) (by decide +kernel) (by decide +kernel) rfl ?_
      refine x_aload_n d_Ha_rack_37 rfl ?_
      refine y_getf d_Ha_rack_38 gf_Ha_101 (k_glass (hrk q (by omega)).2) rfl ?_
      refine x_ireturn d_Ha_rack_41 rfl rfl ?_
      exact xDo.ret (by simp only [haRack, hz, sw3_1, if_false, Bool.true_eq_false, nI_clamp (show q < 2 ^ 31 by omega)])
    · skip
      subst hw
      refine x_tableIn (off := 35) 42 d_Ha_rack_7 (by decide +kernel) (by decide +kernel) (by decide +kernel) rfl ?_
      refine x_aload_n d_Ha_rack_42 rfl ?_
      refine y_getf d_Ha_rack_43 gf_Ha_114 (k_glass (hrk q (by omega)).2) rfl ?_
      refine x_ireturn d_Ha_rack_46 rfl rfl ?_
      exact xDo.ret (by simp only [haRack, hz, sw3_2, if_false, Bool.true_eq_false, nI_clamp (show q < 2 ^ 31 by omega)])
    · skip
      refine x_tableOut 47 d_Ha_rack_7 hw rfl ?_
      refine y_throw hG d_Ha_rack_47 d_Ha_rack_50 d_Ha_rack_51 d_Ha_rack_54 (te_Iae nw_Ha_57 k_Ha_59) rfl hrm rfl ?_
      exact xDo.thr (by simp only [haRack, hz, swN3 hw, if_false, Bool.true_eq_false])
  · skip
    refine w_callT (As := [_]) d_Ha_rack_2 k_Ha_207 k_hall rfl rfl rfl (c_Ha_findOffcutT hG hR hR10 hrk hrm hz) rfl ?_
    exact xDo.thr (by simp only [haRack, hz, if_true])
set_option maxRecDepth 100000 in
set_option maxHeartbeats 1000000 in
theorem c_Ha_panes {G : xG} {B d : Nat} {S : xS} (hG : xOkG G) {N R : Nat} {oa : Nat → Nat} {D : Nat → Nat → Int32} {rk g tn fl : Nat → Nat} (hI : haI S B N R oa D rk g tn fl) (hrm : xRm G B S) {k w : Int32} : EX G m_Ha_panes (d + 2) 0 [(0, .ref (B + 0)), (1, .int k), (2, .int w)] [] (mk G B S) (xDo G B (haPanes S N D k w)) := by
  obtain ⟨hsl, ⟨hN, hN6⟩, ho, hinj, hrkd, ⟨hR, hR10⟩, hrk, hgi, htn, hfl, hgm, hmk, ⟨ln, hln, hly⟩⟩ := id hI
  refine x_aload_n d_Ha_panes_0 rfl ?_
  refine y_getf d_Ha_panes_1 gf_Ha_18 k_hall rfl ?_
  refine x_iload_n d_Ha_panes_4 rfl ?_
  rcases inB_cases (N := N) (by omega) k with ⟨q, hq, rfl, hz⟩ | hz
  · skip
    refine w_callV (As := [_]) d_Ha_panes_5 k_Ha_233 k_book rfl rfl rfl (c_Bk_at hG hN hN6 hq (ho q hq).1) ?_
    refine s_astore_n (lv' := [(0, _), (1, _), (2, _), (3, _)]) d_Ha_panes_8 (by decide) rfl ?_
    refine x_aload_n d_Ha_panes_9 rfl ?_
    refine x_ifnonnull 21 d_Ha_panes_10 rfl ?_
    refine x_iload_n d_Ha_panes_21 rfl ?_
    rcases sw3 w with hw | hw | hw | hw
    · skip
      subst hw
      refine x_tableIn (off := 26) 48 d_Ha_panes_22 (by decide +kernel) (by decide +kernel) (by decide +kernel) rfl ?_
      refine x_aload_n d_Ha_panes_48 rfl ?_
      refine y_getE d_Ha_panes_49 gf_Ha_237 (ho q hq).2 rfl ?_
      refine x_ireturn d_Ha_panes_52 rfl rfl ?_
      exact xDo.ret (by simp only [haPanes, hz, sw3_0, if_false, Bool.true_eq_false, nI_clamp (show q < 2 ^ 31 by omega)])
    · skip
      subst hw
      refine x_tableIn (off := 31) 53 d_Ha_panes_22 (by decide +kernel) (by decide +kernel) (by decide +kernel) rfl ?_
      refine x_aload_n d_Ha_panes_53 rfl ?_
      refine y_getE d_Ha_panes_54 gf_Ha_240 (ho q hq).2 rfl ?_
      refine x_ireturn d_Ha_panes_57 rfl rfl ?_
      exact xDo.ret (by simp only [haPanes, hz, sw3_1, if_false, Bool.true_eq_false, nI_clamp (show q < 2 ^ 31 by omega)])
    · skip
      subst hw
      refine x_tableIn (off := 36) 58 d_Ha_panes_22 (by decide +kernel) (by decide +kernel) (by decide +kernel) rfl ?_
      refine x_aload_n d_Ha_panes_58 rfl ?_
      refine y_getE d_Ha_panes_59 gf_Ha_243 (ho q hq).2 rfl ?_
      refine x_ireturn d_Ha_panes_62 rfl rfl ?_
      exact xDo.ret (by simp only [haPanes, hz, sw3_2, if_false, Bool.true_eq_false, nI_clamp (show q < 2 ^ 31 by omega)])
    · skip
      refine x_tableOut 63 d_Ha_panes_22 hw rfl ?_
      refine y_throw hG d_Ha_panes_63 d_Ha_panes_66 d_Ha_panes_67 d_Ha_panes_70 (te_Iae nw_Ha_57 k_Ha_59) rfl hrm rfl ?_
      exact xDo.thr (by simp only [haPanes, hz, swN3 hw, if_false, Bool.true_eq_false])
  · skip
    refine w_callV (As := [_]) d_Ha_panes_5 k_Ha_233 k_book rfl rfl rfl (c_Bk_atN hG hN hN6 hz) ?_
    refine s_astore_nN (lv' := [(0, _), (1, _), (2, _), (3, _)]) d_Ha_panes_8 (by decide) rfl ?_
    refine x_aload_nN d_Ha_panes_9 rfl ?_
    refine x_ifnonnullN d_Ha_panes_10 ?_
    refine y_throw hG d_Ha_panes_13 d_Ha_panes_16 d_Ha_panes_17 d_Ha_panes_20 (te_Nse nw_Ha_147 k_Ha_149) rfl hrm rfl ?_
    exact xDo.thr (by simp only [haPanes, hz, if_true])
set_option maxRecDepth 100000 in
set_option maxHeartbeats 1000000 in
theorem c_Ha_flawed {G : xG} {B d : Nat} {S : xS} (hG : xOkG G) {N R : Nat} {oa : Nat → Nat} {D : Nat → Nat → Int32} {rk g tn fl : Nat → Nat} (hI : haI S B N R oa D rk g tn fl) (hrm : xRm G B S) {x k w : Int32} : EX G m_Ha_flawed (d + 2) 0 [(0, .ref (B + 0)), (1, .int x), (2, .int k), (3, .int w)] [] (mk G B S) (xDo G B (haFlawed S fl x k w)) := by
  obtain ⟨hsl, ⟨hN, hN6⟩, ho, hinj, hrkd, ⟨hR, hR10⟩, hrk, hgi, htn, hfl, hgm, hmk, ⟨ln, hln, hly⟩⟩ := id hI
  refine x_aload_n d_Ha_flawed_0 rfl ?_
  refine x_iload_n d_Ha_flawed_1 rfl ?_
  rcases hf : fstN (idB S x) 8 with _ | j
  · skip
    refine w_callT (As := [_]) d_Ha_flawed_2 k_Ha_89 k_hall rfl rfl rfl (c_Ha_findSheetT hG hsl hrm hf) rfl ?_
    exact xDo.thr (by simp only [haFlawed, hf])
  · skip
    have hj := fsL hf
    refine w_callV (As := [_]) d_Ha_flawed_2 k_Ha_89 k_hall rfl rfl rfl (c_Ha_findSheet hG hsl hf) ?_
    refine y_getf d_Ha_flawed_5 gf_Ha_67 (k_sheet (fsL hf)) rfl ?_
    refine s_astore (lv' := [(0, _), (1, _), (2, _), (3, _), (4, _)]) d_Ha_flawed_8 (by decide) rfl ?_
    refine x_iload_n d_Ha_flawed_10 rfl ?_
    refine x_if_lt 23 d_Ha_flawed_11 rfl (fun hc11 => ?_) (fun hc11 => ?_)
    · skip
      skip
      refine y_throw hG d_Ha_flawed_23 d_Ha_flawed_26 d_Ha_flawed_27 d_Ha_flawed_30 (te_Ioo nw_Ha_160 k_Ha_162) rfl hrm rfl ?_
      have hz : inB (fl j) k = false := by unfold inB; first | rw [decide_eq_false (Int32.not_le.mpr hc11), Bool.false_and] | rw [decide_eq_false (p := k < nI (fl j)) hc20, Bool.and_false]
      exact xDo.thr (by simp only [haFlawed, hf, hz, if_true])
    · skip
      skip
      refine x_iload_n d_Ha_flawed_14 rfl ?_
      refine x_aload d_Ha_flawed_15 rfl ?_
      refine y_getf (v := .int (nI (fl j))) d_Ha_flawed_17 gf_Ha_114 (k_glass (glS (fsL hf))) (congrArg (fun q => some (Value.int q)) (hfl j hj).1) ?_
      refine x_icmp_lt 31 d_Ha_flawed_20 rfl (fun hc20 => ?_) (fun hc20 => ?_)
      · skip
        skip
        obtain ⟨q, hq0, rfl⟩ := nI_of hc11
        have hfj := (hfl j hj).2
        have hq : q < fl j := (nI_ltI hq0 (by omega)).mp hc20
        have hz : inB (fl j) (nI q) = true := by unfold inB; rw [hasN (by omega) (by omega)]; exact decide_eq_true hq
        refine x_iload_n d_Ha_flawed_31 rfl ?_
        rcases sw4 w with hw | hw | hw | hw | hw
        · skip
          subst hw
          refine x_tableIn (off := 32) 64 d_Ha_flawed_32 (by decide +kernel) (by decide +kernel) (by decide +kernel) rfl ?_
          refine x_aload d_Ha_flawed_64 rfl ?_
          refine y_getf d_Ha_flawed_66 gf_Ha_221 (k_glass (glS (fsL hf))) rfl ?_
          refine x_iload_n d_Ha_flawed_69 rfl ?_
          refine y_iald hG d_Ha_flawed_70 (k_glA1 (glS (fsL hf))) _ rfl (by omega) ?_
          refine x_ireturn d_Ha_flawed_71 rfl rfl ?_
          exact xDo.ret (by simp only [haFlawed, hf, hz, sw4_0, if_false, Bool.true_eq_false, nI_clamp (show q < 2 ^ 31 by omega)])
        · skip
          subst hw
          refine x_tableIn (off := 40) 72 d_Ha_flawed_32 (by decide +kernel) (by decide +kernel) (by decide +kernel) rfl ?_
          refine x_aload d_Ha_flawed_72 rfl ?_
          refine y_getf d_Ha_flawed_74 gf_Ha_224 (k_glass (glS (fsL hf))) rfl ?_
          refine x_iload_n d_Ha_flawed_77 rfl ?_
          refine y_iald hG d_Ha_flawed_78 (k_glA2 (glS (fsL hf))) _ rfl (by omega) ?_
          refine x_ireturn d_Ha_flawed_79 rfl rfl ?_
          exact xDo.ret (by simp only [haFlawed, hf, hz, sw4_1, if_false, Bool.true_eq_false, nI_clamp (show q < 2 ^ 31 by omega)])
        · skip
          subst hw
          refine x_tableIn (off := 48) 80 d_Ha_flawed_32 (by decide +kernel) (by decide +kernel) (by decide +kernel) rfl ?_
          refine x_aload d_Ha_flawed_80 rfl ?_
          refine y_getf d_Ha_flawed_82 gf_Ha_227 (k_glass (glS (fsL hf))) rfl ?_
          refine x_iload_n d_Ha_flawed_85 rfl ?_
          refine y_iald hG d_Ha_flawed_86 (k_glA3 (glS (fsL hf))) _ rfl (by omega) ?_
          refine x_ireturn d_Ha_flawed_87 rfl rfl ?_
          exact xDo.ret (by simp only [haFlawed, hf, hz, sw4_2, if_false, Bool.true_eq_false, nI_clamp (show q < 2 ^ 31 by omega)])
        · skip
          subst hw
          refine x_tableIn (off := 56) 88 d_Ha_flawed_32 (by decide +kernel) (by decide +kernel) (by decide +kernel) rfl ?_
          refine x_aload d_Ha_flawed_88 rfl ?_
          refine y_getf d_Ha_flawed_90 gf_Ha_230 (k_glass (glS (fsL hf))) rfl ?_
          refine x_iload_n d_Ha_flawed_93 rfl ?_
          refine y_iald hG d_Ha_flawed_94 (k_glA4 (glS (fsL hf))) _ rfl (by omega) ?_
          refine x_ireturn d_Ha_flawed_95 rfl rfl ?_
          exact xDo.ret (by simp only [haFlawed, hf, hz, sw4_3, if_false, Bool.true_eq_false, nI_clamp (show q < 2 ^ 31 by omega)])
        · skip
          refine x_tableOut 96 d_Ha_flawed_32 hw rfl ?_
          refine y_throw hG d_Ha_flawed_96 d_Ha_flawed_99 d_Ha_flawed_100 d_Ha_flawed_103 (te_Iae nw_Ha_57 k_Ha_59) rfl hrm rfl ?_
          exact xDo.thr (by simp only [haFlawed, hf, hz, swN4 hw, if_false, Bool.true_eq_false])
      · skip
        skip
        refine y_throw hG d_Ha_flawed_23 d_Ha_flawed_26 d_Ha_flawed_27 d_Ha_flawed_30 (te_Ioo nw_Ha_160 k_Ha_162) rfl hrm rfl ?_
        have hz : inB (fl j) k = false := by unfold inB; first | rw [decide_eq_false (Int32.not_le.mpr hc11), Bool.false_and] | rw [decide_eq_false (p := k < nI (fl j)) hc20, Bool.and_false]
        exact xDo.thr (by simp only [haFlawed, hf, hz, if_true])
set_option maxRecDepth 100000 in
set_option maxHeartbeats 1000000 in
theorem c_Ha_area {G : xG} {B d : Nat} {S : xS} (hG : xOkG G) {N R : Nat} {oa : Nat → Nat} {D : Nat → Nat → Int32} {rk g tn fl : Nat → Nat} (hI : haI S B N R oa D rk g tn fl) (hrm : xRm G B S) {w : Int32} : EX G m_Ha_area (d + 3) 0 [(0, .ref (B + 0)), (1, .int w)] [] (mk G B S) (xDo G B (.inl (some (.long (haArea S R g tn w))), S)) := by
  obtain ⟨hsl, ⟨hN, hN6⟩, ho, hinj, hrkd, ⟨hR, hR10⟩, hrk, hgi, htn, hfl, hgm, hmk, ⟨ln, hln, hly⟩⟩ := id hI
  refine x_iload_n d_Ha_area_0 rfl ?_
  rcases sw7 w with hw | hw | hw | hw | hw | hw | hw | hw
  · skip
    subst hw
    refine x_tableIn (off := 43) 44 d_Ha_area_1 (by decide +kernel) (by decide +kernel) (by decide +kernel) rfl ?_
    refine x_aload_n d_Ha_area_44 rfl ?_
    refine w_callV (As := []) d_Ha_area_45 k_Ha_246 k_hall rfl rfl rfl (c_Ha_unplannedArea hG hsl htn) ?_
    refine x_lreturn d_Ha_area_48 rfl ?_
    exact xDo.ret (by simp only [haArea, sw7_0])
  · skip
    subst hw
    refine x_tableIn (off := 48) 49 d_Ha_area_1 (by decide +kernel) (by decide +kernel) (by decide +kernel) rfl ?_
    refine x_aload_n d_Ha_area_49 rfl ?_
    refine y_getf d_Ha_area_50 gf_Ha_249 k_hall rfl ?_
    refine x_lreturn d_Ha_area_53 rfl ?_
    exact xDo.ret (by simp only [haArea, sw7_1])
  · skip
    subst hw
    refine x_tableIn (off := 53) 54 d_Ha_area_1 (by decide +kernel) (by decide +kernel) (by decide +kernel) rfl ?_
    refine x_aload_n d_Ha_area_54 rfl ?_
    refine y_getf d_Ha_area_55 gf_Ha_25 k_hall rfl ?_
    refine w_callV (As := []) d_Ha_area_58 k_Ha_252 k_rack rfl rfl rfl (c_Rk_surface hG hR hR10 hrk) ?_
    refine x_lreturn d_Ha_area_61 rfl ?_
    exact xDo.ret (by simp only [haArea, sw7_2])
  · skip
    subst hw
    refine x_tableIn (off := 61) 62 d_Ha_area_1 (by decide +kernel) (by decide +kernel) (by decide +kernel) rfl ?_
    refine x_aload_n d_Ha_area_62 rfl ?_
    refine y_getf d_Ha_area_63 gf_Ha_253 k_hall rfl ?_
    refine x_lreturn d_Ha_area_66 rfl ?_
    exact xDo.ret (by simp only [haArea, sw7_3])
  · skip
    subst hw
    refine x_tableIn (off := 66) 67 d_Ha_area_1 (by decide +kernel) (by decide +kernel) (by decide +kernel) rfl ?_
    refine x_aload_n d_Ha_area_67 rfl ?_
    refine y_getf d_Ha_area_68 gf_Ha_190 k_hall rfl ?_
    refine x_lreturn d_Ha_area_71 rfl ?_
    exact xDo.ret (by simp only [haArea, sw7_4])
  · skip
    subst hw
    refine x_tableIn (off := 71) 72 d_Ha_area_1 (by decide +kernel) (by decide +kernel) (by decide +kernel) rfl ?_
    refine x_aload_n d_Ha_area_72 rfl ?_
    refine w_callV (As := []) d_Ha_area_73 k_Ha_256 k_hall rfl rfl rfl (c_Ha_waitingArea hG hsl htn) ?_
    refine x_lreturn d_Ha_area_76 rfl ?_
    exact xDo.ret (by simp only [haArea, sw7_5])
  · skip
    subst hw
    refine x_tableIn (off := 76) 77 d_Ha_area_1 (by decide +kernel) (by decide +kernel) (by decide +kernel) rfl ?_
    refine x_aload_n d_Ha_area_77 rfl ?_
    refine y_getf d_Ha_area_78 gf_Ha_77 k_hall rfl ?_
    refine x_lreturn d_Ha_area_81 rfl ?_
    exact xDo.ret (by simp only [haArea, sw7_6])
  · skip
    refine x_tableOut 82 d_Ha_area_1 hw rfl ?_
    refine x_lconst (v := 0) d_Ha_area_82 (by decide +kernel) ?_
    refine x_lreturn d_Ha_area_83 rfl ?_
    exact xDo.ret (by simp only [haArea, swN7 hw])
set_option maxRecDepth 100000 in
set_option maxHeartbeats 1000000 in
theorem c_Ha_total {G : xG} {B d : Nat} {S : xS} (hG : xOkG G) {N R : Nat} {oa : Nat → Nat} {D : Nat → Nat → Int32} {rk g tn fl : Nat → Nat} (hI : haI S B N R oa D rk g tn fl) (hrm : xRm G B S) {w : Int32} : EX G m_Ha_total (d + 3) 0 [(0, .ref (B + 0)), (1, .int w)] [] (mk G B S) (xDo G B (rI (haTotal S N R tn w), S)) := by
  obtain ⟨hsl, ⟨hN, hN6⟩, ho, hinj, hrkd, ⟨hR, hR10⟩, hrk, hgi, htn, hfl, hgm, hmk, ⟨ln, hln, hly⟩⟩ := id hI
  refine x_iload_n d_Ha_total_0 rfl ?_
  rcases sw5 w with hw | hw | hw | hw | hw | hw
  · skip
    subst hw
    refine x_tableIn (off := 35) 36 d_Ha_total_1 (by decide +kernel) (by decide +kernel) (by decide +kernel) rfl ?_
    refine x_aload_n d_Ha_total_36 rfl ?_
    refine x_iconst (v := nI 0) d_Ha_total_37 (by decide +kernel) ?_
    refine w_callV (As := [_]) d_Ha_total_38 k_Ha_259 k_hall rfl rfl rfl (c_Ha_countSheets (p := false) hG hsl htn) ?_
    refine x_ireturn d_Ha_total_41 rfl rfl ?_
    exact xDo.ret (by simp only [haTotal, sw5_0])
  · skip
    subst hw
    refine x_tableIn (off := 41) 42 d_Ha_total_1 (by decide +kernel) (by decide +kernel) (by decide +kernel) rfl ?_
    refine x_aload_n d_Ha_total_42 rfl ?_
    refine x_iconst (v := nI 1) d_Ha_total_43 (by decide +kernel) ?_
    refine w_callV (As := [_]) d_Ha_total_44 k_Ha_259 k_hall rfl rfl rfl (c_Ha_countSheets (p := true) hG hsl htn) ?_
    refine x_ireturn d_Ha_total_47 rfl rfl ?_
    exact xDo.ret (by simp only [haTotal, sw5_1])
  · skip
    subst hw
    refine x_tableIn (off := 47) 48 d_Ha_total_1 (by decide +kernel) (by decide +kernel) (by decide +kernel) rfl ?_
    refine x_aload_n d_Ha_total_48 rfl ?_
    refine y_getf d_Ha_total_49 gf_Ha_18 k_hall rfl ?_
    refine y_getf (v := .int (nI N)) d_Ha_total_52 gf_Ha_121 k_book (congrArg (fun q => some (Value.int q)) hN) ?_
    refine x_ireturn d_Ha_total_55 rfl rfl ?_
    exact xDo.ret (by simp only [haTotal, sw5_2])
  · skip
    subst hw
    refine x_tableIn (off := 55) 56 d_Ha_total_1 (by decide +kernel) (by decide +kernel) (by decide +kernel) rfl ?_
    refine x_aload_n d_Ha_total_56 rfl ?_
    refine y_getf d_Ha_total_57 gf_Ha_25 k_hall rfl ?_
    refine y_getf (v := .int (nI R)) d_Ha_total_60 gf_Ha_263 k_rack (congrArg (fun q => some (Value.int q)) hR) ?_
    refine x_ireturn d_Ha_total_63 rfl rfl ?_
    exact xDo.ret (by simp only [haTotal, sw5_3])
  · skip
    subst hw
    refine x_tableIn (off := 63) 64 d_Ha_total_1 (by decide +kernel) (by decide +kernel) (by decide +kernel) rfl ?_
    refine x_aload_n d_Ha_total_64 rfl ?_
    refine y_getf d_Ha_total_65 gf_Ha_264 k_hall rfl ?_
    refine x_ireturn d_Ha_total_68 rfl rfl ?_
    exact xDo.ret (by simp only [haTotal, sw5_4])
  · skip
    refine x_tableOut 69 d_Ha_total_1 hw rfl ?_
    refine x_iconst (v := -1) d_Ha_total_69 (by decide +kernel) ?_
    refine x_ireturn d_Ha_total_70 rfl rfl ?_
    exact xDo.ret (by simp only [haTotal, swN5 hw])
set_option maxRecDepth 100000 in
set_option maxHeartbeats 1000000 in
theorem c_Ha_fit {G : xG} {B d : Nat} {S : xS} (hG : xOkG G) {N R : Nat} {oa : Nat → Nat} {D : Nat → Nat → Int32} {rk g tn fl : Nat → Nat} (hI : haI S B N R oa D rk g tn fl) (hrm : xRm G B S) {w h : Int32} : EX G m_Ha_fit (d + 2) 0 [(0, .ref (B + 0)), (1, .int w), (2, .int h)] [] (mk G B S) (xDo G B (rI (cI (rkBest S g w h R)), S)) := by
  obtain ⟨hsl, ⟨hN, hN6⟩, ho, hinj, hrkd, ⟨hR, hR10⟩, hrk, hgi, htn, hfl, hgm, hmk, ⟨ln, hln, hly⟩⟩ := id hI
  refine x_aload_n d_Ha_fit_0 rfl ?_
  refine y_getf d_Ha_fit_1 gf_Ha_25 k_hall rfl ?_
  refine x_iload_n d_Ha_fit_4 rfl ?_
  refine x_iload_n d_Ha_fit_5 rfl ?_
  refine w_callV (As := [_, _]) d_Ha_fit_6 k_Ha_218 k_rack rfl rfl rfl (c_Rk_smallestFor hG hR hR10 hrk) ?_
  refine x_ireturn d_Ha_fit_9 rfl rfl ?_
  exact xDo.ret rfl
