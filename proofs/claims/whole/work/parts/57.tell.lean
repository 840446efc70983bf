/-! what the reference tells -/
theorem thr0 {S : xS} {v : Int32} : sF (uF S 186 0 v) 186 0 = v := by rw [sF_uF]; exact va_up_self _ _ _
def moNodesC (S : xS) (s : Nat) : Nat := if sA S 191 s = 0 then 2 else 0
def moNodes (S : xS) (x : Int32) : Int32 × xS := match moFind S x 8 with
  | none => (0, moThr S 1)
  | some s => moP (moNodesC S s) (sA S 195 s) S (moThr S 0)
def moNodeC (S : xS) (s : Nat) (i w : Int32) : Nat := if sA S 191 s = 0 then 2 else if i < 0 then 3 else if ¬ i < sA S 195 s then 3 else if w < 0 then 4 else if ¬ w ≤ nI 8 then 4 else 0
def moNodeV (S : xS) (n w : Nat) : Int32 := match w with
  | 0 => sA S 196 n
  | 1 => sA S 197 n
  | 2 => sA S 198 n
  | 3 => sA S 199 n
  | 4 => sA S 200 n
  | 5 => sA S 201 n
  | 6 => sA S 202 n
  | 7 => sA S 203 n
  | _ => sA S 204 n
def moNode (S : xS) (x i w : Int32) : Int32 × xS := match moFind S x 8 with
  | none => (0, moThr S 1)
  | some s => moP (moNodeC S s i w) (moNodeV S (160 * s + i.toNatClampNeg) w.toNatClampNeg) S (moThr S 0)
def moFlawedC (S : xS) (s : Nat) (k w : Int32) : Nat := if k < 0 then 2 else if ¬ k < sA S 193 s then 2 else if w < 0 then 3 else if ¬ w ≤ nI 3 then 3 else 0
def moFlawed (S : xS) (x k w : Int32) : Int32 × xS := match moFind S x 8 with
  | none => (0, moThr S 1)
  | some s => moP (moFlawedC S s k w) (sA S 194 (24 * s + 4 * k.toNatClampNeg + w.toNatClampNeg)) S (moThr S 0)
def moTellC (N : Nat) (k w : Int32) : Nat := if inB N k = false then 1 else if w < 0 then 2 else if ¬ w ≤ nI 2 then 2 else 0
def moRack (S : xS) (R : Nat) (k w : Int32) : Int32 × xS := moP (moTellC R k w) (if w = 0 then sA S 211 k.toNatClampNeg else if w = nI 1 then sA S 212 k.toNatClampNeg else sA S 213 k.toNatClampNeg) S (moThr S 0)
def moPanes (S : xS) (N : Nat) (k w : Int32) : Int32 × xS := moP (moTellC N k w) (if w = 0 then sA S 208 k.toNatClampNeg else if w = nI 1 then sA S 209 k.toNatClampNeg else sA S 210 k.toNatClampNeg) S (moThr S 0)
theorem moTellC_0 {N : Nat} {k w : Int32} (h : moTellC N k w = 0) : inB N k = true := by
  unfold moTellC at h
  cases e : inB N k with
  | true => rfl
  | false => rw [if_pos e] at h; omega
def moPl (S : xS) : Nat → Nat
  | 0 => 0
  | s + 1 => if ¬ sA S 187 s = 0 ∧ ¬ sA S 191 s = 0 then moPl S s + 1 else moPl S s
def moTot (S : xS) (w : Int32) : Int32 := if w = 0 then nI (moSh S 8) else if w = nI 1 then nI (moPl S 8) else if w = nI 2 then sF S 186 20 else if w = nI 3 then sF S 186 27 else if w = nI 4 then sF S 186 1 else -1
theorem moSh_thr {S : xS} {k : Nat} : ∀ n, moSh (moThr S k) n = moSh S n
  | 0 => rfl
  | n + 1 => by
    have := moSh_thr (S := S) (k := k) n
    show (if sA S 187 n = 0 then moSh (moThr S k) n else moSh (moThr S k) n + 1) = _
    rw [this]; rfl
def moLv (S : xS) (s : Nat) : Nat → Bool
  | 0 => false
  | i + 1 => moLv S s i || decide (sA S 204 (160 * s + i) = nI 1)
set_option maxRecDepth 100000 in
set_option maxHeartbeats 1000000 in
theorem c_Mo_isOffcut {G : xG} {B d : Nat} {S : xS} (hG : xOkG G) {N : Nat} (hN : sF S 186 27 = nI N) {x : Int32} : EX G m_Mo_isOffcut d 0 [(0, .ref (B + 186)), (1, .int x)] [] (mk G B S) ((xRet G B (some (.int (bI (inB N x)))) S)) := by
  refine x_iload_n d_Mo_isOffcut_0 rfl ?_
  refine x_if_lt 16 d_Mo_isOffcut_1 rfl (fun hc1 => ?_) (fun hc1 => ?_)
  · skip
    skip
    refine x_iconst (v := nI 0) d_Mo_isOffcut_16 (by decide +kernel) ?_
    refine x_ireturn d_Mo_isOffcut_17 rfl (by decide +kernel) ?_
    refine ⟨?_, rfl⟩
    unfold inB
    first
      | (rw [decide_eq_false (Int32.not_le.mpr hc1), Bool.false_and]; rfl)
      | (rw [decide_eq_true (Int32.not_lt.mp hc1), decide_eq_true (Int32.not_le.mp hc9)]; rfl)
      | (rw [decide_eq_false (p := x < nI N) (Int32.not_lt.mpr hc9), Bool.and_false]; rfl)
  · skip
    skip
    refine x_iload_n d_Mo_isOffcut_4 rfl ?_
    refine x_aload_n d_Mo_isOffcut_5 rfl ?_
    refine y_getf (v := .int (nI N)) d_Mo_isOffcut_6 gf_Mo_263 k_model (congrArg (fun q => some (Value.int q)) hN) ?_
    refine x_icmp_ge 16 d_Mo_isOffcut_9 rfl (fun hc9 => ?_) (fun hc9 => ?_)
    · skip
      skip
      refine x_iconst (v := nI 0) d_Mo_isOffcut_16 (by decide +kernel) ?_
      refine x_ireturn d_Mo_isOffcut_17 rfl (by decide +kernel) ?_
      refine ⟨?_, rfl⟩
      unfold inB
      first
        | (rw [decide_eq_false (Int32.not_le.mpr hc1), Bool.false_and]; rfl)
        | (rw [decide_eq_true (Int32.not_lt.mp hc1), decide_eq_true (Int32.not_le.mp hc9)]; rfl)
        | (rw [decide_eq_false (p := x < nI N) (Int32.not_lt.mpr hc9), Bool.and_false]; rfl)
    · skip
      skip
      refine x_iconst (v := nI 1) d_Mo_isOffcut_12 (by decide +kernel) ?_
      refine x_goto 17 d_Mo_isOffcut_13 rfl ?_
      refine x_ireturn d_Mo_isOffcut_17 rfl (by decide +kernel) ?_
      refine ⟨?_, rfl⟩
      unfold inB
      first
        | (rw [decide_eq_false (Int32.not_le.mpr hc1), Bool.false_and]; rfl)
        | (rw [decide_eq_true (Int32.not_lt.mp hc1), decide_eq_true (Int32.not_le.mp hc9)]; rfl)
        | (rw [decide_eq_false (p := x < nI N) (Int32.not_lt.mpr hc9), Bool.and_false]; rfl)
set_option maxRecDepth 100000 in
set_option maxHeartbeats 1000000 in
theorem c_Mo_nodes {G : xG} {B d : Nat} {S : xS} (hG : xOkG G) {x : Int32} : EX G m_Mo_nodes (d + 2) 0 [(0, .ref (B + 186)), (1, .int x)] [] (mk G B S) (moRet G B (moNodes S x)) := by
  refine x_aload_n d_Mo_nodes_0 rfl ?_
  refine x_iload_n d_Mo_nodes_1 rfl ?_
  rcases hf : moFind S x 8 with _ | s
  · skip
    refine w_callV (As := [_]) d_Mo_nodes_2 k_Mo_166 k_model rfl rfl rfl (c_Mo_find hG) ?_
    rw [hf, show cI none = -1 from rfl]
    refine s_istore_n (lv' := [(0, _), (1, _), (2, _)]) d_Mo_nodes_5 (by decide) rfl ?_
    refine x_aload_n d_Mo_nodes_6 rfl ?_
    refine x_iload_n d_Mo_nodes_7 rfl ?_
    refine x_if_ge 15 d_Mo_nodes_8 rfl (fun q => absurd q (by decide +kernel)) (fun hc8 => ?_)
    refine x_iconst (v := nI 1) d_Mo_nodes_11 (by decide +kernel) ?_
    refine x_goto 29 d_Mo_nodes_12 rfl ?_
    refine y_puti d_Mo_nodes_29 pf_Mo_140 k_model (xBle rfl) rfl rfl rfl ?_
    refine x_aload_n d_Mo_nodes_32 rfl ?_
    refine y_getf (v := .int (nI 1)) d_Mo_nodes_33 gf_Mo_140 k_model (congrArg (fun q => some (Value.int q)) moThr_0) ?_
    refine z_if_le 43 d_Mo_nodes_36 rfl (by omega) (fun q => absurd q (by omega)) (fun hc36 => ?_)
    refine x_iconst (v := nI 0) d_Mo_nodes_39 (by decide +kernel) ?_
    refine x_goto 49 d_Mo_nodes_40 rfl ?_
    refine x_ireturn d_Mo_nodes_49 rfl rfl ?_
    simp only [moNodes, hf]
    exact ⟨rfl, rfl⟩
  · skip
    refine w_callV (As := [_]) d_Mo_nodes_2 k_Mo_166 k_model rfl rfl rfl (c_Mo_find hG) ?_
    rw [hf, show cI (some s) = nI s from rfl]
    have hs := moFind_lt hf
    refine s_istore_n (lv' := [(0, _), (1, _), (2, _)]) d_Mo_nodes_5 (by decide) rfl ?_
    refine x_aload_n d_Mo_nodes_6 rfl ?_
    refine x_join 29 (.int (nI (moNodesC S s))) ?_ (fun J7 => ?_)
    · skip
      refine y_puti d_Mo_nodes_29 pf_Mo_140 k_model (xBle rfl) rfl rfl rfl ?_
      refine x_aload_n d_Mo_nodes_32 rfl ?_
      refine y_getf (v := .int (nI (moNodesC S s))) d_Mo_nodes_33 gf_Mo_140 k_model (congrArg (fun q => some (Value.int q)) moThr_0) ?_
      refine z_if_le 43 d_Mo_nodes_36 rfl (by unfold moNodesC; split <;> omega) (fun hc36 => ?_) (fun hc36 => ?_)
      · skip
        skip
        refine x_aload_n d_Mo_nodes_43 rfl ?_
        refine y_getf d_Mo_nodes_44 gf_Mo_35 k_model rfl ?_
        refine x_iload_n d_Mo_nodes_47 rfl ?_
        refine y_iald hG d_Mo_nodes_48 k_m_nodeCounts _ rfl (by omega) ?_
        refine x_ireturn d_Mo_nodes_49 rfl rfl ?_
        simp only [moNodes, hf]
        unfold moP
        first
          | (rw [if_pos hc36, hc36]; exact ⟨rfl, rfl⟩)
          | (rw [if_neg (Nat.pos_iff_ne_zero.mp hc36)]; exact ⟨rfl, rfl⟩)
      · skip
        skip
        refine x_iconst (v := nI 0) d_Mo_nodes_39 (by decide +kernel) ?_
        refine x_goto 49 d_Mo_nodes_40 rfl ?_
        refine x_ireturn d_Mo_nodes_49 rfl rfl ?_
        simp only [moNodes, hf]
        unfold moP
        first
          | (rw [if_pos hc36, hc36]; exact ⟨rfl, rfl⟩)
          | (rw [if_neg (Nat.pos_iff_ne_zero.mp hc36)]; exact ⟨rfl, rfl⟩)
    · skip
      refine x_iload_n d_Mo_nodes_7 rfl ?_
      refine z_if_ge 15 d_Mo_nodes_8 rfl (by omega) ?_
      refine x_aload_n d_Mo_nodes_15 rfl ?_
      refine y_getf d_Mo_nodes_16 gf_Mo_23 k_model rfl ?_
      refine x_iload_n d_Mo_nodes_19 rfl ?_
      refine y_zald hG d_Mo_nodes_20 k_m_planned _ rfl (by omega) ?_
      refine x_if_eq 28 d_Mo_nodes_21 rfl (fun hc21 => ?_) (fun hc21 => ?_)
      · skip
        skip
        refine x_iconst (v := nI 2) d_Mo_nodes_28 (by decide +kernel) ?_
        refine J7 _ ?_
        unfold moNodesC
        first
          | (rw [if_pos hc21]; done)
          | (rw [if_neg hc21]; done)
      · skip
        skip
        refine x_iconst (v := nI 0) d_Mo_nodes_24 (by decide +kernel) ?_
        refine x_goto 29 d_Mo_nodes_25 rfl ?_
        refine J7 _ ?_
        unfold moNodesC
        first
          | (rw [if_pos hc21]; done)
          | (rw [if_neg hc21]; done)
set_option maxRecDepth 100000 in
set_option maxHeartbeats 1000000 in
theorem c_Mo_node {G : xG} {B d : Nat} {S : xS} (hG : xOkG G) {x i w : Int32} (hcnt : ∀ s, s < 8 → ∃ n, n ≤ 160 ∧ sA S 195 s = nI n) : EX G m_Mo_node (d + 2) 0 [(0, .ref (B + 186)), (1, .int x), (2, .int i), (3, .int w)] [] (mk G B S) (moRet G B (moNode S x i w)) := by
  refine x_aload_n d_Mo_node_0 rfl ?_
  refine x_iload_n d_Mo_node_1 rfl ?_
  rcases hf : moFind S x 8 with _ | s
  · skip
    refine w_callV (As := [_]) d_Mo_node_2 k_Mo_166 k_model rfl rfl rfl (c_Mo_find hG) ?_
    rw [hf, show cI none = -1 from rfl]
    refine s_istore (lv' := [(0, _), (1, _), (2, _), (3, _), (4, _)]) d_Mo_node_5 (by decide) rfl ?_
    refine x_aload_n d_Mo_node_7 rfl ?_
    refine x_iload d_Mo_node_8 rfl ?_
    refine x_if_ge 17 d_Mo_node_10 rfl (fun q => absurd q (by decide +kernel)) (fun hc10 => ?_)
    refine x_iconst (v := nI 1) d_Mo_node_13 (by decide +kernel) ?_
    refine x_goto 65 d_Mo_node_14 rfl ?_
    refine y_puti d_Mo_node_65 pf_Mo_140 k_model (xBle rfl) rfl rfl rfl ?_
    refine x_aload_n d_Mo_node_68 rfl ?_
    refine y_getf (v := .int (nI 1)) d_Mo_node_69 gf_Mo_140 k_model (congrArg (fun q => some (Value.int q)) moThr_0) ?_
    refine z_if_le 77 d_Mo_node_72 rfl (by omega) (fun q => absurd q (by omega)) (fun hc72 => ?_)
    refine x_iconst (v := nI 0) d_Mo_node_75 (by decide +kernel) ?_
    refine x_ireturn d_Mo_node_76 rfl rfl ?_
    simp only [moNode, hf]
    exact ⟨rfl, rfl⟩
  · skip
    refine w_callV (As := [_]) d_Mo_node_2 k_Mo_166 k_model rfl rfl rfl (c_Mo_find hG) ?_
    rw [hf, show cI (some s) = nI s from rfl]
    have hs := moFind_lt hf
    refine s_istore (lv' := [(0, _), (1, _), (2, _), (3, _), (4, _)]) d_Mo_node_5 (by decide) rfl ?_
    refine x_aload_n d_Mo_node_7 rfl ?_
    refine x_join 65 (.int (nI (moNodeC S s i w))) ?_ (fun J8 => ?_)
    · skip
      refine y_puti d_Mo_node_65 pf_Mo_140 k_model (xBle rfl) rfl rfl rfl ?_
      refine x_aload_n d_Mo_node_68 rfl ?_
      refine y_getf (v := .int (nI (moNodeC S s i w))) d_Mo_node_69 gf_Mo_140 k_model (congrArg (fun q => some (Value.int q)) moThr_0) ?_
      refine z_if_le 77 d_Mo_node_72 rfl (by unfold moNodeC; split <;> (try split) <;> (try split) <;> (try split) <;> (try split) <;> omega) (fun hc72 => ?_) (fun hc72 => ?_)
      · skip
        skip
        have hC : moNodeC S s i w = 0 := hc72
        unfold moNodeC at hC
        have g1 : ¬ i < 0 := fun q => by rw [if_pos q] at hC; split at hC <;> omega
        have g2 : i < sA S 195 s := Classical.byContradiction fun q => by rw [if_neg g1, if_pos q] at hC; split at hC <;> omega
        have g3 : ¬ w < 0 := fun q => by rw [if_neg g1, if_neg (Classical.not_not.mpr g2), if_pos q] at hC; split at hC <;> omega
        have g4 : w ≤ nI 8 := Classical.byContradiction fun q => by rw [if_neg g1, if_neg (Classical.not_not.mpr g2), if_neg g3, if_pos q] at hC; split at hC <;> omega
        obtain ⟨q, hq, rfl⟩ := nI_of g1
        obtain ⟨nc, hnc, hnc2⟩ := hcnt s hs
        have hq2 : q < 160 := by
          rw [hnc2] at g2
          have := (nI_ltI hq (by omega)).mp g2
          omega
        rw [hc72]
        refine x_sipush (v := nI 160) d_Mo_node_77 (by decide +kernel) ?_
        refine x_iload d_Mo_node_80 rfl ?_
        refine x_imul d_Mo_node_82 ?_
        rw [nI_mul]
        refine x_iload_n d_Mo_node_83 rfl ?_
        refine x_iadd d_Mo_node_84 ?_
        rw [nI_add]
        refine s_istore (lv' := [(0, _), (1, _), (2, _), (3, _), (4, _), (5, _)]) d_Mo_node_85 (by decide) rfl ?_
        refine x_iload_n d_Mo_node_87 rfl ?_
        rcases le8 g3 g4 with hw | hw | hw | hw | hw | hw | hw | hw | hw
        · skip
          subst hw
          refine x_tableIn (off := 48) 136 d_Mo_node_88 (by decide +kernel) (by decide +kernel) (by decide +kernel) rfl ?_
          refine x_aload_n d_Mo_node_136 rfl ?_
          refine y_getf d_Mo_node_137 gf_Mo_38 k_model rfl ?_
          refine x_iload d_Mo_node_140 rfl ?_
          refine y_iald hG d_Mo_node_142 k_m_kinds _ rfl (by omega) ?_
          refine x_ireturn d_Mo_node_143 rfl rfl ?_
          simp only [moNode, hf]
          unfold moP
          rw [if_pos hc72, nI_clamp (show q < 2 ^ 31 by omega), nI_clamp (show 0 < 2 ^ 31 by decide)]
          exact ⟨rfl, rfl⟩
        · skip
          subst hw
          refine x_tableIn (off := 56) 144 d_Mo_node_88 (by decide +kernel) (by decide +kernel) (by decide +kernel) rfl ?_
          refine x_aload_n d_Mo_node_144 rfl ?_
          refine y_getf d_Mo_node_145 gf_Mo_41 k_model rfl ?_
          refine x_iload d_Mo_node_148 rfl ?_
          refine y_iald hG d_Mo_node_150 k_m_xs _ rfl (by omega) ?_
          refine x_ireturn d_Mo_node_151 rfl rfl ?_
          simp only [moNode, hf]
          unfold moP
          rw [if_pos hc72, nI_clamp (show q < 2 ^ 31 by omega), nI_clamp (show 1 < 2 ^ 31 by decide)]
          exact ⟨rfl, rfl⟩
        · skip
          subst hw
          refine x_tableIn (off := 64) 152 d_Mo_node_88 (by decide +kernel) (by decide +kernel) (by decide +kernel) rfl ?_
          refine x_aload_n d_Mo_node_152 rfl ?_
          refine y_getf d_Mo_node_153 gf_Mo_44 k_model rfl ?_
          refine x_iload d_Mo_node_156 rfl ?_
          refine y_iald hG d_Mo_node_158 k_m_ys _ rfl (by omega) ?_
          refine x_ireturn d_Mo_node_159 rfl rfl ?_
          simp only [moNode, hf]
          unfold moP
          rw [if_pos hc72, nI_clamp (show q < 2 ^ 31 by omega), nI_clamp (show 2 < 2 ^ 31 by decide)]
          exact ⟨rfl, rfl⟩
        · skip
          subst hw
          refine x_tableIn (off := 72) 160 d_Mo_node_88 (by decide +kernel) (by decide +kernel) (by decide +kernel) rfl ?_
          refine x_aload_n d_Mo_node_160 rfl ?_
          refine y_getf d_Mo_node_161 gf_Mo_47 k_model rfl ?_
          refine x_iload d_Mo_node_164 rfl ?_
          refine y_iald hG d_Mo_node_166 k_m_ws _ rfl (by omega) ?_
          refine x_ireturn d_Mo_node_167 rfl rfl ?_
          simp only [moNode, hf]
          unfold moP
          rw [if_pos hc72, nI_clamp (show q < 2 ^ 31 by omega), nI_clamp (show 3 < 2 ^ 31 by decide)]
          exact ⟨rfl, rfl⟩
        · skip
          subst hw
          refine x_tableIn (off := 80) 168 d_Mo_node_88 (by decide +kernel) (by decide +kernel) (by decide +kernel) rfl ?_
          refine x_aload_n d_Mo_node_168 rfl ?_
          refine y_getf d_Mo_node_169 gf_Mo_50 k_model rfl ?_
          refine x_iload d_Mo_node_172 rfl ?_
          refine y_iald hG d_Mo_node_174 k_m_hs _ rfl (by omega) ?_
          refine x_ireturn d_Mo_node_175 rfl rfl ?_
          simp only [moNode, hf]
          unfold moP
          rw [if_pos hc72, nI_clamp (show q < 2 ^ 31 by omega), nI_clamp (show 4 < 2 ^ 31 by decide)]
          exact ⟨rfl, rfl⟩
        · skip
          subst hw
          refine x_tableIn (off := 88) 176 d_Mo_node_88 (by decide +kernel) (by decide +kernel) (by decide +kernel) rfl ?_
          refine x_aload_n d_Mo_node_176 rfl ?_
          refine y_getf d_Mo_node_177 gf_Mo_53 k_model rfl ?_
          refine x_iload d_Mo_node_180 rfl ?_
          refine y_iald hG d_Mo_node_182 k_m_cuts _ rfl (by omega) ?_
          refine x_ireturn d_Mo_node_183 rfl rfl ?_
          simp only [moNode, hf]
          unfold moP
          rw [if_pos hc72, nI_clamp (show q < 2 ^ 31 by omega), nI_clamp (show 5 < 2 ^ 31 by decide)]
          exact ⟨rfl, rfl⟩
        · skip
          subst hw
          refine x_tableIn (off := 96) 184 d_Mo_node_88 (by decide +kernel) (by decide +kernel) (by decide +kernel) rfl ?_
          refine x_aload_n d_Mo_node_184 rfl ?_
          refine y_getf d_Mo_node_185 gf_Mo_56 k_model rfl ?_
          refine x_iload d_Mo_node_188 rfl ?_
          refine y_iald hG d_Mo_node_190 k_m_firsts _ rfl (by omega) ?_
          refine x_ireturn d_Mo_node_191 rfl rfl ?_
          simp only [moNode, hf]
          unfold moP
          rw [if_pos hc72, nI_clamp (show q < 2 ^ 31 by omega), nI_clamp (show 6 < 2 ^ 31 by decide)]
          exact ⟨rfl, rfl⟩
        · skip
          subst hw
          refine x_tableIn (off := 104) 192 d_Mo_node_88 (by decide +kernel) (by decide +kernel) (by decide +kernel) rfl ?_
          refine x_aload_n d_Mo_node_192 rfl ?_
          refine y_getf d_Mo_node_193 gf_Mo_59 k_model rfl ?_
          refine x_iload d_Mo_node_196 rfl ?_
          refine y_iald hG d_Mo_node_198 k_m_seconds _ rfl (by omega) ?_
          refine x_ireturn d_Mo_node_199 rfl rfl ?_
          simp only [moNode, hf]
          unfold moP
          rw [if_pos hc72, nI_clamp (show q < 2 ^ 31 by omega), nI_clamp (show 7 < 2 ^ 31 by decide)]
          exact ⟨rfl, rfl⟩
        · skip
          subst hw
          refine x_tableOut 200 d_Mo_node_88 (by decide +kernel) rfl ?_
          refine x_aload_n d_Mo_node_200 rfl ?_
          refine y_getf d_Mo_node_201 gf_Mo_62 k_model rfl ?_
          refine x_iload d_Mo_node_204 rfl ?_
          refine y_iald hG d_Mo_node_206 k_m_states _ rfl (by omega) ?_
          refine x_ireturn d_Mo_node_207 rfl rfl ?_
          simp only [moNode, hf]
          unfold moP
          rw [if_pos hc72, nI_clamp (show q < 2 ^ 31 by omega), nI_clamp (show 8 < 2 ^ 31 by decide)]
          exact ⟨rfl, rfl⟩
      · skip
        skip
        refine x_iconst (v := nI 0) d_Mo_node_75 (by decide +kernel) ?_
        refine x_ireturn d_Mo_node_76 rfl rfl ?_
        simp only [moNode, hf]
        unfold moP
        rw [if_neg (Nat.pos_iff_ne_zero.mp hc72)]
        exact ⟨rfl, rfl⟩
    · skip
      refine x_iload d_Mo_node_8 rfl ?_
      refine z_if_ge 17 d_Mo_node_10 rfl (by omega) ?_
      refine x_aload_n d_Mo_node_17 rfl ?_
      refine y_getf d_Mo_node_18 gf_Mo_23 k_model rfl ?_
      refine x_iload d_Mo_node_21 rfl ?_
      refine y_zald hG d_Mo_node_23 k_m_planned _ rfl (by omega) ?_
      refine x_if_ne 31 d_Mo_node_24 rfl (fun hc24 => ?_) (fun hc24 => ?_)
      · skip
        skip
        refine x_iload_n d_Mo_node_31 rfl ?_
        refine x_if_lt 46 d_Mo_node_32 rfl (fun hc32 => ?_) (fun hc32 => ?_)
        · skip
          skip
          refine x_iconst (v := nI 3) d_Mo_node_46 (by decide +kernel) ?_
          refine x_goto 65 d_Mo_node_47 rfl ?_
          refine J8 _ ?_
          unfold moNodeC
          first
            | (rw [if_pos hc24]; done)
            | (rw [if_neg hc24, if_pos hc32]; done)
            | (rw [if_neg hc24, if_neg hc32, if_pos hc43]; done)
            | (rw [if_neg hc24, if_neg hc32, if_neg (Classical.not_not.mpr hc43), if_pos hc51]; done)
            | (rw [if_neg hc24, if_neg hc32, if_neg (Classical.not_not.mpr hc43), if_neg hc51, if_pos hc57]; done)
            | (rw [if_neg hc24, if_neg hc32, if_neg (Classical.not_not.mpr hc43), if_neg hc51, if_neg (Classical.not_not.mpr hc57)]; done)
        · skip
          skip
          refine x_iload_n d_Mo_node_35 rfl ?_
          refine x_aload_n d_Mo_node_36 rfl ?_
          refine y_getf d_Mo_node_37 gf_Mo_35 k_model rfl ?_
          refine x_iload d_Mo_node_40 rfl ?_
          refine y_iald hG d_Mo_node_42 k_m_nodeCounts _ rfl (by omega) ?_
          refine x_icmp_lt 50 d_Mo_node_43 rfl (fun hc43 => ?_) (fun hc43 => ?_)
          · skip
            skip
            refine x_iload_n d_Mo_node_50 rfl ?_
            refine x_if_lt 60 d_Mo_node_51 rfl (fun hc51 => ?_) (fun hc51 => ?_)
            · skip
              skip
              refine x_iconst (v := nI 4) d_Mo_node_60 (by decide +kernel) ?_
              refine x_goto 65 d_Mo_node_61 rfl ?_
              refine J8 _ ?_
              unfold moNodeC
              first
                | (rw [if_pos hc24]; done)
                | (rw [if_neg hc24, if_pos hc32]; done)
                | (rw [if_neg hc24, if_neg hc32, if_pos hc43]; done)
                | (rw [if_neg hc24, if_neg hc32, if_neg (Classical.not_not.mpr hc43), if_pos hc51]; done)
                | (rw [if_neg hc24, if_neg hc32, if_neg (Classical.not_not.mpr hc43), if_neg hc51, if_pos hc57]; done)
                | (rw [if_neg hc24, if_neg hc32, if_neg (Classical.not_not.mpr hc43), if_neg hc51, if_neg (Classical.not_not.mpr hc57)]; done)
            · skip
              skip
              refine x_iload_n d_Mo_node_54 rfl ?_
              refine x_bipush (v := nI 8) d_Mo_node_55 (by decide +kernel) ?_
              refine x_icmp_le 64 d_Mo_node_57 rfl (fun hc57 => ?_) (fun hc57 => ?_)
              · skip
                skip
                refine x_iconst (v := nI 0) d_Mo_node_64 (by decide +kernel) ?_
                refine J8 _ ?_
                unfold moNodeC
                first
                  | (rw [if_pos hc24]; done)
                  | (rw [if_neg hc24, if_pos hc32]; done)
                  | (rw [if_neg hc24, if_neg hc32, if_pos hc43]; done)
                  | (rw [if_neg hc24, if_neg hc32, if_neg (Classical.not_not.mpr hc43), if_pos hc51]; done)
                  | (rw [if_neg hc24, if_neg hc32, if_neg (Classical.not_not.mpr hc43), if_neg hc51, if_pos hc57]; done)
                  | (rw [if_neg hc24, if_neg hc32, if_neg (Classical.not_not.mpr hc43), if_neg hc51, if_neg (Classical.not_not.mpr hc57)]; done)
              · skip
                skip
                refine x_iconst (v := nI 4) d_Mo_node_60 (by decide +kernel) ?_
                refine x_goto 65 d_Mo_node_61 rfl ?_
                refine J8 _ ?_
                unfold moNodeC
                first
                  | (rw [if_pos hc24]; done)
                  | (rw [if_neg hc24, if_pos hc32]; done)
                  | (rw [if_neg hc24, if_neg hc32, if_pos hc43]; done)
                  | (rw [if_neg hc24, if_neg hc32, if_neg (Classical.not_not.mpr hc43), if_pos hc51]; done)
                  | (rw [if_neg hc24, if_neg hc32, if_neg (Classical.not_not.mpr hc43), if_neg hc51, if_pos hc57]; done)
                  | (rw [if_neg hc24, if_neg hc32, if_neg (Classical.not_not.mpr hc43), if_neg hc51, if_neg (Classical.not_not.mpr hc57)]; done)
          · skip
            skip
            refine x_iconst (v := nI 3) d_Mo_node_46 (by decide +kernel) ?_
            refine x_goto 65 d_Mo_node_47 rfl ?_
            refine J8 _ ?_
            unfold moNodeC
            first
              | (rw [if_pos hc24]; done)
              | (rw [if_neg hc24, if_pos hc32]; done)
              | (rw [if_neg hc24, if_neg hc32, if_pos hc43]; done)
              | (rw [if_neg hc24, if_neg hc32, if_neg (Classical.not_not.mpr hc43), if_pos hc51]; done)
              | (rw [if_neg hc24, if_neg hc32, if_neg (Classical.not_not.mpr hc43), if_neg hc51, if_pos hc57]; done)
              | (rw [if_neg hc24, if_neg hc32, if_neg (Classical.not_not.mpr hc43), if_neg hc51, if_neg (Classical.not_not.mpr hc57)]; done)
      · skip
        skip
        refine x_iconst (v := nI 2) d_Mo_node_27 (by decide +kernel) ?_
        refine x_goto 65 d_Mo_node_28 rfl ?_
        refine J8 _ ?_
        unfold moNodeC
        first
          | (rw [if_pos hc24]; done)
          | (rw [if_neg hc24, if_pos hc32]; done)
          | (rw [if_neg hc24, if_neg hc32, if_pos hc43]; done)
          | (rw [if_neg hc24, if_neg hc32, if_neg (Classical.not_not.mpr hc43), if_pos hc51]; done)
          | (rw [if_neg hc24, if_neg hc32, if_neg (Classical.not_not.mpr hc43), if_neg hc51, if_pos hc57]; done)
          | (rw [if_neg hc24, if_neg hc32, if_neg (Classical.not_not.mpr hc43), if_neg hc51, if_neg (Classical.not_not.mpr hc57)]; done)
set_option maxRecDepth 100000 in
set_option maxHeartbeats 1000000 in
theorem c_Mo_flawed {G : xG} {B d : Nat} {S : xS} (hG : xOkG G) {x k w : Int32} (hfc : ∀ s, s < 8 → ∃ n, n ≤ 6 ∧ sA S 193 s = nI n) : EX G m_Mo_flawed (d + 2) 0 [(0, .ref (B + 186)), (1, .int x), (2, .int k), (3, .int w)] [] (mk G B S) (moRet G B (moFlawed S x k w)) := by
  refine x_aload_n d_Mo_flawed_0 rfl ?_
  refine x_iload_n d_Mo_flawed_1 rfl ?_
  rcases hf : moFind S x 8 with _ | s
  · skip
    refine w_callV (As := [_]) d_Mo_flawed_2 k_Mo_166 k_model rfl rfl rfl (c_Mo_find hG) ?_
    rw [hf, show cI none = -1 from rfl]
    refine s_istore (lv' := [(0, _), (1, _), (2, _), (3, _), (4, _)]) d_Mo_flawed_5 (by decide) rfl ?_
    refine x_aload_n d_Mo_flawed_7 rfl ?_
    refine x_iload d_Mo_flawed_8 rfl ?_
    refine x_if_ge 17 d_Mo_flawed_10 rfl (fun q => absurd q (by decide +kernel)) (fun hc10 => ?_)
    refine x_iconst (v := nI 1) d_Mo_flawed_13 (by decide +kernel) ?_
    refine x_goto 50 d_Mo_flawed_14 rfl ?_
    refine y_puti d_Mo_flawed_50 pf_Mo_140 k_model (xBle rfl) rfl rfl rfl ?_
    refine x_aload_n d_Mo_flawed_53 rfl ?_
    refine y_getf (v := .int (nI 1)) d_Mo_flawed_54 gf_Mo_140 k_model (congrArg (fun q => some (Value.int q)) moThr_0) ?_
    refine z_if_le 64 d_Mo_flawed_57 rfl (by omega) (fun q => absurd q (by omega)) (fun hc57 => ?_)
    refine x_iconst (v := nI 0) d_Mo_flawed_60 (by decide +kernel) ?_
    refine x_goto 80 d_Mo_flawed_61 rfl ?_
    refine x_ireturn d_Mo_flawed_80 rfl rfl ?_
    simp only [moFlawed, hf]
    exact ⟨rfl, rfl⟩
  · skip
    refine w_callV (As := [_]) d_Mo_flawed_2 k_Mo_166 k_model rfl rfl rfl (c_Mo_find hG) ?_
    rw [hf, show cI (some s) = nI s from rfl]
    have hs := moFind_lt hf
    refine s_istore (lv' := [(0, _), (1, _), (2, _), (3, _), (4, _)]) d_Mo_flawed_5 (by decide) rfl ?_
    refine x_aload_n d_Mo_flawed_7 rfl ?_
    refine x_join 50 (.int (nI (moFlawedC S s k w))) ?_ (fun J8 => ?_)
    · skip
      refine y_puti d_Mo_flawed_50 pf_Mo_140 k_model (xBle rfl) rfl rfl rfl ?_
      refine x_aload_n d_Mo_flawed_53 rfl ?_
      refine y_getf (v := .int (nI (moFlawedC S s k w))) d_Mo_flawed_54 gf_Mo_140 k_model (congrArg (fun q => some (Value.int q)) moThr_0) ?_
      refine z_if_le 64 d_Mo_flawed_57 rfl (by unfold moFlawedC; split <;> (try split) <;> (try split) <;> (try split) <;> omega) (fun hc57 => ?_) (fun hc57 => ?_)
      · skip
        skip
        have hC : moFlawedC S s k w = 0 := hc57
        unfold moFlawedC at hC
        have g1 : ¬ k < 0 := fun q => by rw [if_pos q] at hC; omega
        have g2 : k < sA S 193 s := Classical.byContradiction fun q => by rw [if_neg g1, if_pos q] at hC; omega
        have g3 : ¬ w < 0 := fun q => by rw [if_neg g1, if_neg (Classical.not_not.mpr g2), if_pos q] at hC; omega
        have g4 : w ≤ nI 3 := Classical.byContradiction fun q => by rw [if_neg g1, if_neg (Classical.not_not.mpr g2), if_neg g3, if_pos q] at hC; omega
        obtain ⟨q, hq, rfl⟩ := nI_of g1
        obtain ⟨v, hv, rfl⟩ := nI_of g3
        have hv3 := (nI_leI hv (by decide)).mp g4
        obtain ⟨nc, hnc, hnc2⟩ := hfc s hs
        have hq2 : q < 6 := by
          rw [hnc2] at g2
          have := (nI_ltI hq (by omega)).mp g2
          omega
        rw [hc57]
        refine x_aload_n d_Mo_flawed_64 rfl ?_
        refine y_getf d_Mo_flawed_65 gf_Mo_32 k_model rfl ?_
        refine x_bipush (v := nI 24) d_Mo_flawed_68 (by decide +kernel) ?_
        refine x_iload d_Mo_flawed_70 rfl ?_
        refine x_imul d_Mo_flawed_72 ?_
        rw [nI_mul]
        refine x_iconst (v := nI 4) d_Mo_flawed_73 (by decide +kernel) ?_
        refine x_iload_n d_Mo_flawed_74 rfl ?_
        refine x_imul d_Mo_flawed_75 ?_
        rw [nI_mul]
        refine x_iadd d_Mo_flawed_76 ?_
        rw [nI_add]
        refine x_iload_n d_Mo_flawed_77 rfl ?_
        refine x_iadd d_Mo_flawed_78 ?_
        rw [nI_add]
        refine y_iald hG d_Mo_flawed_79 k_m_flaws _ rfl (by omega) ?_
        refine x_ireturn d_Mo_flawed_80 rfl rfl ?_
        simp only [moFlawed, hf]
        unfold moP
        first
          | (rw [if_neg (Nat.pos_iff_ne_zero.mp hc57)]; exact ⟨rfl, rfl⟩)
          | (rw [if_pos hc57, nI_clamp (show q < 2 ^ 31 by omega), nI_clamp (show v < 2 ^ 31 by omega)]; exact ⟨rfl, rfl⟩)
      · skip
        skip
        refine x_iconst (v := nI 0) d_Mo_flawed_60 (by decide +kernel) ?_
        refine x_goto 80 d_Mo_flawed_61 rfl ?_
        refine x_ireturn d_Mo_flawed_80 rfl rfl ?_
        simp only [moFlawed, hf]
        unfold moP
        first
          | (rw [if_neg (Nat.pos_iff_ne_zero.mp hc57)]; exact ⟨rfl, rfl⟩)
          | (rw [if_pos hc57, nI_clamp (show q < 2 ^ 31 by omega), nI_clamp (show v < 2 ^ 31 by omega)]; exact ⟨rfl, rfl⟩)
    · skip
      refine x_iload d_Mo_flawed_8 rfl ?_
      refine z_if_ge 17 d_Mo_flawed_10 rfl (by omega) ?_
      refine x_iload_n d_Mo_flawed_17 rfl ?_
      refine x_if_lt 32 d_Mo_flawed_18 rfl (fun hc18 => ?_) (fun hc18 => ?_)
      · skip
        skip
        refine x_iconst (v := nI 2) d_Mo_flawed_32 (by decide +kernel) ?_
        refine x_goto 50 d_Mo_flawed_33 rfl ?_
        refine J8 _ ?_
        unfold moFlawedC
        first
          | (rw [if_pos hc18]; done)
          | (rw [if_neg hc18, if_pos hc29]; done)
          | (rw [if_neg hc18, if_neg (Classical.not_not.mpr hc29), if_pos hc37]; done)
          | (rw [if_neg hc18, if_neg (Classical.not_not.mpr hc29), if_neg hc37, if_pos hc42]; done)
          | (rw [if_neg hc18, if_neg (Classical.not_not.mpr hc29), if_neg hc37, if_neg (Classical.not_not.mpr hc42)]; done)
      · skip
        skip
        refine x_iload_n d_Mo_flawed_21 rfl ?_
        refine x_aload_n d_Mo_flawed_22 rfl ?_
        refine y_getf d_Mo_flawed_23 gf_Mo_29 k_model rfl ?_
        refine x_iload d_Mo_flawed_26 rfl ?_
        refine y_iald hG d_Mo_flawed_28 k_m_flawCounts _ rfl (by omega) ?_
        refine x_icmp_lt 36 d_Mo_flawed_29 rfl (fun hc29 => ?_) (fun hc29 => ?_)
        · skip
          skip
          refine x_iload_n d_Mo_flawed_36 rfl ?_
          refine x_if_lt 45 d_Mo_flawed_37 rfl (fun hc37 => ?_) (fun hc37 => ?_)
          · skip
            skip
            refine x_iconst (v := nI 3) d_Mo_flawed_45 (by decide +kernel) ?_
            refine x_goto 50 d_Mo_flawed_46 rfl ?_
            refine J8 _ ?_
            unfold moFlawedC
            first
              | (rw [if_pos hc18]; done)
              | (rw [if_neg hc18, if_pos hc29]; done)
              | (rw [if_neg hc18, if_neg (Classical.not_not.mpr hc29), if_pos hc37]; done)
              | (rw [if_neg hc18, if_neg (Classical.not_not.mpr hc29), if_neg hc37, if_pos hc42]; done)
              | (rw [if_neg hc18, if_neg (Classical.not_not.mpr hc29), if_neg hc37, if_neg (Classical.not_not.mpr hc42)]; done)
          · skip
            skip
            refine x_iload_n d_Mo_flawed_40 rfl ?_
            refine x_iconst (v := nI 3) d_Mo_flawed_41 (by decide +kernel) ?_
            refine x_icmp_le 49 d_Mo_flawed_42 rfl (fun hc42 => ?_) (fun hc42 => ?_)
            · skip
              skip
              refine x_iconst (v := nI 0) d_Mo_flawed_49 (by decide +kernel) ?_
              refine J8 _ ?_
              unfold moFlawedC
              first
                | (rw [if_pos hc18]; done)
                | (rw [if_neg hc18, if_pos hc29]; done)
                | (rw [if_neg hc18, if_neg (Classical.not_not.mpr hc29), if_pos hc37]; done)
                | (rw [if_neg hc18, if_neg (Classical.not_not.mpr hc29), if_neg hc37, if_pos hc42]; done)
                | (rw [if_neg hc18, if_neg (Classical.not_not.mpr hc29), if_neg hc37, if_neg (Classical.not_not.mpr hc42)]; done)
            · skip
              skip
              refine x_iconst (v := nI 3) d_Mo_flawed_45 (by decide +kernel) ?_
              refine x_goto 50 d_Mo_flawed_46 rfl ?_
              refine J8 _ ?_
              unfold moFlawedC
              first
                | (rw [if_pos hc18]; done)
                | (rw [if_neg hc18, if_pos hc29]; done)
                | (rw [if_neg hc18, if_neg (Classical.not_not.mpr hc29), if_pos hc37]; done)
                | (rw [if_neg hc18, if_neg (Classical.not_not.mpr hc29), if_neg hc37, if_pos hc42]; done)
                | (rw [if_neg hc18, if_neg (Classical.not_not.mpr hc29), if_neg hc37, if_neg (Classical.not_not.mpr hc42)]; done)
        · skip
          skip
          refine x_iconst (v := nI 2) d_Mo_flawed_32 (by decide +kernel) ?_
          refine x_goto 50 d_Mo_flawed_33 rfl ?_
          refine J8 _ ?_
          unfold moFlawedC
          first
            | (rw [if_pos hc18]; done)
            | (rw [if_neg hc18, if_pos hc29]; done)
            | (rw [if_neg hc18, if_neg (Classical.not_not.mpr hc29), if_pos hc37]; done)
            | (rw [if_neg hc18, if_neg (Classical.not_not.mpr hc29), if_neg hc37, if_pos hc42]; done)
            | (rw [if_neg hc18, if_neg (Classical.not_not.mpr hc29), if_neg hc37, if_neg (Classical.not_not.mpr hc42)]; done)
set_option maxRecDepth 100000 in
set_option maxHeartbeats 1000000 in
theorem c_Mo_rack {G : xG} {B d : Nat} {S : xS} (hG : xOkG G) {N : Nat} (hN : sF S 186 27 = nI N) (hNb : N ≤ 10) {k w : Int32} : EX G m_Mo_rack (d + 1) 0 [(0, .ref (B + 186)), (1, .int k), (2, .int w)] [] (mk G B S) (moRet G B (moRack S N k w)) := by
  refine x_aload_n d_Mo_rack_0 rfl ?_
  refine x_join 27 (.int (nI (moTellC N k w))) ?_ (fun J1 => ?_)
  · skip
    refine y_puti d_Mo_rack_27 pf_Mo_140 k_model (xBle rfl) rfl rfl rfl ?_
    refine x_aload_n d_Mo_rack_30 rfl ?_
    refine y_getf (v := .int (nI (moTellC N k w))) d_Mo_rack_31 gf_Mo_140 k_model (congrArg (fun q => some (Value.int q)) moThr_0) ?_
    refine z_if_le 39 d_Mo_rack_34 rfl (by unfold moTellC; split <;> (try split) <;> (try split) <;> omega) (fun hc34 => ?_) (fun hc34 => ?_)
    · skip
      skip
      have hk : inB N k = true := moTellC_0 hc34
      rcases inB_cases (N := N) (by omega) k with ⟨q, hq, rfl, -⟩ | hz
      case inr => rw [hk] at hz; cases hz
      rw [hc34]
      refine x_iload_n d_Mo_rack_39 rfl ?_
      refine x_if_ne 52 d_Mo_rack_40 rfl (fun hc40 => ?_) (fun hc40 => ?_)
      · skip
        skip
        refine x_iload_n d_Mo_rack_52 rfl ?_
        refine x_iconst (v := nI 1) d_Mo_rack_53 (by decide +kernel) ?_
        refine x_icmp_ne 66 d_Mo_rack_54 rfl (fun hc54 => ?_) (fun hc54 => ?_)
        · skip
          skip
          refine x_aload_n d_Mo_rack_66 rfl ?_
          refine y_getf d_Mo_rack_67 gf_Mo_89 k_model rfl ?_
          refine x_iload_n d_Mo_rack_70 rfl ?_
          refine y_iald hG d_Mo_rack_71 k_m_offFlawCounts _ rfl (by omega) ?_
          refine x_ireturn d_Mo_rack_72 rfl rfl ?_
          unfold moRack moP
          rw [if_pos hc34, nI_clamp (show q < 2 ^ 31 by omega)]
          first
            | (rw [if_pos hc40]; exact ⟨rfl, rfl⟩)
            | (rw [if_neg hc40, if_pos hc54]; exact ⟨rfl, rfl⟩)
            | (rw [if_neg hc40, if_neg hc54]; exact ⟨rfl, rfl⟩)
        · skip
          skip
          refine x_aload_n d_Mo_rack_57 rfl ?_
          refine y_getf d_Mo_rack_58 gf_Mo_86 k_model rfl ?_
          refine x_iload_n d_Mo_rack_61 rfl ?_
          refine y_iald hG d_Mo_rack_62 k_m_offH _ rfl (by omega) ?_
          refine x_goto 72 d_Mo_rack_63 rfl ?_
          refine x_ireturn d_Mo_rack_72 rfl rfl ?_
          unfold moRack moP
          rw [if_pos hc34, nI_clamp (show q < 2 ^ 31 by omega)]
          first
            | (rw [if_pos hc40]; exact ⟨rfl, rfl⟩)
            | (rw [if_neg hc40, if_pos hc54]; exact ⟨rfl, rfl⟩)
            | (rw [if_neg hc40, if_neg hc54]; exact ⟨rfl, rfl⟩)
      · skip
        skip
        refine x_aload_n d_Mo_rack_43 rfl ?_
        refine y_getf d_Mo_rack_44 gf_Mo_83 k_model rfl ?_
        refine x_iload_n d_Mo_rack_47 rfl ?_
        refine y_iald hG d_Mo_rack_48 k_m_offW _ rfl (by omega) ?_
        refine x_goto 72 d_Mo_rack_49 rfl ?_
        refine x_ireturn d_Mo_rack_72 rfl rfl ?_
        unfold moRack moP
        rw [if_pos hc34, nI_clamp (show q < 2 ^ 31 by omega)]
        first
          | (rw [if_pos hc40]; exact ⟨rfl, rfl⟩)
          | (rw [if_neg hc40, if_pos hc54]; exact ⟨rfl, rfl⟩)
          | (rw [if_neg hc40, if_neg hc54]; exact ⟨rfl, rfl⟩)
    · skip
      skip
      refine x_iconst (v := nI 0) d_Mo_rack_37 (by decide +kernel) ?_
      refine x_ireturn d_Mo_rack_38 rfl rfl ?_
      unfold moRack moP
      rw [if_neg (Nat.pos_iff_ne_zero.mp hc34)]
      exact ⟨rfl, rfl⟩
  · skip
    refine x_aload_n d_Mo_rack_1 rfl ?_
    refine x_iload_n d_Mo_rack_2 rfl ?_
    refine w_callV (As := [_]) d_Mo_rack_3 k_Mo_285 k_model rfl rfl rfl (c_Mo_isOffcut hG hN) ?_
    refine z_bif_ne 13 d_Mo_rack_6 rfl (fun hc6 => ?_) (fun hc6 => ?_)
    · skip
      skip
      refine x_iload_n d_Mo_rack_13 rfl ?_
      refine x_if_lt 22 d_Mo_rack_14 rfl (fun hc14 => ?_) (fun hc14 => ?_)
      · skip
        skip
        refine x_iconst (v := nI 2) d_Mo_rack_22 (by decide +kernel) ?_
        refine x_goto 27 d_Mo_rack_23 rfl ?_
        refine J1 _ ?_
        unfold moTellC
        first
          | (rw [if_pos hc6]; done)
          | (rw [if_neg (fun e => Bool.noConfusion (hc6.symm.trans e)), if_pos hc14]; done)
          | (rw [if_neg (fun e => Bool.noConfusion (hc6.symm.trans e)), if_neg hc14, if_pos hc19]; done)
          | (rw [if_neg (fun e => Bool.noConfusion (hc6.symm.trans e)), if_neg hc14, if_neg (Classical.not_not.mpr hc19)]; done)
      · skip
        skip
        refine x_iload_n d_Mo_rack_17 rfl ?_
        refine x_iconst (v := nI 2) d_Mo_rack_18 (by decide +kernel) ?_
        refine x_icmp_le 26 d_Mo_rack_19 rfl (fun hc19 => ?_) (fun hc19 => ?_)
        · skip
          skip
          refine x_iconst (v := nI 0) d_Mo_rack_26 (by decide +kernel) ?_
          refine J1 _ ?_
          unfold moTellC
          first
            | (rw [if_pos hc6]; done)
            | (rw [if_neg (fun e => Bool.noConfusion (hc6.symm.trans e)), if_pos hc14]; done)
            | (rw [if_neg (fun e => Bool.noConfusion (hc6.symm.trans e)), if_neg hc14, if_pos hc19]; done)
            | (rw [if_neg (fun e => Bool.noConfusion (hc6.symm.trans e)), if_neg hc14, if_neg (Classical.not_not.mpr hc19)]; done)
        · skip
          skip
          refine x_iconst (v := nI 2) d_Mo_rack_22 (by decide +kernel) ?_
          refine x_goto 27 d_Mo_rack_23 rfl ?_
          refine J1 _ ?_
          unfold moTellC
          first
            | (rw [if_pos hc6]; done)
            | (rw [if_neg (fun e => Bool.noConfusion (hc6.symm.trans e)), if_pos hc14]; done)
            | (rw [if_neg (fun e => Bool.noConfusion (hc6.symm.trans e)), if_neg hc14, if_pos hc19]; done)
            | (rw [if_neg (fun e => Bool.noConfusion (hc6.symm.trans e)), if_neg hc14, if_neg (Classical.not_not.mpr hc19)]; done)
    · skip
      skip
      refine x_iconst (v := nI 1) d_Mo_rack_9 (by decide +kernel) ?_
      refine x_goto 27 d_Mo_rack_10 rfl ?_
      refine J1 _ ?_
      unfold moTellC
      first
        | (rw [if_pos hc6]; done)
        | (rw [if_neg (fun e => Bool.noConfusion (hc6.symm.trans e)), if_pos hc14]; done)
        | (rw [if_neg (fun e => Bool.noConfusion (hc6.symm.trans e)), if_neg hc14, if_pos hc19]; done)
        | (rw [if_neg (fun e => Bool.noConfusion (hc6.symm.trans e)), if_neg hc14, if_neg (Classical.not_not.mpr hc19)]; done)
set_option maxRecDepth 100000 in
set_option maxHeartbeats 1000000 in
theorem c_Mo_panes {G : xG} {B d : Nat} {S : xS} (hG : xOkG G) {N : Nat} (hN : sF S 186 20 = nI N) (hNb : N ≤ 6) {k w : Int32} : EX G m_Mo_panes (d + 1) 0 [(0, .ref (B + 186)), (1, .int k), (2, .int w)] [] (mk G B S) (moRet G B (moPanes S N k w)) := by
  refine x_aload_n d_Mo_panes_0 rfl ?_
  refine x_join 27 (.int (nI (moTellC N k w))) ?_ (fun J1 => ?_)
  · skip
    refine y_puti d_Mo_panes_27 pf_Mo_140 k_model (xBle rfl) rfl rfl rfl ?_
    refine x_aload_n d_Mo_panes_30 rfl ?_
    refine y_getf (v := .int (nI (moTellC N k w))) d_Mo_panes_31 gf_Mo_140 k_model (congrArg (fun q => some (Value.int q)) moThr_0) ?_
    refine z_if_le 39 d_Mo_panes_34 rfl (by unfold moTellC; split <;> (try split) <;> (try split) <;> omega) (fun hc34 => ?_) (fun hc34 => ?_)
    · skip
      skip
      have hk : inB N k = true := moTellC_0 hc34
      rcases inB_cases (N := N) (by omega) k with ⟨q, hq, rfl, -⟩ | hz
      case inr => rw [hk] at hz; cases hz
      rw [hc34]
      refine x_iload_n d_Mo_panes_39 rfl ?_
      refine x_if_ne 52 d_Mo_panes_40 rfl (fun hc40 => ?_) (fun hc40 => ?_)
      · skip
        skip
        refine x_iload_n d_Mo_panes_52 rfl ?_
        refine x_iconst (v := nI 1) d_Mo_panes_53 (by decide +kernel) ?_
        refine x_icmp_ne 66 d_Mo_panes_54 rfl (fun hc54 => ?_) (fun hc54 => ?_)
        · skip
          skip
          refine x_aload_n d_Mo_panes_66 rfl ?_
          refine y_getf d_Mo_panes_67 gf_Mo_80 k_model rfl ?_
          refine x_iload_n d_Mo_panes_70 rfl ?_
          refine y_iald hG d_Mo_panes_71 k_m_done _ rfl (by omega) ?_
          refine x_ireturn d_Mo_panes_72 rfl rfl ?_
          unfold moPanes moP
          rw [if_pos hc34, nI_clamp (show q < 2 ^ 31 by omega)]
          first
            | (rw [if_pos hc40]; exact ⟨rfl, rfl⟩)
            | (rw [if_neg hc40, if_pos hc54]; exact ⟨rfl, rfl⟩)
            | (rw [if_neg hc40, if_neg hc54]; exact ⟨rfl, rfl⟩)
        · skip
          skip
          refine x_aload_n d_Mo_panes_57 rfl ?_
          refine y_getf d_Mo_panes_58 gf_Mo_77 k_model rfl ?_
          refine x_iload_n d_Mo_panes_61 rfl ?_
          refine y_iald hG d_Mo_panes_62 k_m_coming _ rfl (by omega) ?_
          refine x_goto 72 d_Mo_panes_63 rfl ?_
          refine x_ireturn d_Mo_panes_72 rfl rfl ?_
          unfold moPanes moP
          rw [if_pos hc34, nI_clamp (show q < 2 ^ 31 by omega)]
          first
            | (rw [if_pos hc40]; exact ⟨rfl, rfl⟩)
            | (rw [if_neg hc40, if_pos hc54]; exact ⟨rfl, rfl⟩)
            | (rw [if_neg hc40, if_neg hc54]; exact ⟨rfl, rfl⟩)
      · skip
        skip
        refine x_aload_n d_Mo_panes_43 rfl ?_
        refine y_getf d_Mo_panes_44 gf_Mo_74 k_model rfl ?_
        refine x_iload_n d_Mo_panes_47 rfl ?_
        refine y_iald hG d_Mo_panes_48 k_m_open _ rfl (by omega) ?_
        refine x_goto 72 d_Mo_panes_49 rfl ?_
        refine x_ireturn d_Mo_panes_72 rfl rfl ?_
        unfold moPanes moP
        rw [if_pos hc34, nI_clamp (show q < 2 ^ 31 by omega)]
        first
          | (rw [if_pos hc40]; exact ⟨rfl, rfl⟩)
          | (rw [if_neg hc40, if_pos hc54]; exact ⟨rfl, rfl⟩)
          | (rw [if_neg hc40, if_neg hc54]; exact ⟨rfl, rfl⟩)
    · skip
      skip
      refine x_iconst (v := nI 0) d_Mo_panes_37 (by decide +kernel) ?_
      refine x_ireturn d_Mo_panes_38 rfl rfl ?_
      unfold moPanes moP
      rw [if_neg (Nat.pos_iff_ne_zero.mp hc34)]
      exact ⟨rfl, rfl⟩
  · skip
    refine x_aload_n d_Mo_panes_1 rfl ?_
    refine x_iload_n d_Mo_panes_2 rfl ?_
    refine w_callV (As := [_]) d_Mo_panes_3 k_Mo_253 k_model rfl rfl rfl (c_Mo_isOrder hG hN hNb) ?_
    refine z_bif_ne 13 d_Mo_panes_6 rfl (fun hc6 => ?_) (fun hc6 => ?_)
    · skip
      skip
      refine x_iload_n d_Mo_panes_13 rfl ?_
      refine x_if_lt 22 d_Mo_panes_14 rfl (fun hc14 => ?_) (fun hc14 => ?_)
      · skip
        skip
        refine x_iconst (v := nI 2) d_Mo_panes_22 (by decide +kernel) ?_
        refine x_goto 27 d_Mo_panes_23 rfl ?_
        refine J1 _ ?_
        unfold moTellC
        first
          | (rw [if_pos hc6]; done)
          | (rw [if_neg (fun e => Bool.noConfusion (hc6.symm.trans e)), if_pos hc14]; done)
          | (rw [if_neg (fun e => Bool.noConfusion (hc6.symm.trans e)), if_neg hc14, if_pos hc19]; done)
          | (rw [if_neg (fun e => Bool.noConfusion (hc6.symm.trans e)), if_neg hc14, if_neg (Classical.not_not.mpr hc19)]; done)
      · skip
        skip
        refine x_iload_n d_Mo_panes_17 rfl ?_
        refine x_iconst (v := nI 2) d_Mo_panes_18 (by decide +kernel) ?_
        refine x_icmp_le 26 d_Mo_panes_19 rfl (fun hc19 => ?_) (fun hc19 => ?_)
        · skip
          skip
          refine x_iconst (v := nI 0) d_Mo_panes_26 (by decide +kernel) ?_
          refine J1 _ ?_
          unfold moTellC
          first
            | (rw [if_pos hc6]; done)
            | (rw [if_neg (fun e => Bool.noConfusion (hc6.symm.trans e)), if_pos hc14]; done)
            | (rw [if_neg (fun e => Bool.noConfusion (hc6.symm.trans e)), if_neg hc14, if_pos hc19]; done)
            | (rw [if_neg (fun e => Bool.noConfusion (hc6.symm.trans e)), if_neg hc14, if_neg (Classical.not_not.mpr hc19)]; done)
        · skip
          skip
          refine x_iconst (v := nI 2) d_Mo_panes_22 (by decide +kernel) ?_
          refine x_goto 27 d_Mo_panes_23 rfl ?_
          refine J1 _ ?_
          unfold moTellC
          first
            | (rw [if_pos hc6]; done)
            | (rw [if_neg (fun e => Bool.noConfusion (hc6.symm.trans e)), if_pos hc14]; done)
            | (rw [if_neg (fun e => Bool.noConfusion (hc6.symm.trans e)), if_neg hc14, if_pos hc19]; done)
            | (rw [if_neg (fun e => Bool.noConfusion (hc6.symm.trans e)), if_neg hc14, if_neg (Classical.not_not.mpr hc19)]; done)
    · skip
      skip
      refine x_iconst (v := nI 1) d_Mo_panes_9 (by decide +kernel) ?_
      refine x_goto 27 d_Mo_panes_10 rfl ?_
      refine J1 _ ?_
      unfold moTellC
      first
        | (rw [if_pos hc6]; done)
        | (rw [if_neg (fun e => Bool.noConfusion (hc6.symm.trans e)), if_pos hc14]; done)
        | (rw [if_neg (fun e => Bool.noConfusion (hc6.symm.trans e)), if_neg hc14, if_pos hc19]; done)
        | (rw [if_neg (fun e => Bool.noConfusion (hc6.symm.trans e)), if_neg hc14, if_neg (Classical.not_not.mpr hc19)]; done)
set_option maxRecDepth 100000 in
set_option maxHeartbeats 1000000 in
theorem c_Mo_total {G : xG} {B d : Nat} {S : xS} (hG : xOkG G) {w : Int32} : EX G m_Mo_total (d + 1) 0 [(0, .ref (B + 186)), (1, .int w)] [] (mk G B S) ((xRet G B (some (.int (moTot S w))) (moThr S 0))) := by
  refine x_aload_n d_Mo_total_0 rfl ?_
  refine x_iconst (v := nI 0) d_Mo_total_1 (by decide +kernel) ?_
  refine y_puti d_Mo_total_2 pf_Mo_140 k_model (xBle rfl) rfl rfl rfl ?_
  refine x_iconst (v := nI 0) d_Mo_total_5 (by decide +kernel) ?_
  refine s_istore_n (lv' := [(0, _), (1, _), (2, _)]) d_Mo_total_6 (by decide) rfl ?_
  refine x_iconst (v := nI 0) d_Mo_total_7 (by decide +kernel) ?_
  refine s_istore_n (lv' := [(0, _), (1, _), (2, _), (3, _)]) d_Mo_total_8 (by decide) rfl ?_
  have L9 : ∀ i, i ≤ 8 →  EX G m_Mo_total (d + 1) 9 [(0, .ref (B + 186)), (1, .int w), (2, .int (nI (moPl S i))), (3, .int (nI i))] [] (mk G B (moThr S 0)) (xRet G B (some (.int (moTot S w))) (moThr S 0)) := by
    refine x_down (8) ?_ ?_
    · skip
      skip
      refine x_iload_n d_Mo_total_9 rfl ?_
      refine x_bipush (v := nI 8) d_Mo_total_10 (by decide +kernel) ?_
      refine z_icmp_ge 47 d_Mo_total_12 rfl (by omega) (by omega) (fun hc12 => ?_) (fun q => absurd q (by omega))
      refine x_iload_n d_Mo_total_47 rfl ?_
      refine x_if_ne 58 d_Mo_total_48 rfl (fun hc48 => ?_) (fun hc48 => ?_)
      · skip
        skip
        refine x_iload_n d_Mo_total_58 rfl ?_
        refine x_iconst (v := nI 1) d_Mo_total_59 (by decide +kernel) ?_
        refine x_icmp_ne 67 d_Mo_total_60 rfl (fun hc60 => ?_) (fun hc60 => ?_)
        · skip
          skip
          refine x_iload_n d_Mo_total_67 rfl ?_
          refine x_iconst (v := nI 2) d_Mo_total_68 (by decide +kernel) ?_
          refine x_icmp_ne 79 d_Mo_total_69 rfl (fun hc69 => ?_) (fun hc69 => ?_)
          · skip
            skip
            refine x_iload_n d_Mo_total_79 rfl ?_
            refine x_iconst (v := nI 3) d_Mo_total_80 (by decide +kernel) ?_
            refine x_icmp_ne 91 d_Mo_total_81 rfl (fun hc81 => ?_) (fun hc81 => ?_)
            · skip
              skip
              refine x_iload_n d_Mo_total_91 rfl ?_
              refine x_iconst (v := nI 4) d_Mo_total_92 (by decide +kernel) ?_
              refine x_icmp_ne 103 d_Mo_total_93 rfl (fun hc93 => ?_) (fun hc93 => ?_)
              · skip
                skip
                refine x_iconst (v := -1) d_Mo_total_103 (by decide +kernel) ?_
                refine x_ireturn d_Mo_total_104 rfl rfl ?_
                unfold moTot
                first
                  | (rw [if_pos hc48]; exact ⟨rfl, rfl⟩)
                  | (rw [if_neg hc48, if_pos hc60]; exact ⟨rfl, rfl⟩)
                  | (rw [if_neg hc48, if_neg hc60, if_pos hc69]; exact ⟨rfl, rfl⟩)
                  | (rw [if_neg hc48, if_neg hc60, if_neg hc69, if_pos hc81]; exact ⟨rfl, rfl⟩)
                  | (rw [if_neg hc48, if_neg hc60, if_neg hc69, if_neg hc81, if_pos hc93]; exact ⟨rfl, rfl⟩)
                  | (rw [if_neg hc48, if_neg hc60, if_neg hc69, if_neg hc81, if_neg hc93]; exact ⟨rfl, rfl⟩)
              · skip
                skip
                refine x_aload_n d_Mo_total_96 rfl ?_
                refine y_getf d_Mo_total_97 gf_Mo_147 k_model rfl ?_
                rw [show sF (moThr S 0) 186 1 = sF S 186 1 from moThr_F (by decide)]
                refine x_goto 104 d_Mo_total_100 rfl ?_
                refine x_ireturn d_Mo_total_104 rfl rfl ?_
                unfold moTot
                first
                  | (rw [if_pos hc48]; exact ⟨rfl, rfl⟩)
                  | (rw [if_neg hc48, if_pos hc60]; exact ⟨rfl, rfl⟩)
                  | (rw [if_neg hc48, if_neg hc60, if_pos hc69]; exact ⟨rfl, rfl⟩)
                  | (rw [if_neg hc48, if_neg hc60, if_neg hc69, if_pos hc81]; exact ⟨rfl, rfl⟩)
                  | (rw [if_neg hc48, if_neg hc60, if_neg hc69, if_neg hc81, if_pos hc93]; exact ⟨rfl, rfl⟩)
                  | (rw [if_neg hc48, if_neg hc60, if_neg hc69, if_neg hc81, if_neg hc93]; exact ⟨rfl, rfl⟩)
            · skip
              skip
              refine x_aload_n d_Mo_total_84 rfl ?_
              refine y_getf d_Mo_total_85 gf_Mo_263 k_model rfl ?_
              rw [show sF (moThr S 0) 186 27 = sF S 186 27 from moThr_F (by decide)]
              refine x_goto 104 d_Mo_total_88 rfl ?_
              refine x_ireturn d_Mo_total_104 rfl rfl ?_
              unfold moTot
              first
                | (rw [if_pos hc48]; exact ⟨rfl, rfl⟩)
                | (rw [if_neg hc48, if_pos hc60]; exact ⟨rfl, rfl⟩)
                | (rw [if_neg hc48, if_neg hc60, if_pos hc69]; exact ⟨rfl, rfl⟩)
                | (rw [if_neg hc48, if_neg hc60, if_neg hc69, if_pos hc81]; exact ⟨rfl, rfl⟩)
                | (rw [if_neg hc48, if_neg hc60, if_neg hc69, if_neg hc81, if_pos hc93]; exact ⟨rfl, rfl⟩)
                | (rw [if_neg hc48, if_neg hc60, if_neg hc69, if_neg hc81, if_neg hc93]; exact ⟨rfl, rfl⟩)
          · skip
            skip
            refine x_aload_n d_Mo_total_72 rfl ?_
            refine y_getf d_Mo_total_73 gf_Mo_144 k_model rfl ?_
            rw [show sF (moThr S 0) 186 20 = sF S 186 20 from moThr_F (by decide)]
            refine x_goto 104 d_Mo_total_76 rfl ?_
            refine x_ireturn d_Mo_total_104 rfl rfl ?_
            unfold moTot
            first
              | (rw [if_pos hc48]; exact ⟨rfl, rfl⟩)
              | (rw [if_neg hc48, if_pos hc60]; exact ⟨rfl, rfl⟩)
              | (rw [if_neg hc48, if_neg hc60, if_pos hc69]; exact ⟨rfl, rfl⟩)
              | (rw [if_neg hc48, if_neg hc60, if_neg hc69, if_pos hc81]; exact ⟨rfl, rfl⟩)
              | (rw [if_neg hc48, if_neg hc60, if_neg hc69, if_neg hc81, if_pos hc93]; exact ⟨rfl, rfl⟩)
              | (rw [if_neg hc48, if_neg hc60, if_neg hc69, if_neg hc81, if_neg hc93]; exact ⟨rfl, rfl⟩)
        · skip
          skip
          refine x_iload_n d_Mo_total_63 rfl ?_
          refine x_goto 104 d_Mo_total_64 rfl ?_
          refine x_ireturn d_Mo_total_104 rfl rfl ?_
          unfold moTot
          first
            | (rw [if_pos hc48]; exact ⟨rfl, rfl⟩)
            | (rw [if_neg hc48, if_pos hc60]; exact ⟨rfl, rfl⟩)
            | (rw [if_neg hc48, if_neg hc60, if_pos hc69]; exact ⟨rfl, rfl⟩)
            | (rw [if_neg hc48, if_neg hc60, if_neg hc69, if_pos hc81]; exact ⟨rfl, rfl⟩)
            | (rw [if_neg hc48, if_neg hc60, if_neg hc69, if_neg hc81, if_pos hc93]; exact ⟨rfl, rfl⟩)
            | (rw [if_neg hc48, if_neg hc60, if_neg hc69, if_neg hc81, if_neg hc93]; exact ⟨rfl, rfl⟩)
      · skip
        skip
        refine x_aload_n d_Mo_total_51 rfl ?_
        refine w_callV (As := []) d_Mo_total_52 k_Mo_154 k_model rfl rfl rfl (c_Mo_sheets hG) ?_
        rw [moSh_thr]
        refine x_goto 104 d_Mo_total_55 rfl ?_
        refine x_ireturn d_Mo_total_104 rfl rfl ?_
        unfold moTot
        first
          | (rw [if_pos hc48]; exact ⟨rfl, rfl⟩)
          | (rw [if_neg hc48, if_pos hc60]; exact ⟨rfl, rfl⟩)
          | (rw [if_neg hc48, if_neg hc60, if_pos hc69]; exact ⟨rfl, rfl⟩)
          | (rw [if_neg hc48, if_neg hc60, if_neg hc69, if_pos hc81]; exact ⟨rfl, rfl⟩)
          | (rw [if_neg hc48, if_neg hc60, if_neg hc69, if_neg hc81, if_pos hc93]; exact ⟨rfl, rfl⟩)
          | (rw [if_neg hc48, if_neg hc60, if_neg hc69, if_neg hc81, if_neg hc93]; exact ⟨rfl, rfl⟩)
    · intro i hi ih
      refine x_iload_n d_Mo_total_9 rfl ?_
      refine x_bipush (v := nI 8) d_Mo_total_10 (by decide +kernel) ?_
      refine z_icmp_ge 47 d_Mo_total_12 rfl (by omega) (by omega) (fun q => absurd q (by omega)) (fun hc12 => ?_)
      refine x_aload_n d_Mo_total_15 rfl ?_
      refine y_getf d_Mo_total_16 gf_Mo_7 k_model rfl ?_
      refine x_iload_n d_Mo_total_19 rfl ?_
      refine y_zald hG d_Mo_total_20 k_m_there _ rfl (by omega) ?_
      refine x_if_eq 39 d_Mo_total_21 rfl (fun hc21 => ?_) (fun hc21 => ?_)
      · skip
        rw [show moPl S (i + 1) = moPl S i from if_neg (fun q => q.1 hc21)] at ih
        refine x_iload_n d_Mo_total_39 rfl ?_
        refine s_istore_n (lv' := [(0, _), (1, _), (2, _), (3, _)]) d_Mo_total_40 (by decide) rfl ?_
        refine s_iinc (lv' := [(0, _), (1, _), (2, _), (3, _)]) d_Mo_total_41 rfl (xinc _) (by decide) rfl ?_
        refine x_goto 9 d_Mo_total_44 rfl ?_
        refine x_lv (lv' := [(0, _), (1, _), (2, _), (3, _)]) [0, 1, 2, 3] rfl ?_
        exact ih
      · skip
        skip
        refine x_aload_n d_Mo_total_24 rfl ?_
        refine y_getf d_Mo_total_25 gf_Mo_23 k_model rfl ?_
        refine x_iload_n d_Mo_total_28 rfl ?_
        refine y_zald hG d_Mo_total_29 k_m_planned _ rfl (by omega) ?_
        refine x_if_eq 39 d_Mo_total_30 rfl (fun hc30 => ?_) (fun hc30 => ?_)
        · skip
          rw [show moPl S (i + 1) = moPl S i from if_neg (fun q => q.2 hc30)] at ih
          refine x_iload_n d_Mo_total_39 rfl ?_
          refine s_istore_n (lv' := [(0, _), (1, _), (2, _), (3, _)]) d_Mo_total_40 (by decide) rfl ?_
          refine s_iinc (lv' := [(0, _), (1, _), (2, _), (3, _)]) d_Mo_total_41 rfl (xinc _) (by decide) rfl ?_
          refine x_goto 9 d_Mo_total_44 rfl ?_
          refine x_lv (lv' := [(0, _), (1, _), (2, _), (3, _)]) [0, 1, 2, 3] rfl ?_
          exact ih
        · skip
          rw [show moPl S (i + 1) = moPl S i + 1 from if_pos ⟨hc21, hc30⟩] at ih
          refine x_iload_n d_Mo_total_33 rfl ?_
          refine x_iconst (v := nI 1) d_Mo_total_34 (by decide +kernel) ?_
          refine x_iadd d_Mo_total_35 ?_
          rw [nI_add]
          refine x_goto 40 d_Mo_total_36 rfl ?_
          refine s_istore_n (lv' := [(0, _), (1, _), (2, _), (3, _)]) d_Mo_total_40 (by decide) rfl ?_
          refine s_iinc (lv' := [(0, _), (1, _), (2, _), (3, _)]) d_Mo_total_41 rfl (xinc _) (by decide) rfl ?_
          refine x_goto 9 d_Mo_total_44 rfl ?_
          refine x_lv (lv' := [(0, _), (1, _), (2, _), (3, _)]) [0, 1, 2, 3] rfl ?_
          exact ih
  refine x_lv (lv' := [(0, _), (1, _), (2, _), (3, _)]) [0, 1, 2, 3] rfl ?_
  exact L9 0 (Nat.zero_le _)
set_option maxRecDepth 100000 in
set_option maxHeartbeats 1000000 in
theorem c_Mo_leave {G : xG} {B d : Nat} {S : xS} (hG : xOkG G) {s n : Nat} (hs : s < 8) (hn : sA S 195 s = nI n) (hn160 : n ≤ 160) : EX G m_Mo_leave d 0 [(0, .ref (B + 186)), (1, .int (nI s))] [] (mk G B S) ((xRet G B none (uA S 187 s (bI (moLv S s n))))) := by
  refine x_iconst (v := nI 0) d_Mo_leave_0 (by decide +kernel) ?_
  refine s_istore_n (lv' := [(0, _), (1, _), (2, _)]) d_Mo_leave_1 (by decide) rfl ?_
  refine x_iconst (v := nI 0) d_Mo_leave_2 (by decide +kernel) ?_
  refine s_istore_n (lv' := [(0, _), (1, _), (2, _), (3, _)]) d_Mo_leave_3 (by decide) rfl ?_
  have L4 : ∀ i, i ≤ n →  EX G m_Mo_leave d 4 [(0, .ref (B + 186)), (1, .int (nI s)), (2, .int (bI (moLv S s i))), (3, .int (nI i))] [] (mk G B S) (xRet G B none (uA S 187 s (bI (moLv S s n)))) := by
    refine x_down (n) ?_ ?_
    · skip
      skip
      refine x_iload_n d_Mo_leave_4 rfl ?_
      refine x_aload_n d_Mo_leave_5 rfl ?_
      refine y_getf d_Mo_leave_6 gf_Mo_35 k_model rfl ?_
      refine x_iload_n d_Mo_leave_9 rfl ?_
      refine y_iald hG d_Mo_leave_10 k_m_nodeCounts _ rfl (by omega) ?_
      rw [hn]
      refine z_icmp_ge 46 d_Mo_leave_11 rfl (by omega) (by omega) (fun hc11 => ?_) (fun q => absurd q (by omega))
      refine x_aload_n d_Mo_leave_46 rfl ?_
      refine y_getf d_Mo_leave_47 gf_Mo_7 k_model rfl ?_
      refine x_iload_n d_Mo_leave_50 rfl ?_
      refine x_iload_n d_Mo_leave_51 rfl ?_
      refine y_zast hG d_Mo_leave_52 k_m_there _ rfl (by omega) bI_n ?_
      refine x_return d_Mo_leave_53 rfl ?_
      exact ⟨rfl, rfl⟩
    · intro i hi ih
      refine x_iload_n d_Mo_leave_4 rfl ?_
      refine x_aload_n d_Mo_leave_5 rfl ?_
      refine y_getf d_Mo_leave_6 gf_Mo_35 k_model rfl ?_
      refine x_iload_n d_Mo_leave_9 rfl ?_
      refine y_iald hG d_Mo_leave_10 k_m_nodeCounts _ rfl (by omega) ?_
      rw [hn]
      refine z_icmp_ge 46 d_Mo_leave_11 rfl (by omega) (by omega) (fun q => absurd q (by omega)) (fun hc11 => ?_)
      refine x_iload_n d_Mo_leave_14 rfl ?_
      refine z_bif_ne 34 d_Mo_leave_15 rfl (fun hc15 => ?_) (fun hc15 => ?_)
      · skip
        rw [show moLv S s (i + 1) = true by simp only [moLv, hc15, Bool.true_or]] at ih
        refine x_iconst (v := nI 1) d_Mo_leave_34 (by decide +kernel) ?_
        refine x_goto 39 d_Mo_leave_35 rfl ?_
        refine s_istore_n (lv' := [(0, _), (1, _), (2, _), (3, _)]) d_Mo_leave_39 (by decide) rfl ?_
        refine s_iinc (lv' := [(0, _), (1, _), (2, _), (3, _)]) d_Mo_leave_40 rfl (xinc _) (by decide) rfl ?_
        refine x_goto 4 d_Mo_leave_43 rfl ?_
        refine x_lv (lv' := [(0, _), (1, _), (2, _), (3, _)]) [0, 1, 2, 3] rfl ?_
        exact ih
      · skip
        skip
        refine x_aload_n d_Mo_leave_18 rfl ?_
        refine y_getf d_Mo_leave_19 gf_Mo_62 k_model rfl ?_
        refine x_sipush (v := nI 160) d_Mo_leave_22 (by decide +kernel) ?_
        refine x_iload_n d_Mo_leave_25 rfl ?_
        refine x_imul d_Mo_leave_26 ?_
        rw [nI_mul]
        refine x_iload_n d_Mo_leave_27 rfl ?_
        refine x_iadd d_Mo_leave_28 ?_
        rw [nI_add]
        refine y_iald hG d_Mo_leave_29 k_m_states _ rfl (by omega) ?_
        refine x_iconst (v := nI 1) d_Mo_leave_30 (by decide +kernel) ?_
        refine x_icmp_ne 38 d_Mo_leave_31 rfl (fun hc31 => ?_) (fun hc31 => ?_)
        · skip
          rw [show moLv S s (i + 1) = false by simp only [moLv, hc15, decide_eq_false hc31]; rfl] at ih
          refine x_iconst (v := nI 0) d_Mo_leave_38 (by decide +kernel) ?_
          refine s_istore_n (lv' := [(0, _), (1, _), (2, _), (3, _)]) d_Mo_leave_39 (by decide) rfl ?_
          refine s_iinc (lv' := [(0, _), (1, _), (2, _), (3, _)]) d_Mo_leave_40 rfl (xinc _) (by decide) rfl ?_
          refine x_goto 4 d_Mo_leave_43 rfl ?_
          refine x_lv (lv' := [(0, _), (1, _), (2, _), (3, _)]) [0, 1, 2, 3] rfl ?_
          exact ih
        · skip
          rw [show moLv S s (i + 1) = true by simp only [moLv, hc15, decide_eq_true hc31]; rfl] at ih
          refine x_iconst (v := nI 1) d_Mo_leave_34 (by decide +kernel) ?_
          refine x_goto 39 d_Mo_leave_35 rfl ?_
          refine s_istore_n (lv' := [(0, _), (1, _), (2, _), (3, _)]) d_Mo_leave_39 (by decide) rfl ?_
          refine s_iinc (lv' := [(0, _), (1, _), (2, _), (3, _)]) d_Mo_leave_40 rfl (xinc _) (by decide) rfl ?_
          refine x_goto 4 d_Mo_leave_43 rfl ?_
          refine x_lv (lv' := [(0, _), (1, _), (2, _), (3, _)]) [0, 1, 2, 3] rfl ?_
          exact ih
  refine x_lv (lv' := [(0, _), (1, _), (2, _), (3, _)]) [0, 1, 2, 3] rfl ?_
  exact L4 0 (Nat.zero_le _)
