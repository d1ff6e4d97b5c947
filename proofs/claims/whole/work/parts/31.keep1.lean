/-! CONTRACTS: keeps, the class -/
def kpS (σ : SI) (B : Nat) (a : Nat → Int32) (n s : Nat) : Nat → SI
  | 0 => σ
  | k + 1 => uI (uI (uI (uI (kpS σ B a n s k) (B + 2) ((s * 8 + k) * 4 + 0) (xK a n k)) (B + 2) ((s * 8 + k) * 4 + 1) (yK a n k)) (B + 2) ((s * 8 + k) * 4 + 2) (wK a n k)) (B + 2) ((s * 8 + k) * 4 + 3) (hK a n k)
section KPS
variable {σ : SI} {B n s : Nat} {a : Nat → Int32}
theorem kp_ne {c : Nat} (h : c ≠ B + 2) : ∀ {k : Nat}, kpS σ B a n s k c = σ c
  | 0 => rfl
  | k + 1 => by
    unfold kpS
    rw [uI_ne h, uI_ne h, uI_ne h, uI_ne h]
    exact kp_ne h
theorem RB_r2 {i : Nat} {v : Int32} (h : RB σ B a n) : RB (uI σ (B + 2) i v) B a n := h.cong (fun j _ => by rw [uI_ne (by omega)]) (fun i _ _ => uI_ne (by omega))
theorem RB_r1 {i : Nat} {v : Int32} (h : RB σ B a n) : RB (uI σ (B + 1) i v) B a n := h.cong (fun j _ => by rw [uI_ne (by omega)]) (fun i _ _ => uI_ne (by omega))
theorem RD_cong {σ' : SI} (h : RD σ B a n) (e0 : σ' B = σ B) (e7 : σ' (B + 7) = σ (B + 7)) (e8 : σ' (B + 8) = σ (B + 8)) : RD σ' B a n := by
  unfold RD
  rw [e0, e7, e8]
  exact h
theorem RD_r2 {i : Nat} {v : Int32} (h : RD σ B a n) : RD (uI σ (B + 2) i v) B a n := RD_cong h (uI_ne (by omega)) (uI_ne (by omega)) (uI_ne (by omega))
theorem RD_r1 {i : Nat} {v : Int32} (h : RD σ B a n) : RD (uI σ (B + 1) i v) B a n := RD_cong h (uI_ne (by omega)) (uI_ne (by omega)) (uI_ne (by omega))
theorem kp_RB {k : Nat} (h : RB σ B a n) : RB (kpS σ B a n s k) B a n := h.cong (fun j _ => by rw [kp_ne (by omega)]) (fun i _ _ => kp_ne (by omega))
theorem kp_RD {k : Nat} (h : RD σ B a n) : RD (kpS σ B a n s k) B a n := RD_cong h (kp_ne (by omega)) (kp_ne (by omega)) (kp_ne (by omega))
theorem kp_out {b : Nat} (h : b < s * 32 ∨ s * 32 + 32 ≤ b) : ∀ {k : Nat}, k ≤ 8 → kpS σ B a n s k (B + 2) b = σ (B + 2) b
  | 0, _ => rfl
  | k + 1, hk => by
    unfold kpS
    rw [uI_oth (by omega), uI_oth (by omega), uI_oth (by omega), uI_oth (by omega)]
    exact kp_out h (by omega)
theorem kp_in {i : Nat} : ∀ {k : Nat}, i < k → kpS σ B a n s k (B + 2) ((s * 8 + i) * 4 + 0) = xK a n i ∧ kpS σ B a n s k (B + 2) ((s * 8 + i) * 4 + 1) = yK a n i ∧ kpS σ B a n s k (B + 2) ((s * 8 + i) * 4 + 2) = wK a n i ∧ kpS σ B a n s k (B + 2) ((s * 8 + i) * 4 + 3) = hK a n i
  | 0, h => absurd h (Nat.not_lt_zero i)
  | k + 1, h => by
    unfold kpS
    by_cases q : i = k
    · subst q
      refine ⟨?_, ?_, ?_, ?_⟩
      · rw [uI_oth (by omega), uI_oth (by omega), uI_oth (by omega), uI_same]
      · rw [uI_oth (by omega), uI_oth (by omega), uI_same]
      · rw [uI_oth (by omega), uI_same]
      · rw [uI_same]
    · have g := kp_in (k := k) (show i < k by omega)
      refine ⟨?_, ?_, ?_, ?_⟩
      · rw [uI_oth (by omega), uI_oth (by omega), uI_oth (by omega), uI_oth (by omega)]; exact g.1
      · rw [uI_oth (by omega), uI_oth (by omega), uI_oth (by omega), uI_oth (by omega)]; exact g.2.1
      · rw [uI_oth (by omega), uI_oth (by omega), uI_oth (by omega), uI_oth (by omega)]; exact g.2.2.1
      · rw [uI_oth (by omega), uI_oth (by omega), uI_oth (by omega), uI_oth (by omega)]; exact g.2.2.2
end KPS
theorem c2_KL_xOf {σ : SI} {δ : SD} {B n k : Nat} {a : Nat → Int32} (hB : LB B) (hW : WF a n) (hR : RB σ B a n) (hk : k < 8) : E KL_xOf [.ref B, .int (nI k)] (HH σ δ) (some (.int (xK a n k))) (HH σ δ) := by
  unfold xK
  by_cases h : k < n
  · rw [if_pos h]; exact c_KL_xOf hB hW hR h
  · rw [if_neg h]; exact c0_KL_xOf hB hW hR (by omega) hk
theorem c2_KL_yOf {σ : SI} {δ : SD} {B n k : Nat} {a : Nat → Int32} (hB : LB B) (hW : WF a n) (hR : RB σ B a n) (hk : k < 8) : E KL_yOf [.ref B, .int (nI k)] (HH σ δ) (some (.int (yK a n k))) (HH σ δ) := by
  unfold yK
  by_cases h : k < n
  · rw [if_pos h]; exact c_KL_yOf hB hW hR h
  · rw [if_neg h]; exact c0_KL_yOf hB hW hR (by omega) hk
theorem c2_KL_wide {σ : SI} {δ : SD} {B n k : Nat} {a : Nat → Int32} (hB : LB B) (hW : WF a n) (hR : RB σ B a n) (hD : RD σ B a n) (hk : k < 8) : E KL_wide [.ref B, .int (nI k)] (HH σ δ) (some (.int (wK a n k))) (HH σ δ) := by
  unfold wK
  by_cases h : k < n
  · rw [if_pos h]; exact c_KL_wide hB hW hR hD h
  · rw [if_neg h]; exact c0_KL_wide hB hW hR (by omega) hk
theorem c2_KL_high {σ : SI} {δ : SD} {B n k : Nat} {a : Nat → Int32} (hB : LB B) (hW : WF a n) (hR : RB σ B a n) (hD : RD σ B a n) (hk : k < 8) : E KL_high [.ref B, .int (nI k)] (HH σ δ) (some (.int (hK a n k))) (HH σ δ) := by
  unfold hK
  by_cases h : k < n
  · rw [if_pos h]; exact c_KL_high hB hW hR hD h
  · rw [if_neg h]; exact c0_KL_high hB hW hR (by omega) hk
set_option maxRecDepth 100000 in
theorem c_KE_keep {σ : SI} {δ : SD} {B n s : Nat} {a : Nat → Int32} (hB : LB B) (hL : HL σ B a n) (hs : s < 3) : E KE_keep [.ref (B + 1), .ref B, .int (nI s)] (HH σ δ) (some (.int (nI (cntN (liesA a) n)))) (HH (uI (kpS σ B a n s 8) (B + 1) 0 (bsA a ||| nI (2 ^ s))) δ) := by
  refine E.ofL [some (.ref (B + 1)), some (.ref B), some (.int (nI s))] rfl pn_RX4 rfl (fun sc => ?_)
  generalize hRz : (fun (zr : Option Value) (zk : XH) => zr = some (.int (nI (cntN (liesA a) n))) ∧ zk = HH (uI (kpS σ B a n s 8) (B + 1) 0 (bsA a ||| nI (2 ^ s))) δ) = R
  refine g_iconst dX4_keep_0 ic_0 ?_
  refine g_istore_n dX4_keep_1 rfl ?_
  have H2 : ∀ (N : Nat) (k : Nat), k ≤ 8 → 8 - k < N → G sc KE_keep 2 (aL [some (.ref (B + 1)), some (.ref B), some (.int (nI s)), some (.int (nI k))]) [] (HH (kpS σ B a n s k) δ) (0, 0) R := by
    intro N
    induction N with
    | zero => intro k h1 hN2; exact absurd hN2 (Nat.not_lt_zero _)
    | succ N ih2 =>
      intro k h1 hN2
      refine g_iload_n dX4_keep_2 rfl ?_
      refine g_bipush dX4_keep_3 bp_8 ?_
      refine n_icmp_ge (tgt := 88) (by omega) (by omega) dX4_keep_5 rfl (fun zc5 => ?_) (fun zc5 => ?_)
      · obtain rfl : k = 8 := (by omega)
        refine g_aload_n dX4_keep_88 rfl ?_
        refine g_dup dX4_keep_89 rfl ?_
        refine q_geti dX4_keep_90 f_E_15 (ckL_1 hB) (by decide) ty_3_0 ?_
        refine g_top (show kpS σ B a n s 8 (B + 1) 0 = bsA a by rw [kp_ne (by omega)]; exact hL.rs.1) ?_
        refine g_iconst dX4_keep_93 ic_1 ?_
        refine g_iload_n dX4_keep_94 rfl ?_
        refine g_ishl dX4_keep_95 ?_
        refine g_top (shl_1 (by omega)) ?_
        refine g_ior dX4_keep_96 ?_
        refine q_puti dX4_keep_97 f_E_15 (ckL_1 hB) (by decide) ty_3_0 fi_3_0 ?_
        refine g_aload_n dX4_keep_100 rfl ?_
        refine g_v0 (M' := KL_lying) dX4_keep_101 l_E_52 v_KL_lying (c_KL_lying hB hL.wf (RB_r1 (kp_RB hL.rb))) (rcL hB) rfl rfl ⟨rfl, rfl⟩ ?_
        exact g_iret (S := []) dX4_keep_104 rfl (by rw [← hRz]; exact ⟨congrArg (fun zz => some (Value.int zz)) (show _ = _ by rfl), by rfl⟩) (Nat.zero_le _) (Nat.zero_le _)
      · refine g_iload_n dX4_keep_8 rfl ?_
        refine g_iload_n dX4_keep_9 rfl ?_
        refine g_s2 (M' := KE_isRow) dX4_keep_10 l_E_29 s_KE_isRow (c_KE_isRow (by omega) (by omega)) rfl rfl ⟨rfl, rfl⟩ ?_
        refine b_if_eq (tgt := 88) dX4_keep_13 rfl (fun zc13 => ?_) (fun zc13 => ?_)
        · exact absurd zc13 (by decide)
        · refine g_iload_n dX4_keep_16 rfl ?_
          refine g_bipush dX4_keep_17 bp_8 ?_
          refine n_imul dX4_keep_19 ?_
          refine g_iload_n dX4_keep_20 rfl ?_
          refine n_iadd dX4_keep_21 ?_
          refine g_iconst dX4_keep_22 ic_4 ?_
          refine n_imul dX4_keep_23 ?_
          refine g_istore dX4_keep_24 rfl ?_
          refine g_aload_n dX4_keep_26 rfl ?_
          refine q_getq dX4_keep_27 f_E_11 (ckL_1 hB) (by decide) ty_3_1 (rfE_1 hB) ?_
          refine g_iload dX4_keep_30 rfl ?_
          refine g_iconst dX4_keep_32 ic_0 ?_
          refine n_iadd dX4_keep_33 ?_
          refine g_aload_n dX4_keep_34 rfl ?_
          refine g_iload_n dX4_keep_35 rfl ?_
          have R0 := kp_RB (s := s) (k := k) hL.rb
          have R1 := RB_r2 (i := (s * 8 + k) * 4 + 0) (v := xK a n k) R0
          have R2 := RB_r2 (i := (s * 8 + k) * 4 + 1) (v := yK a n k) R1
          have R3 := RB_r2 (i := (s * 8 + k) * 4 + 2) (v := wK a n k) R2
          have D2 := RD_r2 (i := (s * 8 + k) * 4 + 1) (v := yK a n k) (RD_r2 (i := (s * 8 + k) * 4 + 0) (v := xK a n k) (kp_RD (s := s) (k := k) hL.rd))
          have D3 := RD_r2 (i := (s * 8 + k) * 4 + 2) (v := wK a n k) D2
          refine g_v1 (M' := KL_xOf) dX4_keep_36 l_E_37 v_KL_xOf (c2_KL_xOf hB hL.wf R0 (by omega)) (rcL hB) rfl rfl ⟨rfl, rfl⟩ ?_
          refine q_iast dX4_keep_39 (ckL_2 hB) (ixD_nI (by omega) (by decide)) ?_
          refine g_aload_n dX4_keep_40 rfl ?_
          refine q_getq dX4_keep_41 f_E_11 (ckL_1 hB) (by decide) ty_3_1 (rfE_1 hB) ?_
          refine g_iload dX4_keep_44 rfl ?_
          refine g_iconst dX4_keep_46 ic_1 ?_
          refine n_iadd dX4_keep_47 ?_
          refine g_aload_n dX4_keep_48 rfl ?_
          refine g_iload_n dX4_keep_49 rfl ?_
          refine g_v1 (M' := KL_yOf) dX4_keep_50 l_E_43 v_KL_yOf (c2_KL_yOf hB hL.wf R1 (by omega)) (rcL hB) rfl rfl ⟨rfl, rfl⟩ ?_
          refine q_iast dX4_keep_53 (ckL_2 hB) (ixD_nI (by omega) (by decide)) ?_
          refine g_aload_n dX4_keep_54 rfl ?_
          refine q_getq dX4_keep_55 f_E_11 (ckL_1 hB) (by decide) ty_3_1 (rfE_1 hB) ?_
          refine g_iload dX4_keep_58 rfl ?_
          refine g_iconst dX4_keep_60 ic_2 ?_
          refine n_iadd dX4_keep_61 ?_
          refine g_aload_n dX4_keep_62 rfl ?_
          refine g_iload_n dX4_keep_63 rfl ?_
          refine g_v1 (M' := KL_wide) dX4_keep_64 l_E_46 v_KL_wide (c2_KL_wide hB hL.wf R2 D2 (by omega)) (rcL hB) rfl rfl ⟨rfl, rfl⟩ ?_
          refine q_iast dX4_keep_67 (ckL_2 hB) (ixD_nI (by omega) (by decide)) ?_
          refine g_aload_n dX4_keep_68 rfl ?_
          refine q_getq dX4_keep_69 f_E_11 (ckL_1 hB) (by decide) ty_3_1 (rfE_1 hB) ?_
          refine g_iload dX4_keep_72 rfl ?_
          refine g_iconst dX4_keep_74 ic_3 ?_
          refine n_iadd dX4_keep_75 ?_
          refine g_aload_n dX4_keep_76 rfl ?_
          refine g_iload_n dX4_keep_77 rfl ?_
          refine g_v1 (M' := KL_high) dX4_keep_78 l_E_49 v_KL_high (c2_KL_high hB hL.wf R3 D3 (by omega)) (rcL hB) rfl rfl ⟨rfl, rfl⟩ ?_
          refine q_iast dX4_keep_81 (ckL_2 hB) (ixD_nI (by omega) (by decide)) ?_
          refine n_iinc (b := 1) dX4_keep_82 rfl rfl rfl ?_
          refine g_goto (tgt := 2) dX4_keep_85 rfl ?_
          exact g_can _ (by exact ⟨rfl, rfl, rfl, rfl, trivial⟩) (ih2 (k + 1) (by omega) (by omega))
  exact g_can _ (by exact ⟨rfl, rfl, rfl, rfl, trivial⟩) (H2 _ 0 (by omega) (Nat.lt_succ_self _))
