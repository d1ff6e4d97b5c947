/-! CONTRACTS of the reference: sizes, lines, whether an item fits -/
theorem fl_lineA {a : Nat → Int32} {n k : Nat} (hW : WF a n) (hk : k < colN a) : vf_n32 (FP.fdiv (FP.i2f (nI k * (a 0 - nI 2 * a 2))) (FP.i2f (a 6))) := by
  have h1 := hW.2.2.2.2.1.cl (by decide)
  have h2 := hW.2.2.1.cl (by decide)
  have h3 := hW.col
  have e : nI k * (a 0 - nI 2 * a 2) = nI (k * ((a 0).toNatClampNeg - 2 * (a 2).toNatClampNeg)) := by
    generalize (a 2).toNatClampNeg = m at *
    generalize (a 0).toNatClampNeg = w at *
    rw [h1.2.2, h2.2.2, pk_mul, pk_sub (by omega), pk_mul]
  rw [e, h3.2.2]
  have hm : k * ((a 0).toNatClampNeg - 2 * (a 2).toNatClampNeg) ≤ 5 * 16 := Nat.mul_le_mul (by omega) (by omega)
  exact fl_line (k := 0) ⟨_, by omega, rfl⟩ (by omega) (by omega)
theorem cutF_ge {v : UInt32} (h : nI 1 ≤ FP.f2i (FP.fadd v halfF)) : FP.f2i (FP.fadd v halfF) = cutF v := by
  unfold cutF
  rw [if_neg (Int32.not_lt.mpr h)]
theorem cutF_lt {v : UInt32} (h : ¬ nI 1 ≤ FP.f2i (FP.fadd v halfF)) : nI 1 = cutF v := by
  unfold cutF
  rw [if_pos (Int32.not_le.mp h)]
theorem fit_stop {w b : Bool} {p : Nat → Bool} {o n : Nat} (hb : b = (w && allN p o)) (h1 : o ≤ n) (h : b = false ∨ n ≤ o) : b = (w && allN p n) := by
  rcases h with h | h
  · rw [h] at hb ⊢
    cases w with
    | false => rfl
    | true =>
      rw [Bool.true_and] at hb
      rw [allN_false hb.symm n h1]
      rfl
  · rw [hb, show o = n by omega]
set_option maxRecDepth 100000 in
theorem c_KR_puts {σ : SI} {δ : SD} {k j : Nat} {v : Int32} (hk : k < 8) (hj : j < 6) : E KR_puts [.ref 84, .int (nI k), .int (nI j), .int v] (HH σ δ) (none) (HH (uI σ 85 (8 + 6 * k + j) v) δ) := by
  refine E.ofL [some (.ref 84), some (.int (nI k)), some (.int (nI j)), some (.int v)] rfl pn_RX9 rfl (fun sc => ?_)
  refine g_aload_n dX9_puts_0 rfl ?_
  refine q_getq dX9_puts_1 f_R_7 ck_84 (by decide) ty_8_0 rf_84_0 ?_
  refine g_bipush dX9_puts_4 bp_8 ?_
  refine g_bipush dX9_puts_6 bp_6 ?_
  refine g_iload_n dX9_puts_8 rfl ?_
  refine n_imul dX9_puts_9 ?_
  refine n_iadd dX9_puts_10 ?_
  refine g_iload_n dX9_puts_11 rfl ?_
  refine n_iadd dX9_puts_12 ?_
  refine g_iload_n dX9_puts_13 rfl ?_
  refine q_iast dX9_puts_14 ck_85 (ixD_nI (by omega) (by decide)) ?_
  exact e_vret dX9_puts_15 rfl (by rfl)
set_option maxRecDepth 100000 in
theorem c_KR_lies {σ : SI} {δ : SD} {k : Nat} (hk : k < 8) : E KR_lies [.ref 84, .int (nI k)] (HH σ δ) (some (.int (bI (liesA (σ 85) k)))) (HH σ δ) := by
  refine E.ofL [some (.ref 84), some (.int (nI k))] rfl pn_RX9 rfl (fun sc => ?_)
  refine g_aload_n dX9_lies_0 rfl ?_
  refine g_iload_n dX9_lies_1 rfl ?_
  refine g_iconst dX9_lies_2 ic_4 ?_
  refine g_v2 (M' := KR_its) dX9_lies_3 l_R_50 v_KR_its (c_KR_its (by omega) (by omega)) rc_84 rfl rfl ⟨rfl, rfl⟩ ?_
  refine g_iconst dX9_lies_6 ic_m1 ?_
  refine g_icmp_eq (tgt := 14) dX9_lies_7 rfl (fun zc7 => ?_) (fun zc7 => ?_)
  · refine g_iconst dX9_lies_14 ic_0 ?_
    exact e_z0 dX9_lies_15 rfl (by simp [liesA, *]) (by rfl)
  · refine g_iconst dX9_lies_10 ic_1 ?_
    refine g_goto (tgt := 15) dX9_lies_11 rfl ?_
    exact e_z1 dX9_lies_15 rfl (by simp [liesA, *]) (by rfl)
set_option maxRecDepth 100000 in
theorem c_KR_refuses0 {σ : SI} {δ : SD} : E KR_refuses [.ref 84, .int (-2)] (HH σ δ) (some (.int (-2))) (HH (uI σ 88 0 (σ 88 0 + nI 1)) δ) := by
  refine E.ofL [some (.ref 84), some (.int (-2))] rfl pn_RX9 rfl (fun sc => ?_)
  refine g_aload_n dX9_refuses_0 rfl ?_
  refine q_getq dX9_refuses_1 f_R_19 ck_84 (by decide) ty_8_4 rf_84_4 ?_
  refine g_bipush dX9_refuses_4 bp_m2 ?_
  refine g_iload_n dX9_refuses_6 rfl ?_
  refine g_isub dX9_refuses_7 ?_
  refine g_dup2 dX9_refuses_8 rfl rfl ?_
  refine q_iald dX9_refuses_9 ck_88 (ix_lit (j := 0) (by decide) (by decide) (by decide)) ?_
  refine g_iconst dX9_refuses_10 ic_1 ?_
  refine g_iadd dX9_refuses_11 ?_
  refine q_iast dX9_refuses_12 ck_88 (ix_lit (j := 0) (by decide) (by decide) (by decide)) ?_
  refine g_iload_n dX9_refuses_13 rfl ?_
  exact e_iret dX9_refuses_14 rfl (by rfl) (by rfl)
set_option maxRecDepth 100000 in
theorem c_KR_refuses1 {σ : SI} {δ : SD} : E KR_refuses [.ref 84, .int (-3)] (HH σ δ) (some (.int (-3))) (HH (uI σ 88 1 (σ 88 1 + nI 1)) δ) := by
  refine E.ofL [some (.ref 84), some (.int (-3))] rfl pn_RX9 rfl (fun sc => ?_)
  refine g_aload_n dX9_refuses_0 rfl ?_
  refine q_getq dX9_refuses_1 f_R_19 ck_84 (by decide) ty_8_4 rf_84_4 ?_
  refine g_bipush dX9_refuses_4 bp_m2 ?_
  refine g_iload_n dX9_refuses_6 rfl ?_
  refine g_isub dX9_refuses_7 ?_
  refine g_dup2 dX9_refuses_8 rfl rfl ?_
  refine q_iald dX9_refuses_9 ck_88 (ix_lit (j := 1) (by decide) (by decide) (by decide)) ?_
  refine g_iconst dX9_refuses_10 ic_1 ?_
  refine g_iadd dX9_refuses_11 ?_
  refine q_iast dX9_refuses_12 ck_88 (ix_lit (j := 1) (by decide) (by decide) (by decide)) ?_
  refine g_iload_n dX9_refuses_13 rfl ?_
  exact e_iret dX9_refuses_14 rfl (by rfl) (by rfl)
set_option maxRecDepth 100000 in
theorem c_KR_refuses2 {σ : SI} {δ : SD} : E KR_refuses [.ref 84, .int (-4)] (HH σ δ) (some (.int (-4))) (HH (uI σ 88 2 (σ 88 2 + nI 1)) δ) := by
  refine E.ofL [some (.ref 84), some (.int (-4))] rfl pn_RX9 rfl (fun sc => ?_)
  refine g_aload_n dX9_refuses_0 rfl ?_
  refine q_getq dX9_refuses_1 f_R_19 ck_84 (by decide) ty_8_4 rf_84_4 ?_
  refine g_bipush dX9_refuses_4 bp_m2 ?_
  refine g_iload_n dX9_refuses_6 rfl ?_
  refine g_isub dX9_refuses_7 ?_
  refine g_dup2 dX9_refuses_8 rfl rfl ?_
  refine q_iald dX9_refuses_9 ck_88 (ix_lit (j := 2) (by decide) (by decide) (by decide)) ?_
  refine g_iconst dX9_refuses_10 ic_1 ?_
  refine g_iadd dX9_refuses_11 ?_
  refine q_iast dX9_refuses_12 ck_88 (ix_lit (j := 2) (by decide) (by decide) (by decide)) ?_
  refine g_iload_n dX9_refuses_13 rfl ?_
  exact e_iret dX9_refuses_14 rfl (by rfl) (by rfl)
set_option maxRecDepth 100000 in
theorem c_KR_abs {σ : SI} {δ : SD} {v : Int32} : E KR_abs [.int v] (HH σ δ) (some (.int (absI v))) (HH σ δ) := by
  refine E.ofL [some (.int v)] rfl pn_RX9 rfl (fun sc => ?_)
  refine g_iload_n dX9_abs_0 rfl ?_
  refine g_if_ge (tgt := 9) dX9_abs_1 rfl (fun zc1 => ?_) (fun zc1 => ?_)
  · refine g_iload_n dX9_abs_9 rfl ?_
    exact e_iret dX9_abs_10 rfl (by unfold absI; rw [nI_0]; simp only [Int32.lt_iff_toInt_lt, Int32.le_iff_toInt_le] at *; split <;> first | rfl | omega) (by rfl)
  · refine g_iload_n dX9_abs_4 rfl ?_
    refine g_ineg dX9_abs_5 ?_
    refine g_goto (tgt := 10) dX9_abs_6 rfl ?_
    exact e_iret dX9_abs_10 rfl (by unfold absI; rw [nI_0]; simp only [Int32.lt_iff_toInt_lt, Int32.le_iff_toInt_le] at *; split <;> first | rfl | omega) (by rfl)
set_option maxRecDepth 100000 in
theorem c_KR_cut {σ : SI} {δ : SD} {v : UInt32} (hv : vf_n32 (FP.fadd v halfF)) : E KR_cut [.float v] (HH σ δ) (some (.int (cutF v))) (HH σ δ) := by
  refine E.ofL [some (.float v)] rfl pn_RX9 rfl (fun sc => ?_)
  refine g_fload_n dX9_cut_0 rfl ?_
  refine g_ldcf dX9_cut_1 c_R_55 ?_
  refine g_fadd dX9_cut_3 hv ?_
  refine g_f2i dX9_cut_4 ?_
  refine g_istore_n dX9_cut_5 rfl ?_
  refine g_iload_n dX9_cut_6 rfl ?_
  refine g_iconst dX9_cut_7 ic_1 ?_
  refine g_icmp_ge (tgt := 15) dX9_cut_8 rfl (fun zc8 => ?_) (fun zc8 => ?_)
  · refine g_iload_n dX9_cut_15 rfl ?_
    exact e_iret dX9_cut_16 rfl (by first | exact cutF_ge zc8 | exact cutF_lt zc8) (by rfl)
  · refine g_iconst dX9_cut_11 ic_1 ?_
    refine g_goto (tgt := 16) dX9_cut_12 rfl ?_
    exact e_iret dX9_cut_16 rfl (by first | exact cutF_ge zc8 | exact cutF_lt zc8) (by rfl)
set_option maxRecDepth 100000 in
theorem c_KR_sideOf {σ : SI} {δ : SD} {n : Nat} (hW : WF (σ 85) n) {r : Nat} (hr : 1 ≤ r) (hr6 : r ≤ 6) : E KR_sideOf [.ref 84, .int (nI r)] (HH σ δ) (some (.float (sideA (σ 85) r))) (HH σ δ) := by
  have hb := hW.big
  have hq := hW.rat
  refine E.ofL [some (.ref 84), some (.int (nI r))] rfl pn_RX9 rfl (fun sc => ?_)
  generalize hRz : (fun (zr : Option Value) (zk : XH) => zr = some (.float (sideA (σ 85) r)) ∧ zk = HH σ δ) = R
  refine g_aload_n dX9_sideOf_0 rfl ?_
  refine q_getq dX9_sideOf_1 f_R_7 ck_84 (by decide) ty_8_0 rf_84_0 ?_
  refine g_iconst dX9_sideOf_4 ic_4 ?_
  refine q_iald dX9_sideOf_5 ck_85 (ixD_nI (by omega) (by decide)) ?_
  refine g_top hW.big.2.2 ?_
  refine g_i2f dX9_sideOf_6 ?_
  refine g_ldcf dX9_sideOf_7 c_R_54 ?_
  refine g_fdiv dX9_sideOf_9 (fl_ten hW.big.1 hW.big.2.1) ?_
  refine g_fstore_n dX9_sideOf_10 rfl ?_
  refine g_aload_n dX9_sideOf_11 rfl ?_
  refine q_getq dX9_sideOf_12 f_R_7 ck_84 (by decide) ty_8_0 rf_84_0 ?_
  refine g_iconst dX9_sideOf_15 ic_5 ?_
  refine q_iald dX9_sideOf_16 ck_85 (ixD_nI (by omega) (by decide)) ?_
  refine g_top hW.rat.2.2 ?_
  refine g_i2f dX9_sideOf_17 ?_
  refine g_ldcf dX9_sideOf_18 c_R_54 ?_
  refine g_fdiv dX9_sideOf_20 (fl_ten hW.rat.1 (by have := hW.rat.2.1; omega)) ?_
  refine g_fstore_n dX9_sideOf_21 rfl ?_
  refine g_iconst dX9_sideOf_22 ic_1 ?_
  refine g_istore dX9_sideOf_23 rfl ?_
  have H25 : ∀ (N : Nat) (k : Nat) (s : UInt32), 1 ≤ k → k ≤ r → s = sdF (FP.fdiv (FP.i2f (nI (bigN (σ 85)))) tenF) (FP.fdiv (FP.i2f (nI (ratN (σ 85)))) tenF) (k - 1) → r - k < N → G sc KR_sideOf 25 (aL [some (.ref 84), some (.int (nI r)), some (.float s), some (.float (FP.fdiv (FP.i2f (nI (ratN (σ 85)))) tenF)), some (.int (nI k))]) [] (HH σ δ) (0, 0) R := by
    intro N
    induction N with
    | zero => intro k s h1 h2 hs hN25; exact absurd hN25 (Nat.not_lt_zero _)
    | succ N ih25 =>
      intro k s h1 h2 hs hN25
      refine g_iload dX9_sideOf_25 rfl ?_
      refine g_iload_n dX9_sideOf_27 rfl ?_
      refine n_icmp_ge (tgt := 41) (by omega) (by omega) dX9_sideOf_28 rfl (fun zc28 => ?_) (fun zc28 => ?_)
      · refine g_fload_n dX9_sideOf_41 rfl ?_
        exact g_fret (S := []) dX9_sideOf_42 rfl (by rw [← hRz]; exact ⟨congrArg (fun zz => some (Value.float zz)) (show _ = _ by rw [hs, show k = r by omega]; rfl), by rfl⟩) (Nat.zero_le _) (Nat.zero_le _)
      · refine g_fload_n dX9_sideOf_31 rfl ?_
        refine g_fload_n dX9_sideOf_32 rfl ?_
        refine g_fdiv dX9_sideOf_33 (by rw [hs]; exact fl_side hb.1 hb.2.1 hq.1 hq.2.1 (k - 1)) ?_
        refine g_fstore_n dX9_sideOf_34 rfl ?_
        refine n_iinc (b := 1) dX9_sideOf_35 rfl rfl rfl ?_
        refine g_goto (tgt := 25) dX9_sideOf_38 rfl ?_
        exact g_can _ (by exact ⟨rfl, rfl, rfl, rfl, rfl, trivial⟩) (ih25 (k + 1) _ (by omega) (by omega) (by rw [hs, show k + 1 - 1 = (k - 1) + 1 by omega]; rfl) (by omega))
  exact g_can _ (by exact ⟨rfl, rfl, rfl, rfl, rfl, trivial⟩) (H25 _ 1 _ (by omega) (by omega) rfl (Nat.lt_succ_self _))
set_option maxRecDepth 100000 in
theorem c_KR_high {σ : SI} {δ : SD} {n : Nat} (hW : WF (σ 85) n) {k : Nat} (hk : k < n) : E KR_high [.ref 84, .int (nI k)] (HH σ δ) (some (.int (highF (σ 85) k))) (HH σ δ) := by
  have h8 := hW.n8
  have h1 := hW.it1 hk
  refine E.ofL [some (.ref 84), some (.int (nI k))] rfl pn_RX9 rfl (fun sc => ?_)
  refine g_aload_n dX9_high_0 rfl ?_
  refine g_aload_n dX9_high_1 rfl ?_
  refine g_iload_n dX9_high_2 rfl ?_
  refine g_iconst dX9_high_3 ic_1 ?_
  refine g_v2 (M' := KR_its) dX9_high_4 l_R_50 v_KR_its (c_KR_its (by omega) (by omega)) rc_84 rfl rfl ⟨rfl, rfl⟩ ?_
  refine g_top h1.2.2 ?_
  refine g_v1 (M' := KR_sideOf) dX9_high_7 l_R_56 v_KR_sideOf (c_KR_sideOf hW (by omega) (by omega)) rc_84 rfl rfl ⟨rfl, rfl⟩ ?_
  refine g_s1 (M' := KR_cut) dX9_high_10 l_R_60 s_KR_cut (c_KR_cut (fl_half hW.big.1 hW.big.2.1 hW.rat.1 hW.rat.2.1)) rfl rfl ⟨rfl, rfl⟩ ?_
  exact e_iret dX9_high_13 rfl (by rfl) (by rfl)
set_option maxRecDepth 100000 in
theorem c_KR_wide {σ : SI} {δ : SD} {n : Nat} (hW : WF (σ 85) n) {k : Nat} (hk : k < n) : E KR_wide [.ref 84, .int (nI k)] (HH σ δ) (some (.int (wideF (σ 85) k))) (HH σ δ) := by
  have h8 := hW.n8
  have h0 := hW.it0 hk
  have h1 := hW.it1 hk
  have h2 := hW.it2 hk
  have h3 := hW.it3 hk
  refine E.ofL [some (.ref 84), some (.int (nI k))] rfl pn_RX9 rfl (fun sc => ?_)
  refine g_aload_n dX9_wide_0 rfl ?_
  refine g_aload_n dX9_wide_1 rfl ?_
  refine g_iload_n dX9_wide_2 rfl ?_
  refine g_iconst dX9_wide_3 ic_1 ?_
  refine g_v2 (M' := KR_its) dX9_wide_4 l_R_50 v_KR_its (c_KR_its (by omega) (by omega)) rc_84 rfl rfl ⟨rfl, rfl⟩ ?_
  refine g_top h1.2.2 ?_
  refine g_v1 (M' := KR_sideOf) dX9_wide_7 l_R_56 v_KR_sideOf (c_KR_sideOf hW (by omega) (by omega)) rc_84 rfl rfl ⟨rfl, rfl⟩ ?_
  refine g_aload_n dX9_wide_10 rfl ?_
  refine g_iload_n dX9_wide_11 rfl ?_
  refine g_iconst dX9_wide_12 ic_2 ?_
  refine g_v2 (M' := KR_its) dX9_wide_13 l_R_50 v_KR_its (c_KR_its (by omega) (by omega)) rc_84 rfl rfl ⟨rfl, rfl⟩ ?_
  refine g_top h2.2.2 ?_
  refine g_i2f dX9_wide_16 ?_
  refine g_fmul dX9_wide_17 (fl_mul hW.big.1 hW.big.2.1 hW.rat.1 hW.rat.2.1 h2.1 h2.2.1) ?_
  refine g_fstore_n dX9_wide_18 rfl ?_
  refine g_aload_n dX9_wide_19 rfl ?_
  refine g_iload_n dX9_wide_20 rfl ?_
  refine g_iconst dX9_wide_21 ic_0 ?_
  refine g_v2 (M' := KR_its) dX9_wide_22 l_R_50 v_KR_its (c_KR_its (by omega) (by omega)) rc_84 rfl rfl ⟨rfl, rfl⟩ ?_
  refine g_top h0.2.2 ?_
  refine g_iconst dX9_wide_25 ic_1 ?_
  refine n_icmp_ne (tgt := 39) (by omega) (by omega) dX9_wide_26 rfl (fun zc26 => ?_) (fun zc26 => ?_)
  · refine g_fload_n dX9_wide_39 rfl ?_
    refine g_s1 (M' := KR_cut) dX9_wide_40 l_R_60 s_KR_cut (c_KR_cut (by have := fl_halfW (so := itN (σ 85) k 0) (r := itN (σ 85) k 1) hW.big.1 hW.big.2.1 hW.rat.1 hW.rat.2.1 h2.1 h2.2.1 h3.1 h3.2.1; simp only [zc26, if_true, if_false] at this; exact this)) rfl rfl ⟨rfl, rfl⟩ ?_
    exact e_iret dX9_wide_43 rfl (by simp only [wideF, wideN, zc26, if_true, if_false]; rfl) (by rfl)
  · refine g_fload_n dX9_wide_29 rfl ?_
    refine g_aload_n dX9_wide_30 rfl ?_
    refine g_iload_n dX9_wide_31 rfl ?_
    refine g_iconst dX9_wide_32 ic_3 ?_
    refine g_v2 (M' := KR_its) dX9_wide_33 l_R_50 v_KR_its (c_KR_its (by omega) (by omega)) rc_84 rfl rfl ⟨rfl, rfl⟩ ?_
    refine g_top h3.2.2 ?_
    refine g_i2f dX9_wide_36 ?_
    refine g_fdiv dX9_wide_37 (fl_div hW.big.1 hW.big.2.1 hW.rat.1 hW.rat.2.1 h2.1 h2.2.1 h3.1 h3.2.1) ?_
    refine g_fstore_n dX9_wide_38 rfl ?_
    refine g_fload_n dX9_wide_39 rfl ?_
    refine g_s1 (M' := KR_cut) dX9_wide_40 l_R_60 s_KR_cut (c_KR_cut (by have := fl_halfW (so := itN (σ 85) k 0) (r := itN (σ 85) k 1) hW.big.1 hW.big.2.1 hW.rat.1 hW.rat.2.1 h2.1 h2.2.1 h3.1 h3.2.1; simp only [zc26, if_true, if_false] at this; exact this)) rfl rfl ⟨rfl, rfl⟩ ?_
    exact e_iret dX9_wide_43 rfl (by simp only [wideF, wideN, zc26, if_true, if_false]; rfl) (by rfl)
set_option maxRecDepth 100000 in
theorem c_KR_weight {σ : SI} {δ : SD} {n : Nat} (hW : WF (σ 85) n) {k : Nat} (hk : k < n) : E KR_weight [.ref 84, .int (nI k)] (HH σ δ) (some (.int (wgtF (σ 85) k))) (HH σ δ) := by
  have h8 := hW.n8
  refine E.ofL [some (.ref 84), some (.int (nI k))] rfl pn_RX9 rfl (fun sc => ?_)
  refine g_aload_n dX9_weight_0 rfl ?_
  refine g_iload_n dX9_weight_1 rfl ?_
  refine g_v1 (M' := KR_wide) dX9_weight_2 l_R_64 v_KR_wide (c_KR_wide hW (by omega)) rc_84 rfl rfl ⟨rfl, rfl⟩ ?_
  refine g_aload_n dX9_weight_5 rfl ?_
  refine g_iload_n dX9_weight_6 rfl ?_
  refine g_v1 (M' := KR_high) dX9_weight_7 l_R_68 v_KR_high (c_KR_high hW (by omega)) rc_84 rfl rfl ⟨rfl, rfl⟩ ?_
  refine g_imul dX9_weight_10 ?_
  refine g_bipush dX9_weight_11 bp_7 ?_
  refine g_aload_n dX9_weight_13 rfl ?_
  refine g_iload_n dX9_weight_14 rfl ?_
  refine g_iconst dX9_weight_15 ic_1 ?_
  refine g_v2 (M' := KR_its) dX9_weight_16 l_R_50 v_KR_its (c_KR_its (by omega) (by omega)) rc_84 rfl rfl ⟨rfl, rfl⟩ ?_
  refine g_isub dX9_weight_19 ?_
  refine g_imul dX9_weight_20 ?_
  exact e_iret dX9_weight_21 rfl (by rfl) (by rfl)
set_option maxRecDepth 100000 in
theorem c_KR_lineAt {σ : SI} {δ : SD} {n : Nat} (hW : WF (σ 85) n) {k : Nat} (hk : k < colN (σ 85)) : E KR_lineAt [.ref 84, .int (nI k)] (HH σ δ) (some (.int (lineF (σ 85) k))) (HH σ δ) := by
  refine E.ofL [some (.ref 84), some (.int (nI k))] rfl pn_RX9 rfl (fun sc => ?_)
  refine g_iload_n dX9_lineAt_0 rfl ?_
  refine g_aload_n dX9_lineAt_1 rfl ?_
  refine q_getq dX9_lineAt_2 f_R_7 ck_84 (by decide) ty_8_0 rf_84_0 ?_
  refine g_iconst dX9_lineAt_5 ic_0 ?_
  refine q_iald dX9_lineAt_6 ck_85 (ixD_nI (by omega) (by decide)) ?_
  refine g_iconst dX9_lineAt_7 ic_2 ?_
  refine g_aload_n dX9_lineAt_8 rfl ?_
  refine q_getq dX9_lineAt_9 f_R_7 ck_84 (by decide) ty_8_0 rf_84_0 ?_
  refine g_iconst dX9_lineAt_12 ic_2 ?_
  refine q_iald dX9_lineAt_13 ck_85 (ixD_nI (by omega) (by decide)) ?_
  refine g_imul dX9_lineAt_14 ?_
  refine g_isub dX9_lineAt_15 ?_
  refine g_imul dX9_lineAt_16 ?_
  refine g_i2f dX9_lineAt_17 ?_
  refine g_aload_n dX9_lineAt_18 rfl ?_
  refine q_getq dX9_lineAt_19 f_R_7 ck_84 (by decide) ty_8_0 rf_84_0 ?_
  refine g_bipush dX9_lineAt_22 bp_6 ?_
  refine q_iald dX9_lineAt_24 ck_85 (ixD_nI (by omega) (by decide)) ?_
  refine g_i2f dX9_lineAt_25 ?_
  refine g_fdiv dX9_lineAt_26 (fl_lineA hW hk) ?_
  refine g_fstore_n dX9_lineAt_27 rfl ?_
  refine g_aload_n dX9_lineAt_28 rfl ?_
  refine q_getq dX9_lineAt_29 f_R_7 ck_84 (by decide) ty_8_0 rf_84_0 ?_
  refine g_iconst dX9_lineAt_32 ic_2 ?_
  refine q_iald dX9_lineAt_33 ck_85 (ixD_nI (by omega) (by decide)) ?_
  refine g_fload_n dX9_lineAt_34 rfl ?_
  refine g_f2i dX9_lineAt_35 ?_
  refine g_iadd dX9_lineAt_36 ?_
  exact e_iret dX9_lineAt_37 rfl (by rfl) (by rfl)
set_option maxRecDepth 100000 in
theorem c_KR_isLine {σ : SI} {δ : SD} {n : Nat} (hW : WF (σ 85) n) {x : Int32} : E KR_isLine [.ref 84, .int x] (HH σ δ) (some (.int (bI (isLineA (σ 85) x)))) (HH σ δ) := by
  have hc := hW.col
  refine E.ofL [some (.ref 84), some (.int x)] rfl pn_RX9 rfl (fun sc => ?_)
  generalize hRz : (fun (zr : Option Value) (zk : XH) => zr = some (.int (bI (isLineA (σ 85) x))) ∧ zk = HH σ δ) = R
  refine g_aload_n dX9_isLine_0 rfl ?_
  refine q_getq dX9_isLine_1 f_R_7 ck_84 (by decide) ty_8_0 rf_84_0 ?_
  refine g_bipush dX9_isLine_4 bp_6 ?_
  refine q_iald dX9_isLine_6 ck_85 (ixD_nI (by omega) (by decide)) ?_
  refine g_top hc.2.2 ?_
  refine n_if_ne (tgt := 14) (by omega) dX9_isLine_7 rfl (fun zc7 => ?_) (fun zc7 => ?_)
  · refine g_iconst dX9_isLine_14 ic_0 ?_
    refine g_istore_n dX9_isLine_15 rfl ?_
    refine g_iconst dX9_isLine_16 ic_0 ?_
    refine g_istore_n dX9_isLine_17 rfl ?_
    have H18 : ∀ (N : Nat) (k : Nat) (b : Bool), k ≤ colN (σ 85) → b = (decide (colN (σ 85) = 0) || anyN (fun k => decide (lineF (σ 85) k = x)) k) → colN (σ 85) - k < N → G sc KR_isLine 18 (aL [some (.ref 84), some (.int x), some (.int (bI b)), some (.int (nI k))]) [] (HH σ δ) (0, 0) R := by
      intro N
      induction N with
      | zero => intro k b h1 hb hN18; exact absurd hN18 (Nat.not_lt_zero _)
      | succ N ih18 =>
        intro k b h1 hb hN18
        refine g_iload_n dX9_isLine_18 rfl ?_
        refine g_aload_n dX9_isLine_19 rfl ?_
        refine q_getq dX9_isLine_20 f_R_7 ck_84 (by decide) ty_8_0 rf_84_0 ?_
        refine g_bipush dX9_isLine_23 bp_6 ?_
        refine q_iald dX9_isLine_25 ck_85 (ixD_nI (by omega) (by decide)) ?_
        refine g_top hc.2.2 ?_
        refine n_icmp_ge (tgt := 54) (by omega) (by omega) dX9_isLine_26 rfl (fun zc26 => ?_) (fun zc26 => ?_)
        · refine g_iload_n dX9_isLine_54 rfl ?_
          exact g_zret (S := []) dX9_isLine_55 rfl (bI_01 _) (by rw [← hRz]; exact ⟨congrArg (fun zz => some (Value.int (bI zz))) (show _ = _ by rw [hb, show k = colN (σ 85) by omega]; rfl), by rfl⟩) (Nat.zero_le _) (Nat.zero_le _)
        · refine g_iload_n dX9_isLine_29 rfl ?_
          refine b_if_ne (tgt := 42) dX9_isLine_30 rfl (fun zc30 => ?_) (fun zc30 => ?_)
          · refine g_iconst dX9_isLine_42 ic_1 ?_
            refine g_goto (tgt := 47) dX9_isLine_43 rfl ?_
            refine g_istore_n dX9_isLine_47 rfl ?_
            refine n_iinc (b := 1) dX9_isLine_48 rfl rfl rfl ?_
            refine g_goto (tgt := 18) dX9_isLine_51 rfl ?_
            exact g_can _ (by exact ⟨rfl, rfl, rfl, rfl, trivial⟩) (ih18 (k + 1) true (by omega) (by rw [anyN, ← Bool.or_assoc, ← hb]; clear hb ih18; simp [*]) (by omega))
          · refine g_aload_n dX9_isLine_33 rfl ?_
            refine g_iload_n dX9_isLine_34 rfl ?_
            refine g_v1 (M' := KR_lineAt) dX9_isLine_35 l_R_71 v_KR_lineAt (c_KR_lineAt hW (by omega)) rc_84 rfl rfl ⟨rfl, rfl⟩ ?_
            refine g_iload_n dX9_isLine_38 rfl ?_
            refine g_icmp_ne (tgt := 46) dX9_isLine_39 rfl (fun zc39 => ?_) (fun zc39 => ?_)
            · refine g_iconst dX9_isLine_46 ic_0 ?_
              refine g_istore_n dX9_isLine_47 rfl ?_
              refine n_iinc (b := 1) dX9_isLine_48 rfl rfl rfl ?_
              refine g_goto (tgt := 18) dX9_isLine_51 rfl ?_
              exact g_can _ (by exact ⟨rfl, rfl, rfl, rfl, trivial⟩) (ih18 (k + 1) false (by omega) (by rw [anyN, ← Bool.or_assoc, ← hb]; clear hb ih18; simp [*]) (by omega))
            · refine g_iconst dX9_isLine_42 ic_1 ?_
              refine g_goto (tgt := 47) dX9_isLine_43 rfl ?_
              refine g_istore_n dX9_isLine_47 rfl ?_
              refine n_iinc (b := 1) dX9_isLine_48 rfl rfl rfl ?_
              refine g_goto (tgt := 18) dX9_isLine_51 rfl ?_
              exact g_can _ (by exact ⟨rfl, rfl, rfl, rfl, trivial⟩) (ih18 (k + 1) true (by omega) (by rw [anyN, ← Bool.or_assoc, ← hb]; clear hb ih18; simp [*]) (by omega))
    exact g_can _ (by exact ⟨rfl, rfl, rfl, rfl, trivial⟩) (H18 _ 0 false (by omega) (by simp [anyN, zc7]) (Nat.lt_succ_self _))
  · refine g_iconst dX9_isLine_10 ic_1 ?_
    refine g_goto (tgt := 15) dX9_isLine_11 rfl ?_
    refine g_istore_n dX9_isLine_15 rfl ?_
    refine g_iconst dX9_isLine_16 ic_0 ?_
    refine g_istore_n dX9_isLine_17 rfl ?_
    have H18 : ∀ (N : Nat) (k : Nat) (b : Bool), k ≤ colN (σ 85) → b = (decide (colN (σ 85) = 0) || anyN (fun k => decide (lineF (σ 85) k = x)) k) → colN (σ 85) - k < N → G sc KR_isLine 18 (aL [some (.ref 84), some (.int x), some (.int (bI b)), some (.int (nI k))]) [] (HH σ δ) (0, 0) R := by
      intro N
      induction N with
      | zero => intro k b h1 hb hN18; exact absurd hN18 (Nat.not_lt_zero _)
      | succ N ih18 =>
        intro k b h1 hb hN18
        refine g_iload_n dX9_isLine_18 rfl ?_
        refine g_aload_n dX9_isLine_19 rfl ?_
        refine q_getq dX9_isLine_20 f_R_7 ck_84 (by decide) ty_8_0 rf_84_0 ?_
        refine g_bipush dX9_isLine_23 bp_6 ?_
        refine q_iald dX9_isLine_25 ck_85 (ixD_nI (by omega) (by decide)) ?_
        refine g_top hc.2.2 ?_
        refine n_icmp_ge (tgt := 54) (by omega) (by omega) dX9_isLine_26 rfl (fun zc26 => ?_) (fun zc26 => ?_)
        · refine g_iload_n dX9_isLine_54 rfl ?_
          exact g_zret (S := []) dX9_isLine_55 rfl (bI_01 _) (by rw [← hRz]; exact ⟨congrArg (fun zz => some (Value.int (bI zz))) (show _ = _ by rw [hb, show k = colN (σ 85) by omega]; rfl), by rfl⟩) (Nat.zero_le _) (Nat.zero_le _)
        · refine g_iload_n dX9_isLine_29 rfl ?_
          refine b_if_ne (tgt := 42) dX9_isLine_30 rfl (fun zc30 => ?_) (fun zc30 => ?_)
          · refine g_iconst dX9_isLine_42 ic_1 ?_
            refine g_goto (tgt := 47) dX9_isLine_43 rfl ?_
            refine g_istore_n dX9_isLine_47 rfl ?_
            refine n_iinc (b := 1) dX9_isLine_48 rfl rfl rfl ?_
            refine g_goto (tgt := 18) dX9_isLine_51 rfl ?_
            exact g_can _ (by exact ⟨rfl, rfl, rfl, rfl, trivial⟩) (ih18 (k + 1) true (by omega) (by rw [anyN, ← Bool.or_assoc, ← hb]; clear hb ih18; simp [*]) (by omega))
          · refine g_aload_n dX9_isLine_33 rfl ?_
            refine g_iload_n dX9_isLine_34 rfl ?_
            refine g_v1 (M' := KR_lineAt) dX9_isLine_35 l_R_71 v_KR_lineAt (c_KR_lineAt hW (by omega)) rc_84 rfl rfl ⟨rfl, rfl⟩ ?_
            refine g_iload_n dX9_isLine_38 rfl ?_
            refine g_icmp_ne (tgt := 46) dX9_isLine_39 rfl (fun zc39 => ?_) (fun zc39 => ?_)
            · refine g_iconst dX9_isLine_46 ic_0 ?_
              refine g_istore_n dX9_isLine_47 rfl ?_
              refine n_iinc (b := 1) dX9_isLine_48 rfl rfl rfl ?_
              refine g_goto (tgt := 18) dX9_isLine_51 rfl ?_
              exact g_can _ (by exact ⟨rfl, rfl, rfl, rfl, trivial⟩) (ih18 (k + 1) false (by omega) (by rw [anyN, ← Bool.or_assoc, ← hb]; clear hb ih18; simp [*]) (by omega))
            · refine g_iconst dX9_isLine_42 ic_1 ?_
              refine g_goto (tgt := 47) dX9_isLine_43 rfl ?_
              refine g_istore_n dX9_isLine_47 rfl ?_
              refine n_iinc (b := 1) dX9_isLine_48 rfl rfl rfl ?_
              refine g_goto (tgt := 18) dX9_isLine_51 rfl ?_
              exact g_can _ (by exact ⟨rfl, rfl, rfl, rfl, trivial⟩) (ih18 (k + 1) true (by omega) (by rw [anyN, ← Bool.or_assoc, ← hb]; clear hb ih18; simp [*]) (by omega))
    exact g_can _ (by exact ⟨rfl, rfl, rfl, rfl, trivial⟩) (H18 _ 0 true (by omega) (by simp [anyN, zc7]) (Nat.lt_succ_self _))
set_option maxRecDepth 100000 in
theorem c_KR_isWithin {σ : SI} {δ : SD} {n : Nat} (hW : WF (σ 85) n) {k : Nat} (hk : k < n) {x y : Int32} : E KR_isWithin [.ref 84, .int (nI k), .int x, .int y] (HH σ δ) (some (.int (bI (withinA (σ 85) k x y)))) (HH σ δ) := by
  have h8 := hW.n8
  refine E.ofL [some (.ref 84), some (.int (nI k)), some (.int x), some (.int y)] rfl pn_RX9 rfl (fun sc => ?_)
  refine g_aload_n dX9_isWithin_0 rfl ?_
  refine q_getq dX9_isWithin_1 f_R_7 ck_84 (by decide) ty_8_0 rf_84_0 ?_
  refine g_iconst dX9_isWithin_4 ic_2 ?_
  refine q_iald dX9_isWithin_5 ck_85 (ixD_nI (by omega) (by decide)) ?_
  refine g_istore dX9_isWithin_6 rfl ?_
  refine g_iload_n dX9_isWithin_8 rfl ?_
  refine g_iload dX9_isWithin_9 rfl ?_
  refine g_icmp_lt (tgt := 70) dX9_isWithin_11 rfl (fun zc11 => ?_) (fun zc11 => ?_)
  · refine g_iconst dX9_isWithin_70 ic_0 ?_
    exact e_z0 dX9_isWithin_71 rfl (by simp [withinA, Int32.le_iff_toInt_le, Int32.lt_iff_toInt_lt] at *; first | omega | (simp [*]; omega) | simp [*]) (by rfl)
  · refine g_iload_n dX9_isWithin_14 rfl ?_
    refine g_iload dX9_isWithin_15 rfl ?_
    refine g_icmp_lt (tgt := 70) dX9_isWithin_17 rfl (fun zc17 => ?_) (fun zc17 => ?_)
    · refine g_iconst dX9_isWithin_70 ic_0 ?_
      exact e_z0 dX9_isWithin_71 rfl (by simp [withinA, Int32.le_iff_toInt_le, Int32.lt_iff_toInt_lt] at *; first | omega | (simp [*]; omega) | simp [*]) (by rfl)
    · refine g_iload_n dX9_isWithin_20 rfl ?_
      refine g_aload_n dX9_isWithin_21 rfl ?_
      refine g_iload_n dX9_isWithin_22 rfl ?_
      refine g_v1 (M' := KR_wide) dX9_isWithin_23 l_R_64 v_KR_wide (c_KR_wide hW (by omega)) rc_84 rfl rfl ⟨rfl, rfl⟩ ?_
      refine g_iadd dX9_isWithin_26 ?_
      refine g_aload_n dX9_isWithin_27 rfl ?_
      refine q_getq dX9_isWithin_28 f_R_7 ck_84 (by decide) ty_8_0 rf_84_0 ?_
      refine g_iconst dX9_isWithin_31 ic_0 ?_
      refine q_iald dX9_isWithin_32 ck_85 (ixD_nI (by omega) (by decide)) ?_
      refine g_iload dX9_isWithin_33 rfl ?_
      refine g_isub dX9_isWithin_35 ?_
      refine g_icmp_gt (tgt := 70) dX9_isWithin_36 rfl (fun zc36 => ?_) (fun zc36 => ?_)
      · refine g_iconst dX9_isWithin_70 ic_0 ?_
        exact e_z0 dX9_isWithin_71 rfl (by simp [withinA, Int32.le_iff_toInt_le, Int32.lt_iff_toInt_lt] at *; first | omega | (simp [*]; omega) | simp [*]) (by rfl)
      · refine g_iload_n dX9_isWithin_39 rfl ?_
        refine g_aload_n dX9_isWithin_40 rfl ?_
        refine g_iload_n dX9_isWithin_41 rfl ?_
        refine g_v1 (M' := KR_high) dX9_isWithin_42 l_R_68 v_KR_high (c_KR_high hW (by omega)) rc_84 rfl rfl ⟨rfl, rfl⟩ ?_
        refine g_iadd dX9_isWithin_45 ?_
        refine g_aload_n dX9_isWithin_46 rfl ?_
        refine q_getq dX9_isWithin_47 f_R_7 ck_84 (by decide) ty_8_0 rf_84_0 ?_
        refine g_iconst dX9_isWithin_50 ic_1 ?_
        refine q_iald dX9_isWithin_51 ck_85 (ixD_nI (by omega) (by decide)) ?_
        refine g_iload dX9_isWithin_52 rfl ?_
        refine g_isub dX9_isWithin_54 ?_
        refine g_icmp_gt (tgt := 70) dX9_isWithin_55 rfl (fun zc55 => ?_) (fun zc55 => ?_)
        · refine g_iconst dX9_isWithin_70 ic_0 ?_
          exact e_z0 dX9_isWithin_71 rfl (by simp [withinA, Int32.le_iff_toInt_le, Int32.lt_iff_toInt_lt] at *; first | omega | (simp [*]; omega) | simp [*]) (by rfl)
        · refine g_aload_n dX9_isWithin_58 rfl ?_
          refine g_iload_n dX9_isWithin_59 rfl ?_
          refine g_v1 (M' := KR_isLine) dX9_isWithin_60 l_R_74 v_KR_isLine (c_KR_isLine hW) rc_84 rfl rfl ⟨rfl, rfl⟩ ?_
          refine b_if_eq (tgt := 70) dX9_isWithin_63 rfl (fun zc63 => ?_) (fun zc63 => ?_)
          · refine g_iconst dX9_isWithin_70 ic_0 ?_
            exact e_z0 dX9_isWithin_71 rfl (by simp [withinA, Int32.le_iff_toInt_le, Int32.lt_iff_toInt_lt] at *; first | omega | (simp [*]; omega) | simp [*]) (by rfl)
          · refine g_iconst dX9_isWithin_66 ic_1 ?_
            refine g_goto (tgt := 71) dX9_isWithin_67 rfl ?_
            exact e_z1 dX9_isWithin_71 rfl (by simp [withinA, Int32.le_iff_toInt_le, Int32.lt_iff_toInt_lt] at *; first | omega | (simp [*]; omega) | simp [*]) (by rfl)
set_option maxRecDepth 100000 in
theorem c_KR_isApart {σ : SI} {δ : SD} {n : Nat} (hW : WF (σ 85) n) {k : Nat} (hk : k < n) {o : Nat} (ho : o < n) {x y : Int32} : E KR_isApart [.ref 84, .int (nI k), .int x, .int y, .int (nI o)] (HH σ δ) (some (.int (bI (apartA (σ 85) k x y o)))) (HH σ δ) := by
  have h8 := hW.n8
  refine E.ofL [some (.ref 84), some (.int (nI k)), some (.int x), some (.int y), some (.int (nI o))] rfl pn_RX9 rfl (fun sc => ?_)
  refine g_aload_n dX9_isApart_0 rfl ?_
  refine q_getq dX9_isApart_1 f_R_7 ck_84 (by decide) ty_8_0 rf_84_0 ?_
  refine g_iconst dX9_isApart_4 ic_3 ?_
  refine q_iald dX9_isApart_5 ck_85 (ixD_nI (by omega) (by decide)) ?_
  refine g_istore dX9_isApart_6 rfl ?_
  refine g_aload_n dX9_isApart_8 rfl ?_
  refine g_iload dX9_isApart_9 rfl ?_
  refine g_iconst dX9_isApart_11 ic_4 ?_
  refine g_v2 (M' := KR_its) dX9_isApart_12 l_R_50 v_KR_its (c_KR_its (by omega) (by omega)) rc_84 rfl rfl ⟨rfl, rfl⟩ ?_
  refine g_istore dX9_isApart_15 rfl ?_
  refine g_aload_n dX9_isApart_17 rfl ?_
  refine g_iload dX9_isApart_18 rfl ?_
  refine g_iconst dX9_isApart_20 ic_5 ?_
  refine g_v2 (M' := KR_its) dX9_isApart_21 l_R_50 v_KR_its (c_KR_its (by omega) (by omega)) rc_84 rfl rfl ⟨rfl, rfl⟩ ?_
  refine g_istore dX9_isApart_24 rfl ?_
  refine g_iload_n dX9_isApart_26 rfl ?_
  refine g_aload_n dX9_isApart_27 rfl ?_
  refine g_iload_n dX9_isApart_28 rfl ?_
  refine g_v1 (M' := KR_wide) dX9_isApart_29 l_R_64 v_KR_wide (c_KR_wide hW (by omega)) rc_84 rfl rfl ⟨rfl, rfl⟩ ?_
  refine g_iadd dX9_isApart_32 ?_
  refine g_iload dX9_isApart_33 rfl ?_
  refine g_iadd dX9_isApart_35 ?_
  refine g_iload dX9_isApart_36 rfl ?_
  refine g_icmp_le (tgt := 88) dX9_isApart_38 rfl (fun zc38 => ?_) (fun zc38 => ?_)
  · refine g_iconst dX9_isApart_88 ic_1 ?_
    refine g_goto (tgt := 93) dX9_isApart_89 rfl ?_
    exact e_z1 dX9_isApart_93 rfl (by simp [apartA, Int32.le_iff_toInt_le, Int32.lt_iff_toInt_lt] at *; first | omega | (simp [*]; omega) | simp [*]) (by rfl)
  · refine g_iload dX9_isApart_41 rfl ?_
    refine g_aload_n dX9_isApart_43 rfl ?_
    refine g_iload dX9_isApart_44 rfl ?_
    refine g_v1 (M' := KR_wide) dX9_isApart_46 l_R_64 v_KR_wide (c_KR_wide hW (by omega)) rc_84 rfl rfl ⟨rfl, rfl⟩ ?_
    refine g_iadd dX9_isApart_49 ?_
    refine g_iload dX9_isApart_50 rfl ?_
    refine g_iadd dX9_isApart_52 ?_
    refine g_iload_n dX9_isApart_53 rfl ?_
    refine g_icmp_le (tgt := 88) dX9_isApart_54 rfl (fun zc54 => ?_) (fun zc54 => ?_)
    · refine g_iconst dX9_isApart_88 ic_1 ?_
      refine g_goto (tgt := 93) dX9_isApart_89 rfl ?_
      exact e_z1 dX9_isApart_93 rfl (by simp [apartA, Int32.le_iff_toInt_le, Int32.lt_iff_toInt_lt] at *; first | omega | (simp [*]; omega) | simp [*]) (by rfl)
    · refine g_iload_n dX9_isApart_57 rfl ?_
      refine g_aload_n dX9_isApart_58 rfl ?_
      refine g_iload_n dX9_isApart_59 rfl ?_
      refine g_v1 (M' := KR_high) dX9_isApart_60 l_R_68 v_KR_high (c_KR_high hW (by omega)) rc_84 rfl rfl ⟨rfl, rfl⟩ ?_
      refine g_iadd dX9_isApart_63 ?_
      refine g_iload dX9_isApart_64 rfl ?_
      refine g_iadd dX9_isApart_66 ?_
      refine g_iload dX9_isApart_67 rfl ?_
      refine g_icmp_le (tgt := 88) dX9_isApart_69 rfl (fun zc69 => ?_) (fun zc69 => ?_)
      · refine g_iconst dX9_isApart_88 ic_1 ?_
        refine g_goto (tgt := 93) dX9_isApart_89 rfl ?_
        exact e_z1 dX9_isApart_93 rfl (by simp [apartA, Int32.le_iff_toInt_le, Int32.lt_iff_toInt_lt] at *; first | omega | (simp [*]; omega) | simp [*]) (by rfl)
      · refine g_iload dX9_isApart_72 rfl ?_
        refine g_aload_n dX9_isApart_74 rfl ?_
        refine g_iload dX9_isApart_75 rfl ?_
        refine g_v1 (M' := KR_high) dX9_isApart_77 l_R_68 v_KR_high (c_KR_high hW (by omega)) rc_84 rfl rfl ⟨rfl, rfl⟩ ?_
        refine g_iadd dX9_isApart_80 ?_
        refine g_iload dX9_isApart_81 rfl ?_
        refine g_iadd dX9_isApart_83 ?_
        refine g_iload_n dX9_isApart_84 rfl ?_
        refine g_icmp_gt (tgt := 92) dX9_isApart_85 rfl (fun zc85 => ?_) (fun zc85 => ?_)
        · refine g_iconst dX9_isApart_92 ic_0 ?_
          exact e_z0 dX9_isApart_93 rfl (by simp [apartA, Int32.le_iff_toInt_le, Int32.lt_iff_toInt_lt] at *; first | omega | (simp [*]; omega) | simp [*]) (by rfl)
        · refine g_iconst dX9_isApart_88 ic_1 ?_
          refine g_goto (tgt := 93) dX9_isApart_89 rfl ?_
          exact e_z1 dX9_isApart_93 rfl (by simp [apartA, Int32.le_iff_toInt_le, Int32.lt_iff_toInt_lt] at *; first | omega | (simp [*]; omega) | simp [*]) (by rfl)
set_option maxRecDepth 100000 in
theorem c_KR_isFit {σ : SI} {δ : SD} {n : Nat} (hW : WF (σ 85) n) {k : Nat} (hk : k < n) {x y : Int32} : E KR_isFit [.ref 84, .int (nI k), .int x, .int y] (HH σ δ) (some (.int (bI (fitA (σ 85) n k x y)))) (HH σ δ) := by
  have h8 := hW.n8
  refine E.ofL [some (.ref 84), some (.int (nI k)), some (.int x), some (.int y)] rfl pn_RX9 rfl (fun sc => ?_)
  generalize hRz : (fun (zr : Option Value) (zk : XH) => zr = some (.int (bI (fitA (σ 85) n k x y))) ∧ zk = HH σ δ) = R
  refine g_aload_n dX9_isFit_0 rfl ?_
  refine g_iload_n dX9_isFit_1 rfl ?_
  refine g_iload_n dX9_isFit_2 rfl ?_
  refine g_iload_n dX9_isFit_3 rfl ?_
  refine g_v3 (M' := KR_isWithin) dX9_isFit_4 l_R_78 v_KR_isWithin (c_KR_isWithin hW (by omega)) rc_84 rfl rfl ⟨rfl, rfl⟩ ?_
  refine g_istore dX9_isFit_7 rfl ?_
  refine g_iconst dX9_isFit_9 ic_0 ?_
  refine g_istore dX9_isFit_10 rfl ?_
  have H12 : ∀ (N : Nat) (o : Nat) (b : Bool), o ≤ n → b = (withinA (σ 85) k x y && allN (fun o => decide (o = k) || !liesA (σ 85) o || apartA (σ 85) k x y o) o) → n - o < N → G sc KR_isFit 12 (aL [some (.ref 84), some (.int (nI k)), some (.int x), some (.int y), some (.int (bI b)), some (.int (nI o))]) [] (HH σ δ) (0, 0) R := by
    intro N
    induction N with
    | zero => intro o b h1 hb hN12; exact absurd hN12 (Nat.not_lt_zero _)
    | succ N ih12 =>
      intro o b h1 hb hN12
      refine g_iload dX9_isFit_12 rfl ?_
      refine g_aload_n dX9_isFit_14 rfl ?_
      refine g_v0 (M' := KR_many) dX9_isFit_15 l_R_42 v_KR_many c_KR_many rc_84 rfl rfl ⟨rfl, rfl⟩ ?_
      refine g_top hW.a7 ?_
      refine n_icmp_ge (tgt := 66) (by omega) (by omega) dX9_isFit_18 rfl (fun zc18 => ?_) (fun zc18 => ?_)
      · refine g_iload dX9_isFit_66 rfl ?_
        exact g_zret (S := []) dX9_isFit_68 rfl (bI_01 _) (by rw [← hRz]; exact ⟨congrArg (fun zz => some (Value.int (bI zz))) (show _ = _ by exact fit_stop hb h1 (by first | exact Or.inl (by assumption) | exact Or.inr (by omega))), by rfl⟩) (Nat.zero_le _) (Nat.zero_le _)
      · refine g_iload dX9_isFit_21 rfl ?_
        refine b_if_eq (tgt := 66) dX9_isFit_23 rfl (fun zc23 => ?_) (fun zc23 => ?_)
        · refine g_iload dX9_isFit_66 rfl ?_
          exact g_zret (S := []) dX9_isFit_68 rfl (bI_01 _) (by rw [← hRz]; exact ⟨congrArg (fun zz => some (Value.int (bI zz))) (show _ = _ by exact fit_stop hb h1 (by first | exact Or.inl (by assumption) | exact Or.inr (by omega))), by rfl⟩) (Nat.zero_le _) (Nat.zero_le _)
        · refine g_iload dX9_isFit_26 rfl ?_
          refine g_iload_n dX9_isFit_28 rfl ?_
          refine n_icmp_eq (tgt := 53) (by omega) (by omega) dX9_isFit_29 rfl (fun zc29 => ?_) (fun zc29 => ?_)
          · refine g_iconst dX9_isFit_53 ic_1 ?_
            refine g_goto (tgt := 58) dX9_isFit_54 rfl ?_
            refine g_istore dX9_isFit_58 rfl ?_
            refine n_iinc (b := 1) dX9_isFit_60 rfl rfl rfl ?_
            refine g_goto (tgt := 12) dX9_isFit_63 rfl ?_
            exact g_can _ (by exact ⟨rfl, rfl, rfl, rfl, rfl, rfl, trivial⟩) (ih12 (o + 1) true (by omega) (by rw [allN, ← Bool.and_assoc, ← hb]; clear hb ih12; simp [*]) (by omega))
          · refine g_aload_n dX9_isFit_32 rfl ?_
            refine g_iload dX9_isFit_33 rfl ?_
            refine g_v1 (M' := KR_lies) dX9_isFit_35 l_R_82 v_KR_lies (c_KR_lies (by omega)) rc_84 rfl rfl ⟨rfl, rfl⟩ ?_
            refine b_if_eq (tgt := 53) dX9_isFit_38 rfl (fun zc38 => ?_) (fun zc38 => ?_)
            · refine g_iconst dX9_isFit_53 ic_1 ?_
              refine g_goto (tgt := 58) dX9_isFit_54 rfl ?_
              refine g_istore dX9_isFit_58 rfl ?_
              refine n_iinc (b := 1) dX9_isFit_60 rfl rfl rfl ?_
              refine g_goto (tgt := 12) dX9_isFit_63 rfl ?_
              exact g_can _ (by exact ⟨rfl, rfl, rfl, rfl, rfl, rfl, trivial⟩) (ih12 (o + 1) true (by omega) (by rw [allN, ← Bool.and_assoc, ← hb]; clear hb ih12; simp [*]) (by omega))
            · refine g_aload_n dX9_isFit_41 rfl ?_
              refine g_iload_n dX9_isFit_42 rfl ?_
              refine g_iload_n dX9_isFit_43 rfl ?_
              refine g_iload_n dX9_isFit_44 rfl ?_
              refine g_iload dX9_isFit_45 rfl ?_
              refine g_v4 (M' := KR_isApart) dX9_isFit_47 l_R_85 v_KR_isApart (c_KR_isApart hW (by omega) (by omega)) rc_84 rfl rfl ⟨rfl, rfl⟩ ?_
              refine b_if_eq (tgt := 57) dX9_isFit_50 rfl (fun zc50 => ?_) (fun zc50 => ?_)
              · refine g_iconst dX9_isFit_57 ic_0 ?_
                refine g_istore dX9_isFit_58 rfl ?_
                refine n_iinc (b := 1) dX9_isFit_60 rfl rfl rfl ?_
                refine g_goto (tgt := 12) dX9_isFit_63 rfl ?_
                exact g_can _ (by exact ⟨rfl, rfl, rfl, rfl, rfl, rfl, trivial⟩) (ih12 (o + 1) false (by omega) (by rw [allN, ← Bool.and_assoc, ← hb]; clear hb ih12; simp [*]) (by omega))
              · refine g_iconst dX9_isFit_53 ic_1 ?_
                refine g_goto (tgt := 58) dX9_isFit_54 rfl ?_
                refine g_istore dX9_isFit_58 rfl ?_
                refine n_iinc (b := 1) dX9_isFit_60 rfl rfl rfl ?_
                refine g_goto (tgt := 12) dX9_isFit_63 rfl ?_
                exact g_can _ (by exact ⟨rfl, rfl, rfl, rfl, rfl, rfl, trivial⟩) (ih12 (o + 1) true (by omega) (by rw [allN, ← Bool.and_assoc, ← hb]; clear hb ih12; simp [*]) (by omega))
  exact g_can _ (by exact ⟨rfl, rfl, rfl, rfl, rfl, rfl, trivial⟩) (H12 _ 0 _ (by omega) (by simp [allN]) (Nat.lt_succ_self _))
set_option maxRecDepth 100000 in
theorem c_KR_isFitThere {σ : SI} {δ : SD} {n : Nat} (hW : WF (σ 85) n) {k : Nat} (hk : k < n) : E KR_isFitThere [.ref 84, .int (nI k)] (HH σ δ) (some (.int (bI (fitThereA (σ 85) n k)))) (HH σ δ) := by
  have h8 := hW.n8
  refine E.ofL [some (.ref 84), some (.int (nI k))] rfl pn_RX9 rfl (fun sc => ?_)
  refine g_aload_n dX9_isFitThere_0 rfl ?_
  refine g_iload_n dX9_isFitThere_1 rfl ?_
  refine g_v1 (M' := KR_lies) dX9_isFitThere_2 l_R_82 v_KR_lies (c_KR_lies (by omega)) rc_84 rfl rfl ⟨rfl, rfl⟩ ?_
  refine b_if_eq (tgt := 32) dX9_isFitThere_5 rfl (fun zc5 => ?_) (fun zc5 => ?_)
  · refine g_iconst dX9_isFitThere_32 ic_0 ?_
    exact e_z0 dX9_isFitThere_33 rfl (by simp [fitThereA, *]) (by rfl)
  · refine g_aload_n dX9_isFitThere_8 rfl ?_
    refine g_iload_n dX9_isFitThere_9 rfl ?_
    refine g_aload_n dX9_isFitThere_10 rfl ?_
    refine g_iload_n dX9_isFitThere_11 rfl ?_
    refine g_iconst dX9_isFitThere_12 ic_4 ?_
    refine g_v2 (M' := KR_its) dX9_isFitThere_13 l_R_50 v_KR_its (c_KR_its (by omega) (by omega)) rc_84 rfl rfl ⟨rfl, rfl⟩ ?_
    refine g_aload_n dX9_isFitThere_16 rfl ?_
    refine g_iload_n dX9_isFitThere_17 rfl ?_
    refine g_iconst dX9_isFitThere_18 ic_5 ?_
    refine g_v2 (M' := KR_its) dX9_isFitThere_19 l_R_50 v_KR_its (c_KR_its (by omega) (by omega)) rc_84 rfl rfl ⟨rfl, rfl⟩ ?_
    refine g_v3 (M' := KR_isFit) dX9_isFitThere_22 l_R_89 v_KR_isFit (c_KR_isFit hW (by omega)) rc_84 rfl rfl ⟨rfl, rfl⟩ ?_
    refine b_if_eq (tgt := 32) dX9_isFitThere_25 rfl (fun zc25 => ?_) (fun zc25 => ?_)
    · refine g_iconst dX9_isFitThere_32 ic_0 ?_
      exact e_z0 dX9_isFitThere_33 rfl (by simp [fitThereA, *]) (by rfl)
    · refine g_iconst dX9_isFitThere_28 ic_1 ?_
      refine g_goto (tgt := 33) dX9_isFitThere_29 rfl ?_
      exact e_z1 dX9_isFitThere_33 rfl (by simp [fitThereA, *]) (by rfl)
