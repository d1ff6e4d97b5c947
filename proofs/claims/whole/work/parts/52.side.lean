/-! DOUBLES: the side told -/
theorem sd_eight {E N M : Nat} (h : 1 ≤ E) (hN : N = E * 8388608) (hM : M = (E + 3) * 8388608) : FP.Core.unitsOf FP.Core.b32 M = 8 * FP.Core.unitsOf FP.Core.b32 N := by
  have h1 := un_norm (f := FP.Core.b32) (E := E + 3) (t := 0) (by omega) (by rw [tl_32]; decide)
  have h2 := un_norm (f := FP.Core.b32) (E := E) (t := 0) h (by rw [tl_32]; decide)
  rw [tl_32, Nat.add_zero] at h1 h2
  rw [hN, hM, h1, h2, show E + 3 - 1 = E - 1 + 3 by omega, Nat.pow_add, Nat.mul_left_comm 8, Nat.mul_comm 8]
theorem sd_low {b q : Nat} (h1 : 10 ≤ b) (h2 : b ≤ 80) (h3 : 10 ≤ q) (h4 : q ≤ 30) : ∀ r, r ≤ 6 → (127 - 3 * r) * 8388608 ≤ (sdF (FP.fdiv (FP.i2f (nI b)) tenF) (FP.fdiv (FP.i2f (nI q)) tenF) r).toNat
  | 0, _ => (f_ten h1 h2).1
  | r + 1, hr => by
    obtain ⟨s1, s2⟩ := f_step h3 h4
    have hu := f_sd h1 h2 h3 h4 r
    obtain ⟨N, hN⟩ : ∃ N, N = (127 - 3 * (r + 1)) * 8388608 := ⟨_, rfl⟩
    obtain ⟨M, hM⟩ : ∃ M, M = (127 - 3 * r) * 8388608 := ⟨_, rfl⟩
    have ih : M ≤ (sdF (FP.fdiv (FP.i2f (nI b)) tenF) (FP.fdiv (FP.i2f (nI q)) tenF) r).toNat := by rw [hM]; exact sd_low h1 h2 h3 h4 r (by omega)
    have hlt : N < 2139095040 := by omega
    have e8 := sd_eight (E := 127 - 3 * (r + 1)) (M := M) (by omega) hN (by rw [hM, show 127 - 3 * (r + 1) + 3 = 127 - 3 * r by omega])
    have u1 := un_mono (f := FP.Core.b32) ih
    have u2 := un_mono (f := FP.Core.b32) s2
    rw [e8] at u1
    rw [u32_8] at u2
    have h0 := u_pos s1
    show (127 - 3 * (r + 1)) * 8388608 ≤ (FP.fdiv (sdF (FP.fdiv (FP.i2f (nI b)) tenF) (FP.fdiv (FP.i2f (nI q)) tenF) r) (FP.fdiv (FP.i2f (nI q)) tenF)).toNat
    rw [← hN]
    clear hN hM e8
    rw [t_fdiv (by omega) (by omega) h0]
    refine fd_ge FP.Core.good_b32 (by rw [inf32]; omega) (by rw [inf32]; omega) (un_pos h0) (by rw [inf32]; omega) ?_
    generalize fuP FP.Core.b32 = P at *
    generalize FP.Core.unitsOf FP.Core.b32 N = m at *
    calc m * _ ≤ m * (8 * P) := Nat.mul_le_mul_left _ u2
      _ = 8 * m * P := by rw [Nat.mul_left_comm, Nat.mul_assoc]
      _ ≤ _ := Nat.mul_le_mul_right _ u1
theorem sd_bits {a : Nat → Int32} {n r : Nat} (hW : WF a n) (hr : 1 ≤ r) (hr6 : r ≤ 6) : 8388608 ≤ (sideA a r).toNat ∧ (sideA a r).toNat ≤ 1090519040 := by
  have hb := hW.big
  have hq := hW.rat
  have h1 := sd_low hb.1 hb.2.1 hq.1 hq.2.1 (r - 1) (by omega)
  have h2 := f_sd hb.1 hb.2.1 hq.1 hq.2.1 (r - 1)
  exact ⟨Nat.le_trans (by omega) h1, h2⟩
set_option maxRecDepth 100000 in
theorem c_KR_sideBits {σ : SI} {δ : SD} {n : Nat} (hW : WF (σ 85) n) {r : Nat} (hr : 1 ≤ r) (hr6 : r ≤ 6) : E KR_sideBits [.ref 84, .int (nI r)] (HH σ δ) (some (.int (sideA (σ 85) r).toInt32)) (HH σ δ) := by
  refine E.ofL [some (.ref 84), some (.int (nI r))] rfl pn_RX9 rfl (fun sc => ?_)
  refine g_aload_n dX9_sideBits_0 rfl ?_
  refine g_iload_n dX9_sideBits_1 rfl ?_
  refine g_v1 (M' := KR_sideOf) dX9_sideBits_2 l_R_56 v_KR_sideOf (c_KR_sideOf hW hr hr6) rc_84 rfl rfl ⟨rfl, rfl⟩ ?_
  refine g_s1 (M' := KJ_floatToIntBits) dX9_sideBits_5 l_R_160 s_KJ_floatToIntBits (c_KJ_floatToIntBits (by have := sd_bits hW hr hr6; omega)) rfl rfl ⟨rfl, rfl⟩ ?_
  exact e_iret dX9_sideBits_8 rfl (by rfl) (by rfl)
set_option maxRecDepth 100000 in
theorem c_KP_side_ok {σ : SI} {δ : SD} {a : Nat → Int32} {n s o tl : Nat} {P : Nat → Nat → Int32} {tx rf : Nat → Int32} (hI : IC σ a n s o P tl tx rf) {r : Nat} (hr : 1 ≤ r) (hr6 : r ≤ 6) (hk : inB (nI r) (nI 1) (nI 6) = true) : E KP_side [.ref 5, .int (nI r)] (HH σ δ) (some (.int ((sideA a r).toInt32))) (HH σ δ) := by
  have hW := hI.hl.wf
  have hR := hI.hl.rb
  have hD := hI.hl.rd
  have h2 := hR.c
  have h8 := hW.n8
  have hB := LB_6
  refine E.ofL [some (.ref 5), some (.int (nI r))] rfl pn_RX8 rfl (fun sc => ?_)
  refine g_iload_n dX8_side_0 rfl ?_
  refine g_iconst dX8_side_1 ic_1 ?_
  refine g_bipush dX8_side_2 bp_6 ?_
  refine g_s3 (M' := KP_within) dX8_side_4 l_P_96 s_KP_within c_KP_within rfl rfl ⟨rfl, rfl⟩ ?_
  refine g_top (show _ = bI true by rw [hk]) ?_
  refine g_s1 (M' := KP_goodIf) dX8_side_7 l_P_81 s_KP_goodIf c_KP_goodIf rfl rfl ⟨rfl, rfl⟩ ?_
  refine g_top (if_pos rfl) ?_
  refine g_istore_n dX8_side_10 rfl ?_
  refine g_aload_n dX8_side_11 rfl ?_
  refine g_iload_n dX8_side_12 rfl ?_
  refine g_v1 (M' := KP_mayAnswer) dX8_side_13 l_P_100 v_KP_mayAnswer c_KP_mayAnswer0 rc_5 rfl rfl ⟨rfl, rfl⟩ ?_
  refine b_if_eq (tgt := 33) dX8_side_16 rfl (fun zc16 => ?_) (fun zc16 => ?_)
  · exact absurd zc16 (by decide)
  · refine g_aload_n dX8_side_19 rfl ?_
    refine q_getq dX8_side_20 f_P_12 ck_5 (by decide) ty_7_0 rf_5_0 ?_
    refine g_iload_n dX8_side_23 rfl ?_
    refine g_v1 (M' := KL_sideOf) dX8_side_24 l_P_106 v_KL_sideOf (c_KL_sideOf LB_6 hW hR hr hr6) (rcL LB_6) rfl rfl ⟨rfl, rfl⟩ ?_
    refine g_s1 (M' := KB_ofFloat) dX8_side_27 l_P_110 s_KB_ofFloat (c_ofF (by have := sd_bits hW hr hr6; omega) (by have := sd_bits hW hr hr6; omega)) rfl rfl ⟨rfl, rfl⟩ ?_
    refine g_goto (tgt := 34) dX8_side_30 rfl ?_
    exact e_iret dX8_side_34 rfl (by rfl) (by rfl)
set_option maxRecDepth 100000 in
theorem c_KP_side_no2 {σ : SI} {δ : SD} {a : Nat → Int32} {n s o tl : Nat} {P : Nat → Nat → Int32} {tx rf : Nat → Int32} (hI : IC σ a n s o P tl tx rf) {r : Int32} (hk : inB r (nI 1) (nI 6) = false) : E KP_side [.ref 5, .int r] (HH σ δ) (some (.int (-2))) (HH (rfC σ 0) δ) := by
  have hW := hI.hl.wf
  have hR := hI.hl.rb
  have hD := hI.hl.rd
  have h2 := hR.c
  have h8 := hW.n8
  have hB := LB_6
  refine E.ofL [some (.ref 5), some (.int r)] rfl pn_RX8 rfl (fun sc => ?_)
  refine g_iload_n dX8_side_0 rfl ?_
  refine g_iconst dX8_side_1 ic_1 ?_
  refine g_bipush dX8_side_2 bp_6 ?_
  refine g_s3 (M' := KP_within) dX8_side_4 l_P_96 s_KP_within c_KP_within rfl rfl ⟨rfl, rfl⟩ ?_
  refine g_top (show _ = bI false by rw [hk]) ?_
  refine g_s1 (M' := KP_goodIf) dX8_side_7 l_P_81 s_KP_goodIf c_KP_goodIf rfl rfl ⟨rfl, rfl⟩ ?_
  refine g_top (if_neg (by decide)) ?_
  refine g_istore_n dX8_side_10 rfl ?_
  refine g_aload_n dX8_side_11 rfl ?_
  refine g_iload_n dX8_side_12 rfl ?_
  refine g_v1 (M' := KP_mayAnswer) dX8_side_13 l_P_100 v_KP_mayAnswer c_KP_mayAnswer2 rc_5 rfl rfl ⟨rfl, rfl⟩ ?_
  refine b_if_eq (tgt := 33) dX8_side_16 rfl (fun zc16 => ?_) (fun zc16 => ?_)
  · refine g_iload_n dX8_side_33 rfl ?_
    exact e_iret dX8_side_34 rfl (by rfl) (by rfl)
  · exact absurd zc16 (by decide)
set_option maxRecDepth 100000 in
theorem c_KR_side_ok {σ : SI} {δ : SD} {a : Nat → Int32} {n s tl : Nat} {P : Nat → Nat → Int32} {tx rf : Nat → Int32} (hJ : IR σ a s P tl tx rf) (hs : s ≤ 5) (hW : WF a n) {r : Nat} (hr : 1 ≤ r) (hr6 : r ≤ 6) (hk : inB (nI r) (nI 1) (nI 6) = true) : E KR_side [.ref 84, .int (nI r)] (HH σ δ) (some (.int ((sideA a r).toInt32))) (HH σ δ) := by
  obtain rfl := hJ.row
  have h3 := hJ.sd
  have hn := hW.n8
  have h7 := hW.a7
  have h8 := hW.n8
  refine E.ofL [some (.ref 84), some (.int (nI r))] rfl pn_RX9 rfl (fun sc => ?_)
  refine g_iload_n dX9_side_0 rfl ?_
  refine g_i2l dX9_side_1 ?_
  refine g_lconst (v := 1) dX9_side_2 rfl ?_
  refine g_ldcl dX9_side_3 c_R_104 ?_
  refine g_s3 (M' := KR_in) dX9_side_6 l_R_46 s_KR_in c_KR_in rfl rfl ⟨rfl, rfl⟩ ?_
  refine b_if_eq (tgt := 20) dX9_side_9 rfl (fun zc9 => ?_) (fun zc9 => ?_)
  · simp only [w64_1, w64_6, inL_wide] at zc9; exact absurd hk (by rw [zc9]; decide)
  · refine g_aload_n dX9_side_12 rfl ?_
    refine g_iload_n dX9_side_13 rfl ?_
    refine g_v1 (M' := KR_sideBits) dX9_side_14 l_R_165 v_KR_sideBits (c_KR_sideBits hW hr hr6) rc_84 rfl rfl ⟨rfl, rfl⟩ ?_
    refine g_goto (tgt := 26) dX9_side_17 rfl ?_
    exact e_iret dX9_side_26 rfl (by rfl) (by rfl)
set_option maxRecDepth 100000 in
theorem c_KR_side_no2 {σ : SI} {δ : SD} {a : Nat → Int32} {n s tl : Nat} {P : Nat → Nat → Int32} {tx rf : Nat → Int32} (hJ : IR σ a s P tl tx rf) (hs : s ≤ 5) (hW : WF a n) {r : Int32} (hk : inB r (nI 1) (nI 6) = false) : E KR_side [.ref 84, .int r] (HH σ δ) (some (.int (-2))) (HH (rfM σ 0) δ) := by
  obtain rfl := hJ.row
  have h3 := hJ.sd
  have hn := hW.n8
  have h7 := hW.a7
  have h8 := hW.n8
  refine E.ofL [some (.ref 84), some (.int r)] rfl pn_RX9 rfl (fun sc => ?_)
  refine g_iload_n dX9_side_0 rfl ?_
  refine g_i2l dX9_side_1 ?_
  refine g_lconst (v := 1) dX9_side_2 rfl ?_
  refine g_ldcl dX9_side_3 c_R_104 ?_
  refine g_s3 (M' := KR_in) dX9_side_6 l_R_46 s_KR_in c_KR_in rfl rfl ⟨rfl, rfl⟩ ?_
  refine b_if_eq (tgt := 20) dX9_side_9 rfl (fun zc9 => ?_) (fun zc9 => ?_)
  · refine g_aload_n dX9_side_20 rfl ?_
    refine g_bipush dX9_side_21 bp_m2 ?_
    refine g_v1 (M' := KR_refuses) dX9_side_23 l_R_101 v_KR_refuses c_KR_refuses0 rc_84 rfl rfl ⟨rfl, rfl⟩ ?_
    exact e_iret dX9_side_26 rfl (by rfl) (by rfl)
  · simp only [w64_1, w64_6, inL_wide] at zc9; exact absurd zc9 (by rw [hk]; decide)
theorem step_side {σ : SI} {δ : SD} {r : Int32} (hT : InvT σ) : Step KP_side KR_side [.int r] σ δ := by
  obtain ⟨a, n, s, o, P, tl, tx, rf, hI, hJ⟩ := hT
  have hW := hI.hl.wf
  cases hk : inB r (nI 1) (nI 6) with
  | true =>
    obtain ⟨j, h1, h2, rfl⟩ := (inB_iff (by decide) (by decide)).mp hk
    exact Step.same hI hJ (c_KP_side_ok hI h1 h2 hk) (c_KR_side_ok hJ hI.s5 hW h1 h2 hk)
  | false => exact Step.no (by decide) hI hJ (c_KP_side_no2 hI hk) (fun h1 => c_KR_side_no2 h1 hI.s5 hW hk)
