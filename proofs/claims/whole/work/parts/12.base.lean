/-! CONTRACTS: the smallest -/
theorem isItem_eq {k : Int32} {n : Nat} (hn : n ≤ 8) : inL k.toInt64 0 (nI n - nI 1).toInt64 = itB k n := by
  have h1 : (nI n - nI 1).toInt = (n : Int) - 1 := pk_sub_toInt (by omega) (by omega)
  unfold inL itB
  rw [Bool.eq_iff_iff]
  simp only [Bool.and_eq_true, decide_eq_true_eq, Int64.le_iff_toInt_le, Int32.toInt_toInt64, h1]
  show (0 : Int64).toInt ≤ _ ∧ _ ↔ _
  rw [show (0 : Int64).toInt = 0 from rfl]
  omega
set_option maxRecDepth 100000 in
theorem c_KP_within {σ : SI} {δ : SD} {v lo hi : Int32} : E KP_within [.int v, .int lo, .int hi] (HH σ δ) (some (.int (bI (inB v lo hi)))) (HH σ δ) := by
  refine E.ofL [some (.int v), some (.int lo), some (.int hi)] rfl pn_RX8 rfl (fun sc => ?_)
  refine g_iload_n dX8_within_0 rfl ?_
  refine g_iload_n dX8_within_1 rfl ?_
  refine g_icmp_lt (tgt := 14) dX8_within_2 rfl (fun zc2 => ?_) (fun zc2 => ?_)
  · refine g_iconst dX8_within_14 ic_0 ?_
    exact e_z0 dX8_within_15 rfl (by simp [inB, Int32.le_iff_toInt_le, Int32.lt_iff_toInt_lt] at *; omega) (by rfl)
  · refine g_iload_n dX8_within_5 rfl ?_
    refine g_iload_n dX8_within_6 rfl ?_
    refine g_icmp_gt (tgt := 14) dX8_within_7 rfl (fun zc7 => ?_) (fun zc7 => ?_)
    · refine g_iconst dX8_within_14 ic_0 ?_
      exact e_z0 dX8_within_15 rfl (by simp [inB, Int32.le_iff_toInt_le, Int32.lt_iff_toInt_lt] at *; omega) (by rfl)
    · refine g_iconst dX8_within_10 ic_1 ?_
      refine g_goto (tgt := 15) dX8_within_11 rfl ?_
      exact e_z1 dX8_within_15 rfl (by simp [inB, Int32.le_iff_toInt_le, Int32.lt_iff_toInt_lt] at *; omega) (by rfl)
set_option maxRecDepth 100000 in
theorem c_KR_in {σ : SI} {δ : SD} {v lo hi : Int64} : E KR_in [.long v, .long lo, .long hi] (HH σ δ) (some (.int (bI (inL v lo hi)))) (HH σ δ) := by
  refine E.ofL [some (.long v), none, some (.long lo), none, some (.long hi), none] rfl pn_RX9 rfl (fun sc => ?_)
  refine g_lload_n dX9_in_0 rfl ?_
  refine g_lload_n dX9_in_1 rfl ?_
  refine g_lcmp dX9_in_2 ?_
  refine g_if_lt (tgt := 17) dX9_in_3 rfl (fun zc3 => ?_) (fun zc3 => ?_)
  · refine g_iconst dX9_in_17 ic_0 ?_
    exact e_z0 dX9_in_18 rfl (by simp [inL, lg_cmp_lt, lg_cmp_gt, Int64.le_iff_toInt_le, Int64.lt_iff_toInt_lt] at *; omega) (by rfl)
  · refine g_lload_n dX9_in_6 rfl ?_
    refine g_lload dX9_in_7 rfl ?_
    refine g_lcmp dX9_in_9 ?_
    refine g_if_gt (tgt := 17) dX9_in_10 rfl (fun zc10 => ?_) (fun zc10 => ?_)
    · refine g_iconst dX9_in_17 ic_0 ?_
      exact e_z0 dX9_in_18 rfl (by simp [inL, lg_cmp_lt, lg_cmp_gt, Int64.le_iff_toInt_le, Int64.lt_iff_toInt_lt] at *; omega) (by rfl)
    · refine g_iconst dX9_in_13 ic_1 ?_
      refine g_goto (tgt := 18) dX9_in_14 rfl ?_
      exact e_z1 dX9_in_18 rfl (by simp [inL, lg_cmp_lt, lg_cmp_gt, Int64.le_iff_toInt_le, Int64.lt_iff_toInt_lt] at *; omega) (by rfl)
set_option maxRecDepth 100000 in
theorem c_KR_many {σ : SI} {δ : SD} : E KR_many [.ref 84] (HH σ δ) (some (.int (σ 85 7))) (HH σ δ) := by
  refine E.ofL [some (.ref 84)] rfl pn_RX9 rfl (fun sc => ?_)
  refine g_aload_n dX9_many_0 rfl ?_
  refine q_getq dX9_many_1 f_R_7 ck_84 (by decide) ty_8_0 rf_84_0 ?_
  refine g_bipush dX9_many_4 bp_7 ?_
  refine q_iald dX9_many_6 ck_85 (ixD_nI (by omega) (by decide)) ?_
  exact e_iret dX9_many_7 rfl (by rfl) (by rfl)
set_option maxRecDepth 100000 in
theorem c_KR_its {σ : SI} {δ : SD} {k j : Nat} (hk : k < 8) (hj : j < 6) : E KR_its [.ref 84, .int (nI k), .int (nI j)] (HH σ δ) (some (.int (its (σ 85) k j))) (HH σ δ) := by
  refine E.ofL [some (.ref 84), some (.int (nI k)), some (.int (nI j))] rfl pn_RX9 rfl (fun sc => ?_)
  refine g_aload_n dX9_its_0 rfl ?_
  refine q_getq dX9_its_1 f_R_7 ck_84 (by decide) ty_8_0 rf_84_0 ?_
  refine g_bipush dX9_its_4 bp_8 ?_
  refine g_bipush dX9_its_6 bp_6 ?_
  refine g_iload_n dX9_its_8 rfl ?_
  refine n_imul dX9_its_9 ?_
  refine n_iadd dX9_its_10 ?_
  refine g_iload_n dX9_its_11 rfl ?_
  refine n_iadd dX9_its_12 ?_
  refine q_iald dX9_its_13 ck_85 (ixD_nI (by omega) (by decide)) ?_
  exact e_iret dX9_its_14 rfl (by rfl) (by rfl)
set_option maxRecDepth 100000 in
theorem c_KR_isItem {σ : SI} {δ : SD} {k : Int32} {n : Nat} (h7 : σ 85 7 = nI n) (hn : n ≤ 8) : E KR_isItem [.ref 84, .int k] (HH σ δ) (some (.int (bI (itB k n)))) (HH σ δ) := by
  refine E.ofL [some (.ref 84), some (.int k)] rfl pn_RX9 rfl (fun sc => ?_)
  refine g_iload_n dX9_isItem_0 rfl ?_
  refine g_i2l dX9_isItem_1 ?_
  refine g_lconst (v := 0) dX9_isItem_2 rfl ?_
  refine g_aload_n dX9_isItem_3 rfl ?_
  refine g_v0 (M' := KR_many) dX9_isItem_4 l_R_42 v_KR_many c_KR_many rc_84 rfl rfl ⟨rfl, rfl⟩ ?_
  refine g_top h7 ?_
  refine g_iconst dX9_isItem_7 ic_1 ?_
  refine g_isub dX9_isItem_8 ?_
  refine g_top rfl ?_
  refine g_i2l dX9_isItem_9 ?_
  refine g_s3 (M' := KR_in) dX9_isItem_10 l_R_46 s_KR_in c_KR_in rfl rfl ⟨rfl, rfl⟩ ?_
  exact e_zret dX9_isItem_13 rfl (by exact isItem_eq hn) (by rfl)
set_option maxRecDepth 100000 in
theorem c_KL_hasItem {σ : SI} {δ : SD} {B : Nat} (hB : LB B) {k : Int32} {n : Nat} (h2 : σ B 2 = nI n) (hn : n ≤ 8) : E KL_hasItem [.ref B, .int k] (HH σ δ) (some (.int (bI (itB k n)))) (HH σ δ) := by
  refine E.ofL [some (.ref B), some (.int k)] rfl pn_RX1 rfl (fun sc => ?_)
  refine g_iload_n dX1_hasItem_0 rfl ?_
  refine g_if_lt (tgt := 22) dX1_hasItem_1 rfl (fun zc1 => ?_) (fun zc1 => ?_)
  · refine g_iconst dX1_hasItem_22 ic_0 ?_
    exact e_z0 dX1_hasItem_23 rfl (by rw [itB_eq (by omega)]; have h88 : (nI 8).toInt = 8 := rfl; simp [Int32.le_iff_toInt_le, Int32.lt_iff_toInt_lt, nI_int (show n < 2147483648 by omega), nI_0] at *; omega) (by rfl)
  · refine g_iload_n dX1_hasItem_4 rfl ?_
    refine g_aload_n dX1_hasItem_5 rfl ?_
    refine q_geti dX1_hasItem_6 f_L_44 (ckL_0 hB) (by decide) ty_0_2 ?_
    refine g_top h2 ?_
    refine g_icmp_ge (tgt := 22) dX1_hasItem_9 rfl (fun zc9 => ?_) (fun zc9 => ?_)
    · refine g_iconst dX1_hasItem_22 ic_0 ?_
      exact e_z0 dX1_hasItem_23 rfl (by rw [itB_eq (by omega)]; have h88 : (nI 8).toInt = 8 := rfl; simp [Int32.le_iff_toInt_le, Int32.lt_iff_toInt_lt, nI_int (show n < 2147483648 by omega), nI_0] at *; omega) (by rfl)
    · refine g_iload_n dX1_hasItem_12 rfl ?_
      refine g_bipush dX1_hasItem_13 bp_8 ?_
      refine g_icmp_ge (tgt := 22) dX1_hasItem_15 rfl (fun zc15 => ?_) (fun zc15 => ?_)
      · refine g_iconst dX1_hasItem_22 ic_0 ?_
        exact e_z0 dX1_hasItem_23 rfl (by rw [itB_eq (by omega)]; have h88 : (nI 8).toInt = 8 := rfl; simp [Int32.le_iff_toInt_le, Int32.lt_iff_toInt_lt, nI_int (show n < 2147483648 by omega), nI_0] at *; omega) (by rfl)
      · refine g_iconst dX1_hasItem_18 ic_1 ?_
        refine g_goto (tgt := 23) dX1_hasItem_19 rfl ?_
        exact e_z1 dX1_hasItem_23 rfl (by rw [itB_eq (by omega)]; have h88 : (nI 8).toInt = 8 := rfl; simp [Int32.le_iff_toInt_le, Int32.lt_iff_toInt_lt, nI_int (show n < 2147483648 by omega), nI_0] at *; omega) (by rfl)
