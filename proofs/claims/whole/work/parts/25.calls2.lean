/-! CONTRACTS: calls that answer alone, both sides; back -/
theorem w64_9 : (9 : Int64) = (nI 9).toInt64 := by decide
theorem w64_13 : (13 : Int64) = (nI 13).toInt64 := by decide
theorem bt_yes {p : Nat → Bool} {k : Nat} (h : p k = true) : bitsN p (k + 1) = bitsN p k ||| 2 ^ k := by unfold bitsN; rw [if_pos h]; cases k <;> rfl
theorem bt_no {p : Nat → Bool} {k : Nat} (h : p k = false) : bitsN p (k + 1) = bitsN p k := by
  show (if p k = true then bitsN p k ||| 2 ^ k else bitsN p k) = bitsN p k
  rw [if_neg (by rw [h]; decide)]
set_option maxRecDepth 100000 in
theorem c_KP_of_ok0 {σ : SI} {δ : SD} {a : Nat → Int32} {n s o tl : Nat} {P : Nat → Nat → Int32} {tx rf : Nat → Int32} (hI : IC σ a n s o P tl tx rf) {k : Nat} (hk : k < n) : E KP_of [.ref 5, .int (nI k), .int (nI 0)] (HH σ δ) (some (.int (ofA a n k 0))) (HH σ δ) := by
  have hW := hI.hl.wf
  have hR := hI.hl.rb
  have hD := hI.hl.rd
  have h2 := hR.c
  have h8 := hW.n8
  have hB := LB_6
  refine E.ofL [some (.ref 5), some (.int (nI k)), some (.int (nI 0))] rfl pn_RX8 rfl (fun sc => ?_)
  refine g_aload_n dX8_of_0 rfl ?_
  refine q_getq dX8_of_1 f_P_12 ck_5 (by decide) ty_7_0 rf_5_0 ?_
  refine g_iload_n dX8_of_4 rfl ?_
  refine g_v1 (M' := KL_hasItem) dX8_of_5 l_P_78 v_KL_hasItem (c_KL_hasItem LB_6 h2 h8) (rcL LB_6) rfl rfl ⟨rfl, rfl⟩ ?_
  refine g_top (it1 hk h8) ?_
  refine n_if_eq (tgt := 25) (by omega) dX8_of_8 rfl (fun zc8 => absurd zc8 (by decide)) (fun _ => ?_)
  refine g_iload_n dX8_of_11 rfl ?_
  refine g_iconst dX8_of_12 ic_0 ?_
  refine g_bipush dX8_of_13 bp_9 ?_
  refine g_s3 (M' := KP_within) dX8_of_15 l_P_96 s_KP_within c_KP_within rfl rfl ⟨rfl, rfl⟩ ?_
  refine g_top (in1 (Nat.zero_le _) (by omega) (by decide)) ?_
  refine n_if_eq (tgt := 25) (by omega) dX8_of_18 rfl (fun zc18 => absurd zc18 (by decide)) (fun _ => ?_)
  refine g_iconst dX8_of_21 ic_1 ?_
  refine g_top bI_t.symm ?_
  refine g_goto (tgt := 26) dX8_of_22 rfl ?_
  refine g_s1 (M' := KP_goodIf) dX8_of_26 l_P_81 s_KP_goodIf c_KP_goodIf rfl rfl ⟨rfl, rfl⟩ ?_
  refine g_top (if_pos rfl) ?_
  refine g_istore_n dX8_of_29 rfl ?_
  refine g_aload_n dX8_of_30 rfl ?_
  refine g_iload_n dX8_of_31 rfl ?_
  refine g_v1 (M' := KP_mayAnswer) dX8_of_32 l_P_100 v_KP_mayAnswer c_KP_mayAnswer0 rc_5 rfl rfl ⟨rfl, rfl⟩ ?_
  refine b_if_eq (tgt := 50) dX8_of_35 rfl (fun zc35 => ?_) (fun zc35 => ?_)
  · exact absurd zc35 (by decide)
  · refine g_aload_n dX8_of_38 rfl ?_
    refine q_getq dX8_of_39 f_P_12 ck_5 (by decide) ty_7_0 rf_5_0 ?_
    refine g_iload_n dX8_of_42 rfl ?_
    refine g_iload_n dX8_of_43 rfl ?_
    refine g_v2 (M' := KL_tellOfItem) dX8_of_44 l_P_103 v_KL_tellOfItem (c_KL_tellOfItem0 LB_6 hW hR hD hk) (rcL LB_6) rfl rfl ⟨rfl, rfl⟩ ?_
    refine g_goto (tgt := 51) dX8_of_47 rfl ?_
    exact e_iret dX8_of_51 rfl (by rfl) (by rfl)
set_option maxRecDepth 100000 in
theorem c_KR_ofNow0 {σ : SI} {δ : SD} {n : Nat} (hW : WF (σ 85) n) {k : Nat} (hk : k < n) : E KR_ofNow [.ref 84, .int (nI k), .int (nI 0)] (HH σ δ) (some (.int (ofA (σ 85) n k 0))) (HH σ δ) := by
  have h8 := hW.n8
  refine E.ofL [some (.ref 84), some (.int (nI k)), some (.int (nI 0))] rfl pn_RX9 rfl (fun sc => ?_)
  refine g_iload_n dX9_ofNow_0 rfl ?_
  refine g_tsw (tgt := 64) dX9_ofNow_1 (by decide +kernel) (by decide) ?_
  refine g_aload_n dX9_ofNow_64 rfl ?_
  refine g_iload_n dX9_ofNow_65 rfl ?_
  refine g_iload_n dX9_ofNow_66 rfl ?_
  refine g_v2 (M' := KR_its) dX9_ofNow_67 l_R_50 v_KR_its (c_KR_its (by omega) (by omega)) rc_84 rfl rfl ⟨rfl, rfl⟩ ?_
  exact e_iret dX9_ofNow_70 rfl (by rfl) (by rfl)
set_option maxRecDepth 100000 in
theorem c_KR_of_ok0 {σ : SI} {δ : SD} {a : Nat → Int32} {n s tl : Nat} {P : Nat → Nat → Int32} {tx rf : Nat → Int32} (hJ : IR σ a s P tl tx rf) (hs : s ≤ 5) (hW : WF a n) {k : Nat} (hk : k < n) : E KR_of [.ref 84, .int (nI k), .int (nI 0)] (HH σ δ) (some (.int (ofA a n k 0))) (HH σ δ) := by
  obtain rfl := hJ.row
  have h3 := hJ.sd
  have hn := hW.n8
  have h7 := hW.a7
  have h8 := hW.n8
  refine E.ofL [some (.ref 84), some (.int (nI k)), some (.int (nI 0))] rfl pn_RX9 rfl (fun sc => ?_)
  refine g_aload_n dX9_of_0 rfl ?_
  refine g_iload_n dX9_of_1 rfl ?_
  refine g_v1 (M' := KR_isItem) dX9_of_2 l_R_94 v_KR_isItem (c_KR_isItem h7 hn) rc_84 rfl rfl ⟨rfl, rfl⟩ ?_
  refine g_top (it1 hk hn) ?_
  refine n_if_eq (tgt := 29) (by omega) dX9_of_5 rfl (fun zc5 => absurd zc5 (by decide)) (fun _ => ?_)
  refine g_iload_n dX9_of_8 rfl ?_
  refine g_i2l dX9_of_9 ?_
  refine g_lconst (v := 0) dX9_of_10 rfl ?_
  refine g_ldcl dX9_of_11 c_R_155 ?_
  refine g_s3 (M' := KR_in) dX9_of_14 l_R_46 s_KR_in c_KR_in rfl rfl ⟨rfl, rfl⟩ ?_
  refine g_top (show _ = nI 1 by decide +kernel) ?_
  refine n_if_eq (tgt := 29) (by omega) dX9_of_17 rfl (fun zc17 => absurd zc17 (by decide)) (fun _ => ?_)
  refine g_aload_n dX9_of_20 rfl ?_
  refine g_iload_n dX9_of_21 rfl ?_
  refine g_iload_n dX9_of_22 rfl ?_
  refine g_v2 (M' := KR_ofNow) dX9_of_23 l_R_157 v_KR_ofNow (c_KR_ofNow0 hW hk) rc_84 rfl rfl ⟨rfl, rfl⟩ ?_
  refine g_goto (tgt := 35) dX9_of_26 rfl ?_
  exact e_iret dX9_of_35 rfl (by rfl) (by rfl)
set_option maxRecDepth 100000 in
theorem c_KP_of_ok1 {σ : SI} {δ : SD} {a : Nat → Int32} {n s o tl : Nat} {P : Nat → Nat → Int32} {tx rf : Nat → Int32} (hI : IC σ a n s o P tl tx rf) {k : Nat} (hk : k < n) : E KP_of [.ref 5, .int (nI k), .int (nI 1)] (HH σ δ) (some (.int (ofA a n k 1))) (HH σ δ) := by
  have hW := hI.hl.wf
  have hR := hI.hl.rb
  have hD := hI.hl.rd
  have h2 := hR.c
  have h8 := hW.n8
  have hB := LB_6
  refine E.ofL [some (.ref 5), some (.int (nI k)), some (.int (nI 1))] rfl pn_RX8 rfl (fun sc => ?_)
  refine g_aload_n dX8_of_0 rfl ?_
  refine q_getq dX8_of_1 f_P_12 ck_5 (by decide) ty_7_0 rf_5_0 ?_
  refine g_iload_n dX8_of_4 rfl ?_
  refine g_v1 (M' := KL_hasItem) dX8_of_5 l_P_78 v_KL_hasItem (c_KL_hasItem LB_6 h2 h8) (rcL LB_6) rfl rfl ⟨rfl, rfl⟩ ?_
  refine g_top (it1 hk h8) ?_
  refine n_if_eq (tgt := 25) (by omega) dX8_of_8 rfl (fun zc8 => absurd zc8 (by decide)) (fun _ => ?_)
  refine g_iload_n dX8_of_11 rfl ?_
  refine g_iconst dX8_of_12 ic_0 ?_
  refine g_bipush dX8_of_13 bp_9 ?_
  refine g_s3 (M' := KP_within) dX8_of_15 l_P_96 s_KP_within c_KP_within rfl rfl ⟨rfl, rfl⟩ ?_
  refine g_top (in1 (Nat.zero_le _) (by omega) (by decide)) ?_
  refine n_if_eq (tgt := 25) (by omega) dX8_of_18 rfl (fun zc18 => absurd zc18 (by decide)) (fun _ => ?_)
  refine g_iconst dX8_of_21 ic_1 ?_
  refine g_top bI_t.symm ?_
  refine g_goto (tgt := 26) dX8_of_22 rfl ?_
  refine g_s1 (M' := KP_goodIf) dX8_of_26 l_P_81 s_KP_goodIf c_KP_goodIf rfl rfl ⟨rfl, rfl⟩ ?_
  refine g_top (if_pos rfl) ?_
  refine g_istore_n dX8_of_29 rfl ?_
  refine g_aload_n dX8_of_30 rfl ?_
  refine g_iload_n dX8_of_31 rfl ?_
  refine g_v1 (M' := KP_mayAnswer) dX8_of_32 l_P_100 v_KP_mayAnswer c_KP_mayAnswer0 rc_5 rfl rfl ⟨rfl, rfl⟩ ?_
  refine b_if_eq (tgt := 50) dX8_of_35 rfl (fun zc35 => ?_) (fun zc35 => ?_)
  · exact absurd zc35 (by decide)
  · refine g_aload_n dX8_of_38 rfl ?_
    refine q_getq dX8_of_39 f_P_12 ck_5 (by decide) ty_7_0 rf_5_0 ?_
    refine g_iload_n dX8_of_42 rfl ?_
    refine g_iload_n dX8_of_43 rfl ?_
    refine g_v2 (M' := KL_tellOfItem) dX8_of_44 l_P_103 v_KL_tellOfItem (c_KL_tellOfItem1 LB_6 hW hR hD hk) (rcL LB_6) rfl rfl ⟨rfl, rfl⟩ ?_
    refine g_goto (tgt := 51) dX8_of_47 rfl ?_
    exact e_iret dX8_of_51 rfl (by rfl) (by rfl)
set_option maxRecDepth 100000 in
theorem c_KR_ofNow1 {σ : SI} {δ : SD} {n : Nat} (hW : WF (σ 85) n) {k : Nat} (hk : k < n) : E KR_ofNow [.ref 84, .int (nI k), .int (nI 1)] (HH σ δ) (some (.int (ofA (σ 85) n k 1))) (HH σ δ) := by
  have h8 := hW.n8
  refine E.ofL [some (.ref 84), some (.int (nI k)), some (.int (nI 1))] rfl pn_RX9 rfl (fun sc => ?_)
  refine g_iload_n dX9_ofNow_0 rfl ?_
  refine g_tsw (tgt := 64) dX9_ofNow_1 (by decide +kernel) (by decide) ?_
  refine g_aload_n dX9_ofNow_64 rfl ?_
  refine g_iload_n dX9_ofNow_65 rfl ?_
  refine g_iload_n dX9_ofNow_66 rfl ?_
  refine g_v2 (M' := KR_its) dX9_ofNow_67 l_R_50 v_KR_its (c_KR_its (by omega) (by omega)) rc_84 rfl rfl ⟨rfl, rfl⟩ ?_
  exact e_iret dX9_ofNow_70 rfl (by rfl) (by rfl)
set_option maxRecDepth 100000 in
theorem c_KR_of_ok1 {σ : SI} {δ : SD} {a : Nat → Int32} {n s tl : Nat} {P : Nat → Nat → Int32} {tx rf : Nat → Int32} (hJ : IR σ a s P tl tx rf) (hs : s ≤ 5) (hW : WF a n) {k : Nat} (hk : k < n) : E KR_of [.ref 84, .int (nI k), .int (nI 1)] (HH σ δ) (some (.int (ofA a n k 1))) (HH σ δ) := by
  obtain rfl := hJ.row
  have h3 := hJ.sd
  have hn := hW.n8
  have h7 := hW.a7
  have h8 := hW.n8
  refine E.ofL [some (.ref 84), some (.int (nI k)), some (.int (nI 1))] rfl pn_RX9 rfl (fun sc => ?_)
  refine g_aload_n dX9_of_0 rfl ?_
  refine g_iload_n dX9_of_1 rfl ?_
  refine g_v1 (M' := KR_isItem) dX9_of_2 l_R_94 v_KR_isItem (c_KR_isItem h7 hn) rc_84 rfl rfl ⟨rfl, rfl⟩ ?_
  refine g_top (it1 hk hn) ?_
  refine n_if_eq (tgt := 29) (by omega) dX9_of_5 rfl (fun zc5 => absurd zc5 (by decide)) (fun _ => ?_)
  refine g_iload_n dX9_of_8 rfl ?_
  refine g_i2l dX9_of_9 ?_
  refine g_lconst (v := 0) dX9_of_10 rfl ?_
  refine g_ldcl dX9_of_11 c_R_155 ?_
  refine g_s3 (M' := KR_in) dX9_of_14 l_R_46 s_KR_in c_KR_in rfl rfl ⟨rfl, rfl⟩ ?_
  refine g_top (show _ = nI 1 by decide +kernel) ?_
  refine n_if_eq (tgt := 29) (by omega) dX9_of_17 rfl (fun zc17 => absurd zc17 (by decide)) (fun _ => ?_)
  refine g_aload_n dX9_of_20 rfl ?_
  refine g_iload_n dX9_of_21 rfl ?_
  refine g_iload_n dX9_of_22 rfl ?_
  refine g_v2 (M' := KR_ofNow) dX9_of_23 l_R_157 v_KR_ofNow (c_KR_ofNow1 hW hk) rc_84 rfl rfl ⟨rfl, rfl⟩ ?_
  refine g_goto (tgt := 35) dX9_of_26 rfl ?_
  exact e_iret dX9_of_35 rfl (by rfl) (by rfl)
set_option maxRecDepth 100000 in
theorem c_KP_of_ok2 {σ : SI} {δ : SD} {a : Nat → Int32} {n s o tl : Nat} {P : Nat → Nat → Int32} {tx rf : Nat → Int32} (hI : IC σ a n s o P tl tx rf) {k : Nat} (hk : k < n) : E KP_of [.ref 5, .int (nI k), .int (nI 2)] (HH σ δ) (some (.int (ofA a n k 2))) (HH σ δ) := by
  have hW := hI.hl.wf
  have hR := hI.hl.rb
  have hD := hI.hl.rd
  have h2 := hR.c
  have h8 := hW.n8
  have hB := LB_6
  refine E.ofL [some (.ref 5), some (.int (nI k)), some (.int (nI 2))] rfl pn_RX8 rfl (fun sc => ?_)
  refine g_aload_n dX8_of_0 rfl ?_
  refine q_getq dX8_of_1 f_P_12 ck_5 (by decide) ty_7_0 rf_5_0 ?_
  refine g_iload_n dX8_of_4 rfl ?_
  refine g_v1 (M' := KL_hasItem) dX8_of_5 l_P_78 v_KL_hasItem (c_KL_hasItem LB_6 h2 h8) (rcL LB_6) rfl rfl ⟨rfl, rfl⟩ ?_
  refine g_top (it1 hk h8) ?_
  refine n_if_eq (tgt := 25) (by omega) dX8_of_8 rfl (fun zc8 => absurd zc8 (by decide)) (fun _ => ?_)
  refine g_iload_n dX8_of_11 rfl ?_
  refine g_iconst dX8_of_12 ic_0 ?_
  refine g_bipush dX8_of_13 bp_9 ?_
  refine g_s3 (M' := KP_within) dX8_of_15 l_P_96 s_KP_within c_KP_within rfl rfl ⟨rfl, rfl⟩ ?_
  refine g_top (in1 (Nat.zero_le _) (by omega) (by decide)) ?_
  refine n_if_eq (tgt := 25) (by omega) dX8_of_18 rfl (fun zc18 => absurd zc18 (by decide)) (fun _ => ?_)
  refine g_iconst dX8_of_21 ic_1 ?_
  refine g_top bI_t.symm ?_
  refine g_goto (tgt := 26) dX8_of_22 rfl ?_
  refine g_s1 (M' := KP_goodIf) dX8_of_26 l_P_81 s_KP_goodIf c_KP_goodIf rfl rfl ⟨rfl, rfl⟩ ?_
  refine g_top (if_pos rfl) ?_
  refine g_istore_n dX8_of_29 rfl ?_
  refine g_aload_n dX8_of_30 rfl ?_
  refine g_iload_n dX8_of_31 rfl ?_
  refine g_v1 (M' := KP_mayAnswer) dX8_of_32 l_P_100 v_KP_mayAnswer c_KP_mayAnswer0 rc_5 rfl rfl ⟨rfl, rfl⟩ ?_
  refine b_if_eq (tgt := 50) dX8_of_35 rfl (fun zc35 => ?_) (fun zc35 => ?_)
  · exact absurd zc35 (by decide)
  · refine g_aload_n dX8_of_38 rfl ?_
    refine q_getq dX8_of_39 f_P_12 ck_5 (by decide) ty_7_0 rf_5_0 ?_
    refine g_iload_n dX8_of_42 rfl ?_
    refine g_iload_n dX8_of_43 rfl ?_
    refine g_v2 (M' := KL_tellOfItem) dX8_of_44 l_P_103 v_KL_tellOfItem (c_KL_tellOfItem2 LB_6 hW hR hD hk) (rcL LB_6) rfl rfl ⟨rfl, rfl⟩ ?_
    refine g_goto (tgt := 51) dX8_of_47 rfl ?_
    exact e_iret dX8_of_51 rfl (by rfl) (by rfl)
set_option maxRecDepth 100000 in
theorem c_KR_ofNow2 {σ : SI} {δ : SD} {n : Nat} (hW : WF (σ 85) n) {k : Nat} (hk : k < n) : E KR_ofNow [.ref 84, .int (nI k), .int (nI 2)] (HH σ δ) (some (.int (ofA (σ 85) n k 2))) (HH σ δ) := by
  have h8 := hW.n8
  refine E.ofL [some (.ref 84), some (.int (nI k)), some (.int (nI 2))] rfl pn_RX9 rfl (fun sc => ?_)
  refine g_iload_n dX9_ofNow_0 rfl ?_
  refine g_tsw (tgt := 64) dX9_ofNow_1 (by decide +kernel) (by decide) ?_
  refine g_aload_n dX9_ofNow_64 rfl ?_
  refine g_iload_n dX9_ofNow_65 rfl ?_
  refine g_iload_n dX9_ofNow_66 rfl ?_
  refine g_v2 (M' := KR_its) dX9_ofNow_67 l_R_50 v_KR_its (c_KR_its (by omega) (by omega)) rc_84 rfl rfl ⟨rfl, rfl⟩ ?_
  exact e_iret dX9_ofNow_70 rfl (by rfl) (by rfl)
set_option maxRecDepth 100000 in
theorem c_KR_of_ok2 {σ : SI} {δ : SD} {a : Nat → Int32} {n s tl : Nat} {P : Nat → Nat → Int32} {tx rf : Nat → Int32} (hJ : IR σ a s P tl tx rf) (hs : s ≤ 5) (hW : WF a n) {k : Nat} (hk : k < n) : E KR_of [.ref 84, .int (nI k), .int (nI 2)] (HH σ δ) (some (.int (ofA a n k 2))) (HH σ δ) := by
  obtain rfl := hJ.row
  have h3 := hJ.sd
  have hn := hW.n8
  have h7 := hW.a7
  have h8 := hW.n8
  refine E.ofL [some (.ref 84), some (.int (nI k)), some (.int (nI 2))] rfl pn_RX9 rfl (fun sc => ?_)
  refine g_aload_n dX9_of_0 rfl ?_
  refine g_iload_n dX9_of_1 rfl ?_
  refine g_v1 (M' := KR_isItem) dX9_of_2 l_R_94 v_KR_isItem (c_KR_isItem h7 hn) rc_84 rfl rfl ⟨rfl, rfl⟩ ?_
  refine g_top (it1 hk hn) ?_
  refine n_if_eq (tgt := 29) (by omega) dX9_of_5 rfl (fun zc5 => absurd zc5 (by decide)) (fun _ => ?_)
  refine g_iload_n dX9_of_8 rfl ?_
  refine g_i2l dX9_of_9 ?_
  refine g_lconst (v := 0) dX9_of_10 rfl ?_
  refine g_ldcl dX9_of_11 c_R_155 ?_
  refine g_s3 (M' := KR_in) dX9_of_14 l_R_46 s_KR_in c_KR_in rfl rfl ⟨rfl, rfl⟩ ?_
  refine g_top (show _ = nI 1 by decide +kernel) ?_
  refine n_if_eq (tgt := 29) (by omega) dX9_of_17 rfl (fun zc17 => absurd zc17 (by decide)) (fun _ => ?_)
  refine g_aload_n dX9_of_20 rfl ?_
  refine g_iload_n dX9_of_21 rfl ?_
  refine g_iload_n dX9_of_22 rfl ?_
  refine g_v2 (M' := KR_ofNow) dX9_of_23 l_R_157 v_KR_ofNow (c_KR_ofNow2 hW hk) rc_84 rfl rfl ⟨rfl, rfl⟩ ?_
  refine g_goto (tgt := 35) dX9_of_26 rfl ?_
  exact e_iret dX9_of_35 rfl (by rfl) (by rfl)
set_option maxRecDepth 100000 in
theorem c_KP_of_ok3 {σ : SI} {δ : SD} {a : Nat → Int32} {n s o tl : Nat} {P : Nat → Nat → Int32} {tx rf : Nat → Int32} (hI : IC σ a n s o P tl tx rf) {k : Nat} (hk : k < n) : E KP_of [.ref 5, .int (nI k), .int (nI 3)] (HH σ δ) (some (.int (ofA a n k 3))) (HH σ δ) := by
  have hW := hI.hl.wf
  have hR := hI.hl.rb
  have hD := hI.hl.rd
  have h2 := hR.c
  have h8 := hW.n8
  have hB := LB_6
  refine E.ofL [some (.ref 5), some (.int (nI k)), some (.int (nI 3))] rfl pn_RX8 rfl (fun sc => ?_)
  refine g_aload_n dX8_of_0 rfl ?_
  refine q_getq dX8_of_1 f_P_12 ck_5 (by decide) ty_7_0 rf_5_0 ?_
  refine g_iload_n dX8_of_4 rfl ?_
  refine g_v1 (M' := KL_hasItem) dX8_of_5 l_P_78 v_KL_hasItem (c_KL_hasItem LB_6 h2 h8) (rcL LB_6) rfl rfl ⟨rfl, rfl⟩ ?_
  refine g_top (it1 hk h8) ?_
  refine n_if_eq (tgt := 25) (by omega) dX8_of_8 rfl (fun zc8 => absurd zc8 (by decide)) (fun _ => ?_)
  refine g_iload_n dX8_of_11 rfl ?_
  refine g_iconst dX8_of_12 ic_0 ?_
  refine g_bipush dX8_of_13 bp_9 ?_
  refine g_s3 (M' := KP_within) dX8_of_15 l_P_96 s_KP_within c_KP_within rfl rfl ⟨rfl, rfl⟩ ?_
  refine g_top (in1 (Nat.zero_le _) (by omega) (by decide)) ?_
  refine n_if_eq (tgt := 25) (by omega) dX8_of_18 rfl (fun zc18 => absurd zc18 (by decide)) (fun _ => ?_)
  refine g_iconst dX8_of_21 ic_1 ?_
  refine g_top bI_t.symm ?_
  refine g_goto (tgt := 26) dX8_of_22 rfl ?_
  refine g_s1 (M' := KP_goodIf) dX8_of_26 l_P_81 s_KP_goodIf c_KP_goodIf rfl rfl ⟨rfl, rfl⟩ ?_
  refine g_top (if_pos rfl) ?_
  refine g_istore_n dX8_of_29 rfl ?_
  refine g_aload_n dX8_of_30 rfl ?_
  refine g_iload_n dX8_of_31 rfl ?_
  refine g_v1 (M' := KP_mayAnswer) dX8_of_32 l_P_100 v_KP_mayAnswer c_KP_mayAnswer0 rc_5 rfl rfl ⟨rfl, rfl⟩ ?_
  refine b_if_eq (tgt := 50) dX8_of_35 rfl (fun zc35 => ?_) (fun zc35 => ?_)
  · exact absurd zc35 (by decide)
  · refine g_aload_n dX8_of_38 rfl ?_
    refine q_getq dX8_of_39 f_P_12 ck_5 (by decide) ty_7_0 rf_5_0 ?_
    refine g_iload_n dX8_of_42 rfl ?_
    refine g_iload_n dX8_of_43 rfl ?_
    refine g_v2 (M' := KL_tellOfItem) dX8_of_44 l_P_103 v_KL_tellOfItem (c_KL_tellOfItem3 LB_6 hW hR hD hk) (rcL LB_6) rfl rfl ⟨rfl, rfl⟩ ?_
    refine g_goto (tgt := 51) dX8_of_47 rfl ?_
    exact e_iret dX8_of_51 rfl (by rfl) (by rfl)
set_option maxRecDepth 100000 in
theorem c_KR_ofNow3 {σ : SI} {δ : SD} {n : Nat} (hW : WF (σ 85) n) {k : Nat} (hk : k < n) : E KR_ofNow [.ref 84, .int (nI k), .int (nI 3)] (HH σ δ) (some (.int (ofA (σ 85) n k 3))) (HH σ δ) := by
  have h8 := hW.n8
  refine E.ofL [some (.ref 84), some (.int (nI k)), some (.int (nI 3))] rfl pn_RX9 rfl (fun sc => ?_)
  refine g_iload_n dX9_ofNow_0 rfl ?_
  refine g_tsw (tgt := 64) dX9_ofNow_1 (by decide +kernel) (by decide) ?_
  refine g_aload_n dX9_ofNow_64 rfl ?_
  refine g_iload_n dX9_ofNow_65 rfl ?_
  refine g_iload_n dX9_ofNow_66 rfl ?_
  refine g_v2 (M' := KR_its) dX9_ofNow_67 l_R_50 v_KR_its (c_KR_its (by omega) (by omega)) rc_84 rfl rfl ⟨rfl, rfl⟩ ?_
  exact e_iret dX9_ofNow_70 rfl (by rfl) (by rfl)
set_option maxRecDepth 100000 in
theorem c_KR_of_ok3 {σ : SI} {δ : SD} {a : Nat → Int32} {n s tl : Nat} {P : Nat → Nat → Int32} {tx rf : Nat → Int32} (hJ : IR σ a s P tl tx rf) (hs : s ≤ 5) (hW : WF a n) {k : Nat} (hk : k < n) : E KR_of [.ref 84, .int (nI k), .int (nI 3)] (HH σ δ) (some (.int (ofA a n k 3))) (HH σ δ) := by
  obtain rfl := hJ.row
  have h3 := hJ.sd
  have hn := hW.n8
  have h7 := hW.a7
  have h8 := hW.n8
  refine E.ofL [some (.ref 84), some (.int (nI k)), some (.int (nI 3))] rfl pn_RX9 rfl (fun sc => ?_)
  refine g_aload_n dX9_of_0 rfl ?_
  refine g_iload_n dX9_of_1 rfl ?_
  refine g_v1 (M' := KR_isItem) dX9_of_2 l_R_94 v_KR_isItem (c_KR_isItem h7 hn) rc_84 rfl rfl ⟨rfl, rfl⟩ ?_
  refine g_top (it1 hk hn) ?_
  refine n_if_eq (tgt := 29) (by omega) dX9_of_5 rfl (fun zc5 => absurd zc5 (by decide)) (fun _ => ?_)
  refine g_iload_n dX9_of_8 rfl ?_
  refine g_i2l dX9_of_9 ?_
  refine g_lconst (v := 0) dX9_of_10 rfl ?_
  refine g_ldcl dX9_of_11 c_R_155 ?_
  refine g_s3 (M' := KR_in) dX9_of_14 l_R_46 s_KR_in c_KR_in rfl rfl ⟨rfl, rfl⟩ ?_
  refine g_top (show _ = nI 1 by decide +kernel) ?_
  refine n_if_eq (tgt := 29) (by omega) dX9_of_17 rfl (fun zc17 => absurd zc17 (by decide)) (fun _ => ?_)
  refine g_aload_n dX9_of_20 rfl ?_
  refine g_iload_n dX9_of_21 rfl ?_
  refine g_iload_n dX9_of_22 rfl ?_
  refine g_v2 (M' := KR_ofNow) dX9_of_23 l_R_157 v_KR_ofNow (c_KR_ofNow3 hW hk) rc_84 rfl rfl ⟨rfl, rfl⟩ ?_
  refine g_goto (tgt := 35) dX9_of_26 rfl ?_
  exact e_iret dX9_of_35 rfl (by rfl) (by rfl)
set_option maxRecDepth 100000 in
theorem c_KP_of_ok4 {σ : SI} {δ : SD} {a : Nat → Int32} {n s o tl : Nat} {P : Nat → Nat → Int32} {tx rf : Nat → Int32} (hI : IC σ a n s o P tl tx rf) {k : Nat} (hk : k < n) : E KP_of [.ref 5, .int (nI k), .int (nI 4)] (HH σ δ) (some (.int (ofA a n k 4))) (HH σ δ) := by
  have hW := hI.hl.wf
  have hR := hI.hl.rb
  have hD := hI.hl.rd
  have h2 := hR.c
  have h8 := hW.n8
  have hB := LB_6
  refine E.ofL [some (.ref 5), some (.int (nI k)), some (.int (nI 4))] rfl pn_RX8 rfl (fun sc => ?_)
  refine g_aload_n dX8_of_0 rfl ?_
  refine q_getq dX8_of_1 f_P_12 ck_5 (by decide) ty_7_0 rf_5_0 ?_
  refine g_iload_n dX8_of_4 rfl ?_
  refine g_v1 (M' := KL_hasItem) dX8_of_5 l_P_78 v_KL_hasItem (c_KL_hasItem LB_6 h2 h8) (rcL LB_6) rfl rfl ⟨rfl, rfl⟩ ?_
  refine g_top (it1 hk h8) ?_
  refine n_if_eq (tgt := 25) (by omega) dX8_of_8 rfl (fun zc8 => absurd zc8 (by decide)) (fun _ => ?_)
  refine g_iload_n dX8_of_11 rfl ?_
  refine g_iconst dX8_of_12 ic_0 ?_
  refine g_bipush dX8_of_13 bp_9 ?_
  refine g_s3 (M' := KP_within) dX8_of_15 l_P_96 s_KP_within c_KP_within rfl rfl ⟨rfl, rfl⟩ ?_
  refine g_top (in1 (Nat.zero_le _) (by omega) (by decide)) ?_
  refine n_if_eq (tgt := 25) (by omega) dX8_of_18 rfl (fun zc18 => absurd zc18 (by decide)) (fun _ => ?_)
  refine g_iconst dX8_of_21 ic_1 ?_
  refine g_top bI_t.symm ?_
  refine g_goto (tgt := 26) dX8_of_22 rfl ?_
  refine g_s1 (M' := KP_goodIf) dX8_of_26 l_P_81 s_KP_goodIf c_KP_goodIf rfl rfl ⟨rfl, rfl⟩ ?_
  refine g_top (if_pos rfl) ?_
  refine g_istore_n dX8_of_29 rfl ?_
  refine g_aload_n dX8_of_30 rfl ?_
  refine g_iload_n dX8_of_31 rfl ?_
  refine g_v1 (M' := KP_mayAnswer) dX8_of_32 l_P_100 v_KP_mayAnswer c_KP_mayAnswer0 rc_5 rfl rfl ⟨rfl, rfl⟩ ?_
  refine b_if_eq (tgt := 50) dX8_of_35 rfl (fun zc35 => ?_) (fun zc35 => ?_)
  · exact absurd zc35 (by decide)
  · refine g_aload_n dX8_of_38 rfl ?_
    refine q_getq dX8_of_39 f_P_12 ck_5 (by decide) ty_7_0 rf_5_0 ?_
    refine g_iload_n dX8_of_42 rfl ?_
    refine g_iload_n dX8_of_43 rfl ?_
    refine g_v2 (M' := KL_tellOfItem) dX8_of_44 l_P_103 v_KL_tellOfItem (c_KL_tellOfItem4 LB_6 hW hR hD hk) (rcL LB_6) rfl rfl ⟨rfl, rfl⟩ ?_
    refine g_goto (tgt := 51) dX8_of_47 rfl ?_
    exact e_iret dX8_of_51 rfl (by rfl) (by rfl)
set_option maxRecDepth 100000 in
theorem c_KR_ofNow4 {σ : SI} {δ : SD} {n : Nat} (hW : WF (σ 85) n) {k : Nat} (hk : k < n) : E KR_ofNow [.ref 84, .int (nI k), .int (nI 4)] (HH σ δ) (some (.int (ofA (σ 85) n k 4))) (HH σ δ) := by
  have h8 := hW.n8
  refine E.ofL [some (.ref 84), some (.int (nI k)), some (.int (nI 4))] rfl pn_RX9 rfl (fun sc => ?_)
  refine g_iload_n dX9_ofNow_0 rfl ?_
  refine g_tsw (tgt := 64) dX9_ofNow_1 (by decide +kernel) (by decide) ?_
  refine g_aload_n dX9_ofNow_64 rfl ?_
  refine g_iload_n dX9_ofNow_65 rfl ?_
  refine g_iload_n dX9_ofNow_66 rfl ?_
  refine g_v2 (M' := KR_its) dX9_ofNow_67 l_R_50 v_KR_its (c_KR_its (by omega) (by omega)) rc_84 rfl rfl ⟨rfl, rfl⟩ ?_
  exact e_iret dX9_ofNow_70 rfl (by rfl) (by rfl)
set_option maxRecDepth 100000 in
theorem c_KR_of_ok4 {σ : SI} {δ : SD} {a : Nat → Int32} {n s tl : Nat} {P : Nat → Nat → Int32} {tx rf : Nat → Int32} (hJ : IR σ a s P tl tx rf) (hs : s ≤ 5) (hW : WF a n) {k : Nat} (hk : k < n) : E KR_of [.ref 84, .int (nI k), .int (nI 4)] (HH σ δ) (some (.int (ofA a n k 4))) (HH σ δ) := by
  obtain rfl := hJ.row
  have h3 := hJ.sd
  have hn := hW.n8
  have h7 := hW.a7
  have h8 := hW.n8
  refine E.ofL [some (.ref 84), some (.int (nI k)), some (.int (nI 4))] rfl pn_RX9 rfl (fun sc => ?_)
  refine g_aload_n dX9_of_0 rfl ?_
  refine g_iload_n dX9_of_1 rfl ?_
  refine g_v1 (M' := KR_isItem) dX9_of_2 l_R_94 v_KR_isItem (c_KR_isItem h7 hn) rc_84 rfl rfl ⟨rfl, rfl⟩ ?_
  refine g_top (it1 hk hn) ?_
  refine n_if_eq (tgt := 29) (by omega) dX9_of_5 rfl (fun zc5 => absurd zc5 (by decide)) (fun _ => ?_)
  refine g_iload_n dX9_of_8 rfl ?_
  refine g_i2l dX9_of_9 ?_
  refine g_lconst (v := 0) dX9_of_10 rfl ?_
  refine g_ldcl dX9_of_11 c_R_155 ?_
  refine g_s3 (M' := KR_in) dX9_of_14 l_R_46 s_KR_in c_KR_in rfl rfl ⟨rfl, rfl⟩ ?_
  refine g_top (show _ = nI 1 by decide +kernel) ?_
  refine n_if_eq (tgt := 29) (by omega) dX9_of_17 rfl (fun zc17 => absurd zc17 (by decide)) (fun _ => ?_)
  refine g_aload_n dX9_of_20 rfl ?_
  refine g_iload_n dX9_of_21 rfl ?_
  refine g_iload_n dX9_of_22 rfl ?_
  refine g_v2 (M' := KR_ofNow) dX9_of_23 l_R_157 v_KR_ofNow (c_KR_ofNow4 hW hk) rc_84 rfl rfl ⟨rfl, rfl⟩ ?_
  refine g_goto (tgt := 35) dX9_of_26 rfl ?_
  exact e_iret dX9_of_35 rfl (by rfl) (by rfl)
set_option maxRecDepth 100000 in
theorem c_KP_of_ok5 {σ : SI} {δ : SD} {a : Nat → Int32} {n s o tl : Nat} {P : Nat → Nat → Int32} {tx rf : Nat → Int32} (hI : IC σ a n s o P tl tx rf) {k : Nat} (hk : k < n) : E KP_of [.ref 5, .int (nI k), .int (nI 5)] (HH σ δ) (some (.int (ofA a n k 5))) (HH σ δ) := by
  have hW := hI.hl.wf
  have hR := hI.hl.rb
  have hD := hI.hl.rd
  have h2 := hR.c
  have h8 := hW.n8
  have hB := LB_6
  refine E.ofL [some (.ref 5), some (.int (nI k)), some (.int (nI 5))] rfl pn_RX8 rfl (fun sc => ?_)
  refine g_aload_n dX8_of_0 rfl ?_
  refine q_getq dX8_of_1 f_P_12 ck_5 (by decide) ty_7_0 rf_5_0 ?_
  refine g_iload_n dX8_of_4 rfl ?_
  refine g_v1 (M' := KL_hasItem) dX8_of_5 l_P_78 v_KL_hasItem (c_KL_hasItem LB_6 h2 h8) (rcL LB_6) rfl rfl ⟨rfl, rfl⟩ ?_
  refine g_top (it1 hk h8) ?_
  refine n_if_eq (tgt := 25) (by omega) dX8_of_8 rfl (fun zc8 => absurd zc8 (by decide)) (fun _ => ?_)
  refine g_iload_n dX8_of_11 rfl ?_
  refine g_iconst dX8_of_12 ic_0 ?_
  refine g_bipush dX8_of_13 bp_9 ?_
  refine g_s3 (M' := KP_within) dX8_of_15 l_P_96 s_KP_within c_KP_within rfl rfl ⟨rfl, rfl⟩ ?_
  refine g_top (in1 (Nat.zero_le _) (by omega) (by decide)) ?_
  refine n_if_eq (tgt := 25) (by omega) dX8_of_18 rfl (fun zc18 => absurd zc18 (by decide)) (fun _ => ?_)
  refine g_iconst dX8_of_21 ic_1 ?_
  refine g_top bI_t.symm ?_
  refine g_goto (tgt := 26) dX8_of_22 rfl ?_
  refine g_s1 (M' := KP_goodIf) dX8_of_26 l_P_81 s_KP_goodIf c_KP_goodIf rfl rfl ⟨rfl, rfl⟩ ?_
  refine g_top (if_pos rfl) ?_
  refine g_istore_n dX8_of_29 rfl ?_
  refine g_aload_n dX8_of_30 rfl ?_
  refine g_iload_n dX8_of_31 rfl ?_
  refine g_v1 (M' := KP_mayAnswer) dX8_of_32 l_P_100 v_KP_mayAnswer c_KP_mayAnswer0 rc_5 rfl rfl ⟨rfl, rfl⟩ ?_
  refine b_if_eq (tgt := 50) dX8_of_35 rfl (fun zc35 => ?_) (fun zc35 => ?_)
  · exact absurd zc35 (by decide)
  · refine g_aload_n dX8_of_38 rfl ?_
    refine q_getq dX8_of_39 f_P_12 ck_5 (by decide) ty_7_0 rf_5_0 ?_
    refine g_iload_n dX8_of_42 rfl ?_
    refine g_iload_n dX8_of_43 rfl ?_
    refine g_v2 (M' := KL_tellOfItem) dX8_of_44 l_P_103 v_KL_tellOfItem (c_KL_tellOfItem5 LB_6 hW hR hD hk) (rcL LB_6) rfl rfl ⟨rfl, rfl⟩ ?_
    refine g_goto (tgt := 51) dX8_of_47 rfl ?_
    exact e_iret dX8_of_51 rfl (by rfl) (by rfl)
set_option maxRecDepth 100000 in
theorem c_KR_ofNow5 {σ : SI} {δ : SD} {n : Nat} (hW : WF (σ 85) n) {k : Nat} (hk : k < n) : E KR_ofNow [.ref 84, .int (nI k), .int (nI 5)] (HH σ δ) (some (.int (ofA (σ 85) n k 5))) (HH σ δ) := by
  have h8 := hW.n8
  refine E.ofL [some (.ref 84), some (.int (nI k)), some (.int (nI 5))] rfl pn_RX9 rfl (fun sc => ?_)
  refine g_iload_n dX9_ofNow_0 rfl ?_
  refine g_tsw (tgt := 64) dX9_ofNow_1 (by decide +kernel) (by decide) ?_
  refine g_aload_n dX9_ofNow_64 rfl ?_
  refine g_iload_n dX9_ofNow_65 rfl ?_
  refine g_iload_n dX9_ofNow_66 rfl ?_
  refine g_v2 (M' := KR_its) dX9_ofNow_67 l_R_50 v_KR_its (c_KR_its (by omega) (by omega)) rc_84 rfl rfl ⟨rfl, rfl⟩ ?_
  exact e_iret dX9_ofNow_70 rfl (by rfl) (by rfl)
set_option maxRecDepth 100000 in
theorem c_KR_of_ok5 {σ : SI} {δ : SD} {a : Nat → Int32} {n s tl : Nat} {P : Nat → Nat → Int32} {tx rf : Nat → Int32} (hJ : IR σ a s P tl tx rf) (hs : s ≤ 5) (hW : WF a n) {k : Nat} (hk : k < n) : E KR_of [.ref 84, .int (nI k), .int (nI 5)] (HH σ δ) (some (.int (ofA a n k 5))) (HH σ δ) := by
  obtain rfl := hJ.row
  have h3 := hJ.sd
  have hn := hW.n8
  have h7 := hW.a7
  have h8 := hW.n8
  refine E.ofL [some (.ref 84), some (.int (nI k)), some (.int (nI 5))] rfl pn_RX9 rfl (fun sc => ?_)
  refine g_aload_n dX9_of_0 rfl ?_
  refine g_iload_n dX9_of_1 rfl ?_
  refine g_v1 (M' := KR_isItem) dX9_of_2 l_R_94 v_KR_isItem (c_KR_isItem h7 hn) rc_84 rfl rfl ⟨rfl, rfl⟩ ?_
  refine g_top (it1 hk hn) ?_
  refine n_if_eq (tgt := 29) (by omega) dX9_of_5 rfl (fun zc5 => absurd zc5 (by decide)) (fun _ => ?_)
  refine g_iload_n dX9_of_8 rfl ?_
  refine g_i2l dX9_of_9 ?_
  refine g_lconst (v := 0) dX9_of_10 rfl ?_
  refine g_ldcl dX9_of_11 c_R_155 ?_
  refine g_s3 (M' := KR_in) dX9_of_14 l_R_46 s_KR_in c_KR_in rfl rfl ⟨rfl, rfl⟩ ?_
  refine g_top (show _ = nI 1 by decide +kernel) ?_
  refine n_if_eq (tgt := 29) (by omega) dX9_of_17 rfl (fun zc17 => absurd zc17 (by decide)) (fun _ => ?_)
  refine g_aload_n dX9_of_20 rfl ?_
  refine g_iload_n dX9_of_21 rfl ?_
  refine g_iload_n dX9_of_22 rfl ?_
  refine g_v2 (M' := KR_ofNow) dX9_of_23 l_R_157 v_KR_ofNow (c_KR_ofNow5 hW hk) rc_84 rfl rfl ⟨rfl, rfl⟩ ?_
  refine g_goto (tgt := 35) dX9_of_26 rfl ?_
  exact e_iret dX9_of_35 rfl (by rfl) (by rfl)
set_option maxRecDepth 100000 in
theorem c_KP_of_ok6 {σ : SI} {δ : SD} {a : Nat → Int32} {n s o tl : Nat} {P : Nat → Nat → Int32} {tx rf : Nat → Int32} (hI : IC σ a n s o P tl tx rf) {k : Nat} (hk : k < n) : E KP_of [.ref 5, .int (nI k), .int (nI 6)] (HH σ δ) (some (.int (ofA a n k 6))) (HH σ δ) := by
  have hW := hI.hl.wf
  have hR := hI.hl.rb
  have hD := hI.hl.rd
  have h2 := hR.c
  have h8 := hW.n8
  have hB := LB_6
  refine E.ofL [some (.ref 5), some (.int (nI k)), some (.int (nI 6))] rfl pn_RX8 rfl (fun sc => ?_)
  refine g_aload_n dX8_of_0 rfl ?_
  refine q_getq dX8_of_1 f_P_12 ck_5 (by decide) ty_7_0 rf_5_0 ?_
  refine g_iload_n dX8_of_4 rfl ?_
  refine g_v1 (M' := KL_hasItem) dX8_of_5 l_P_78 v_KL_hasItem (c_KL_hasItem LB_6 h2 h8) (rcL LB_6) rfl rfl ⟨rfl, rfl⟩ ?_
  refine g_top (it1 hk h8) ?_
  refine n_if_eq (tgt := 25) (by omega) dX8_of_8 rfl (fun zc8 => absurd zc8 (by decide)) (fun _ => ?_)
  refine g_iload_n dX8_of_11 rfl ?_
  refine g_iconst dX8_of_12 ic_0 ?_
  refine g_bipush dX8_of_13 bp_9 ?_
  refine g_s3 (M' := KP_within) dX8_of_15 l_P_96 s_KP_within c_KP_within rfl rfl ⟨rfl, rfl⟩ ?_
  refine g_top (in1 (Nat.zero_le _) (by omega) (by decide)) ?_
  refine n_if_eq (tgt := 25) (by omega) dX8_of_18 rfl (fun zc18 => absurd zc18 (by decide)) (fun _ => ?_)
  refine g_iconst dX8_of_21 ic_1 ?_
  refine g_top bI_t.symm ?_
  refine g_goto (tgt := 26) dX8_of_22 rfl ?_
  refine g_s1 (M' := KP_goodIf) dX8_of_26 l_P_81 s_KP_goodIf c_KP_goodIf rfl rfl ⟨rfl, rfl⟩ ?_
  refine g_top (if_pos rfl) ?_
  refine g_istore_n dX8_of_29 rfl ?_
  refine g_aload_n dX8_of_30 rfl ?_
  refine g_iload_n dX8_of_31 rfl ?_
  refine g_v1 (M' := KP_mayAnswer) dX8_of_32 l_P_100 v_KP_mayAnswer c_KP_mayAnswer0 rc_5 rfl rfl ⟨rfl, rfl⟩ ?_
  refine b_if_eq (tgt := 50) dX8_of_35 rfl (fun zc35 => ?_) (fun zc35 => ?_)
  · exact absurd zc35 (by decide)
  · refine g_aload_n dX8_of_38 rfl ?_
    refine q_getq dX8_of_39 f_P_12 ck_5 (by decide) ty_7_0 rf_5_0 ?_
    refine g_iload_n dX8_of_42 rfl ?_
    refine g_iload_n dX8_of_43 rfl ?_
    refine g_v2 (M' := KL_tellOfItem) dX8_of_44 l_P_103 v_KL_tellOfItem (c_KL_tellOfItem6 LB_6 hW hR hD hk) (rcL LB_6) rfl rfl ⟨rfl, rfl⟩ ?_
    refine g_goto (tgt := 51) dX8_of_47 rfl ?_
    exact e_iret dX8_of_51 rfl (by rfl) (by rfl)
set_option maxRecDepth 100000 in
theorem c_KR_ofNow6 {σ : SI} {δ : SD} {n : Nat} (hW : WF (σ 85) n) {k : Nat} (hk : k < n) : E KR_ofNow [.ref 84, .int (nI k), .int (nI 6)] (HH σ δ) (some (.int (ofA (σ 85) n k 6))) (HH σ δ) := by
  have h8 := hW.n8
  refine E.ofL [some (.ref 84), some (.int (nI k)), some (.int (nI 6))] rfl pn_RX9 rfl (fun sc => ?_)
  refine g_iload_n dX9_ofNow_0 rfl ?_
  refine g_tsw (tgt := 32) dX9_ofNow_1 (by decide +kernel) (by decide) ?_
  refine g_aload_n dX9_ofNow_32 rfl ?_
  refine g_iload_n dX9_ofNow_33 rfl ?_
  refine g_v1 (M' := KR_wide) dX9_ofNow_34 l_R_64 v_KR_wide (c_KR_wide hW (by omega)) rc_84 rfl rfl ⟨rfl, rfl⟩ ?_
  exact e_iret dX9_ofNow_37 rfl (by rfl) (by rfl)
set_option maxRecDepth 100000 in
theorem c_KR_of_ok6 {σ : SI} {δ : SD} {a : Nat → Int32} {n s tl : Nat} {P : Nat → Nat → Int32} {tx rf : Nat → Int32} (hJ : IR σ a s P tl tx rf) (hs : s ≤ 5) (hW : WF a n) {k : Nat} (hk : k < n) : E KR_of [.ref 84, .int (nI k), .int (nI 6)] (HH σ δ) (some (.int (ofA a n k 6))) (HH σ δ) := by
  obtain rfl := hJ.row
  have h3 := hJ.sd
  have hn := hW.n8
  have h7 := hW.a7
  have h8 := hW.n8
  refine E.ofL [some (.ref 84), some (.int (nI k)), some (.int (nI 6))] rfl pn_RX9 rfl (fun sc => ?_)
  refine g_aload_n dX9_of_0 rfl ?_
  refine g_iload_n dX9_of_1 rfl ?_
  refine g_v1 (M' := KR_isItem) dX9_of_2 l_R_94 v_KR_isItem (c_KR_isItem h7 hn) rc_84 rfl rfl ⟨rfl, rfl⟩ ?_
  refine g_top (it1 hk hn) ?_
  refine n_if_eq (tgt := 29) (by omega) dX9_of_5 rfl (fun zc5 => absurd zc5 (by decide)) (fun _ => ?_)
  refine g_iload_n dX9_of_8 rfl ?_
  refine g_i2l dX9_of_9 ?_
  refine g_lconst (v := 0) dX9_of_10 rfl ?_
  refine g_ldcl dX9_of_11 c_R_155 ?_
  refine g_s3 (M' := KR_in) dX9_of_14 l_R_46 s_KR_in c_KR_in rfl rfl ⟨rfl, rfl⟩ ?_
  refine g_top (show _ = nI 1 by decide +kernel) ?_
  refine n_if_eq (tgt := 29) (by omega) dX9_of_17 rfl (fun zc17 => absurd zc17 (by decide)) (fun _ => ?_)
  refine g_aload_n dX9_of_20 rfl ?_
  refine g_iload_n dX9_of_21 rfl ?_
  refine g_iload_n dX9_of_22 rfl ?_
  refine g_v2 (M' := KR_ofNow) dX9_of_23 l_R_157 v_KR_ofNow (c_KR_ofNow6 hW hk) rc_84 rfl rfl ⟨rfl, rfl⟩ ?_
  refine g_goto (tgt := 35) dX9_of_26 rfl ?_
  exact e_iret dX9_of_35 rfl (by rfl) (by rfl)
set_option maxRecDepth 100000 in
theorem c_KP_of_ok7 {σ : SI} {δ : SD} {a : Nat → Int32} {n s o tl : Nat} {P : Nat → Nat → Int32} {tx rf : Nat → Int32} (hI : IC σ a n s o P tl tx rf) {k : Nat} (hk : k < n) : E KP_of [.ref 5, .int (nI k), .int (nI 7)] (HH σ δ) (some (.int (ofA a n k 7))) (HH σ δ) := by
  have hW := hI.hl.wf
  have hR := hI.hl.rb
  have hD := hI.hl.rd
  have h2 := hR.c
  have h8 := hW.n8
  have hB := LB_6
  refine E.ofL [some (.ref 5), some (.int (nI k)), some (.int (nI 7))] rfl pn_RX8 rfl (fun sc => ?_)
  refine g_aload_n dX8_of_0 rfl ?_
  refine q_getq dX8_of_1 f_P_12 ck_5 (by decide) ty_7_0 rf_5_0 ?_
  refine g_iload_n dX8_of_4 rfl ?_
  refine g_v1 (M' := KL_hasItem) dX8_of_5 l_P_78 v_KL_hasItem (c_KL_hasItem LB_6 h2 h8) (rcL LB_6) rfl rfl ⟨rfl, rfl⟩ ?_
  refine g_top (it1 hk h8) ?_
  refine n_if_eq (tgt := 25) (by omega) dX8_of_8 rfl (fun zc8 => absurd zc8 (by decide)) (fun _ => ?_)
  refine g_iload_n dX8_of_11 rfl ?_
  refine g_iconst dX8_of_12 ic_0 ?_
  refine g_bipush dX8_of_13 bp_9 ?_
  refine g_s3 (M' := KP_within) dX8_of_15 l_P_96 s_KP_within c_KP_within rfl rfl ⟨rfl, rfl⟩ ?_
  refine g_top (in1 (Nat.zero_le _) (by omega) (by decide)) ?_
  refine n_if_eq (tgt := 25) (by omega) dX8_of_18 rfl (fun zc18 => absurd zc18 (by decide)) (fun _ => ?_)
  refine g_iconst dX8_of_21 ic_1 ?_
  refine g_top bI_t.symm ?_
  refine g_goto (tgt := 26) dX8_of_22 rfl ?_
  refine g_s1 (M' := KP_goodIf) dX8_of_26 l_P_81 s_KP_goodIf c_KP_goodIf rfl rfl ⟨rfl, rfl⟩ ?_
  refine g_top (if_pos rfl) ?_
  refine g_istore_n dX8_of_29 rfl ?_
  refine g_aload_n dX8_of_30 rfl ?_
  refine g_iload_n dX8_of_31 rfl ?_
  refine g_v1 (M' := KP_mayAnswer) dX8_of_32 l_P_100 v_KP_mayAnswer c_KP_mayAnswer0 rc_5 rfl rfl ⟨rfl, rfl⟩ ?_
  refine b_if_eq (tgt := 50) dX8_of_35 rfl (fun zc35 => ?_) (fun zc35 => ?_)
  · exact absurd zc35 (by decide)
  · refine g_aload_n dX8_of_38 rfl ?_
    refine q_getq dX8_of_39 f_P_12 ck_5 (by decide) ty_7_0 rf_5_0 ?_
    refine g_iload_n dX8_of_42 rfl ?_
    refine g_iload_n dX8_of_43 rfl ?_
    refine g_v2 (M' := KL_tellOfItem) dX8_of_44 l_P_103 v_KL_tellOfItem (c_KL_tellOfItem7 LB_6 hW hR hD hk) (rcL LB_6) rfl rfl ⟨rfl, rfl⟩ ?_
    refine g_goto (tgt := 51) dX8_of_47 rfl ?_
    exact e_iret dX8_of_51 rfl (by rfl) (by rfl)
set_option maxRecDepth 100000 in
theorem c_KR_ofNow7 {σ : SI} {δ : SD} {n : Nat} (hW : WF (σ 85) n) {k : Nat} (hk : k < n) : E KR_ofNow [.ref 84, .int (nI k), .int (nI 7)] (HH σ δ) (some (.int (ofA (σ 85) n k 7))) (HH σ δ) := by
  have h8 := hW.n8
  refine E.ofL [some (.ref 84), some (.int (nI k)), some (.int (nI 7))] rfl pn_RX9 rfl (fun sc => ?_)
  refine g_iload_n dX9_ofNow_0 rfl ?_
  refine g_tsw (tgt := 38) dX9_ofNow_1 (by decide +kernel) (by decide) ?_
  refine g_aload_n dX9_ofNow_38 rfl ?_
  refine g_iload_n dX9_ofNow_39 rfl ?_
  refine g_v1 (M' := KR_high) dX9_ofNow_40 l_R_68 v_KR_high (c_KR_high hW (by omega)) rc_84 rfl rfl ⟨rfl, rfl⟩ ?_
  exact e_iret dX9_ofNow_43 rfl (by rfl) (by rfl)
set_option maxRecDepth 100000 in
theorem c_KR_of_ok7 {σ : SI} {δ : SD} {a : Nat → Int32} {n s tl : Nat} {P : Nat → Nat → Int32} {tx rf : Nat → Int32} (hJ : IR σ a s P tl tx rf) (hs : s ≤ 5) (hW : WF a n) {k : Nat} (hk : k < n) : E KR_of [.ref 84, .int (nI k), .int (nI 7)] (HH σ δ) (some (.int (ofA a n k 7))) (HH σ δ) := by
  obtain rfl := hJ.row
  have h3 := hJ.sd
  have hn := hW.n8
  have h7 := hW.a7
  have h8 := hW.n8
  refine E.ofL [some (.ref 84), some (.int (nI k)), some (.int (nI 7))] rfl pn_RX9 rfl (fun sc => ?_)
  refine g_aload_n dX9_of_0 rfl ?_
  refine g_iload_n dX9_of_1 rfl ?_
  refine g_v1 (M' := KR_isItem) dX9_of_2 l_R_94 v_KR_isItem (c_KR_isItem h7 hn) rc_84 rfl rfl ⟨rfl, rfl⟩ ?_
  refine g_top (it1 hk hn) ?_
  refine n_if_eq (tgt := 29) (by omega) dX9_of_5 rfl (fun zc5 => absurd zc5 (by decide)) (fun _ => ?_)
  refine g_iload_n dX9_of_8 rfl ?_
  refine g_i2l dX9_of_9 ?_
  refine g_lconst (v := 0) dX9_of_10 rfl ?_
  refine g_ldcl dX9_of_11 c_R_155 ?_
  refine g_s3 (M' := KR_in) dX9_of_14 l_R_46 s_KR_in c_KR_in rfl rfl ⟨rfl, rfl⟩ ?_
  refine g_top (show _ = nI 1 by decide +kernel) ?_
  refine n_if_eq (tgt := 29) (by omega) dX9_of_17 rfl (fun zc17 => absurd zc17 (by decide)) (fun _ => ?_)
  refine g_aload_n dX9_of_20 rfl ?_
  refine g_iload_n dX9_of_21 rfl ?_
  refine g_iload_n dX9_of_22 rfl ?_
  refine g_v2 (M' := KR_ofNow) dX9_of_23 l_R_157 v_KR_ofNow (c_KR_ofNow7 hW hk) rc_84 rfl rfl ⟨rfl, rfl⟩ ?_
  refine g_goto (tgt := 35) dX9_of_26 rfl ?_
  exact e_iret dX9_of_35 rfl (by rfl) (by rfl)
set_option maxRecDepth 100000 in
theorem c_KP_of_ok8 {σ : SI} {δ : SD} {a : Nat → Int32} {n s o tl : Nat} {P : Nat → Nat → Int32} {tx rf : Nat → Int32} (hI : IC σ a n s o P tl tx rf) {k : Nat} (hk : k < n) : E KP_of [.ref 5, .int (nI k), .int (nI 8)] (HH σ δ) (some (.int (ofA a n k 8))) (HH σ δ) := by
  have hW := hI.hl.wf
  have hR := hI.hl.rb
  have hD := hI.hl.rd
  have h2 := hR.c
  have h8 := hW.n8
  have hB := LB_6
  refine E.ofL [some (.ref 5), some (.int (nI k)), some (.int (nI 8))] rfl pn_RX8 rfl (fun sc => ?_)
  refine g_aload_n dX8_of_0 rfl ?_
  refine q_getq dX8_of_1 f_P_12 ck_5 (by decide) ty_7_0 rf_5_0 ?_
  refine g_iload_n dX8_of_4 rfl ?_
  refine g_v1 (M' := KL_hasItem) dX8_of_5 l_P_78 v_KL_hasItem (c_KL_hasItem LB_6 h2 h8) (rcL LB_6) rfl rfl ⟨rfl, rfl⟩ ?_
  refine g_top (it1 hk h8) ?_
  refine n_if_eq (tgt := 25) (by omega) dX8_of_8 rfl (fun zc8 => absurd zc8 (by decide)) (fun _ => ?_)
  refine g_iload_n dX8_of_11 rfl ?_
  refine g_iconst dX8_of_12 ic_0 ?_
  refine g_bipush dX8_of_13 bp_9 ?_
  refine g_s3 (M' := KP_within) dX8_of_15 l_P_96 s_KP_within c_KP_within rfl rfl ⟨rfl, rfl⟩ ?_
  refine g_top (in1 (Nat.zero_le _) (by omega) (by decide)) ?_
  refine n_if_eq (tgt := 25) (by omega) dX8_of_18 rfl (fun zc18 => absurd zc18 (by decide)) (fun _ => ?_)
  refine g_iconst dX8_of_21 ic_1 ?_
  refine g_top bI_t.symm ?_
  refine g_goto (tgt := 26) dX8_of_22 rfl ?_
  refine g_s1 (M' := KP_goodIf) dX8_of_26 l_P_81 s_KP_goodIf c_KP_goodIf rfl rfl ⟨rfl, rfl⟩ ?_
  refine g_top (if_pos rfl) ?_
  refine g_istore_n dX8_of_29 rfl ?_
  refine g_aload_n dX8_of_30 rfl ?_
  refine g_iload_n dX8_of_31 rfl ?_
  refine g_v1 (M' := KP_mayAnswer) dX8_of_32 l_P_100 v_KP_mayAnswer c_KP_mayAnswer0 rc_5 rfl rfl ⟨rfl, rfl⟩ ?_
  refine b_if_eq (tgt := 50) dX8_of_35 rfl (fun zc35 => ?_) (fun zc35 => ?_)
  · exact absurd zc35 (by decide)
  · refine g_aload_n dX8_of_38 rfl ?_
    refine q_getq dX8_of_39 f_P_12 ck_5 (by decide) ty_7_0 rf_5_0 ?_
    refine g_iload_n dX8_of_42 rfl ?_
    refine g_iload_n dX8_of_43 rfl ?_
    refine g_v2 (M' := KL_tellOfItem) dX8_of_44 l_P_103 v_KL_tellOfItem (c_KL_tellOfItem8 LB_6 hW hR hD hk) (rcL LB_6) rfl rfl ⟨rfl, rfl⟩ ?_
    refine g_goto (tgt := 51) dX8_of_47 rfl ?_
    exact e_iret dX8_of_51 rfl (by rfl) (by rfl)
set_option maxRecDepth 100000 in
theorem c_KR_ofNow8 {σ : SI} {δ : SD} {n : Nat} (hW : WF (σ 85) n) {k : Nat} (hk : k < n) : E KR_ofNow [.ref 84, .int (nI k), .int (nI 8)] (HH σ δ) (some (.int (ofA (σ 85) n k 8))) (HH σ δ) := by
  have h8 := hW.n8
  refine E.ofL [some (.ref 84), some (.int (nI k)), some (.int (nI 8))] rfl pn_RX9 rfl (fun sc => ?_)
  refine g_iload_n dX9_ofNow_0 rfl ?_
  refine g_tsw (tgt := 44) dX9_ofNow_1 (by decide +kernel) (by decide) ?_
  refine g_aload_n dX9_ofNow_44 rfl ?_
  refine g_iload_n dX9_ofNow_45 rfl ?_
  refine g_v1 (M' := KR_weight) dX9_ofNow_46 l_R_149 v_KR_weight (c_KR_weight hW (by omega)) rc_84 rfl rfl ⟨rfl, rfl⟩ ?_
  exact e_iret dX9_ofNow_49 rfl (by rfl) (by rfl)
set_option maxRecDepth 100000 in
theorem c_KR_of_ok8 {σ : SI} {δ : SD} {a : Nat → Int32} {n s tl : Nat} {P : Nat → Nat → Int32} {tx rf : Nat → Int32} (hJ : IR σ a s P tl tx rf) (hs : s ≤ 5) (hW : WF a n) {k : Nat} (hk : k < n) : E KR_of [.ref 84, .int (nI k), .int (nI 8)] (HH σ δ) (some (.int (ofA a n k 8))) (HH σ δ) := by
  obtain rfl := hJ.row
  have h3 := hJ.sd
  have hn := hW.n8
  have h7 := hW.a7
  have h8 := hW.n8
  refine E.ofL [some (.ref 84), some (.int (nI k)), some (.int (nI 8))] rfl pn_RX9 rfl (fun sc => ?_)
  refine g_aload_n dX9_of_0 rfl ?_
  refine g_iload_n dX9_of_1 rfl ?_
  refine g_v1 (M' := KR_isItem) dX9_of_2 l_R_94 v_KR_isItem (c_KR_isItem h7 hn) rc_84 rfl rfl ⟨rfl, rfl⟩ ?_
  refine g_top (it1 hk hn) ?_
  refine n_if_eq (tgt := 29) (by omega) dX9_of_5 rfl (fun zc5 => absurd zc5 (by decide)) (fun _ => ?_)
  refine g_iload_n dX9_of_8 rfl ?_
  refine g_i2l dX9_of_9 ?_
  refine g_lconst (v := 0) dX9_of_10 rfl ?_
  refine g_ldcl dX9_of_11 c_R_155 ?_
  refine g_s3 (M' := KR_in) dX9_of_14 l_R_46 s_KR_in c_KR_in rfl rfl ⟨rfl, rfl⟩ ?_
  refine g_top (show _ = nI 1 by decide +kernel) ?_
  refine n_if_eq (tgt := 29) (by omega) dX9_of_17 rfl (fun zc17 => absurd zc17 (by decide)) (fun _ => ?_)
  refine g_aload_n dX9_of_20 rfl ?_
  refine g_iload_n dX9_of_21 rfl ?_
  refine g_iload_n dX9_of_22 rfl ?_
  refine g_v2 (M' := KR_ofNow) dX9_of_23 l_R_157 v_KR_ofNow (c_KR_ofNow8 hW hk) rc_84 rfl rfl ⟨rfl, rfl⟩ ?_
  refine g_goto (tgt := 35) dX9_of_26 rfl ?_
  exact e_iret dX9_of_35 rfl (by rfl) (by rfl)
set_option maxRecDepth 100000 in
theorem c_KP_of_ok9 {σ : SI} {δ : SD} {a : Nat → Int32} {n s o tl : Nat} {P : Nat → Nat → Int32} {tx rf : Nat → Int32} (hI : IC σ a n s o P tl tx rf) {k : Nat} (hk : k < n) : E KP_of [.ref 5, .int (nI k), .int (nI 9)] (HH σ δ) (some (.int (ofA a n k 9))) (HH σ δ) := by
  have hW := hI.hl.wf
  have hR := hI.hl.rb
  have hD := hI.hl.rd
  have h2 := hR.c
  have h8 := hW.n8
  have hB := LB_6
  refine E.ofL [some (.ref 5), some (.int (nI k)), some (.int (nI 9))] rfl pn_RX8 rfl (fun sc => ?_)
  refine g_aload_n dX8_of_0 rfl ?_
  refine q_getq dX8_of_1 f_P_12 ck_5 (by decide) ty_7_0 rf_5_0 ?_
  refine g_iload_n dX8_of_4 rfl ?_
  refine g_v1 (M' := KL_hasItem) dX8_of_5 l_P_78 v_KL_hasItem (c_KL_hasItem LB_6 h2 h8) (rcL LB_6) rfl rfl ⟨rfl, rfl⟩ ?_
  refine g_top (it1 hk h8) ?_
  refine n_if_eq (tgt := 25) (by omega) dX8_of_8 rfl (fun zc8 => absurd zc8 (by decide)) (fun _ => ?_)
  refine g_iload_n dX8_of_11 rfl ?_
  refine g_iconst dX8_of_12 ic_0 ?_
  refine g_bipush dX8_of_13 bp_9 ?_
  refine g_s3 (M' := KP_within) dX8_of_15 l_P_96 s_KP_within c_KP_within rfl rfl ⟨rfl, rfl⟩ ?_
  refine g_top (in1 (Nat.zero_le _) (by omega) (by decide)) ?_
  refine n_if_eq (tgt := 25) (by omega) dX8_of_18 rfl (fun zc18 => absurd zc18 (by decide)) (fun _ => ?_)
  refine g_iconst dX8_of_21 ic_1 ?_
  refine g_top bI_t.symm ?_
  refine g_goto (tgt := 26) dX8_of_22 rfl ?_
  refine g_s1 (M' := KP_goodIf) dX8_of_26 l_P_81 s_KP_goodIf c_KP_goodIf rfl rfl ⟨rfl, rfl⟩ ?_
  refine g_top (if_pos rfl) ?_
  refine g_istore_n dX8_of_29 rfl ?_
  refine g_aload_n dX8_of_30 rfl ?_
  refine g_iload_n dX8_of_31 rfl ?_
  refine g_v1 (M' := KP_mayAnswer) dX8_of_32 l_P_100 v_KP_mayAnswer c_KP_mayAnswer0 rc_5 rfl rfl ⟨rfl, rfl⟩ ?_
  refine b_if_eq (tgt := 50) dX8_of_35 rfl (fun zc35 => ?_) (fun zc35 => ?_)
  · exact absurd zc35 (by decide)
  · refine g_aload_n dX8_of_38 rfl ?_
    refine q_getq dX8_of_39 f_P_12 ck_5 (by decide) ty_7_0 rf_5_0 ?_
    refine g_iload_n dX8_of_42 rfl ?_
    refine g_iload_n dX8_of_43 rfl ?_
    refine g_v2 (M' := KL_tellOfItem) dX8_of_44 l_P_103 v_KL_tellOfItem (c_KL_tellOfItem9 LB_6 hW hR hD hk) (rcL LB_6) rfl rfl ⟨rfl, rfl⟩ ?_
    refine g_goto (tgt := 51) dX8_of_47 rfl ?_
    exact e_iret dX8_of_51 rfl (by rfl) (by rfl)
set_option maxRecDepth 100000 in
theorem c_KR_ofNow9 {σ : SI} {δ : SD} {n : Nat} (hW : WF (σ 85) n) {k : Nat} (hk : k < n) : E KR_ofNow [.ref 84, .int (nI k), .int (nI 9)] (HH σ δ) (some (.int (ofA (σ 85) n k 9))) (HH σ δ) := by
  have h8 := hW.n8
  refine E.ofL [some (.ref 84), some (.int (nI k)), some (.int (nI 9))] rfl pn_RX9 rfl (fun sc => ?_)
  refine g_iload_n dX9_ofNow_0 rfl ?_
  refine g_tsw (tgt := 50) dX9_ofNow_1 (by decide +kernel) (by decide) ?_
  refine g_aload_n dX9_ofNow_50 rfl ?_
  refine g_iload_n dX9_ofNow_51 rfl ?_
  refine g_v1 (M' := KR_isFitThere) dX9_ofNow_52 l_R_152 v_KR_isFitThere (c_KR_isFitThere hW (by omega)) rc_84 rfl rfl ⟨rfl, rfl⟩ ?_
  refine b_if_eq (tgt := 62) dX9_ofNow_55 rfl (fun zc55 => ?_) (fun zc55 => ?_)
  · refine g_iconst dX9_ofNow_62 ic_0 ?_
    exact e_iret dX9_ofNow_63 rfl (by exact (of9 zc55).symm) (by rfl)
  · refine g_iconst dX9_ofNow_58 ic_1 ?_
    refine g_goto (tgt := 63) dX9_ofNow_59 rfl ?_
    exact e_iret dX9_ofNow_63 rfl (by exact (of9 zc55).symm) (by rfl)
set_option maxRecDepth 100000 in
theorem c_KR_of_ok9 {σ : SI} {δ : SD} {a : Nat → Int32} {n s tl : Nat} {P : Nat → Nat → Int32} {tx rf : Nat → Int32} (hJ : IR σ a s P tl tx rf) (hs : s ≤ 5) (hW : WF a n) {k : Nat} (hk : k < n) : E KR_of [.ref 84, .int (nI k), .int (nI 9)] (HH σ δ) (some (.int (ofA a n k 9))) (HH σ δ) := by
  obtain rfl := hJ.row
  have h3 := hJ.sd
  have hn := hW.n8
  have h7 := hW.a7
  have h8 := hW.n8
  refine E.ofL [some (.ref 84), some (.int (nI k)), some (.int (nI 9))] rfl pn_RX9 rfl (fun sc => ?_)
  refine g_aload_n dX9_of_0 rfl ?_
  refine g_iload_n dX9_of_1 rfl ?_
  refine g_v1 (M' := KR_isItem) dX9_of_2 l_R_94 v_KR_isItem (c_KR_isItem h7 hn) rc_84 rfl rfl ⟨rfl, rfl⟩ ?_
  refine g_top (it1 hk hn) ?_
  refine n_if_eq (tgt := 29) (by omega) dX9_of_5 rfl (fun zc5 => absurd zc5 (by decide)) (fun _ => ?_)
  refine g_iload_n dX9_of_8 rfl ?_
  refine g_i2l dX9_of_9 ?_
  refine g_lconst (v := 0) dX9_of_10 rfl ?_
  refine g_ldcl dX9_of_11 c_R_155 ?_
  refine g_s3 (M' := KR_in) dX9_of_14 l_R_46 s_KR_in c_KR_in rfl rfl ⟨rfl, rfl⟩ ?_
  refine g_top (show _ = nI 1 by decide +kernel) ?_
  refine n_if_eq (tgt := 29) (by omega) dX9_of_17 rfl (fun zc17 => absurd zc17 (by decide)) (fun _ => ?_)
  refine g_aload_n dX9_of_20 rfl ?_
  refine g_iload_n dX9_of_21 rfl ?_
  refine g_iload_n dX9_of_22 rfl ?_
  refine g_v2 (M' := KR_ofNow) dX9_of_23 l_R_157 v_KR_ofNow (c_KR_ofNow9 hW hk) rc_84 rfl rfl ⟨rfl, rfl⟩ ?_
  refine g_goto (tgt := 35) dX9_of_26 rfl ?_
  exact e_iret dX9_of_35 rfl (by rfl) (by rfl)
set_option maxRecDepth 100000 in
theorem c_KP_of_no2 {σ : SI} {δ : SD} {a : Nat → Int32} {n s o tl : Nat} {P : Nat → Nat → Int32} {tx rf : Nat → Int32} (hI : IC σ a n s o P tl tx rf) {k what : Int32} (hk : ¬ (itB k n && inB what (nI 0) (nI 9)) = true) : E KP_of [.ref 5, .int k, .int what] (HH σ δ) (some (.int (-2))) (HH (rfC σ 0) δ) := by
  have hW := hI.hl.wf
  have hR := hI.hl.rb
  have hD := hI.hl.rd
  have h2 := hR.c
  have h8 := hW.n8
  have hB := LB_6
  refine E.ofL [some (.ref 5), some (.int k), some (.int what)] rfl pn_RX8 rfl (fun sc => ?_)
  refine g_aload_n dX8_of_0 rfl ?_
  refine q_getq dX8_of_1 f_P_12 ck_5 (by decide) ty_7_0 rf_5_0 ?_
  refine g_iload_n dX8_of_4 rfl ?_
  refine g_v1 (M' := KL_hasItem) dX8_of_5 l_P_78 v_KL_hasItem (c_KL_hasItem LB_6 h2 h8) (rcL LB_6) rfl rfl ⟨rfl, rfl⟩ ?_
  refine b_if_eq (tgt := 25) dX8_of_8 rfl (fun zc8 => ?_) (fun zc8 => ?_)
  · refine g_iconst dX8_of_25 ic_0 ?_
    refine g_top bI_f.symm ?_
    refine g_s1 (M' := KP_goodIf) dX8_of_26 l_P_81 s_KP_goodIf c_KP_goodIf rfl rfl ⟨rfl, rfl⟩ ?_
    refine g_top (if_neg (by decide)) ?_
    refine g_istore_n dX8_of_29 rfl ?_
    refine g_aload_n dX8_of_30 rfl ?_
    refine g_iload_n dX8_of_31 rfl ?_
    refine g_v1 (M' := KP_mayAnswer) dX8_of_32 l_P_100 v_KP_mayAnswer c_KP_mayAnswer2 rc_5 rfl rfl ⟨rfl, rfl⟩ ?_
    refine b_if_eq (tgt := 50) dX8_of_35 rfl (fun zc35 => ?_) (fun zc35 => ?_)
    · refine g_iload_n dX8_of_50 rfl ?_
      exact e_iret dX8_of_51 rfl (by rfl) (by rfl)
    · exact absurd zc35 (by decide)
  · refine g_iload_n dX8_of_11 rfl ?_
    refine g_iconst dX8_of_12 ic_0 ?_
    refine g_bipush dX8_of_13 bp_9 ?_
    refine g_s3 (M' := KP_within) dX8_of_15 l_P_96 s_KP_within c_KP_within rfl rfl ⟨rfl, rfl⟩ ?_
    refine b_if_eq (tgt := 25) dX8_of_18 rfl (fun zc18 => ?_) (fun zc18 => ?_)
    · refine g_iconst dX8_of_25 ic_0 ?_
      refine g_top bI_f.symm ?_
      refine g_s1 (M' := KP_goodIf) dX8_of_26 l_P_81 s_KP_goodIf c_KP_goodIf rfl rfl ⟨rfl, rfl⟩ ?_
      refine g_top (if_neg (by decide)) ?_
      refine g_istore_n dX8_of_29 rfl ?_
      refine g_aload_n dX8_of_30 rfl ?_
      refine g_iload_n dX8_of_31 rfl ?_
      refine g_v1 (M' := KP_mayAnswer) dX8_of_32 l_P_100 v_KP_mayAnswer c_KP_mayAnswer2 rc_5 rfl rfl ⟨rfl, rfl⟩ ?_
      refine b_if_eq (tgt := 50) dX8_of_35 rfl (fun zc35 => ?_) (fun zc35 => ?_)
      · refine g_iload_n dX8_of_50 rfl ?_
        exact e_iret dX8_of_51 rfl (by rfl) (by rfl)
      · exact absurd zc35 (by decide)
    · exact absurd (show (itB k n && inB what (nI 0) (nI 9)) = true by rw [zc8, zc18]; rfl) hk
set_option maxRecDepth 100000 in
theorem c_KR_of_no2 {σ : SI} {δ : SD} {a : Nat → Int32} {n s tl : Nat} {P : Nat → Nat → Int32} {tx rf : Nat → Int32} (hJ : IR σ a s P tl tx rf) (hs : s ≤ 5) (hW : WF a n) {k what : Int32} (hk : ¬ (itB k n && inB what (nI 0) (nI 9)) = true) : E KR_of [.ref 84, .int k, .int what] (HH σ δ) (some (.int (-2))) (HH (rfM σ 0) δ) := by
  obtain rfl := hJ.row
  have h3 := hJ.sd
  have hn := hW.n8
  have h7 := hW.a7
  have h8 := hW.n8
  refine E.ofL [some (.ref 84), some (.int k), some (.int what)] rfl pn_RX9 rfl (fun sc => ?_)
  refine g_aload_n dX9_of_0 rfl ?_
  refine g_iload_n dX9_of_1 rfl ?_
  refine g_v1 (M' := KR_isItem) dX9_of_2 l_R_94 v_KR_isItem (c_KR_isItem h7 hn) rc_84 rfl rfl ⟨rfl, rfl⟩ ?_
  refine b_if_eq (tgt := 29) dX9_of_5 rfl (fun zc5 => ?_) (fun zc5 => ?_)
  · refine g_aload_n dX9_of_29 rfl ?_
    refine g_bipush dX9_of_30 bp_m2 ?_
    refine g_v1 (M' := KR_refuses) dX9_of_32 l_R_101 v_KR_refuses c_KR_refuses0 rc_84 rfl rfl ⟨rfl, rfl⟩ ?_
    exact e_iret dX9_of_35 rfl (by rfl) (by rfl)
  · refine g_iload_n dX9_of_8 rfl ?_
    refine g_i2l dX9_of_9 ?_
    refine g_lconst (v := 0) dX9_of_10 rfl ?_
    refine g_ldcl dX9_of_11 c_R_155 ?_
    refine g_s3 (M' := KR_in) dX9_of_14 l_R_46 s_KR_in c_KR_in rfl rfl ⟨rfl, rfl⟩ ?_
    refine b_if_eq (tgt := 29) dX9_of_17 rfl (fun zc17 => ?_) (fun zc17 => ?_)
    · refine g_aload_n dX9_of_29 rfl ?_
      refine g_bipush dX9_of_30 bp_m2 ?_
      refine g_v1 (M' := KR_refuses) dX9_of_32 l_R_101 v_KR_refuses c_KR_refuses0 rc_84 rfl rfl ⟨rfl, rfl⟩ ?_
      exact e_iret dX9_of_35 rfl (by rfl) (by rfl)
    · simp only [w64_0, w64_9, inL_wide] at zc17; exact absurd (show (itB k n && inB what (nI 0) (nI 9)) = true by rw [zc5, zc17]; rfl) hk
set_option maxRecDepth 100000 in
theorem c0_KL_lineOf {σ : SI} {δ : SD} {B n : Nat} {a : Nat → Int32} (hB : LB B) (hW : WF a n) (hR : RB σ B a n) {k : Nat} (hk : colN a ≤ k) (hk2 : k < 2147483648) : E KL_lineOf [.ref B, .int (nI k)] (HH σ δ) (some (.int (-1))) (HH σ δ) := by
  have h8 := hW.n8
  have h2 := hR.c
  have hc := hW.col
  have e4 := hR.s 4 (by decide)
  refine E.ofL [some (.ref B), some (.int (nI k))] rfl pn_RX1 rfl (fun sc => ?_)
  refine g_aload_n dX1_lineOf_0 rfl ?_
  refine q_getq dX1_lineOf_1 f_L_25 (ckL_0 hB) (by decide) ty_0_4 (rfL_4 hB) ?_
  refine g_iconst dX1_lineOf_4 ic_4 ?_
  refine q_iald dX1_lineOf_5 (ckL_3 hB) (ixD_nI (by omega) (by decide)) ?_
  refine g_top (e4.trans hc.2.2) ?_
  refine g_istore_n dX1_lineOf_6 rfl ?_
  refine g_iload_n dX1_lineOf_7 rfl ?_
  refine n_if_lt (tgt := 16) (by omega) dX1_lineOf_8 rfl (fun zc8 => ?_) (fun zc8 => ?_)
  · exact zc8.elim
  · refine g_iload_n dX1_lineOf_11 rfl ?_
    refine g_iload_n dX1_lineOf_12 rfl ?_
    refine n_icmp_lt (tgt := 18) (by omega) (by omega) dX1_lineOf_13 rfl (fun zc13 => ?_) (fun zc13 => ?_)
    · exact absurd zc13 (by omega)
    · refine g_iconst dX1_lineOf_16 ic_m1 ?_
      exact e_iret dX1_lineOf_17 rfl (by rfl) (by rfl)
set_option maxRecDepth 100000 in
theorem c_KP_line_ok {σ : SI} {δ : SD} {a : Nat → Int32} {n s o tl : Nat} {P : Nat → Nat → Int32} {tx rf : Nat → Int32} (hI : IC σ a n s o P tl tx rf) {k : Nat} (hk : k < colN a) : E KP_line [.ref 5, .int (nI k)] (HH σ δ) (some (.int (lineF a k))) (HH σ δ) := by
  have hW := hI.hl.wf
  have hR := hI.hl.rb
  have hD := hI.hl.rd
  have h2 := hR.c
  have h8 := hW.n8
  have hB := LB_6
  have hc := hW.col
  refine E.ofL [some (.ref 5), some (.int (nI k))] rfl pn_RX8 rfl (fun sc => ?_)
  refine g_iload_n dX8_line_0 rfl ?_
  refine n_if_lt (tgt := 8) (by omega) dX8_line_1 rfl (fun zc1 => ?_) (fun zc1 => ?_)
  · exact zc1.elim
  · refine g_iconst dX8_line_4 ic_1 ?_
    refine g_top bI_t.symm ?_
    refine g_goto (tgt := 9) dX8_line_5 rfl ?_
    refine g_s1 (M' := KP_goodIf) dX8_line_9 l_P_81 s_KP_goodIf c_KP_goodIf rfl rfl ⟨rfl, rfl⟩ ?_
    refine g_top (if_pos rfl) ?_
    refine g_istore_n dX8_line_12 rfl ?_
    refine g_aload_n dX8_line_13 rfl ?_
    refine g_iload_n dX8_line_14 rfl ?_
    refine g_v1 (M' := KP_mayAnswer) dX8_line_15 l_P_100 v_KP_mayAnswer c_KP_mayAnswer0 rc_5 rfl rfl ⟨rfl, rfl⟩ ?_
    refine b_if_eq (tgt := 32) dX8_line_18 rfl (fun zc18 => ?_) (fun zc18 => ?_)
    · exact absurd zc18 (by decide)
    · refine g_aload_n dX8_line_21 rfl ?_
      refine q_getq dX8_line_22 f_P_12 ck_5 (by decide) ty_7_0 rf_5_0 ?_
      refine g_iload_n dX8_line_25 rfl ?_
      refine g_v1 (M' := KL_lineOf) dX8_line_26 l_P_116 v_KL_lineOf (c_KL_lineOf LB_6 hW hR hk) (rcL LB_6) rfl rfl ⟨rfl, rfl⟩ ?_
      refine g_goto (tgt := 33) dX8_line_29 rfl ?_
      exact e_iret dX8_line_33 rfl (by rfl) (by rfl)
set_option maxRecDepth 100000 in
theorem c_KP_line_ok0 {σ : SI} {δ : SD} {a : Nat → Int32} {n s o tl : Nat} {P : Nat → Nat → Int32} {tx rf : Nat → Int32} (hI : IC σ a n s o P tl tx rf) {k : Nat} (hk : colN a ≤ k) (hk2 : k < 2147483648) : E KP_line [.ref 5, .int (nI k)] (HH σ δ) (some (.int (-1))) (HH σ δ) := by
  have hW := hI.hl.wf
  have hR := hI.hl.rb
  have hD := hI.hl.rd
  have h2 := hR.c
  have h8 := hW.n8
  have hB := LB_6
  refine E.ofL [some (.ref 5), some (.int (nI k))] rfl pn_RX8 rfl (fun sc => ?_)
  refine g_iload_n dX8_line_0 rfl ?_
  refine n_if_lt (tgt := 8) (by omega) dX8_line_1 rfl (fun zc1 => ?_) (fun zc1 => ?_)
  · exact zc1.elim
  · refine g_iconst dX8_line_4 ic_1 ?_
    refine g_top bI_t.symm ?_
    refine g_goto (tgt := 9) dX8_line_5 rfl ?_
    refine g_s1 (M' := KP_goodIf) dX8_line_9 l_P_81 s_KP_goodIf c_KP_goodIf rfl rfl ⟨rfl, rfl⟩ ?_
    refine g_top (if_pos rfl) ?_
    refine g_istore_n dX8_line_12 rfl ?_
    refine g_aload_n dX8_line_13 rfl ?_
    refine g_iload_n dX8_line_14 rfl ?_
    refine g_v1 (M' := KP_mayAnswer) dX8_line_15 l_P_100 v_KP_mayAnswer c_KP_mayAnswer0 rc_5 rfl rfl ⟨rfl, rfl⟩ ?_
    refine b_if_eq (tgt := 32) dX8_line_18 rfl (fun zc18 => ?_) (fun zc18 => ?_)
    · exact absurd zc18 (by decide)
    · refine g_aload_n dX8_line_21 rfl ?_
      refine q_getq dX8_line_22 f_P_12 ck_5 (by decide) ty_7_0 rf_5_0 ?_
      refine g_iload_n dX8_line_25 rfl ?_
      refine g_v1 (M' := KL_lineOf) dX8_line_26 l_P_116 v_KL_lineOf (c0_KL_lineOf LB_6 hW hR hk hk2) (rcL LB_6) rfl rfl ⟨rfl, rfl⟩ ?_
      refine g_goto (tgt := 33) dX8_line_29 rfl ?_
      exact e_iret dX8_line_33 rfl (by rfl) (by rfl)
set_option maxRecDepth 100000 in
theorem c_KP_line_no2 {σ : SI} {δ : SD} {a : Nat → Int32} {n s o tl : Nat} {P : Nat → Nat → Int32} {tx rf : Nat → Int32} (hI : IC σ a n s o P tl tx rf) {k : Int32} (hk : k < 0) : E KP_line [.ref 5, .int k] (HH σ δ) (some (.int (-2))) (HH (rfC σ 0) δ) := by
  have hW := hI.hl.wf
  have hR := hI.hl.rb
  have hD := hI.hl.rd
  have h2 := hR.c
  have h8 := hW.n8
  have hB := LB_6
  refine E.ofL [some (.ref 5), some (.int k)] rfl pn_RX8 rfl (fun sc => ?_)
  refine g_iload_n dX8_line_0 rfl ?_
  refine g_if_lt (tgt := 8) dX8_line_1 rfl (fun zc1 => ?_) (fun zc1 => ?_)
  · refine g_iconst dX8_line_8 ic_0 ?_
    refine g_top bI_f.symm ?_
    refine g_s1 (M' := KP_goodIf) dX8_line_9 l_P_81 s_KP_goodIf c_KP_goodIf rfl rfl ⟨rfl, rfl⟩ ?_
    refine g_top (if_neg (by decide)) ?_
    refine g_istore_n dX8_line_12 rfl ?_
    refine g_aload_n dX8_line_13 rfl ?_
    refine g_iload_n dX8_line_14 rfl ?_
    refine g_v1 (M' := KP_mayAnswer) dX8_line_15 l_P_100 v_KP_mayAnswer c_KP_mayAnswer2 rc_5 rfl rfl ⟨rfl, rfl⟩ ?_
    refine b_if_eq (tgt := 32) dX8_line_18 rfl (fun zc18 => ?_) (fun zc18 => ?_)
    · refine g_iload_n dX8_line_32 rfl ?_
      exact e_iret dX8_line_33 rfl (by rfl) (by rfl)
    · exact absurd zc18 (by decide)
  · exact absurd hk zc1
set_option maxRecDepth 100000 in
theorem c_KR_line_ok {σ : SI} {δ : SD} {a : Nat → Int32} {n s tl : Nat} {P : Nat → Nat → Int32} {tx rf : Nat → Int32} (hJ : IR σ a s P tl tx rf) (hs : s ≤ 5) (hW : WF a n) {k : Nat} (hk : k < colN a) : E KR_line [.ref 84, .int (nI k)] (HH σ δ) (some (.int (lineF a k))) (HH σ δ) := by
  obtain rfl := hJ.row
  have h3 := hJ.sd
  have hn := hW.n8
  have h7 := hW.a7
  have h8 := hW.n8
  have hc := hW.col
  refine E.ofL [some (.ref 84), some (.int (nI k))] rfl pn_RX9 rfl (fun sc => ?_)
  refine g_iload_n dX9_line_0 rfl ?_
  refine n_if_ge (tgt := 13) (by omega) dX9_line_1 rfl (fun zc1 => ?_) (fun zc1 => ?_)
  · refine g_iload_n dX9_line_13 rfl ?_
    refine g_aload_n dX9_line_14 rfl ?_
    refine q_getq dX9_line_15 f_R_7 ck_84 (by decide) ty_8_0 rf_84_0 ?_
    refine g_bipush dX9_line_18 bp_6 ?_
    refine q_iald dX9_line_20 ck_85 (ixD_nI (by omega) (by decide)) ?_
    refine g_top hW.col.2.2 ?_
    refine n_icmp_ge (tgt := 32) (by omega) (by omega) dX9_line_21 rfl (fun zc21 => ?_) (fun zc21 => ?_)
    · exact absurd zc21 (by omega)
    · refine g_aload_n dX9_line_24 rfl ?_
      refine g_iload_n dX9_line_25 rfl ?_
      refine g_v1 (M' := KR_lineAt) dX9_line_26 l_R_71 v_KR_lineAt (c_KR_lineAt hW hk) rc_84 rfl rfl ⟨rfl, rfl⟩ ?_
      refine g_goto (tgt := 33) dX9_line_29 rfl ?_
      exact e_iret dX9_line_33 rfl (by rfl) (by rfl)
  · exact zc1.elim
set_option maxRecDepth 100000 in
theorem c_KR_line_ok0 {σ : SI} {δ : SD} {a : Nat → Int32} {n s tl : Nat} {P : Nat → Nat → Int32} {tx rf : Nat → Int32} (hJ : IR σ a s P tl tx rf) (hs : s ≤ 5) (hW : WF a n) {k : Nat} (hk : colN a ≤ k) (hk2 : k < 2147483648) : E KR_line [.ref 84, .int (nI k)] (HH σ δ) (some (.int (-1))) (HH σ δ) := by
  obtain rfl := hJ.row
  have h3 := hJ.sd
  have hn := hW.n8
  have h7 := hW.a7
  have h8 := hW.n8
  have hc := hW.col
  refine E.ofL [some (.ref 84), some (.int (nI k))] rfl pn_RX9 rfl (fun sc => ?_)
  refine g_iload_n dX9_line_0 rfl ?_
  refine n_if_ge (tgt := 13) (by omega) dX9_line_1 rfl (fun zc1 => ?_) (fun zc1 => ?_)
  · refine g_iload_n dX9_line_13 rfl ?_
    refine g_aload_n dX9_line_14 rfl ?_
    refine q_getq dX9_line_15 f_R_7 ck_84 (by decide) ty_8_0 rf_84_0 ?_
    refine g_bipush dX9_line_18 bp_6 ?_
    refine q_iald dX9_line_20 ck_85 (ixD_nI (by omega) (by decide)) ?_
    refine g_top hW.col.2.2 ?_
    refine n_icmp_ge (tgt := 32) (by omega) (by omega) dX9_line_21 rfl (fun zc21 => ?_) (fun zc21 => ?_)
    · refine g_iconst dX9_line_32 ic_m1 ?_
      exact e_iret dX9_line_33 rfl (by rfl) (by rfl)
    · exact absurd zc21 (by omega)
  · exact zc1.elim
set_option maxRecDepth 100000 in
theorem c_KR_line_no2 {σ : SI} {δ : SD} {a : Nat → Int32} {n s tl : Nat} {P : Nat → Nat → Int32} {tx rf : Nat → Int32} (hJ : IR σ a s P tl tx rf) (hs : s ≤ 5) (hW : WF a n) {k : Int32} (hk : k < 0) : E KR_line [.ref 84, .int k] (HH σ δ) (some (.int (-2))) (HH (rfM σ 0) δ) := by
  obtain rfl := hJ.row
  have h3 := hJ.sd
  have hn := hW.n8
  have h7 := hW.a7
  have h8 := hW.n8
  refine E.ofL [some (.ref 84), some (.int k)] rfl pn_RX9 rfl (fun sc => ?_)
  refine g_iload_n dX9_line_0 rfl ?_
  refine g_if_ge (tgt := 13) dX9_line_1 rfl (fun zc1 => ?_) (fun zc1 => ?_)
  · exact absurd (Int32.not_le.mpr hk) (fun q => q zc1)
  · refine g_aload_n dX9_line_4 rfl ?_
    refine g_bipush dX9_line_5 bp_m2 ?_
    refine g_v1 (M' := KR_refuses) dX9_line_7 l_R_101 v_KR_refuses c_KR_refuses0 rc_84 rfl rfl ⟨rfl, rfl⟩ ?_
    refine g_goto (tgt := 33) dX9_line_10 rfl ?_
    exact e_iret dX9_line_33 rfl (by rfl) (by rfl)
set_option maxRecDepth 100000 in
theorem c_KP_fits_ok {σ : SI} {δ : SD} {a : Nat → Int32} {n s o tl : Nat} {P : Nat → Nat → Int32} {tx rf : Nat → Int32} (hI : IC σ a n s o P tl tx rf) {k : Nat} {x y : Int32} (hk : k < n) (hp : (inB x (nI 0) (nI 15) && inB y (nI 0) (nI 15)) = true) : E KP_fits [.ref 5, .int (nI k), .int x, .int y] (HH σ δ) (some (.int (if fitA a n k x y then nI 1 else nI 0))) (HH σ δ) := by
  have hW := hI.hl.wf
  have hR := hI.hl.rb
  have hD := hI.hl.rd
  have h2 := hR.c
  have h8 := hW.n8
  have hB := LB_6
  refine E.ofL [some (.ref 5), some (.int (nI k)), some (.int x), some (.int y)] rfl pn_RX8 rfl (fun sc => ?_)
  refine g_aload_n dX8_fits_0 rfl ?_
  refine q_getq dX8_fits_1 f_P_12 ck_5 (by decide) ty_7_0 rf_5_0 ?_
  refine g_iload_n dX8_fits_4 rfl ?_
  refine g_v1 (M' := KL_hasItem) dX8_fits_5 l_P_78 v_KL_hasItem (c_KL_hasItem LB_6 h2 h8) (rcL LB_6) rfl rfl ⟨rfl, rfl⟩ ?_
  refine g_top (it1 hk h8) ?_
  refine n_if_eq (tgt := 23) (by omega) dX8_fits_8 rfl (fun zc8 => absurd zc8 (by decide)) (fun _ => ?_)
  refine g_iload_n dX8_fits_11 rfl ?_
  refine g_iload_n dX8_fits_12 rfl ?_
  refine g_s2 (M' := KP_isPlace) dX8_fits_13 l_P_137 s_KP_isPlace c_KP_isPlace rfl rfl ⟨rfl, rfl⟩ ?_
  refine b_if_eq (tgt := 23) dX8_fits_16 rfl (fun zc16 => ?_) (fun zc16 => ?_)
  · exact absurd hp (by rw [zc16]; decide)
  · refine g_iconst dX8_fits_19 ic_1 ?_
    refine g_top bI_t.symm ?_
    refine g_goto (tgt := 24) dX8_fits_20 rfl ?_
    refine g_s1 (M' := KP_goodIf) dX8_fits_24 l_P_81 s_KP_goodIf c_KP_goodIf rfl rfl ⟨rfl, rfl⟩ ?_
    refine g_top (if_pos rfl) ?_
    refine g_istore dX8_fits_27 rfl ?_
    refine g_aload_n dX8_fits_29 rfl ?_
    refine g_iload dX8_fits_30 rfl ?_
    refine g_v1 (M' := KP_mayAnswer) dX8_fits_32 l_P_100 v_KP_mayAnswer c_KP_mayAnswer0 rc_5 rfl rfl ⟨rfl, rfl⟩ ?_
    refine b_if_ne (tgt := 41) dX8_fits_35 rfl (fun zc35 => ?_) (fun zc35 => ?_)
    · refine g_aload_n dX8_fits_41 rfl ?_
      refine q_getq dX8_fits_42 f_P_12 ck_5 (by decide) ty_7_0 rf_5_0 ?_
      refine g_iload_n dX8_fits_45 rfl ?_
      refine g_iload_n dX8_fits_46 rfl ?_
      refine g_iload_n dX8_fits_47 rfl ?_
      refine g_v3 (M' := KL_hasRoom) dX8_fits_48 l_P_141 v_KL_hasRoom (c_KL_hasRoom LB_6 hW hR hD hk (plx hp)) (rcL LB_6) rfl rfl ⟨rfl, rfl⟩ ?_
      refine b_if_eq (tgt := 58) dX8_fits_51 rfl (fun zc51 => ?_) (fun zc51 => ?_)
      · refine g_iconst dX8_fits_58 ic_0 ?_
        exact e_iret dX8_fits_59 rfl (by rw [zc51]; rfl) (by rfl)
      · refine g_iconst dX8_fits_54 ic_1 ?_
        refine g_goto (tgt := 59) dX8_fits_55 rfl ?_
        exact e_iret dX8_fits_59 rfl (by rw [zc51]; rfl) (by rfl)
    · exact absurd zc35 (by decide)
set_option maxRecDepth 100000 in
theorem c_KP_fits_no2 {σ : SI} {δ : SD} {a : Nat → Int32} {n s o tl : Nat} {P : Nat → Nat → Int32} {tx rf : Nat → Int32} (hI : IC σ a n s o P tl tx rf) {k x y : Int32} (hk : ¬ (itB k n && (inB x (nI 0) (nI 15) && inB y (nI 0) (nI 15))) = true) : E KP_fits [.ref 5, .int k, .int x, .int y] (HH σ δ) (some (.int (-2))) (HH (rfC σ 0) δ) := by
  have hW := hI.hl.wf
  have hR := hI.hl.rb
  have hD := hI.hl.rd
  have h2 := hR.c
  have h8 := hW.n8
  have hB := LB_6
  refine E.ofL [some (.ref 5), some (.int k), some (.int x), some (.int y)] rfl pn_RX8 rfl (fun sc => ?_)
  refine g_aload_n dX8_fits_0 rfl ?_
  refine q_getq dX8_fits_1 f_P_12 ck_5 (by decide) ty_7_0 rf_5_0 ?_
  refine g_iload_n dX8_fits_4 rfl ?_
  refine g_v1 (M' := KL_hasItem) dX8_fits_5 l_P_78 v_KL_hasItem (c_KL_hasItem LB_6 h2 h8) (rcL LB_6) rfl rfl ⟨rfl, rfl⟩ ?_
  refine b_if_eq (tgt := 23) dX8_fits_8 rfl (fun zc8 => ?_) (fun zc8 => ?_)
  · refine g_iconst dX8_fits_23 ic_0 ?_
    refine g_top bI_f.symm ?_
    refine g_s1 (M' := KP_goodIf) dX8_fits_24 l_P_81 s_KP_goodIf c_KP_goodIf rfl rfl ⟨rfl, rfl⟩ ?_
    refine g_top (if_neg (by decide)) ?_
    refine g_istore dX8_fits_27 rfl ?_
    refine g_aload_n dX8_fits_29 rfl ?_
    refine g_iload dX8_fits_30 rfl ?_
    refine g_v1 (M' := KP_mayAnswer) dX8_fits_32 l_P_100 v_KP_mayAnswer c_KP_mayAnswer2 rc_5 rfl rfl ⟨rfl, rfl⟩ ?_
    refine b_if_ne (tgt := 41) dX8_fits_35 rfl (fun zc35 => ?_) (fun zc35 => ?_)
    · exact absurd zc35 (by decide)
    · refine g_iload dX8_fits_38 rfl ?_
      exact e_iret dX8_fits_40 rfl (by rfl) (by rfl)
  · refine g_iload_n dX8_fits_11 rfl ?_
    refine g_iload_n dX8_fits_12 rfl ?_
    refine g_s2 (M' := KP_isPlace) dX8_fits_13 l_P_137 s_KP_isPlace c_KP_isPlace rfl rfl ⟨rfl, rfl⟩ ?_
    refine b_if_eq (tgt := 23) dX8_fits_16 rfl (fun zc16 => ?_) (fun zc16 => ?_)
    · refine g_iconst dX8_fits_23 ic_0 ?_
      refine g_top bI_f.symm ?_
      refine g_s1 (M' := KP_goodIf) dX8_fits_24 l_P_81 s_KP_goodIf c_KP_goodIf rfl rfl ⟨rfl, rfl⟩ ?_
      refine g_top (if_neg (by decide)) ?_
      refine g_istore dX8_fits_27 rfl ?_
      refine g_aload_n dX8_fits_29 rfl ?_
      refine g_iload dX8_fits_30 rfl ?_
      refine g_v1 (M' := KP_mayAnswer) dX8_fits_32 l_P_100 v_KP_mayAnswer c_KP_mayAnswer2 rc_5 rfl rfl ⟨rfl, rfl⟩ ?_
      refine b_if_ne (tgt := 41) dX8_fits_35 rfl (fun zc35 => ?_) (fun zc35 => ?_)
      · exact absurd zc35 (by decide)
      · refine g_iload dX8_fits_38 rfl ?_
        exact e_iret dX8_fits_40 rfl (by rfl) (by rfl)
    · exact absurd (show (itB k n && (inB x (nI 0) (nI 15) && inB y (nI 0) (nI 15))) = true by rw [zc8, zc16]; rfl) hk
set_option maxRecDepth 100000 in
theorem c_KR_fits_ok {σ : SI} {δ : SD} {a : Nat → Int32} {n s tl : Nat} {P : Nat → Nat → Int32} {tx rf : Nat → Int32} (hJ : IR σ a s P tl tx rf) (hs : s ≤ 5) (hW : WF a n) {k : Nat} {x y : Int32} (hk : k < n) (hp : (inB x (nI 0) (nI 15) && inB y (nI 0) (nI 15)) = true) : E KR_fits [.ref 84, .int (nI k), .int x, .int y] (HH σ δ) (some (.int (if fitA a n k x y then nI 1 else nI 0))) (HH σ δ) := by
  obtain rfl := hJ.row
  have h3 := hJ.sd
  have hn := hW.n8
  have h7 := hW.a7
  have h8 := hW.n8
  refine E.ofL [some (.ref 84), some (.int (nI k)), some (.int x), some (.int y)] rfl pn_RX9 rfl (fun sc => ?_)
  refine g_aload_n dX9_fits_0 rfl ?_
  refine g_iload_n dX9_fits_1 rfl ?_
  refine g_v1 (M' := KR_isItem) dX9_fits_2 l_R_94 v_KR_isItem (c_KR_isItem h7 hn) rc_84 rfl rfl ⟨rfl, rfl⟩ ?_
  refine g_top (it1 hk hn) ?_
  refine n_if_eq (tgt := 34) (by omega) dX9_fits_5 rfl (fun zc5 => absurd zc5 (by decide)) (fun _ => ?_)
  refine g_iload_n dX9_fits_8 rfl ?_
  refine g_iload_n dX9_fits_9 rfl ?_
  refine g_s2 (M' := KR_isPlace) dX9_fits_10 l_R_97 s_KR_isPlace c_KR_isPlace rfl rfl ⟨rfl, rfl⟩ ?_
  refine b_if_eq (tgt := 34) dX9_fits_13 rfl (fun zc13 => ?_) (fun zc13 => ?_)
  · exact absurd hp (by rw [zc13]; decide)
  · refine g_aload_n dX9_fits_16 rfl ?_
    refine g_iload_n dX9_fits_17 rfl ?_
    refine g_iload_n dX9_fits_18 rfl ?_
    refine g_iload_n dX9_fits_19 rfl ?_
    refine g_v3 (M' := KR_isFit) dX9_fits_20 l_R_89 v_KR_isFit (c_KR_isFit hW hk) rc_84 rfl rfl ⟨rfl, rfl⟩ ?_
    refine b_if_eq (tgt := 30) dX9_fits_23 rfl (fun zc23 => ?_) (fun zc23 => ?_)
    · refine g_iconst dX9_fits_30 ic_0 ?_
      refine g_goto (tgt := 40) dX9_fits_31 rfl ?_
      exact e_iret dX9_fits_40 rfl (by rw [zc23]; rfl) (by rfl)
    · refine g_iconst dX9_fits_26 ic_1 ?_
      refine g_goto (tgt := 40) dX9_fits_27 rfl ?_
      exact e_iret dX9_fits_40 rfl (by rw [zc23]; rfl) (by rfl)
set_option maxRecDepth 100000 in
theorem c_KR_fits_no2 {σ : SI} {δ : SD} {a : Nat → Int32} {n s tl : Nat} {P : Nat → Nat → Int32} {tx rf : Nat → Int32} (hJ : IR σ a s P tl tx rf) (hs : s ≤ 5) (hW : WF a n) {k x y : Int32} (hk : ¬ (itB k n && (inB x (nI 0) (nI 15) && inB y (nI 0) (nI 15))) = true) : E KR_fits [.ref 84, .int k, .int x, .int y] (HH σ δ) (some (.int (-2))) (HH (rfM σ 0) δ) := by
  obtain rfl := hJ.row
  have h3 := hJ.sd
  have hn := hW.n8
  have h7 := hW.a7
  have h8 := hW.n8
  refine E.ofL [some (.ref 84), some (.int k), some (.int x), some (.int y)] rfl pn_RX9 rfl (fun sc => ?_)
  refine g_aload_n dX9_fits_0 rfl ?_
  refine g_iload_n dX9_fits_1 rfl ?_
  refine g_v1 (M' := KR_isItem) dX9_fits_2 l_R_94 v_KR_isItem (c_KR_isItem h7 hn) rc_84 rfl rfl ⟨rfl, rfl⟩ ?_
  refine b_if_eq (tgt := 34) dX9_fits_5 rfl (fun zc5 => ?_) (fun zc5 => ?_)
  · refine g_aload_n dX9_fits_34 rfl ?_
    refine g_bipush dX9_fits_35 bp_m2 ?_
    refine g_v1 (M' := KR_refuses) dX9_fits_37 l_R_101 v_KR_refuses c_KR_refuses0 rc_84 rfl rfl ⟨rfl, rfl⟩ ?_
    exact e_iret dX9_fits_40 rfl (by rfl) (by rfl)
  · refine g_iload_n dX9_fits_8 rfl ?_
    refine g_iload_n dX9_fits_9 rfl ?_
    refine g_s2 (M' := KR_isPlace) dX9_fits_10 l_R_97 s_KR_isPlace c_KR_isPlace rfl rfl ⟨rfl, rfl⟩ ?_
    refine b_if_eq (tgt := 34) dX9_fits_13 rfl (fun zc13 => ?_) (fun zc13 => ?_)
    · refine g_aload_n dX9_fits_34 rfl ?_
      refine g_bipush dX9_fits_35 bp_m2 ?_
      refine g_v1 (M' := KR_refuses) dX9_fits_37 l_R_101 v_KR_refuses c_KR_refuses0 rc_84 rfl rfl ⟨rfl, rfl⟩ ?_
      exact e_iret dX9_fits_40 rfl (by rfl) (by rfl)
    · exact absurd (show (itB k n && (inB x (nI 0) (nI 15) && inB y (nI 0) (nI 15))) = true by rw [zc5, zc13]; rfl) hk
set_option maxRecDepth 100000 in
theorem c_KP_at_ok {σ : SI} {δ : SD} {a : Nat → Int32} {n s o tl : Nat} {P : Nat → Nat → Int32} {tx rf : Nat → Int32} (hI : IC σ a n s o P tl tx rf) {x y : Nat} (hx : x < 16) (hy : y < 16) (hk : (inB (nI x) (nI 0) (a 0 - nI 1) && inB (nI y) (nI 0) (a 1 - nI 1)) = true) : E KP_at [.ref 5, .int (nI x), .int (nI y)] (HH σ δ) (some (.int (findI (fun k => coversA a k x y) n))) (HH σ δ) := by
  have hW := hI.hl.wf
  have hR := hI.hl.rb
  have hD := hI.hl.rd
  have h2 := hR.c
  have h8 := hW.n8
  have hB := LB_6
  refine E.ofL [some (.ref 5), some (.int (nI x)), some (.int (nI y))] rfl pn_RX8 rfl (fun sc => ?_)
  refine g_iload_n dX8_at_0 rfl ?_
  refine g_iconst dX8_at_1 ic_0 ?_
  refine g_aload_n dX8_at_2 rfl ?_
  refine q_getq dX8_at_3 f_P_12 ck_5 (by decide) ty_7_0 rf_5_0 ?_
  refine q_geti dX8_at_6 f_P_166 ck_6 (by decide) ty_0_0 ?_
  refine g_top hR.w ?_
  refine g_iconst dX8_at_9 ic_1 ?_
  refine g_isub dX8_at_10 ?_
  refine g_s3 (M' := KP_within) dX8_at_11 l_P_96 s_KP_within c_KP_within rfl rfl ⟨rfl, rfl⟩ ?_
  refine b_if_eq (tgt := 38) dX8_at_14 rfl (fun zc14 => ?_) (fun zc14 => ?_)
  · exact absurd hk (by rw [zc14, Bool.false_and]; decide)
  · refine g_iload_n dX8_at_17 rfl ?_
    refine g_iconst dX8_at_18 ic_0 ?_
    refine g_aload_n dX8_at_19 rfl ?_
    refine q_getq dX8_at_20 f_P_12 ck_5 (by decide) ty_7_0 rf_5_0 ?_
    refine q_geti dX8_at_23 f_P_170 ck_6 (by decide) ty_0_1 ?_
    refine g_top hR.h ?_
    refine g_iconst dX8_at_26 ic_1 ?_
    refine g_isub dX8_at_27 ?_
    refine g_s3 (M' := KP_within) dX8_at_28 l_P_96 s_KP_within c_KP_within rfl rfl ⟨rfl, rfl⟩ ?_
    refine b_if_eq (tgt := 38) dX8_at_31 rfl (fun zc31 => ?_) (fun zc31 => ?_)
    · exact absurd hk (by rw [zc31, Bool.and_false]; decide)
    · refine g_iconst dX8_at_34 ic_1 ?_
      refine g_top bI_t.symm ?_
      refine g_goto (tgt := 39) dX8_at_35 rfl ?_
      refine g_s1 (M' := KP_goodIf) dX8_at_39 l_P_81 s_KP_goodIf c_KP_goodIf rfl rfl ⟨rfl, rfl⟩ ?_
      refine g_top (if_pos rfl) ?_
      refine g_istore_n dX8_at_42 rfl ?_
      refine g_aload_n dX8_at_43 rfl ?_
      refine g_iload_n dX8_at_44 rfl ?_
      refine g_v1 (M' := KP_mayAnswer) dX8_at_45 l_P_100 v_KP_mayAnswer c_KP_mayAnswer0 rc_5 rfl rfl ⟨rfl, rfl⟩ ?_
      refine b_if_eq (tgt := 63) dX8_at_48 rfl (fun zc48 => ?_) (fun zc48 => ?_)
      · exact absurd zc48 (by decide)
      · refine g_aload_n dX8_at_51 rfl ?_
        refine q_getq dX8_at_52 f_P_12 ck_5 (by decide) ty_7_0 rf_5_0 ?_
        refine g_iload_n dX8_at_55 rfl ?_
        refine g_iload_n dX8_at_56 rfl ?_
        refine g_v2 (M' := KL_leastOver) dX8_at_57 l_P_173 v_KL_leastOver (c_KL_leastOver LB_6 hW hR hD hx hy) (rcL LB_6) rfl rfl ⟨rfl, rfl⟩ ?_
        refine g_goto (tgt := 64) dX8_at_60 rfl ?_
        exact e_iret dX8_at_64 rfl (by rfl) (by rfl)
set_option maxRecDepth 100000 in
theorem c_KP_at_no2 {σ : SI} {δ : SD} {a : Nat → Int32} {n s o tl : Nat} {P : Nat → Nat → Int32} {tx rf : Nat → Int32} (hI : IC σ a n s o P tl tx rf) {x y : Int32} (hk : ¬ (inB x (nI 0) (a 0 - nI 1) && inB y (nI 0) (a 1 - nI 1)) = true) : E KP_at [.ref 5, .int x, .int y] (HH σ δ) (some (.int (-2))) (HH (rfC σ 0) δ) := by
  have hW := hI.hl.wf
  have hR := hI.hl.rb
  have hD := hI.hl.rd
  have h2 := hR.c
  have h8 := hW.n8
  have hB := LB_6
  refine E.ofL [some (.ref 5), some (.int x), some (.int y)] rfl pn_RX8 rfl (fun sc => ?_)
  refine g_iload_n dX8_at_0 rfl ?_
  refine g_iconst dX8_at_1 ic_0 ?_
  refine g_aload_n dX8_at_2 rfl ?_
  refine q_getq dX8_at_3 f_P_12 ck_5 (by decide) ty_7_0 rf_5_0 ?_
  refine q_geti dX8_at_6 f_P_166 ck_6 (by decide) ty_0_0 ?_
  refine g_top hR.w ?_
  refine g_iconst dX8_at_9 ic_1 ?_
  refine g_isub dX8_at_10 ?_
  refine g_s3 (M' := KP_within) dX8_at_11 l_P_96 s_KP_within c_KP_within rfl rfl ⟨rfl, rfl⟩ ?_
  refine b_if_eq (tgt := 38) dX8_at_14 rfl (fun zc14 => ?_) (fun zc14 => ?_)
  · refine g_iconst dX8_at_38 ic_0 ?_
    refine g_top bI_f.symm ?_
    refine g_s1 (M' := KP_goodIf) dX8_at_39 l_P_81 s_KP_goodIf c_KP_goodIf rfl rfl ⟨rfl, rfl⟩ ?_
    refine g_top (if_neg (by decide)) ?_
    refine g_istore_n dX8_at_42 rfl ?_
    refine g_aload_n dX8_at_43 rfl ?_
    refine g_iload_n dX8_at_44 rfl ?_
    refine g_v1 (M' := KP_mayAnswer) dX8_at_45 l_P_100 v_KP_mayAnswer c_KP_mayAnswer2 rc_5 rfl rfl ⟨rfl, rfl⟩ ?_
    refine b_if_eq (tgt := 63) dX8_at_48 rfl (fun zc48 => ?_) (fun zc48 => ?_)
    · refine g_iload_n dX8_at_63 rfl ?_
      exact e_iret dX8_at_64 rfl (by rfl) (by rfl)
    · exact absurd zc48 (by decide)
  · refine g_iload_n dX8_at_17 rfl ?_
    refine g_iconst dX8_at_18 ic_0 ?_
    refine g_aload_n dX8_at_19 rfl ?_
    refine q_getq dX8_at_20 f_P_12 ck_5 (by decide) ty_7_0 rf_5_0 ?_
    refine q_geti dX8_at_23 f_P_170 ck_6 (by decide) ty_0_1 ?_
    refine g_top hR.h ?_
    refine g_iconst dX8_at_26 ic_1 ?_
    refine g_isub dX8_at_27 ?_
    refine g_s3 (M' := KP_within) dX8_at_28 l_P_96 s_KP_within c_KP_within rfl rfl ⟨rfl, rfl⟩ ?_
    refine b_if_eq (tgt := 38) dX8_at_31 rfl (fun zc31 => ?_) (fun zc31 => ?_)
    · refine g_iconst dX8_at_38 ic_0 ?_
      refine g_top bI_f.symm ?_
      refine g_s1 (M' := KP_goodIf) dX8_at_39 l_P_81 s_KP_goodIf c_KP_goodIf rfl rfl ⟨rfl, rfl⟩ ?_
      refine g_top (if_neg (by decide)) ?_
      refine g_istore_n dX8_at_42 rfl ?_
      refine g_aload_n dX8_at_43 rfl ?_
      refine g_iload_n dX8_at_44 rfl ?_
      refine g_v1 (M' := KP_mayAnswer) dX8_at_45 l_P_100 v_KP_mayAnswer c_KP_mayAnswer2 rc_5 rfl rfl ⟨rfl, rfl⟩ ?_
      refine b_if_eq (tgt := 63) dX8_at_48 rfl (fun zc48 => ?_) (fun zc48 => ?_)
      · refine g_iload_n dX8_at_63 rfl ?_
        exact e_iret dX8_at_64 rfl (by rfl) (by rfl)
      · exact absurd zc48 (by decide)
    · exact absurd (show (inB x (nI 0) (a 0 - nI 1) && inB y (nI 0) (a 1 - nI 1)) = true by rw [zc14, zc31]; rfl) hk
set_option maxRecDepth 100000 in
theorem c_KR_at_ok {σ : SI} {δ : SD} {a : Nat → Int32} {n s tl : Nat} {P : Nat → Nat → Int32} {tx rf : Nat → Int32} (hJ : IR σ a s P tl tx rf) (hs : s ≤ 5) (hW : WF a n) {x y : Nat} (hx : x < 16) (hy : y < 16) (hk : (inB (nI x) (nI 0) (a 0 - nI 1) && inB (nI y) (nI 0) (a 1 - nI 1)) = true) : E KR_at [.ref 84, .int (nI x), .int (nI y)] (HH σ δ) (some (.int (findI (fun k => coversA a k x y) n))) (HH σ δ) := by
  obtain rfl := hJ.row
  have h3 := hJ.sd
  have hn := hW.n8
  have h7 := hW.a7
  have h8 := hW.n8
  refine E.ofL [some (.ref 84), some (.int (nI x)), some (.int (nI y))] rfl pn_RX9 rfl (fun sc => ?_)
  refine g_aload_n dX9_at_0 rfl ?_
  refine g_iload_n dX9_at_1 rfl ?_
  refine g_iload_n dX9_at_2 rfl ?_
  refine g_v2 (M' := KR_isCell) dX9_at_3 l_R_224 v_KR_isCell (c_KR_isCell hW) rc_84 rfl rfl ⟨rfl, rfl⟩ ?_
  refine b_if_eq (tgt := 18) dX9_at_6 rfl (fun zc6 => ?_) (fun zc6 => ?_)
  · exact absurd hk (by rw [zc6]; decide)
  · refine g_aload_n dX9_at_9 rfl ?_
    refine g_iload_n dX9_at_10 rfl ?_
    refine g_iload_n dX9_at_11 rfl ?_
    refine g_v2 (M' := KR_covering) dX9_at_12 l_R_227 v_KR_covering (c_KR_covering hW hx hy) rc_84 rfl rfl ⟨rfl, rfl⟩ ?_
    refine g_goto (tgt := 24) dX9_at_15 rfl ?_
    exact e_iret dX9_at_24 rfl (by rfl) (by rfl)
set_option maxRecDepth 100000 in
theorem c_KR_at_no2 {σ : SI} {δ : SD} {a : Nat → Int32} {n s tl : Nat} {P : Nat → Nat → Int32} {tx rf : Nat → Int32} (hJ : IR σ a s P tl tx rf) (hs : s ≤ 5) (hW : WF a n) {x y : Int32} (hk : ¬ (inB x (nI 0) (a 0 - nI 1) && inB y (nI 0) (a 1 - nI 1)) = true) : E KR_at [.ref 84, .int x, .int y] (HH σ δ) (some (.int (-2))) (HH (rfM σ 0) δ) := by
  obtain rfl := hJ.row
  have h3 := hJ.sd
  have hn := hW.n8
  have h7 := hW.a7
  have h8 := hW.n8
  refine E.ofL [some (.ref 84), some (.int x), some (.int y)] rfl pn_RX9 rfl (fun sc => ?_)
  refine g_aload_n dX9_at_0 rfl ?_
  refine g_iload_n dX9_at_1 rfl ?_
  refine g_iload_n dX9_at_2 rfl ?_
  refine g_v2 (M' := KR_isCell) dX9_at_3 l_R_224 v_KR_isCell (c_KR_isCell hW) rc_84 rfl rfl ⟨rfl, rfl⟩ ?_
  refine b_if_eq (tgt := 18) dX9_at_6 rfl (fun zc6 => ?_) (fun zc6 => ?_)
  · refine g_aload_n dX9_at_18 rfl ?_
    refine g_bipush dX9_at_19 bp_m2 ?_
    refine g_v1 (M' := KR_refuses) dX9_at_21 l_R_101 v_KR_refuses c_KR_refuses0 rc_84 rfl rfl ⟨rfl, rfl⟩ ?_
    exact e_iret dX9_at_24 rfl (by rfl) (by rfl)
  · exact absurd zc6 hk
set_option maxRecDepth 100000 in
theorem c_KP_all_ok0 {σ : SI} {δ : SD} {a : Nat → Int32} {n s o tl : Nat} {P : Nat → Nat → Int32} {tx rf : Nat → Int32} (hI : IC σ a n s o P tl tx rf)  : E KP_all [.ref 5, .int (nI 0)] (HH σ δ) (some (.int (allA a n 0))) (HH σ δ) := by
  have hW := hI.hl.wf
  have hR := hI.hl.rb
  have hD := hI.hl.rd
  have h2 := hR.c
  have h8 := hW.n8
  have hB := LB_6
  refine E.ofL [some (.ref 5), some (.int (nI 0))] rfl pn_RX8 rfl (fun sc => ?_)
  refine g_iload_n dX8_all_0 rfl ?_
  refine g_iconst dX8_all_1 ic_0 ?_
  refine g_iconst dX8_all_2 ic_3 ?_
  refine g_s3 (M' := KP_within) dX8_all_3 l_P_96 s_KP_within c_KP_within rfl rfl ⟨rfl, rfl⟩ ?_
  refine g_top (show _ = bI true by decide +kernel) ?_
  refine g_s1 (M' := KP_goodIf) dX8_all_6 l_P_81 s_KP_goodIf c_KP_goodIf rfl rfl ⟨rfl, rfl⟩ ?_
  refine g_top (if_pos rfl) ?_
  refine g_istore_n dX8_all_9 rfl ?_
  refine g_aload_n dX8_all_10 rfl ?_
  refine g_iload_n dX8_all_11 rfl ?_
  refine g_v1 (M' := KP_mayAnswer) dX8_all_12 l_P_100 v_KP_mayAnswer c_KP_mayAnswer0 rc_5 rfl rfl ⟨rfl, rfl⟩ ?_
  refine b_if_eq (tgt := 29) dX8_all_15 rfl (fun zc15 => ?_) (fun zc15 => ?_)
  · exact absurd zc15 (by decide)
  · refine g_aload_n dX8_all_18 rfl ?_
    refine q_getq dX8_all_19 f_P_12 ck_5 (by decide) ty_7_0 rf_5_0 ?_
    refine g_iload_n dX8_all_22 rfl ?_
    refine g_v1 (M' := KL_tellOfAll) dX8_all_23 l_P_192 v_KL_tellOfAll (c_KL_tellOfAll0 LB_6 hW hR hD) (rcL LB_6) rfl rfl ⟨rfl, rfl⟩ ?_
    refine g_goto (tgt := 30) dX8_all_26 rfl ?_
    exact e_iret dX8_all_30 rfl (by rfl) (by rfl)
set_option maxRecDepth 100000 in
theorem c_KR_allNow0 {σ : SI} {δ : SD} {n : Nat} (hW : WF (σ 85) n) : E KR_allNow [.ref 84, .int (nI 0)] (HH σ δ) (some (.int (allA (σ 85) n 0))) (HH σ δ) := by
  have h8 := hW.n8
  refine E.ofL [some (.ref 84), some (.int (nI 0))] rfl pn_RX9 rfl (fun sc => ?_)
  generalize hRz : (fun (zr : Option Value) (zk : XH) => zr = some (.int (allA (σ 85) n 0)) ∧ zk = HH σ δ) = R
  refine g_iload_n dX9_allNow_0 rfl ?_
  refine g_iconst dX9_allNow_1 ic_1 ?_
  refine n_icmp_le (tgt := 22) (by omega) (by omega) dX9_allNow_2 rfl (fun zc2 => ?_) (fun zc2 => ?_)
  · refine g_iconst dX9_allNow_22 ic_0 ?_
    refine g_istore_n dX9_allNow_23 rfl ?_
    refine g_iconst dX9_allNow_24 ic_0 ?_
    refine g_istore_n dX9_allNow_25 rfl ?_
    have H26 : ∀ (N : Nat) (k : Nat) (z : Int32), k ≤ n → z = nI (bitsN (fun k => liesA (σ 85) k) k) → n - k < N → G sc KR_allNow 26 (aL [some (.ref 84), some (.int (nI 0)), some (.int z), some (.int (nI k))]) [] (HH σ δ) (0, 0) R := by
      intro N
      induction N with
      | zero => intro k z h1 hb hN26; exact absurd hN26 (Nat.not_lt_zero _)
      | succ N ih26 =>
        intro k z h1 hb hN26
        refine g_iload_n dX9_allNow_26 rfl ?_
        refine g_aload_n dX9_allNow_27 rfl ?_
        refine g_v0 (M' := KR_many) dX9_allNow_28 l_R_42 v_KR_many c_KR_many rc_84 rfl rfl ⟨rfl, rfl⟩ ?_
        refine g_top hW.a7 ?_
        refine n_icmp_ge (tgt := 70) (by omega) (by omega) dX9_allNow_31 rfl (fun zc31 => ?_) (fun zc31 => ?_)
        · refine g_iload_n dX9_allNow_70 rfl ?_
          exact g_iret (S := []) dX9_allNow_71 rfl (by rw [← hRz]; exact ⟨congrArg (fun zz => some (Value.int zz)) (show _ = _ by rw [hb, show k = n by omega]; rfl), by rfl⟩) (Nat.zero_le _) (Nat.zero_le _)
        · refine g_iload_n dX9_allNow_34 rfl ?_
          refine g_aload_n dX9_allNow_35 rfl ?_
          refine g_iload_n dX9_allNow_36 rfl ?_
          refine g_v1 (M' := KR_lies) dX9_allNow_37 l_R_82 v_KR_lies (c_KR_lies (by omega)) rc_84 rfl rfl ⟨rfl, rfl⟩ ?_
          refine b_if_eq (tgt := 61) dX9_allNow_40 rfl (fun zc40 => ?_) (fun zc40 => ?_)
          · refine g_iconst dX9_allNow_61 ic_0 ?_
            refine g_ior dX9_allNow_62 ?_
            refine g_istore_n dX9_allNow_63 rfl ?_
            refine n_iinc (b := 1) dX9_allNow_64 rfl rfl rfl ?_
            refine g_goto (tgt := 26) dX9_allNow_67 rfl ?_
            exact g_can _ (by exact ⟨rfl, rfl, rfl, rfl, trivial⟩) (ih26 (k + 1) _ (by omega) (by first | (rw [hb, bt_yes (p := fun k => liesA (σ 85) k) (by simp [*]), shl_1 (by omega), nI_or]) | (rw [hb, bt_no (p := fun k => liesA (σ 85) k) (by simp [*]), nI_or, Nat.or_zero])) (by omega))
          · refine g_iload_n dX9_allNow_43 rfl ?_
            refine n_if_eq (tgt := 55) (by omega) dX9_allNow_44 rfl (fun _ => ?_) (fun zc44 => absurd zc44 (by decide))
            refine g_iconst dX9_allNow_55 ic_1 ?_
            refine g_iload_n dX9_allNow_56 rfl ?_
            refine g_ishl dX9_allNow_57 ?_
            refine g_goto (tgt := 62) dX9_allNow_58 rfl ?_
            refine g_ior dX9_allNow_62 ?_
            refine g_istore_n dX9_allNow_63 rfl ?_
            refine n_iinc (b := 1) dX9_allNow_64 rfl rfl rfl ?_
            refine g_goto (tgt := 26) dX9_allNow_67 rfl ?_
            exact g_can _ (by exact ⟨rfl, rfl, rfl, rfl, trivial⟩) (ih26 (k + 1) _ (by omega) (by first | (rw [hb, bt_yes (p := fun k => liesA (σ 85) k) (by simp [*]), shl_1 (by omega), nI_or]) | (rw [hb, bt_no (p := fun k => liesA (σ 85) k) (by simp [*]), nI_or, Nat.or_zero])) (by omega))
    exact g_can _ (by exact ⟨rfl, rfl, rfl, rfl, trivial⟩) (H26 _ 0 _ (by omega) rfl (Nat.lt_succ_self _))
  · exact absurd zc2 (by decide)
set_option maxRecDepth 100000 in
theorem c_KR_all_ok0 {σ : SI} {δ : SD} {a : Nat → Int32} {n s tl : Nat} {P : Nat → Nat → Int32} {tx rf : Nat → Int32} (hJ : IR σ a s P tl tx rf) (hs : s ≤ 5) (hW : WF a n)  : E KR_all [.ref 84, .int (nI 0)] (HH σ δ) (some (.int (allA a n 0))) (HH σ δ) := by
  obtain rfl := hJ.row
  have h3 := hJ.sd
  have hn := hW.n8
  have h7 := hW.a7
  have h8 := hW.n8
  refine E.ofL [some (.ref 84), some (.int (nI 0))] rfl pn_RX9 rfl (fun sc => ?_)
  refine g_iload_n dX9_all_0 rfl ?_
  refine g_i2l dX9_all_1 ?_
  refine g_lconst (v := 0) dX9_all_2 rfl ?_
  refine g_ldcl dX9_all_3 c_R_131 ?_
  refine g_s3 (M' := KR_in) dX9_all_6 l_R_46 s_KR_in c_KR_in rfl rfl ⟨rfl, rfl⟩ ?_
  refine g_top (show _ = nI 1 by decide +kernel) ?_
  refine n_if_eq (tgt := 20) (by omega) dX9_all_9 rfl (fun zc9 => absurd zc9 (by decide)) (fun _ => ?_)
  refine g_aload_n dX9_all_12 rfl ?_
  refine g_iload_n dX9_all_13 rfl ?_
  refine g_v1 (M' := KR_allNow) dX9_all_14 l_R_284 v_KR_allNow (c_KR_allNow0 hW) rc_84 rfl rfl ⟨rfl, rfl⟩ ?_
  refine g_goto (tgt := 26) dX9_all_17 rfl ?_
  exact e_iret dX9_all_26 rfl (by rfl) (by rfl)
set_option maxRecDepth 100000 in
theorem c_KP_all_ok1 {σ : SI} {δ : SD} {a : Nat → Int32} {n s o tl : Nat} {P : Nat → Nat → Int32} {tx rf : Nat → Int32} (hI : IC σ a n s o P tl tx rf)  : E KP_all [.ref 5, .int (nI 1)] (HH σ δ) (some (.int (allA a n 1))) (HH σ δ) := by
  have hW := hI.hl.wf
  have hR := hI.hl.rb
  have hD := hI.hl.rd
  have h2 := hR.c
  have h8 := hW.n8
  have hB := LB_6
  refine E.ofL [some (.ref 5), some (.int (nI 1))] rfl pn_RX8 rfl (fun sc => ?_)
  refine g_iload_n dX8_all_0 rfl ?_
  refine g_iconst dX8_all_1 ic_0 ?_
  refine g_iconst dX8_all_2 ic_3 ?_
  refine g_s3 (M' := KP_within) dX8_all_3 l_P_96 s_KP_within c_KP_within rfl rfl ⟨rfl, rfl⟩ ?_
  refine g_top (show _ = bI true by decide +kernel) ?_
  refine g_s1 (M' := KP_goodIf) dX8_all_6 l_P_81 s_KP_goodIf c_KP_goodIf rfl rfl ⟨rfl, rfl⟩ ?_
  refine g_top (if_pos rfl) ?_
  refine g_istore_n dX8_all_9 rfl ?_
  refine g_aload_n dX8_all_10 rfl ?_
  refine g_iload_n dX8_all_11 rfl ?_
  refine g_v1 (M' := KP_mayAnswer) dX8_all_12 l_P_100 v_KP_mayAnswer c_KP_mayAnswer0 rc_5 rfl rfl ⟨rfl, rfl⟩ ?_
  refine b_if_eq (tgt := 29) dX8_all_15 rfl (fun zc15 => ?_) (fun zc15 => ?_)
  · exact absurd zc15 (by decide)
  · refine g_aload_n dX8_all_18 rfl ?_
    refine q_getq dX8_all_19 f_P_12 ck_5 (by decide) ty_7_0 rf_5_0 ?_
    refine g_iload_n dX8_all_22 rfl ?_
    refine g_v1 (M' := KL_tellOfAll) dX8_all_23 l_P_192 v_KL_tellOfAll (c_KL_tellOfAll1 LB_6 hW hR hD) (rcL LB_6) rfl rfl ⟨rfl, rfl⟩ ?_
    refine g_goto (tgt := 30) dX8_all_26 rfl ?_
    exact e_iret dX8_all_30 rfl (by rfl) (by rfl)
set_option maxRecDepth 100000 in
theorem c_KR_allNow1 {σ : SI} {δ : SD} {n : Nat} (hW : WF (σ 85) n) : E KR_allNow [.ref 84, .int (nI 1)] (HH σ δ) (some (.int (allA (σ 85) n 1))) (HH σ δ) := by
  have h8 := hW.n8
  refine E.ofL [some (.ref 84), some (.int (nI 1))] rfl pn_RX9 rfl (fun sc => ?_)
  generalize hRz : (fun (zr : Option Value) (zk : XH) => zr = some (.int (allA (σ 85) n 1)) ∧ zk = HH σ δ) = R
  refine g_iload_n dX9_allNow_0 rfl ?_
  refine g_iconst dX9_allNow_1 ic_1 ?_
  refine n_icmp_le (tgt := 22) (by omega) (by omega) dX9_allNow_2 rfl (fun zc2 => ?_) (fun zc2 => ?_)
  · refine g_iconst dX9_allNow_22 ic_0 ?_
    refine g_istore_n dX9_allNow_23 rfl ?_
    refine g_iconst dX9_allNow_24 ic_0 ?_
    refine g_istore_n dX9_allNow_25 rfl ?_
    have H26 : ∀ (N : Nat) (k : Nat) (z : Int32), k ≤ n → z = nI (bitsN (fun k => liesA (σ 85) k && !fitThereA (σ 85) n k) k) → n - k < N → G sc KR_allNow 26 (aL [some (.ref 84), some (.int (nI 1)), some (.int z), some (.int (nI k))]) [] (HH σ δ) (0, 0) R := by
      intro N
      induction N with
      | zero => intro k z h1 hb hN26; exact absurd hN26 (Nat.not_lt_zero _)
      | succ N ih26 =>
        intro k z h1 hb hN26
        refine g_iload_n dX9_allNow_26 rfl ?_
        refine g_aload_n dX9_allNow_27 rfl ?_
        refine g_v0 (M' := KR_many) dX9_allNow_28 l_R_42 v_KR_many c_KR_many rc_84 rfl rfl ⟨rfl, rfl⟩ ?_
        refine g_top hW.a7 ?_
        refine n_icmp_ge (tgt := 70) (by omega) (by omega) dX9_allNow_31 rfl (fun zc31 => ?_) (fun zc31 => ?_)
        · refine g_iload_n dX9_allNow_70 rfl ?_
          exact g_iret (S := []) dX9_allNow_71 rfl (by rw [← hRz]; exact ⟨congrArg (fun zz => some (Value.int zz)) (show _ = _ by rw [hb, show k = n by omega]; rfl), by rfl⟩) (Nat.zero_le _) (Nat.zero_le _)
        · refine g_iload_n dX9_allNow_34 rfl ?_
          refine g_aload_n dX9_allNow_35 rfl ?_
          refine g_iload_n dX9_allNow_36 rfl ?_
          refine g_v1 (M' := KR_lies) dX9_allNow_37 l_R_82 v_KR_lies (c_KR_lies (by omega)) rc_84 rfl rfl ⟨rfl, rfl⟩ ?_
          refine b_if_eq (tgt := 61) dX9_allNow_40 rfl (fun zc40 => ?_) (fun zc40 => ?_)
          · refine g_iconst dX9_allNow_61 ic_0 ?_
            refine g_ior dX9_allNow_62 ?_
            refine g_istore_n dX9_allNow_63 rfl ?_
            refine n_iinc (b := 1) dX9_allNow_64 rfl rfl rfl ?_
            refine g_goto (tgt := 26) dX9_allNow_67 rfl ?_
            exact g_can _ (by exact ⟨rfl, rfl, rfl, rfl, trivial⟩) (ih26 (k + 1) _ (by omega) (by first | (rw [hb, bt_yes (p := fun k => liesA (σ 85) k && !fitThereA (σ 85) n k) (by simp [*]), shl_1 (by omega), nI_or]) | (rw [hb, bt_no (p := fun k => liesA (σ 85) k && !fitThereA (σ 85) n k) (by simp [*]), nI_or, Nat.or_zero])) (by omega))
          · refine g_iload_n dX9_allNow_43 rfl ?_
            refine n_if_eq (tgt := 55) (by omega) dX9_allNow_44 rfl (fun zc44 => absurd zc44 (by decide)) (fun _ => ?_)
            refine g_aload_n dX9_allNow_47 rfl ?_
            refine g_iload_n dX9_allNow_48 rfl ?_
            refine g_v1 (M' := KR_isFitThere) dX9_allNow_49 l_R_152 v_KR_isFitThere (c_KR_isFitThere hW (by omega)) rc_84 rfl rfl ⟨rfl, rfl⟩ ?_
            refine b_if_ne (tgt := 61) dX9_allNow_52 rfl (fun zc52 => ?_) (fun zc52 => ?_)
            · refine g_iconst dX9_allNow_61 ic_0 ?_
              refine g_ior dX9_allNow_62 ?_
              refine g_istore_n dX9_allNow_63 rfl ?_
              refine n_iinc (b := 1) dX9_allNow_64 rfl rfl rfl ?_
              refine g_goto (tgt := 26) dX9_allNow_67 rfl ?_
              exact g_can _ (by exact ⟨rfl, rfl, rfl, rfl, trivial⟩) (ih26 (k + 1) _ (by omega) (by first | (rw [hb, bt_yes (p := fun k => liesA (σ 85) k && !fitThereA (σ 85) n k) (by simp [*]), shl_1 (by omega), nI_or]) | (rw [hb, bt_no (p := fun k => liesA (σ 85) k && !fitThereA (σ 85) n k) (by simp [*]), nI_or, Nat.or_zero])) (by omega))
            · refine g_iconst dX9_allNow_55 ic_1 ?_
              refine g_iload_n dX9_allNow_56 rfl ?_
              refine g_ishl dX9_allNow_57 ?_
              refine g_goto (tgt := 62) dX9_allNow_58 rfl ?_
              refine g_ior dX9_allNow_62 ?_
              refine g_istore_n dX9_allNow_63 rfl ?_
              refine n_iinc (b := 1) dX9_allNow_64 rfl rfl rfl ?_
              refine g_goto (tgt := 26) dX9_allNow_67 rfl ?_
              exact g_can _ (by exact ⟨rfl, rfl, rfl, rfl, trivial⟩) (ih26 (k + 1) _ (by omega) (by first | (rw [hb, bt_yes (p := fun k => liesA (σ 85) k && !fitThereA (σ 85) n k) (by simp [*]), shl_1 (by omega), nI_or]) | (rw [hb, bt_no (p := fun k => liesA (σ 85) k && !fitThereA (σ 85) n k) (by simp [*]), nI_or, Nat.or_zero])) (by omega))
    exact g_can _ (by exact ⟨rfl, rfl, rfl, rfl, trivial⟩) (H26 _ 0 _ (by omega) rfl (Nat.lt_succ_self _))
  · exact absurd zc2 (by decide)
set_option maxRecDepth 100000 in
theorem c_KR_all_ok1 {σ : SI} {δ : SD} {a : Nat → Int32} {n s tl : Nat} {P : Nat → Nat → Int32} {tx rf : Nat → Int32} (hJ : IR σ a s P tl tx rf) (hs : s ≤ 5) (hW : WF a n)  : E KR_all [.ref 84, .int (nI 1)] (HH σ δ) (some (.int (allA a n 1))) (HH σ δ) := by
  obtain rfl := hJ.row
  have h3 := hJ.sd
  have hn := hW.n8
  have h7 := hW.a7
  have h8 := hW.n8
  refine E.ofL [some (.ref 84), some (.int (nI 1))] rfl pn_RX9 rfl (fun sc => ?_)
  refine g_iload_n dX9_all_0 rfl ?_
  refine g_i2l dX9_all_1 ?_
  refine g_lconst (v := 0) dX9_all_2 rfl ?_
  refine g_ldcl dX9_all_3 c_R_131 ?_
  refine g_s3 (M' := KR_in) dX9_all_6 l_R_46 s_KR_in c_KR_in rfl rfl ⟨rfl, rfl⟩ ?_
  refine g_top (show _ = nI 1 by decide +kernel) ?_
  refine n_if_eq (tgt := 20) (by omega) dX9_all_9 rfl (fun zc9 => absurd zc9 (by decide)) (fun _ => ?_)
  refine g_aload_n dX9_all_12 rfl ?_
  refine g_iload_n dX9_all_13 rfl ?_
  refine g_v1 (M' := KR_allNow) dX9_all_14 l_R_284 v_KR_allNow (c_KR_allNow1 hW) rc_84 rfl rfl ⟨rfl, rfl⟩ ?_
  refine g_goto (tgt := 26) dX9_all_17 rfl ?_
  exact e_iret dX9_all_26 rfl (by rfl) (by rfl)
set_option maxRecDepth 100000 in
theorem c_KP_all_ok2 {σ : SI} {δ : SD} {a : Nat → Int32} {n s o tl : Nat} {P : Nat → Nat → Int32} {tx rf : Nat → Int32} (hI : IC σ a n s o P tl tx rf)  : E KP_all [.ref 5, .int (nI 2)] (HH σ δ) (some (.int (allA a n 2))) (HH σ δ) := by
  have hW := hI.hl.wf
  have hR := hI.hl.rb
  have hD := hI.hl.rd
  have h2 := hR.c
  have h8 := hW.n8
  have hB := LB_6
  refine E.ofL [some (.ref 5), some (.int (nI 2))] rfl pn_RX8 rfl (fun sc => ?_)
  refine g_iload_n dX8_all_0 rfl ?_
  refine g_iconst dX8_all_1 ic_0 ?_
  refine g_iconst dX8_all_2 ic_3 ?_
  refine g_s3 (M' := KP_within) dX8_all_3 l_P_96 s_KP_within c_KP_within rfl rfl ⟨rfl, rfl⟩ ?_
  refine g_top (show _ = bI true by decide +kernel) ?_
  refine g_s1 (M' := KP_goodIf) dX8_all_6 l_P_81 s_KP_goodIf c_KP_goodIf rfl rfl ⟨rfl, rfl⟩ ?_
  refine g_top (if_pos rfl) ?_
  refine g_istore_n dX8_all_9 rfl ?_
  refine g_aload_n dX8_all_10 rfl ?_
  refine g_iload_n dX8_all_11 rfl ?_
  refine g_v1 (M' := KP_mayAnswer) dX8_all_12 l_P_100 v_KP_mayAnswer c_KP_mayAnswer0 rc_5 rfl rfl ⟨rfl, rfl⟩ ?_
  refine b_if_eq (tgt := 29) dX8_all_15 rfl (fun zc15 => ?_) (fun zc15 => ?_)
  · exact absurd zc15 (by decide)
  · refine g_aload_n dX8_all_18 rfl ?_
    refine q_getq dX8_all_19 f_P_12 ck_5 (by decide) ty_7_0 rf_5_0 ?_
    refine g_iload_n dX8_all_22 rfl ?_
    refine g_v1 (M' := KL_tellOfAll) dX8_all_23 l_P_192 v_KL_tellOfAll (c_KL_tellOfAll2 LB_6 hW hR hD) (rcL LB_6) rfl rfl ⟨rfl, rfl⟩ ?_
    refine g_goto (tgt := 30) dX8_all_26 rfl ?_
    exact e_iret dX8_all_30 rfl (by rfl) (by rfl)
set_option maxRecDepth 100000 in
theorem c_KR_allNow2 {σ : SI} {δ : SD} {n : Nat} (hW : WF (σ 85) n) : E KR_allNow [.ref 84, .int (nI 2)] (HH σ δ) (some (.int (allA (σ 85) n 2))) (HH σ δ) := by
  have h8 := hW.n8
  refine E.ofL [some (.ref 84), some (.int (nI 2))] rfl pn_RX9 rfl (fun sc => ?_)
  refine g_iload_n dX9_allNow_0 rfl ?_
  refine g_iconst dX9_allNow_1 ic_1 ?_
  refine n_icmp_le (tgt := 22) (by omega) (by omega) dX9_allNow_2 rfl (fun zc2 => ?_) (fun zc2 => ?_)
  · exact absurd zc2 (by decide)
  · refine g_iload_n dX9_allNow_5 rfl ?_
    refine g_iconst dX9_allNow_6 ic_2 ?_
    refine n_icmp_ne (tgt := 17) (by omega) (by omega) dX9_allNow_7 rfl (fun zc7 => ?_) (fun zc7 => ?_)
    · exact absurd zc7 (by decide)
    · refine g_aload_n dX9_allNow_10 rfl ?_
      refine g_v0 (M' := KR_weights) dX9_allNow_11 l_R_256 v_KR_weights (c_KR_weights hW) rc_84 rfl rfl ⟨rfl, rfl⟩ ?_
      refine g_goto (tgt := 21) dX9_allNow_14 rfl ?_
      exact e_iret dX9_allNow_21 rfl (by rfl) (by rfl)
set_option maxRecDepth 100000 in
theorem c_KR_all_ok2 {σ : SI} {δ : SD} {a : Nat → Int32} {n s tl : Nat} {P : Nat → Nat → Int32} {tx rf : Nat → Int32} (hJ : IR σ a s P tl tx rf) (hs : s ≤ 5) (hW : WF a n)  : E KR_all [.ref 84, .int (nI 2)] (HH σ δ) (some (.int (allA a n 2))) (HH σ δ) := by
  obtain rfl := hJ.row
  have h3 := hJ.sd
  have hn := hW.n8
  have h7 := hW.a7
  have h8 := hW.n8
  refine E.ofL [some (.ref 84), some (.int (nI 2))] rfl pn_RX9 rfl (fun sc => ?_)
  refine g_iload_n dX9_all_0 rfl ?_
  refine g_i2l dX9_all_1 ?_
  refine g_lconst (v := 0) dX9_all_2 rfl ?_
  refine g_ldcl dX9_all_3 c_R_131 ?_
  refine g_s3 (M' := KR_in) dX9_all_6 l_R_46 s_KR_in c_KR_in rfl rfl ⟨rfl, rfl⟩ ?_
  refine g_top (show _ = nI 1 by decide +kernel) ?_
  refine n_if_eq (tgt := 20) (by omega) dX9_all_9 rfl (fun zc9 => absurd zc9 (by decide)) (fun _ => ?_)
  refine g_aload_n dX9_all_12 rfl ?_
  refine g_iload_n dX9_all_13 rfl ?_
  refine g_v1 (M' := KR_allNow) dX9_all_14 l_R_284 v_KR_allNow (c_KR_allNow2 hW) rc_84 rfl rfl ⟨rfl, rfl⟩ ?_
  refine g_goto (tgt := 26) dX9_all_17 rfl ?_
  exact e_iret dX9_all_26 rfl (by rfl) (by rfl)
set_option maxRecDepth 100000 in
theorem c_KP_all_ok3 {σ : SI} {δ : SD} {a : Nat → Int32} {n s o tl : Nat} {P : Nat → Nat → Int32} {tx rf : Nat → Int32} (hI : IC σ a n s o P tl tx rf)  : E KP_all [.ref 5, .int (nI 3)] (HH σ δ) (some (.int (allA a n 3))) (HH σ δ) := by
  have hW := hI.hl.wf
  have hR := hI.hl.rb
  have hD := hI.hl.rd
  have h2 := hR.c
  have h8 := hW.n8
  have hB := LB_6
  refine E.ofL [some (.ref 5), some (.int (nI 3))] rfl pn_RX8 rfl (fun sc => ?_)
  refine g_iload_n dX8_all_0 rfl ?_
  refine g_iconst dX8_all_1 ic_0 ?_
  refine g_iconst dX8_all_2 ic_3 ?_
  refine g_s3 (M' := KP_within) dX8_all_3 l_P_96 s_KP_within c_KP_within rfl rfl ⟨rfl, rfl⟩ ?_
  refine g_top (show _ = bI true by decide +kernel) ?_
  refine g_s1 (M' := KP_goodIf) dX8_all_6 l_P_81 s_KP_goodIf c_KP_goodIf rfl rfl ⟨rfl, rfl⟩ ?_
  refine g_top (if_pos rfl) ?_
  refine g_istore_n dX8_all_9 rfl ?_
  refine g_aload_n dX8_all_10 rfl ?_
  refine g_iload_n dX8_all_11 rfl ?_
  refine g_v1 (M' := KP_mayAnswer) dX8_all_12 l_P_100 v_KP_mayAnswer c_KP_mayAnswer0 rc_5 rfl rfl ⟨rfl, rfl⟩ ?_
  refine b_if_eq (tgt := 29) dX8_all_15 rfl (fun zc15 => ?_) (fun zc15 => ?_)
  · exact absurd zc15 (by decide)
  · refine g_aload_n dX8_all_18 rfl ?_
    refine q_getq dX8_all_19 f_P_12 ck_5 (by decide) ty_7_0 rf_5_0 ?_
    refine g_iload_n dX8_all_22 rfl ?_
    refine g_v1 (M' := KL_tellOfAll) dX8_all_23 l_P_192 v_KL_tellOfAll (c_KL_tellOfAll3 LB_6 hW hR hD) (rcL LB_6) rfl rfl ⟨rfl, rfl⟩ ?_
    refine g_goto (tgt := 30) dX8_all_26 rfl ?_
    exact e_iret dX8_all_30 rfl (by rfl) (by rfl)
set_option maxRecDepth 100000 in
theorem c_KR_allNow3 {σ : SI} {δ : SD} {n : Nat} (hW : WF (σ 85) n) : E KR_allNow [.ref 84, .int (nI 3)] (HH σ δ) (some (.int (allA (σ 85) n 3))) (HH σ δ) := by
  have h8 := hW.n8
  refine E.ofL [some (.ref 84), some (.int (nI 3))] rfl pn_RX9 rfl (fun sc => ?_)
  refine g_iload_n dX9_allNow_0 rfl ?_
  refine g_iconst dX9_allNow_1 ic_1 ?_
  refine n_icmp_le (tgt := 22) (by omega) (by omega) dX9_allNow_2 rfl (fun zc2 => ?_) (fun zc2 => ?_)
  · exact absurd zc2 (by decide)
  · refine g_iload_n dX9_allNow_5 rfl ?_
    refine g_iconst dX9_allNow_6 ic_2 ?_
    refine n_icmp_ne (tgt := 17) (by omega) (by omega) dX9_allNow_7 rfl (fun zc7 => ?_) (fun zc7 => ?_)
    · refine g_aload_n dX9_allNow_17 rfl ?_
      refine g_v0 (M' := KR_smallPairs) dX9_allNow_18 l_R_281 v_KR_smallPairs (c_KR_smallPairs hW) rc_84 rfl rfl ⟨rfl, rfl⟩ ?_
      exact e_iret dX9_allNow_21 rfl (by rfl) (by rfl)
    · exact absurd zc7 (by decide)
set_option maxRecDepth 100000 in
theorem c_KR_all_ok3 {σ : SI} {δ : SD} {a : Nat → Int32} {n s tl : Nat} {P : Nat → Nat → Int32} {tx rf : Nat → Int32} (hJ : IR σ a s P tl tx rf) (hs : s ≤ 5) (hW : WF a n)  : E KR_all [.ref 84, .int (nI 3)] (HH σ δ) (some (.int (allA a n 3))) (HH σ δ) := by
  obtain rfl := hJ.row
  have h3 := hJ.sd
  have hn := hW.n8
  have h7 := hW.a7
  have h8 := hW.n8
  refine E.ofL [some (.ref 84), some (.int (nI 3))] rfl pn_RX9 rfl (fun sc => ?_)
  refine g_iload_n dX9_all_0 rfl ?_
  refine g_i2l dX9_all_1 ?_
  refine g_lconst (v := 0) dX9_all_2 rfl ?_
  refine g_ldcl dX9_all_3 c_R_131 ?_
  refine g_s3 (M' := KR_in) dX9_all_6 l_R_46 s_KR_in c_KR_in rfl rfl ⟨rfl, rfl⟩ ?_
  refine g_top (show _ = nI 1 by decide +kernel) ?_
  refine n_if_eq (tgt := 20) (by omega) dX9_all_9 rfl (fun zc9 => absurd zc9 (by decide)) (fun _ => ?_)
  refine g_aload_n dX9_all_12 rfl ?_
  refine g_iload_n dX9_all_13 rfl ?_
  refine g_v1 (M' := KR_allNow) dX9_all_14 l_R_284 v_KR_allNow (c_KR_allNow3 hW) rc_84 rfl rfl ⟨rfl, rfl⟩ ?_
  refine g_goto (tgt := 26) dX9_all_17 rfl ?_
  exact e_iret dX9_all_26 rfl (by rfl) (by rfl)
set_option maxRecDepth 100000 in
theorem c_KP_all_no2 {σ : SI} {δ : SD} {a : Nat → Int32} {n s o tl : Nat} {P : Nat → Nat → Int32} {tx rf : Nat → Int32} (hI : IC σ a n s o P tl tx rf) {what : Int32} (hk : inB what (nI 0) (nI 3) = false) : E KP_all [.ref 5, .int what] (HH σ δ) (some (.int (-2))) (HH (rfC σ 0) δ) := by
  have hW := hI.hl.wf
  have hR := hI.hl.rb
  have hD := hI.hl.rd
  have h2 := hR.c
  have h8 := hW.n8
  have hB := LB_6
  refine E.ofL [some (.ref 5), some (.int what)] rfl pn_RX8 rfl (fun sc => ?_)
  refine g_iload_n dX8_all_0 rfl ?_
  refine g_iconst dX8_all_1 ic_0 ?_
  refine g_iconst dX8_all_2 ic_3 ?_
  refine g_s3 (M' := KP_within) dX8_all_3 l_P_96 s_KP_within c_KP_within rfl rfl ⟨rfl, rfl⟩ ?_
  refine g_top (show _ = bI false by rw [hk]) ?_
  refine g_s1 (M' := KP_goodIf) dX8_all_6 l_P_81 s_KP_goodIf c_KP_goodIf rfl rfl ⟨rfl, rfl⟩ ?_
  refine g_top (if_neg (by decide)) ?_
  refine g_istore_n dX8_all_9 rfl ?_
  refine g_aload_n dX8_all_10 rfl ?_
  refine g_iload_n dX8_all_11 rfl ?_
  refine g_v1 (M' := KP_mayAnswer) dX8_all_12 l_P_100 v_KP_mayAnswer c_KP_mayAnswer2 rc_5 rfl rfl ⟨rfl, rfl⟩ ?_
  refine b_if_eq (tgt := 29) dX8_all_15 rfl (fun zc15 => ?_) (fun zc15 => ?_)
  · refine g_iload_n dX8_all_29 rfl ?_
    exact e_iret dX8_all_30 rfl (by rfl) (by rfl)
  · exact absurd zc15 (by decide)
set_option maxRecDepth 100000 in
theorem c_KR_all_no2 {σ : SI} {δ : SD} {a : Nat → Int32} {n s tl : Nat} {P : Nat → Nat → Int32} {tx rf : Nat → Int32} (hJ : IR σ a s P tl tx rf) (hs : s ≤ 5) (hW : WF a n) {what : Int32} (hk : inB what (nI 0) (nI 3) = false) : E KR_all [.ref 84, .int what] (HH σ δ) (some (.int (-2))) (HH (rfM σ 0) δ) := by
  obtain rfl := hJ.row
  have h3 := hJ.sd
  have hn := hW.n8
  have h7 := hW.a7
  have h8 := hW.n8
  refine E.ofL [some (.ref 84), some (.int what)] rfl pn_RX9 rfl (fun sc => ?_)
  refine g_iload_n dX9_all_0 rfl ?_
  refine g_i2l dX9_all_1 ?_
  refine g_lconst (v := 0) dX9_all_2 rfl ?_
  refine g_ldcl dX9_all_3 c_R_131 ?_
  refine g_s3 (M' := KR_in) dX9_all_6 l_R_46 s_KR_in c_KR_in rfl rfl ⟨rfl, rfl⟩ ?_
  refine b_if_eq (tgt := 20) dX9_all_9 rfl (fun zc9 => ?_) (fun zc9 => ?_)
  · refine g_aload_n dX9_all_20 rfl ?_
    refine g_bipush dX9_all_21 bp_m2 ?_
    refine g_v1 (M' := KR_refuses) dX9_all_23 l_R_101 v_KR_refuses c_KR_refuses0 rc_84 rfl rfl ⟨rfl, rfl⟩ ?_
    exact e_iret dX9_all_26 rfl (by rfl) (by rfl)
  · simp only [w64_0, w64_3, inL_wide] at zc9; exact absurd zc9 (by rw [hk]; decide)
set_option maxRecDepth 100000 in
theorem c_KP_sorted_ok {σ : SI} {δ : SD} {a : Nat → Int32} {n s o tl : Nat} {P : Nat → Nat → Int32} {tx rf : Nat → Int32} (hI : IC σ a n s o P tl tx rf) {so i : Int32} (hk : (inB so (nI 0) (nI 1) = true ∧ ¬ i < 0)) : E KP_sorted [.ref 5, .int so, .int i] (HH σ δ) (some (.int (findI (fun k => decide (its a k 0 = so) && decide (nI (aheadA a n k) = i)) n))) (HH σ δ) := by
  have hW := hI.hl.wf
  have hR := hI.hl.rb
  have hD := hI.hl.rd
  have h2 := hR.c
  have h8 := hW.n8
  have hB := LB_6
  refine E.ofL [some (.ref 5), some (.int so), some (.int i)] rfl pn_RX8 rfl (fun sc => ?_)
  refine g_iload_n dX8_sorted_0 rfl ?_
  refine g_gets (j := 3) (by decide) (by decide) dX8_sorted_1 z_P_195 ?_
  refine g_iconst dX8_sorted_4 ic_0 ?_
  refine g_tald (by decide) (by decide) dX8_sorted_5 (ixD_nI (show 0 < (sRow 3).length by decide) (by decide)) ?_
  refine g_top (show (sRow 3).getD 0 0 = nI 0 from rfl) ?_
  refine g_gets (j := 4) (by decide) (by decide) dX8_sorted_6 z_P_199 ?_
  refine g_iconst dX8_sorted_9 ic_0 ?_
  refine g_tald (by decide) (by decide) dX8_sorted_10 (ixD_nI (show 0 < (sRow 4).length by decide) (by decide)) ?_
  refine g_top (show (sRow 4).getD 0 0 = nI 1 from rfl) ?_
  refine g_s3 (M' := KP_within) dX8_sorted_11 l_P_96 s_KP_within c_KP_within rfl rfl ⟨rfl, rfl⟩ ?_
  refine b_if_eq (tgt := 25) dX8_sorted_14 rfl (fun zc14 => ?_) (fun zc14 => ?_)
  · exact absurd hk.1 (by rw [zc14]; decide)
  · refine g_iload_n dX8_sorted_17 rfl ?_
    refine g_if_lt (tgt := 25) dX8_sorted_18 rfl (fun zc18 => ?_) (fun zc18 => ?_)
    · exact absurd zc18 hk.2
    · refine g_iconst dX8_sorted_21 ic_1 ?_
      refine g_top bI_t.symm ?_
      refine g_goto (tgt := 26) dX8_sorted_22 rfl ?_
      refine g_s1 (M' := KP_goodIf) dX8_sorted_26 l_P_81 s_KP_goodIf c_KP_goodIf rfl rfl ⟨rfl, rfl⟩ ?_
      refine g_top (if_pos rfl) ?_
      refine g_istore_n dX8_sorted_29 rfl ?_
      refine g_aload_n dX8_sorted_30 rfl ?_
      refine g_iload_n dX8_sorted_31 rfl ?_
      refine g_v1 (M' := KP_mayAnswer) dX8_sorted_32 l_P_100 v_KP_mayAnswer c_KP_mayAnswer0 rc_5 rfl rfl ⟨rfl, rfl⟩ ?_
      refine b_if_eq (tgt := 50) dX8_sorted_35 rfl (fun zc35 => ?_) (fun zc35 => ?_)
      · exact absurd zc35 (by decide)
      · refine g_aload_n dX8_sorted_38 rfl ?_
        refine q_getq dX8_sorted_39 f_P_12 ck_5 (by decide) ty_7_0 rf_5_0 ?_
        refine g_iload_n dX8_sorted_42 rfl ?_
        refine g_iload_n dX8_sorted_43 rfl ?_
        refine g_v2 (M' := KL_heaviest) dX8_sorted_44 l_P_202 v_KL_heaviest (c_KL_heaviest LB_6 hW hR hD) (rcL LB_6) rfl rfl ⟨rfl, rfl⟩ ?_
        refine g_goto (tgt := 51) dX8_sorted_47 rfl ?_
        exact e_iret dX8_sorted_51 rfl (by rfl) (by rfl)
set_option maxRecDepth 100000 in
theorem c_KP_sorted_no2 {σ : SI} {δ : SD} {a : Nat → Int32} {n s o tl : Nat} {P : Nat → Nat → Int32} {tx rf : Nat → Int32} (hI : IC σ a n s o P tl tx rf) {so i : Int32} (hk : ¬ (inB so (nI 0) (nI 1) = true ∧ ¬ i < 0)) : E KP_sorted [.ref 5, .int so, .int i] (HH σ δ) (some (.int (-2))) (HH (rfC σ 0) δ) := by
  have hW := hI.hl.wf
  have hR := hI.hl.rb
  have hD := hI.hl.rd
  have h2 := hR.c
  have h8 := hW.n8
  have hB := LB_6
  refine E.ofL [some (.ref 5), some (.int so), some (.int i)] rfl pn_RX8 rfl (fun sc => ?_)
  refine g_iload_n dX8_sorted_0 rfl ?_
  refine g_gets (j := 3) (by decide) (by decide) dX8_sorted_1 z_P_195 ?_
  refine g_iconst dX8_sorted_4 ic_0 ?_
  refine g_tald (by decide) (by decide) dX8_sorted_5 (ixD_nI (show 0 < (sRow 3).length by decide) (by decide)) ?_
  refine g_top (show (sRow 3).getD 0 0 = nI 0 from rfl) ?_
  refine g_gets (j := 4) (by decide) (by decide) dX8_sorted_6 z_P_199 ?_
  refine g_iconst dX8_sorted_9 ic_0 ?_
  refine g_tald (by decide) (by decide) dX8_sorted_10 (ixD_nI (show 0 < (sRow 4).length by decide) (by decide)) ?_
  refine g_top (show (sRow 4).getD 0 0 = nI 1 from rfl) ?_
  refine g_s3 (M' := KP_within) dX8_sorted_11 l_P_96 s_KP_within c_KP_within rfl rfl ⟨rfl, rfl⟩ ?_
  refine b_if_eq (tgt := 25) dX8_sorted_14 rfl (fun zc14 => ?_) (fun zc14 => ?_)
  · refine g_iconst dX8_sorted_25 ic_0 ?_
    refine g_top bI_f.symm ?_
    refine g_s1 (M' := KP_goodIf) dX8_sorted_26 l_P_81 s_KP_goodIf c_KP_goodIf rfl rfl ⟨rfl, rfl⟩ ?_
    refine g_top (if_neg (by decide)) ?_
    refine g_istore_n dX8_sorted_29 rfl ?_
    refine g_aload_n dX8_sorted_30 rfl ?_
    refine g_iload_n dX8_sorted_31 rfl ?_
    refine g_v1 (M' := KP_mayAnswer) dX8_sorted_32 l_P_100 v_KP_mayAnswer c_KP_mayAnswer2 rc_5 rfl rfl ⟨rfl, rfl⟩ ?_
    refine b_if_eq (tgt := 50) dX8_sorted_35 rfl (fun zc35 => ?_) (fun zc35 => ?_)
    · refine g_iload_n dX8_sorted_50 rfl ?_
      exact e_iret dX8_sorted_51 rfl (by rfl) (by rfl)
    · exact absurd zc35 (by decide)
  · refine g_iload_n dX8_sorted_17 rfl ?_
    refine g_if_lt (tgt := 25) dX8_sorted_18 rfl (fun zc18 => ?_) (fun zc18 => ?_)
    · refine g_iconst dX8_sorted_25 ic_0 ?_
      refine g_top bI_f.symm ?_
      refine g_s1 (M' := KP_goodIf) dX8_sorted_26 l_P_81 s_KP_goodIf c_KP_goodIf rfl rfl ⟨rfl, rfl⟩ ?_
      refine g_top (if_neg (by decide)) ?_
      refine g_istore_n dX8_sorted_29 rfl ?_
      refine g_aload_n dX8_sorted_30 rfl ?_
      refine g_iload_n dX8_sorted_31 rfl ?_
      refine g_v1 (M' := KP_mayAnswer) dX8_sorted_32 l_P_100 v_KP_mayAnswer c_KP_mayAnswer2 rc_5 rfl rfl ⟨rfl, rfl⟩ ?_
      refine b_if_eq (tgt := 50) dX8_sorted_35 rfl (fun zc35 => ?_) (fun zc35 => ?_)
      · refine g_iload_n dX8_sorted_50 rfl ?_
        exact e_iret dX8_sorted_51 rfl (by rfl) (by rfl)
      · exact absurd zc35 (by decide)
    · exact absurd ⟨zc14, zc18⟩ hk
set_option maxRecDepth 100000 in
theorem c_KR_sorted_ok {σ : SI} {δ : SD} {a : Nat → Int32} {n s tl : Nat} {P : Nat → Nat → Int32} {tx rf : Nat → Int32} (hJ : IR σ a s P tl tx rf) (hs : s ≤ 5) (hW : WF a n) {so i : Int32} (hk : (inB so (nI 0) (nI 1) = true ∧ ¬ i < 0)) : E KR_sorted [.ref 84, .int so, .int i] (HH σ δ) (some (.int (findI (fun k => decide (its (σ 85) k 0 = so) && decide (nI (aheadA (σ 85) n k) = i)) n))) (HH σ δ) := by
  obtain rfl := hJ.row
  have h3 := hJ.sd
  have hn := hW.n8
  have h7 := hW.a7
  have h8 := hW.n8
  refine E.ofL [some (.ref 84), some (.int so), some (.int i)] rfl pn_RX9 rfl (fun sc => ?_)
  generalize hRz : (fun (zr : Option Value) (zk : XH) => zr = some (.int (findI (fun k => decide (its (σ 85) k 0 = so) && decide (nI (aheadA (σ 85) n k) = i)) n)) ∧ zk = HH σ δ) = R
  refine g_iload_n dX9_sorted_0 rfl ?_
  refine g_i2l dX9_sorted_1 ?_
  refine g_lconst (v := 0) dX9_sorted_2 rfl ?_
  refine g_lconst (v := 1) dX9_sorted_3 rfl ?_
  refine g_s3 (M' := KR_in) dX9_sorted_4 l_R_46 s_KR_in c_KR_in rfl rfl ⟨rfl, rfl⟩ ?_
  refine b_if_eq (tgt := 14) dX9_sorted_7 rfl (fun zc7 => ?_) (fun zc7 => ?_)
  · simp only [w64_0, w64_1, inL_wide] at zc7; exact absurd hk.1 (by rw [zc7]; decide)
  · refine g_iload_n dX9_sorted_10 rfl ?_
    refine g_if_ge (tgt := 21) dX9_sorted_11 rfl (fun zc11 => ?_) (fun zc11 => ?_)
    · refine g_iconst dX9_sorted_21 ic_0 ?_
      refine g_istore_n dX9_sorted_22 rfl ?_
      have H23 : ∀ (N : Nat) (k : Nat), k ≤ n → (∀ j, j < k → (decide (its (σ 85) j 0 = so) && decide (nI (aheadA (σ 85) n j) = i)) = false) → n - k < N → G sc KR_sorted 23 (aL [some (.ref 84), some (.int so), some (.int i), some (.int (nI k))]) [] (HH σ δ) (0, 0) R := by
        intro N
        induction N with
        | zero => intro k h1 hb hN23; exact absurd hN23 (Nat.not_lt_zero _)
        | succ N ih23 =>
          intro k h1 hb hN23
          refine g_iload_n dX9_sorted_23 rfl ?_
          refine g_aload_n dX9_sorted_24 rfl ?_
          refine g_v0 (M' := KR_many) dX9_sorted_25 l_R_42 v_KR_many c_KR_many rc_84 rfl rfl ⟨rfl, rfl⟩ ?_
          refine g_top hW.a7 ?_
          refine n_icmp_ge (tgt := 58) (by omega) (by omega) dX9_sorted_28 rfl (fun zc28 => ?_) (fun zc28 => ?_)
          · refine g_iconst dX9_sorted_58 ic_m1 ?_
            exact g_iret (S := []) dX9_sorted_59 rfl (by rw [← hRz]; exact ⟨congrArg (fun zz => some (Value.int zz)) (show _ = _ by exact (findI_no (fun i hi => hb i (by omega))).symm), by rfl⟩) (Nat.zero_le _) (Nat.zero_le _)
          · refine g_aload_n dX9_sorted_31 rfl ?_
            refine g_iload_n dX9_sorted_32 rfl ?_
            refine g_iconst dX9_sorted_33 ic_0 ?_
            refine g_v2 (M' := KR_its) dX9_sorted_34 l_R_50 v_KR_its (c_KR_its (by omega) (by omega)) rc_84 rfl rfl ⟨rfl, rfl⟩ ?_
            refine g_iload_n dX9_sorted_37 rfl ?_
            refine g_icmp_ne (tgt := 52) dX9_sorted_38 rfl (fun zc38 => ?_) (fun zc38 => ?_)
            · refine n_iinc (b := 1) dX9_sorted_52 rfl rfl rfl ?_
              refine g_goto (tgt := 23) dX9_sorted_55 rfl ?_
              exact g_can _ (by exact ⟨rfl, rfl, rfl, rfl, trivial⟩) (ih23 (k + 1) (by omega) (lt_step hb (by clear ih23; simp [*])) (by omega))
            · refine g_aload_n dX9_sorted_41 rfl ?_
              refine g_iload_n dX9_sorted_42 rfl ?_
              refine g_v1 (M' := KR_aheadOf) dX9_sorted_43 l_R_287 v_KR_aheadOf (c_KR_aheadOf hW (by omega)) rc_84 rfl rfl ⟨rfl, rfl⟩ ?_
              refine g_iload_n dX9_sorted_46 rfl ?_
              refine g_icmp_ne (tgt := 52) dX9_sorted_47 rfl (fun zc47 => ?_) (fun zc47 => ?_)
              · refine n_iinc (b := 1) dX9_sorted_52 rfl rfl rfl ?_
                refine g_goto (tgt := 23) dX9_sorted_55 rfl ?_
                exact g_can _ (by exact ⟨rfl, rfl, rfl, rfl, trivial⟩) (ih23 (k + 1) (by omega) (lt_step hb (by clear ih23; simp [*])) (by omega))
              · refine g_iload_n dX9_sorted_50 rfl ?_
                exact g_iret (S := []) dX9_sorted_51 rfl (by rw [← hRz]; exact ⟨congrArg (fun zz => some (Value.int zz)) (show _ = _ by exact (findI_at zc28 hb (by clear ih23; simp [*])).symm), by rfl⟩) (Nat.zero_le _) (Nat.zero_le _)
      exact g_can _ (by exact ⟨rfl, rfl, rfl, rfl, trivial⟩) (H23 _ 0 (by omega) (fun i hi => absurd hi (Nat.not_lt_zero i)) (Nat.lt_succ_self _))
    · exact absurd (Int32.not_le.mp zc11) hk.2
set_option maxRecDepth 100000 in
theorem c_KR_sorted_no2 {σ : SI} {δ : SD} {a : Nat → Int32} {n s tl : Nat} {P : Nat → Nat → Int32} {tx rf : Nat → Int32} (hJ : IR σ a s P tl tx rf) (hs : s ≤ 5) (hW : WF a n) {so i : Int32} (hk : ¬ (inB so (nI 0) (nI 1) = true ∧ ¬ i < 0)) : E KR_sorted [.ref 84, .int so, .int i] (HH σ δ) (some (.int (-2))) (HH (rfM σ 0) δ) := by
  obtain rfl := hJ.row
  have h3 := hJ.sd
  have hn := hW.n8
  have h7 := hW.a7
  have h8 := hW.n8
  refine E.ofL [some (.ref 84), some (.int so), some (.int i)] rfl pn_RX9 rfl (fun sc => ?_)
  refine g_iload_n dX9_sorted_0 rfl ?_
  refine g_i2l dX9_sorted_1 ?_
  refine g_lconst (v := 0) dX9_sorted_2 rfl ?_
  refine g_lconst (v := 1) dX9_sorted_3 rfl ?_
  refine g_s3 (M' := KR_in) dX9_sorted_4 l_R_46 s_KR_in c_KR_in rfl rfl ⟨rfl, rfl⟩ ?_
  refine b_if_eq (tgt := 14) dX9_sorted_7 rfl (fun zc7 => ?_) (fun zc7 => ?_)
  · refine g_aload_n dX9_sorted_14 rfl ?_
    refine g_bipush dX9_sorted_15 bp_m2 ?_
    refine g_v1 (M' := KR_refuses) dX9_sorted_17 l_R_101 v_KR_refuses c_KR_refuses0 rc_84 rfl rfl ⟨rfl, rfl⟩ ?_
    exact e_iret dX9_sorted_20 rfl (by rfl) (by rfl)
  · refine g_iload_n dX9_sorted_10 rfl ?_
    refine g_if_ge (tgt := 21) dX9_sorted_11 rfl (fun zc11 => ?_) (fun zc11 => ?_)
    · simp only [w64_0, w64_1, inL_wide] at zc7
      exact absurd ⟨zc7, fun q => absurd q (Int32.not_lt.mpr zc11)⟩ hk
    · refine g_aload_n dX9_sorted_14 rfl ?_
      refine g_bipush dX9_sorted_15 bp_m2 ?_
      refine g_v1 (M' := KR_refuses) dX9_sorted_17 l_R_101 v_KR_refuses c_KR_refuses0 rc_84 rfl rfl ⟨rfl, rfl⟩ ?_
      exact e_iret dX9_sorted_20 rfl (by rfl) (by rfl)
set_option maxRecDepth 100000 in
theorem c_KP_back_ok {σ : SI} {δ : SD} {a : Nat → Int32} {n s0 o tl : Nat} {P : Nat → Nat → Int32} {tx rf : Nat → Int32} (hI : IC σ a n (s0 + 1) o P tl tx rf) : E KP_back [.ref 5] (HH σ δ) (some (.int (nI s0))) (HH (cop (uI σ 24 0 (nI s0)) 6 (26 + 9 * ((o + s0) % 5))) δ) := by
  have h5 := hI.s5
  refine E.ofL [some (.ref 5)] rfl pn_RX8 rfl (fun sc => ?_)
  refine g_aload_n dX8_back_0 rfl ?_
  refine q_getq dX8_back_1 f_P_22 ck_5 (by decide) ty_7_2 rf_5_2 ?_
  refine q_geti dX8_back_4 f_P_249 ck_24 (by decide) ty_4_0 ?_
  refine g_top hI.c ?_
  refine n_if_le (tgt := 14) (by omega) dX8_back_7 rfl (fun zc7 => ?_) (fun zc7 => ?_)
  · exact absurd zc7 (by omega)
  · refine g_iconst dX8_back_10 ic_0 ?_
    refine g_goto (tgt := 16) dX8_back_11 rfl ?_
    refine g_istore_n dX8_back_16 rfl ?_
    refine g_aload_n dX8_back_17 rfl ?_
    refine g_iload_n dX8_back_18 rfl ?_
    refine g_v1 (M' := KP_mayAnswer) dX8_back_19 l_P_100 v_KP_mayAnswer c_KP_mayAnswer0 rc_5 rfl rfl ⟨rfl, rfl⟩ ?_
    refine b_if_eq (tgt := 39) dX8_back_22 rfl (fun zc22 => ?_) (fun zc22 => ?_)
    · exact absurd zc22 (by decide)
    · refine g_aload_n dX8_back_25 rfl ?_
      refine q_getq dX8_back_26 f_P_22 ck_5 (by decide) ty_7_2 rf_5_2 ?_
      refine g_aload_n dX8_back_29 rfl ?_
      refine q_getq dX8_back_30 f_P_12 ck_5 (by decide) ty_7_0 rf_5_0 ?_
      refine g_v1 (M' := KQ_pop) dX8_back_33 l_P_252 v_KQ_pop (c_KQ_pop (by have := hI.s5; omega) hI.o5 hI.c hI.od) rc_24 rfl rfl ⟨rfl, rfl⟩ ?_
      refine g_goto (tgt := 40) dX8_back_36 rfl ?_
      exact e_iret dX8_back_40 rfl (by rfl) (by rfl)
set_option maxRecDepth 100000 in
theorem c_KP_back_no3 {σ : SI} {δ : SD} {a : Nat → Int32} {n o tl : Nat} {P : Nat → Nat → Int32} {tx rf : Nat → Int32} (hI : IC σ a n 0 o P tl tx rf) : E KP_back [.ref 5] (HH σ δ) (some (.int (-3))) (HH (rfC σ 1) δ) := by
  refine E.ofL [some (.ref 5)] rfl pn_RX8 rfl (fun sc => ?_)
  refine g_aload_n dX8_back_0 rfl ?_
  refine q_getq dX8_back_1 f_P_22 ck_5 (by decide) ty_7_2 rf_5_2 ?_
  refine q_geti dX8_back_4 f_P_249 ck_24 (by decide) ty_4_0 ?_
  refine g_top hI.c ?_
  refine n_if_le (tgt := 14) (by omega) dX8_back_7 rfl (fun _ => ?_) (fun zc7 => absurd zc7 (by decide))
  refine g_bipush dX8_back_14 bp_m3 ?_
  refine g_istore_n dX8_back_16 rfl ?_
  refine g_aload_n dX8_back_17 rfl ?_
  refine g_iload_n dX8_back_18 rfl ?_
  refine g_v1 (M' := KP_mayAnswer) dX8_back_19 l_P_100 v_KP_mayAnswer c_KP_mayAnswer3 rc_5 rfl rfl ⟨rfl, rfl⟩ ?_
  refine b_if_eq (tgt := 39) dX8_back_22 rfl (fun zc22 => ?_) (fun zc22 => ?_)
  · refine g_iload_n dX8_back_39 rfl ?_
    exact e_iret dX8_back_40 rfl (by rfl) (by rfl)
  · exact absurd zc22 (by decide)
