/-! CALLS: those that answer alone, the text -/
theorem w64_127 : (127 : Int64) = (nI 127).toInt64 := by decide
set_option maxRecDepth 100000 in
theorem c_KT_againstByte_ok {σ : SI} {δ : SD} {tl : Nat} (h0 : σ 80 0 = nI tl) {c : Nat} (hc : c < 128) (ht : tl < 120) : E KT_againstByte [.ref 80, .int (nI c)] (HH σ δ) (some (.int (nI 0))) (HH σ δ) := by
  refine E.ofL [some (.ref 80), some (.int (nI c))] rfl pn_RX6 rfl (fun sc => ?_)
  refine g_iload_n dX6_againstByte_0 rfl ?_
  refine g_iconst dX6_againstByte_1 ic_0 ?_
  refine g_bipush dX6_againstByte_2 bp_127 ?_
  refine g_s3N (M' := KP_within) dX6_againstByte_4 l_T_21 s_KP_within c_KP_within rfl rfl ⟨rfl, rfl⟩ ?_
  refine g_top (in1 (Nat.zero_le _) (by omega) (by decide)) ?_
  refine n_if_ne (tgt := 13) (by omega) dX6_againstByte_7 rfl (fun _ => ?_) (fun zc7 => absurd zc7 (by decide))
  refine g_aload_n dX6_againstByte_13 rfl ?_
  refine q_geti dX6_againstByte_14 f_T_25 ck_80 (by decide) ty_5_0 ?_
  refine g_top h0 ?_
  refine g_bipush dX6_againstByte_17 bp_120 ?_
  refine n_icmp_ge (tgt := 26) (by omega) (by omega) dX6_againstByte_19 rfl (fun zc19 => ?_) (fun zc19 => ?_)
  · exact absurd zc19 (by omega)
  · refine g_iconst dX6_againstByte_22 ic_0 ?_
    refine g_goto (tgt := 28) dX6_againstByte_23 rfl ?_
    exact e_iret dX6_againstByte_28 rfl (by rfl) (by rfl)
set_option maxRecDepth 100000 in
theorem c_KT_againstByte_full {σ : SI} {δ : SD} {tl : Nat} (h0 : σ 80 0 = nI tl) {c : Nat} (hc : c < 128) (ht : tl = 120) : E KT_againstByte [.ref 80, .int (nI c)] (HH σ δ) (some (.int (-4))) (HH σ δ) := by
  refine E.ofL [some (.ref 80), some (.int (nI c))] rfl pn_RX6 rfl (fun sc => ?_)
  refine g_iload_n dX6_againstByte_0 rfl ?_
  refine g_iconst dX6_againstByte_1 ic_0 ?_
  refine g_bipush dX6_againstByte_2 bp_127 ?_
  refine g_s3N (M' := KP_within) dX6_againstByte_4 l_T_21 s_KP_within c_KP_within rfl rfl ⟨rfl, rfl⟩ ?_
  refine g_top (in1 (Nat.zero_le _) (by omega) (by decide)) ?_
  refine n_if_ne (tgt := 13) (by omega) dX6_againstByte_7 rfl (fun _ => ?_) (fun zc7 => absurd zc7 (by decide))
  refine g_aload_n dX6_againstByte_13 rfl ?_
  refine q_geti dX6_againstByte_14 f_T_25 ck_80 (by decide) ty_5_0 ?_
  refine g_top h0 ?_
  refine g_bipush dX6_againstByte_17 bp_120 ?_
  refine n_icmp_ge (tgt := 26) (by omega) (by omega) dX6_againstByte_19 rfl (fun zc19 => ?_) (fun zc19 => ?_)
  · refine g_bipush dX6_againstByte_26 bp_m4 ?_
    exact e_iret dX6_againstByte_28 rfl (by rfl) (by rfl)
  · exact absurd zc19 (by omega)
set_option maxRecDepth 100000 in
theorem c_KT_againstByte_no {σ : SI} {δ : SD} {c : Int32} (hc : inB c (nI 0) (nI 127) = false) : E KT_againstByte [.ref 80, .int c] (HH σ δ) (some (.int (-2))) (HH σ δ) := by
  refine E.ofL [some (.ref 80), some (.int c)] rfl pn_RX6 rfl (fun sc => ?_)
  refine g_iload_n dX6_againstByte_0 rfl ?_
  refine g_iconst dX6_againstByte_1 ic_0 ?_
  refine g_bipush dX6_againstByte_2 bp_127 ?_
  refine g_s3N (M' := KP_within) dX6_againstByte_4 l_T_21 s_KP_within c_KP_within rfl rfl ⟨rfl, rfl⟩ ?_
  refine b_if_ne (tgt := 13) dX6_againstByte_7 rfl (fun zc7 => ?_) (fun zc7 => ?_)
  · exact absurd zc7 (by rw [hc]; decide)
  · refine g_bipush dX6_againstByte_10 bp_m2 ?_
    exact e_iret dX6_againstByte_12 rfl (by rfl) (by rfl)
set_option maxRecDepth 100000 in
theorem c_KT_append {σ : SI} {δ : SD} {tl : Nat} (h0 : σ 80 0 = nI tl) (ht : tl < 120) {c : Nat} : E KT_append [.ref 80, .int (nI c)] (HH σ δ) (some (.int (nI (tl + 1)))) (HH (uI (uI σ 81 tl (nI c)) 80 0 (nI (tl + 1))) δ) := by
  refine E.ofL [some (.ref 80), some (.int (nI c))] rfl pn_RX6 rfl (fun sc => ?_)
  refine g_aload_n dX6_append_0 rfl ?_
  refine q_geti dX6_append_1 f_T_25 ck_80 (by decide) ty_5_0 ?_
  refine g_top h0 ?_
  refine n_if_lt (tgt := 36) (by omega) dX6_append_4 rfl (fun zc4 => ?_) (fun zc4 => ?_)
  · exact zc4.elim
  · refine g_aload_n dX6_append_7 rfl ?_
    refine q_geti dX6_append_8 f_T_25 ck_80 (by decide) ty_5_0 ?_
    refine g_top h0 ?_
    refine g_bipush dX6_append_11 bp_120 ?_
    refine n_icmp_ge (tgt := 36) (by omega) (by omega) dX6_append_13 rfl (fun zc13 => ?_) (fun zc13 => ?_)
    · exact absurd zc13 (by omega)
    · refine g_aload_n dX6_append_16 rfl ?_
      refine q_getq dX6_append_17 f_T_11 ck_80 (by decide) ty_5_3 rf_80_3 ?_
      refine g_aload_n dX6_append_20 rfl ?_
      refine q_geti dX6_append_21 f_T_25 ck_80 (by decide) ty_5_0 ?_
      refine g_top h0 ?_
      refine g_iload_n dX6_append_24 rfl ?_
      refine q_iast dX6_append_25 ck_81 (ixD_nI (by omega) (by decide)) ?_
      refine g_aload_n dX6_append_26 rfl ?_
      refine g_dup dX6_append_27 rfl ?_
      refine q_geti dX6_append_28 f_T_25 ck_80 (by decide) ty_5_0 ?_
      refine g_top ((uI_oth (by omega)).trans h0) ?_
      refine g_iconst dX6_append_31 ic_1 ?_
      refine n_iadd dX6_append_32 ?_
      refine q_puti dX6_append_33 f_T_25 ck_80 (by decide) ty_5_0 fi_5_0 ?_
      refine g_aload_n dX6_append_36 rfl ?_
      refine q_geti dX6_append_37 f_T_25 ck_80 (by decide) ty_5_0 ?_
      refine g_top uI_same ?_
      exact e_iret dX6_append_40 rfl (by rfl) (by rfl)
set_option maxRecDepth 100000 in
theorem c_KT_empty {σ : SI} {δ : SD} {tl : Nat} (h0 : σ 80 0 = nI tl) : E KT_empty [.ref 80] (HH σ δ) (some (.int (nI tl))) (HH (uI σ 80 0 (nI 0)) δ) := by
  refine E.ofL [some (.ref 80)] rfl pn_RX6 rfl (fun sc => ?_)
  refine g_aload_n dX6_empty_0 rfl ?_
  refine q_geti dX6_empty_1 f_T_25 ck_80 (by decide) ty_5_0 ?_
  refine g_top h0 ?_
  refine g_istore_n dX6_empty_4 rfl ?_
  refine g_aload_n dX6_empty_5 rfl ?_
  refine g_iconst dX6_empty_6 ic_0 ?_
  refine q_puti dX6_empty_7 f_T_25 ck_80 (by decide) ty_5_0 fi_5_0 ?_
  refine g_iload_n dX6_empty_10 rfl ?_
  exact e_iret dX6_empty_11 rfl (by rfl) (by rfl)
set_option maxRecDepth 100000 in
theorem c_KP_clear {σ : SI} {δ : SD} {a : Nat → Int32} {n s o tl : Nat} {P : Nat → Nat → Int32} {tx rf : Nat → Int32} (hI : IC σ a n s o P tl tx rf) : E KP_clear [.ref 5] (HH σ δ) (some (.int (nI tl))) (HH (uI σ 80 0 (nI 0)) δ) := by
  refine E.ofL [some (.ref 5)] rfl pn_RX8 rfl (fun sc => ?_)
  refine g_aload_n dX8_clear_0 rfl ?_
  refine q_getq dX8_clear_1 f_P_50 ck_5 (by decide) ty_7_6 rf_5_6 ?_
  refine g_v0 (M' := KT_empty) dX8_clear_4 l_P_233 v_KT_empty (c_KT_empty hI.t.2) rc_80 rfl rfl ⟨rfl, rfl⟩ ?_
  exact e_iret dX8_clear_7 rfl (by rfl) (by rfl)
set_option maxRecDepth 100000 in
theorem c_KR_clear {σ : SI} {δ : SD} {a : Nat → Int32} {n s tl : Nat} {P : Nat → Nat → Int32} {tx rf : Nat → Int32} (hJ : IR σ a s P tl tx rf) (hs : s ≤ 5) (hW : WF a n) : E KR_clear [.ref 84] (HH σ δ) (some (.int (nI tl))) (HH (uI σ 84 12 (nI 0)) δ) := by
  refine E.ofL [some (.ref 84)] rfl pn_RX9 rfl (fun sc => ?_)
  refine g_aload_n dX9_clear_0 rfl ?_
  refine q_geti dX9_clear_1 f_R_301 ck_84 (by decide) ty_8_12 ?_
  refine g_top hJ.t ?_
  refine g_istore_n dX9_clear_4 rfl ?_
  refine g_aload_n dX9_clear_5 rfl ?_
  refine g_iconst dX9_clear_6 ic_0 ?_
  refine q_puti dX9_clear_7 f_R_301 ck_84 (by decide) ty_8_12 fi_8_12 ?_
  refine g_iload_n dX9_clear_10 rfl ?_
  exact e_iret dX9_clear_11 rfl (by rfl) (by rfl)
set_option maxRecDepth 100000 in
theorem c_KP_type_ok {σ : SI} {δ : SD} {a : Nat → Int32} {n s o tl : Nat} {P : Nat → Nat → Int32} {tx rf : Nat → Int32} (hI : IC σ a n s o P tl tx rf) {c : Nat} (hc : c < 128) (ht : tl < 120) : E KP_type [.ref 5, .int (nI c)] (HH σ δ) (some (.int (nI (tl + 1)))) (HH (uI (uI σ 81 tl (nI c)) 80 0 (nI (tl + 1))) δ) := by
  refine E.ofL [some (.ref 5), some (.int (nI c))] rfl pn_RX8 rfl (fun sc => ?_)
  refine g_aload_n dX8_type_0 rfl ?_
  refine q_getq dX8_type_1 f_P_50 ck_5 (by decide) ty_7_6 rf_5_6 ?_
  refine g_iload_n dX8_type_4 rfl ?_
  refine g_v1 (M' := KT_againstByte) dX8_type_5 l_P_227 v_KT_againstByte (c_KT_againstByte_ok hI.t.2 hc ht) rc_80 rfl rfl ⟨rfl, rfl⟩ ?_
  refine g_istore_n dX8_type_8 rfl ?_
  refine g_aload_n dX8_type_9 rfl ?_
  refine g_iload_n dX8_type_10 rfl ?_
  refine g_v1 (M' := KP_mayAnswer) dX8_type_11 l_P_100 v_KP_mayAnswer c_KP_mayAnswer0 rc_5 rfl rfl ⟨rfl, rfl⟩ ?_
  refine b_if_eq (tgt := 28) dX8_type_14 rfl (fun zc14 => ?_) (fun zc14 => ?_)
  · exact absurd zc14 (by decide)
  · refine g_aload_n dX8_type_17 rfl ?_
    refine q_getq dX8_type_18 f_P_50 ck_5 (by decide) ty_7_6 rf_5_6 ?_
    refine g_iload_n dX8_type_21 rfl ?_
    refine g_v1 (M' := KT_append) dX8_type_22 l_P_230 v_KT_append (c_KT_append hI.t.2 ht) rc_80 rfl rfl ⟨rfl, rfl⟩ ?_
    refine g_goto (tgt := 29) dX8_type_25 rfl ?_
    exact e_iret dX8_type_29 rfl (by rfl) (by rfl)
set_option maxRecDepth 100000 in
theorem c_KP_type_no4 {σ : SI} {δ : SD} {a : Nat → Int32} {n s o tl : Nat} {P : Nat → Nat → Int32} {tx rf : Nat → Int32} (hI : IC σ a n s o P tl tx rf) {c : Nat} (hc : c < 128) (ht : tl = 120) : E KP_type [.ref 5, .int (nI c)] (HH σ δ) (some (.int (-4))) (HH (rfC σ 2) δ) := by
  refine E.ofL [some (.ref 5), some (.int (nI c))] rfl pn_RX8 rfl (fun sc => ?_)
  refine g_aload_n dX8_type_0 rfl ?_
  refine q_getq dX8_type_1 f_P_50 ck_5 (by decide) ty_7_6 rf_5_6 ?_
  refine g_iload_n dX8_type_4 rfl ?_
  refine g_v1 (M' := KT_againstByte) dX8_type_5 l_P_227 v_KT_againstByte (c_KT_againstByte_full hI.t.2 hc ht) rc_80 rfl rfl ⟨rfl, rfl⟩ ?_
  refine g_istore_n dX8_type_8 rfl ?_
  refine g_aload_n dX8_type_9 rfl ?_
  refine g_iload_n dX8_type_10 rfl ?_
  refine g_v1 (M' := KP_mayAnswer) dX8_type_11 l_P_100 v_KP_mayAnswer c_KP_mayAnswer4 rc_5 rfl rfl ⟨rfl, rfl⟩ ?_
  refine b_if_eq (tgt := 28) dX8_type_14 rfl (fun zc14 => ?_) (fun zc14 => ?_)
  · refine g_iload_n dX8_type_28 rfl ?_
    exact e_iret dX8_type_29 rfl (by rfl) (by rfl)
  · exact absurd zc14 (by decide)
set_option maxRecDepth 100000 in
theorem c_KP_type_no2 {σ : SI} {δ : SD} {a : Nat → Int32} {n s o tl : Nat} {P : Nat → Nat → Int32} {tx rf : Nat → Int32} (hI : IC σ a n s o P tl tx rf) {c : Int32} (hc : inB c (nI 0) (nI 127) = false) : E KP_type [.ref 5, .int c] (HH σ δ) (some (.int (-2))) (HH (rfC σ 0) δ) := by
  refine E.ofL [some (.ref 5), some (.int c)] rfl pn_RX8 rfl (fun sc => ?_)
  refine g_aload_n dX8_type_0 rfl ?_
  refine q_getq dX8_type_1 f_P_50 ck_5 (by decide) ty_7_6 rf_5_6 ?_
  refine g_iload_n dX8_type_4 rfl ?_
  refine g_v1 (M' := KT_againstByte) dX8_type_5 l_P_227 v_KT_againstByte (c_KT_againstByte_no hc) rc_80 rfl rfl ⟨rfl, rfl⟩ ?_
  refine g_istore_n dX8_type_8 rfl ?_
  refine g_aload_n dX8_type_9 rfl ?_
  refine g_iload_n dX8_type_10 rfl ?_
  refine g_v1 (M' := KP_mayAnswer) dX8_type_11 l_P_100 v_KP_mayAnswer c_KP_mayAnswer2 rc_5 rfl rfl ⟨rfl, rfl⟩ ?_
  refine b_if_eq (tgt := 28) dX8_type_14 rfl (fun zc14 => ?_) (fun zc14 => ?_)
  · refine g_iload_n dX8_type_28 rfl ?_
    exact e_iret dX8_type_29 rfl (by rfl) (by rfl)
  · exact absurd zc14 (by decide)
set_option maxRecDepth 100000 in
theorem c_KR_type_ok {σ : SI} {δ : SD} {a : Nat → Int32} {n s tl : Nat} {P : Nat → Nat → Int32} {tx rf : Nat → Int32} (hJ : IR σ a s P tl tx rf) (hs : s ≤ 5) (hW : WF a n) {c : Nat} (hc : c < 128) (ht : tl < 120) : E KR_type [.ref 84, .int (nI c)] (HH σ δ) (some (.int (nI (tl + 1)))) (HH (uI (uI σ 92 tl (nI c)) 84 12 (nI (tl + 1))) δ) := by
  refine E.ofL [some (.ref 84), some (.int (nI c))] rfl pn_RX9 rfl (fun sc => ?_)
  refine g_iload_n dX9_type_0 rfl ?_
  refine g_i2l dX9_type_1 ?_
  refine g_lconst (v := 0) dX9_type_2 rfl ?_
  refine g_ldcl dX9_type_3 c_R_299 ?_
  refine g_s3 (M' := KR_in) dX9_type_6 l_R_46 s_KR_in c_KR_in rfl rfl ⟨rfl, rfl⟩ ?_
  refine g_top (show _ = nI 1 by rw [w64_0, w64_127, inL_wide]; exact in1 (Nat.zero_le _) (by omega) (by decide)) ?_
  refine n_if_ne (tgt := 19) (by omega) dX9_type_9 rfl (fun _ => ?_) (fun zc9 => absurd zc9 (by decide))
  refine g_aload_n dX9_type_19 rfl ?_
  refine q_geti dX9_type_20 f_R_301 ck_84 (by decide) ty_8_12 ?_
  refine g_top hJ.t ?_
  refine g_bipush dX9_type_23 bp_120 ?_
  refine n_icmp_ne (tgt := 35) (by omega) (by omega) dX9_type_25 rfl (fun zc25 => ?_) (fun zc25 => ?_)
  · refine g_aload_n dX9_type_35 rfl ?_
    refine q_getq dX9_type_36 f_R_32 ck_84 (by decide) ty_8_11 rf_84_11 ?_
    refine g_aload_n dX9_type_39 rfl ?_
    refine q_geti dX9_type_40 f_R_301 ck_84 (by decide) ty_8_12 ?_
    refine g_top hJ.t ?_
    refine g_iload_n dX9_type_43 rfl ?_
    refine q_iast dX9_type_44 ck_92 (ixD_nI (by omega) (by decide)) ?_
    refine g_aload_n dX9_type_45 rfl ?_
    refine g_dup dX9_type_46 rfl ?_
    refine q_geti dX9_type_47 f_R_301 ck_84 (by decide) ty_8_12 ?_
    refine g_top ((uI_oth (by omega)).trans hJ.t) ?_
    refine g_iconst dX9_type_50 ic_1 ?_
    refine n_iadd dX9_type_51 ?_
    refine q_puti dX9_type_52 f_R_301 ck_84 (by decide) ty_8_12 fi_8_12 ?_
    refine g_aload_n dX9_type_55 rfl ?_
    refine q_geti dX9_type_56 f_R_301 ck_84 (by decide) ty_8_12 ?_
    refine g_top uI_same ?_
    exact e_iret dX9_type_59 rfl (by rfl) (by rfl)
  · exact absurd zc25 (by omega)
set_option maxRecDepth 100000 in
theorem c_KR_type_no4 {σ : SI} {δ : SD} {a : Nat → Int32} {n s tl : Nat} {P : Nat → Nat → Int32} {tx rf : Nat → Int32} (hJ : IR σ a s P tl tx rf) (hs : s ≤ 5) (hW : WF a n) {c : Nat} (hc : c < 128) (ht : tl = 120) : E KR_type [.ref 84, .int (nI c)] (HH σ δ) (some (.int (-4))) (HH (rfM σ 2) δ) := by
  refine E.ofL [some (.ref 84), some (.int (nI c))] rfl pn_RX9 rfl (fun sc => ?_)
  refine g_iload_n dX9_type_0 rfl ?_
  refine g_i2l dX9_type_1 ?_
  refine g_lconst (v := 0) dX9_type_2 rfl ?_
  refine g_ldcl dX9_type_3 c_R_299 ?_
  refine g_s3 (M' := KR_in) dX9_type_6 l_R_46 s_KR_in c_KR_in rfl rfl ⟨rfl, rfl⟩ ?_
  refine g_top (show _ = nI 1 by rw [w64_0, w64_127, inL_wide]; exact in1 (Nat.zero_le _) (by omega) (by decide)) ?_
  refine n_if_ne (tgt := 19) (by omega) dX9_type_9 rfl (fun _ => ?_) (fun zc9 => absurd zc9 (by decide))
  refine g_aload_n dX9_type_19 rfl ?_
  refine q_geti dX9_type_20 f_R_301 ck_84 (by decide) ty_8_12 ?_
  refine g_top hJ.t ?_
  refine g_bipush dX9_type_23 bp_120 ?_
  refine n_icmp_ne (tgt := 35) (by omega) (by omega) dX9_type_25 rfl (fun zc25 => ?_) (fun zc25 => ?_)
  · exact absurd ht zc25
  · refine g_aload_n dX9_type_28 rfl ?_
    refine g_bipush dX9_type_29 bp_m4 ?_
    refine g_v1 (M' := KR_refuses) dX9_type_31 l_R_101 v_KR_refuses c_KR_refuses2 rc_84 rfl rfl ⟨rfl, rfl⟩ ?_
    exact e_iret dX9_type_34 rfl (by rfl) (by rfl)
set_option maxRecDepth 100000 in
theorem c_KR_type_no2 {σ : SI} {δ : SD} {a : Nat → Int32} {n s tl : Nat} {P : Nat → Nat → Int32} {tx rf : Nat → Int32} (hJ : IR σ a s P tl tx rf) (hs : s ≤ 5) (hW : WF a n) {c : Int32} (hc : inB c (nI 0) (nI 127) = false) : E KR_type [.ref 84, .int c] (HH σ δ) (some (.int (-2))) (HH (rfM σ 0) δ) := by
  refine E.ofL [some (.ref 84), some (.int c)] rfl pn_RX9 rfl (fun sc => ?_)
  refine g_iload_n dX9_type_0 rfl ?_
  refine g_i2l dX9_type_1 ?_
  refine g_lconst (v := 0) dX9_type_2 rfl ?_
  refine g_ldcl dX9_type_3 c_R_299 ?_
  refine g_s3 (M' := KR_in) dX9_type_6 l_R_46 s_KR_in c_KR_in rfl rfl ⟨rfl, rfl⟩ ?_
  refine b_if_ne (tgt := 19) dX9_type_9 rfl (fun zc9 => ?_) (fun zc9 => ?_)
  · rw [w64_0, w64_127, inL_wide] at zc9; exact absurd zc9 (by rw [hc]; decide)
  · refine g_aload_n dX9_type_12 rfl ?_
    refine g_bipush dX9_type_13 bp_m2 ?_
    refine g_v1 (M' := KR_refuses) dX9_type_15 l_R_101 v_KR_refuses c_KR_refuses0 rc_84 rfl rfl ⟨rfl, rfl⟩ ?_
    exact e_iret dX9_type_18 rfl (by rfl) (by rfl)
section STEPS2
variable {σ : SI} {δ : SD}
theorem step_of {k what : Int32} (hT : InvT σ) : Step KP_of KR_of [.int k, .int what] σ δ := by
  obtain ⟨a, n, s, o, P, tl, tx, rf, hI, hJ⟩ := hT
  have hW := hI.hl.wf
  have hn := hW.n8
  by_cases hk : (itB k n && inB what (nI 0) (nI 9)) = true
  · have hq := hk
    rw [Bool.and_eq_true] at hq
    obtain ⟨k0, hk0, rfl⟩ := (itB_iff (by omega)).mp hq.1
    obtain ⟨j, -, hj, rfl⟩ := (inB_iff (by decide) (by decide)).mp hq.2
    rcases (show j = 0 ∨ j = 1 ∨ j = 2 ∨ j = 3 ∨ j = 4 ∨ j = 5 ∨ j = 6 ∨ j = 7 ∨ j = 8 ∨ j = 9 by omega) with rfl | rfl | rfl | rfl | rfl | rfl | rfl | rfl | rfl | rfl
    · exact Step.same hI hJ (c_KP_of_ok0 hI hk0) (c_KR_of_ok0 hJ hI.s5 hW hk0)
    · exact Step.same hI hJ (c_KP_of_ok1 hI hk0) (c_KR_of_ok1 hJ hI.s5 hW hk0)
    · exact Step.same hI hJ (c_KP_of_ok2 hI hk0) (c_KR_of_ok2 hJ hI.s5 hW hk0)
    · exact Step.same hI hJ (c_KP_of_ok3 hI hk0) (c_KR_of_ok3 hJ hI.s5 hW hk0)
    · exact Step.same hI hJ (c_KP_of_ok4 hI hk0) (c_KR_of_ok4 hJ hI.s5 hW hk0)
    · exact Step.same hI hJ (c_KP_of_ok5 hI hk0) (c_KR_of_ok5 hJ hI.s5 hW hk0)
    · exact Step.same hI hJ (c_KP_of_ok6 hI hk0) (c_KR_of_ok6 hJ hI.s5 hW hk0)
    · exact Step.same hI hJ (c_KP_of_ok7 hI hk0) (c_KR_of_ok7 hJ hI.s5 hW hk0)
    · exact Step.same hI hJ (c_KP_of_ok8 hI hk0) (c_KR_of_ok8 hJ hI.s5 hW hk0)
    · exact Step.same hI hJ (c_KP_of_ok9 hI hk0) (c_KR_of_ok9 hJ hI.s5 hW hk0)
  · exact Step.no (by decide) hI hJ (c_KP_of_no2 hI hk) (fun h1 => c_KR_of_no2 h1 hI.s5 hW hk)
theorem pos_nI {k : Int32} (h : ¬ k < 0) : ∃ j, j < 2147483648 ∧ k = nI j := by
  rw [Int32.lt_iff_toInt_lt] at h
  have h0 : (0 : Int32).toInt = 0 := rfl
  have h1 := k.toInt_lt
  exact ⟨k.toInt.toNat, by omega, i32_eq (by rw [nI_int (by omega)]; omega)⟩
theorem step_line {k : Int32} (hT : InvT σ) : Step KP_line KR_line [.int k] σ δ := by
  obtain ⟨a, n, s, o, P, tl, tx, rf, hI, hJ⟩ := hT
  have hW := hI.hl.wf
  by_cases hk : k < 0
  · exact Step.no (by decide) hI hJ (c_KP_line_no2 hI hk) (fun h1 => c_KR_line_no2 h1 hI.s5 hW hk)
  · obtain ⟨j, hj, rfl⟩ := pos_nI hk
    by_cases h : j < colN a
    · exact Step.same hI hJ (c_KP_line_ok hI h) (c_KR_line_ok hJ hI.s5 hW h)
    · exact Step.same hI hJ (c_KP_line_ok0 hI (by omega) hj) (c_KR_line_ok0 hJ hI.s5 hW (by omega) hj)
theorem step_fits {k x y : Int32} (hT : InvT σ) : Step KP_fits KR_fits [.int k, .int x, .int y] σ δ := by
  obtain ⟨a, n, s, o, P, tl, tx, rf, hI, hJ⟩ := hT
  have hW := hI.hl.wf
  have hn := hW.n8
  by_cases hk : (itB k n && (inB x (nI 0) (nI 15) && inB y (nI 0) (nI 15))) = true
  · have hq := hk
    rw [Bool.and_eq_true] at hq
    obtain ⟨k0, hk0, rfl⟩ := (itB_iff (by omega)).mp hq.1
    exact Step.same hI hJ (c_KP_fits_ok hI hk0 hq.2) (c_KR_fits_ok hJ hI.s5 hW hk0 hq.2)
  · exact Step.no (by decide) hI hJ (c_KP_fits_no2 hI hk) (fun h1 => c_KR_fits_no2 h1 hI.s5 hW hk)
theorem at_nI {x w : Int32} (hw : btw w 6 16) (h : inB x (nI 0) (w - nI 1) = true) : ∃ j, j < 16 ∧ x = nI j := by
  obtain ⟨c, h1, h2, rfl⟩ := hw
  rw [pk_sub (by omega)] at h
  obtain ⟨j, -, h4, h5⟩ := (inB_iff (by decide) (by omega)).mp h
  exact ⟨j, by omega, h5⟩
theorem step_at {x y : Int32} (hT : InvT σ) : Step KP_at KR_at [.int x, .int y] σ δ := by
  obtain ⟨a, n, s, o, P, tl, tx, rf, hI, hJ⟩ := hT
  have hW := hI.hl.wf
  by_cases hk : (inB x (nI 0) (a 0 - nI 1) && inB y (nI 0) (a 1 - nI 1)) = true
  · have hq := hk
    rw [Bool.and_eq_true] at hq
    obtain ⟨cx, h1, rfl⟩ := at_nI hW.all.1 hq.1
    obtain ⟨cy, h2, rfl⟩ := at_nI hW.all.2.1 hq.2
    exact Step.same hI hJ (c_KP_at_ok hI h1 h2 hk) (c_KR_at_ok hJ hI.s5 hW h1 h2 hk)
  · exact Step.no (by decide) hI hJ (c_KP_at_no2 hI hk) (fun h1 => c_KR_at_no2 h1 hI.s5 hW hk)
theorem step_all {what : Int32} (hT : InvT σ) : Step KP_all KR_all [.int what] σ δ := by
  obtain ⟨a, n, s, o, P, tl, tx, rf, hI, hJ⟩ := hT
  have hW := hI.hl.wf
  cases hk : inB what (nI 0) (nI 3) with
  | true =>
    obtain ⟨j, -, hj, rfl⟩ := (inB_iff (by decide) (by decide)).mp hk
    rcases (show j = 0 ∨ j = 1 ∨ j = 2 ∨ j = 3 by omega) with rfl | rfl | rfl | rfl
    · exact Step.same hI hJ (c_KP_all_ok0 hI) (c_KR_all_ok0 hJ hI.s5 hW)
    · exact Step.same hI hJ (c_KP_all_ok1 hI) (c_KR_all_ok1 hJ hI.s5 hW)
    · exact Step.same hI hJ (c_KP_all_ok2 hI) (c_KR_all_ok2 hJ hI.s5 hW)
    · exact Step.same hI hJ (c_KP_all_ok3 hI) (c_KR_all_ok3 hJ hI.s5 hW)
  | false => exact Step.no (by decide) hI hJ (c_KP_all_no2 hI hk) (fun h1 => c_KR_all_no2 h1 hI.s5 hW hk)
theorem step_sorted {so i : Int32} (hT : InvT σ) : Step KP_sorted KR_sorted [.int so, .int i] σ δ := by
  obtain ⟨a, n, s, o, P, tl, tx, rf, hI, hJ⟩ := hT
  obtain rfl := hJ.row
  have hW := hI.hl.wf
  by_cases hk : inB so (nI 0) (nI 1) = true ∧ ¬ i < 0
  · exact Step.same hI hJ (c_KP_sorted_ok hI hk) (c_KR_sorted_ok hJ hI.s5 hW hk)
  · exact Step.no (by decide) hI hJ (c_KP_sorted_no2 hI hk) (fun h1 => c_KR_sorted_no2 h1 hI.s5 hW hk)
theorem step_back (hT : InvT σ) : Step KP_back KR_back [] σ δ := by
  obtain ⟨a, n, s, o, P, tl, tx, rf, hI, hJ⟩ := hT
  have h5 := hI.s5
  cases s with
  | zero => exact Step.no (j := 1) (by decide) hI hJ (c_KP_back_no3 hI) (fun h1 => c_KR_back0 h1.sd)
  | succ s =>
    have ho := hI.o5
    have e2 := c_KP_back_ok (δ := δ) hI
    obtain ⟨m, hm⟩ := hI.st (i := s) (by omega)
    have hl : HL (cop (uI σ 24 0 (nI s)) 6 (26 + 9 * ((o + s) % 5))) 6 (P s) m := HL.cop (hm.cong (σ' := uI σ 24 0 (nI s)) (fun i hi => uI_ne (by omega))) (by omega)
    have e1 : ∀ c, (c < 6 ∨ 14 < c) → c ≠ 24 → cop (uI σ 24 0 (nI s)) 6 (26 + 9 * ((o + s) % 5)) c = σ c := fun c h1 h2 => by rw [cop_ne (by omega), uI_ne h2]
    have c0 : cop (uI σ 24 0 (nI s)) 6 (26 + 9 * ((o + s) % 5)) 24 0 = nI s := by rw [cop_ne (by omega), uI_same]
    have c1 : cop (uI σ 24 0 (nI s)) 6 (26 + 9 * ((o + s) % 5)) 24 1 = nI o := by rw [cop_ne (by omega), uI_oth (by omega)]; exact hI.od
    generalize cop (uI σ 24 0 (nI s)) 6 (26 + 9 * ((o + s) % 5)) = τ at *
    have hJ1 : IR τ a (s + 1) P tl tx rf := hJ.cong (fun c hc => e1 c (by omega) (by omega))
    have hr : ∀ j, j < 155 → va_cpy (τ 86) (τ 85) (155 * s) 0 155 j = P s j := fun j hj => by
      rw [pk_cpy_in (by omega) (by omega), ← hJ1.st (i := s) (by omega) hj, Nat.sub_zero]
    have k1 : ∀ c, c ≠ 84 → c ≠ 85 → sBack τ s c = τ c := fun c h1 h2 => by unfold sBack; rw [uR_ne h2, uI_ne h1]
    refine Step.of (a := va_cpy (τ 86) (τ 85) (155 * s) 0 155) (n := m) (s := s) (o := o) (P := P) (tl := tl) (tx := tx) (rf := rf) e2 (c_KR_back (by omega) hJ1.sd) ?_ ?_ (fun c hc => k1 c (by omega) (by omega))
    · refine ⟨hl.row hr, by omega, ho, c0, c1, fun i hi => ?_, fun j hj => ?_, hI.t.1, ?_, fun i hi => ?_⟩
      · obtain ⟨m, hm⟩ := hI.st (i := i) (by omega)
        exact ⟨m, hm.cong (fun i hi => e1 _ (by omega) (by omega))⟩
      · rw [e1 _ (by omega) (by omega)]; exact hI.rz hj
      · rw [e1 _ (by omega) (by omega)]; exact hI.t.2
      · rw [e1 _ (by omega) (by omega)]; exact hI.tz hi
    · refine ⟨?_, ?_, fun i hi j hj => ?_, fun j hj => ?_, ?_, fun i hi => ?_⟩
      · unfold sBack; rw [uR_eq]
      · unfold sBack; rw [uR_ne (by omega), uI_same]
      · rw [k1 _ (by omega) (by omega)]; exact hJ1.st (by omega) hj
      · rw [k1 _ (by omega) (by omega)]; exact hJ1.rz hj
      · unfold sBack; rw [uR_ne (by omega), uI_oth (by omega)]; exact hJ1.t
      · rw [k1 _ (by omega) (by omega)]; exact hJ1.tz hi
theorem step_clear (hT : InvT σ) : Step KP_clear KR_clear [] σ δ := by
  obtain ⟨a, n, s, o, P, tl, tx, rf, hI, hJ⟩ := hT
  have hJ1 : IR (uI σ 80 0 (nI 0)) a s P tl tx rf := hJ.cong (fun c hc => uI_ne (by omega))
  refine Step.of (a := a) (n := n) (s := s) (o := o) (P := P) (tl := 0) (tx := tx) (rf := rf) (c_KP_clear hI) (c_KR_clear hJ1 hI.s5 hI.hl.wf) ?_ ?_ (fun c hc => uI_ne (by omega))
  · have e : ∀ c, c ≠ 80 → uI σ 80 0 (nI 0) c = σ c := fun c hc => uI_ne hc
    refine ⟨hI.hl.cong (fun i hi => e _ (by omega)), hI.s5, hI.o5, ?_, ?_, fun i hi => ?_, fun j hj => ?_, by omega, uI_same, fun i hi => absurd hi (Nat.not_lt_zero i)⟩
    · rw [e _ (by omega)]; exact hI.c
    · rw [e _ (by omega)]; exact hI.od
    · obtain ⟨m, hm⟩ := hI.st hi
      exact ⟨m, hm.cong (fun i hi => e _ (by omega))⟩
    · rw [e _ (by omega)]; exact hI.rz hj
  · refine ⟨?_, ?_, fun i hi j hj => ?_, fun j hj => ?_, uI_same, fun i hi => absurd hi (Nat.not_lt_zero i)⟩
    · rw [uI_ne (by omega)]; exact hJ1.row
    · rw [uI_oth (by omega)]; exact hJ1.sd
    · rw [uI_ne (by omega)]; exact hJ1.st hi hj
    · rw [uI_ne (by omega)]; exact hJ1.rz hj
theorem step_type {c : Int32} (hT : InvT σ) : Step KP_type KR_type [.int c] σ δ := by
  obtain ⟨a, n, s, o, P, tl, tx, rf, hI, hJ⟩ := hT
  have hW := hI.hl.wf
  have ht := hI.t
  cases hc : inB c (nI 0) (nI 127) with
  | false => exact Step.no (by decide) hI hJ (c_KP_type_no2 hI hc) (fun h1 => c_KR_type_no2 h1 hI.s5 hW hc)
  | true =>
    obtain ⟨j, -, hj, rfl⟩ := (inB_iff (by decide) (by decide)).mp hc
    by_cases hl : tl = 120
    · exact Step.no (by decide) hI hJ (c_KP_type_no4 hI (by omega) hl) (fun h1 => c_KR_type_no4 h1 hI.s5 hW (by omega) hl)
    · have e : ∀ c, c ≠ 80 → c ≠ 81 → uI (uI σ 81 tl (nI j)) 80 0 (nI (tl + 1)) c = σ c := fun c h1 h2 => by rw [uI_ne h1, uI_ne h2]
      have hJ1 : IR (uI (uI σ 81 tl (nI j)) 80 0 (nI (tl + 1))) a s P tl tx rf := hJ.cong (fun c hc => e c (by omega) (by omega))
      refine Step.of (a := a) (n := n) (s := s) (o := o) (P := P) (tl := tl + 1) (tx := upd tx tl (nI j)) (rf := rf) (c_KP_type_ok hI (by omega) (by omega)) (c_KR_type_ok hJ1 hI.s5 hW (by omega) (by omega)) ?_ ?_ (fun c hc => by rw [uI_ne (by omega), uI_ne (by omega)])
      · refine ⟨hI.hl.cong (fun i hi => e _ (by omega) (by omega)), hI.s5, hI.o5, ?_, ?_, fun i hi => ?_, fun j hj => ?_, by omega, uI_same, fun i hi => ?_⟩
        · rw [e _ (by omega) (by omega)]; exact hI.c
        · rw [e _ (by omega) (by omega)]; exact hI.od
        · obtain ⟨m, hm⟩ := hI.st hi
          exact ⟨m, hm.cong (fun i hi => e _ (by omega) (by omega))⟩
        · rw [e _ (by omega) (by omega)]; exact hI.rz hj
        · rw [uI_ne (by omega)]
          by_cases q : i = tl
          · subst q; rw [uI_same, upd_s]; exact ⟨rfl, j, by omega, rfl⟩
          · rw [uI_oth (by omega), upd_n q]; exact hI.tz (by omega)
      · have f : ∀ c, c ≠ 84 → c ≠ 92 → uI (uI (uI (uI σ 81 tl (nI j)) 80 0 (nI (tl + 1))) 92 tl (nI j)) 84 12 (nI (tl + 1)) c = uI (uI σ 81 tl (nI j)) 80 0 (nI (tl + 1)) c := fun c h1 h2 => by rw [uI_ne h1, uI_ne h2]
        refine ⟨?_, ?_, fun i hi j hj => ?_, fun j hj => ?_, uI_same, fun i hi => ?_⟩
        · rw [f _ (by omega) (by omega)]; exact hJ1.row
        · rw [uI_oth (by omega), uI_ne (by omega)]; exact hJ1.sd
        · rw [f _ (by omega) (by omega)]; exact hJ1.st hi hj
        · rw [f _ (by omega) (by omega)]; exact hJ1.rz hj
        · rw [uI_ne (by omega)]
          by_cases q : i = tl
          · subst q; rw [uI_same, upd_s]
          · rw [uI_oth (by omega), upd_n q]; exact hJ1.tz (by omega)
end STEPS2

