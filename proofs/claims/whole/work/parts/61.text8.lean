/-! THE TEXT: orders obeyed, what the reference can and does -/
set_option maxRecDepth 100000 in
set_option maxHeartbeats 200000 in
theorem c_KT_letter {σ : SI} {δ : SD} {k : Nat} (hk : k < 60) {v : Int32} (hv : σ 82 k = v) : E KT_letter [.ref 80, .int (nI k)] (HH σ δ) (some (.int v)) (HH σ δ) := by
  refine E.ofL [some (.ref 80), some (.int (nI k))] rfl pn_RX6 rfl (fun sc => ?_)
  refine g_iload_n dX6_letter_0 rfl ?_
  refine g_iconst dX6_letter_1 ic_0 ?_
  refine g_bipush dX6_letter_2 bp_59 ?_
  refine g_s3N (M' := KP_within) dX6_letter_4 l_T_21 s_KP_within c_KP_within rfl rfl ⟨rfl, rfl⟩ ?_
  refine g_top (in1 (Nat.zero_le _) (by omega) (by decide)) ?_
  refine n_if_eq (tgt := 19) (by omega) dX6_letter_7 rfl (fun zc7 => absurd zc7 (by decide)) (fun _ => ?_)
  refine g_aload_n dX6_letter_10 rfl ?_
  refine q_getq dX6_letter_11 f_T_15 ck_80 (by decide) ty_5_4 rf_80_4 ?_
  refine g_iload_n dX6_letter_14 rfl ?_
  refine q_iald dX6_letter_15 ck_82 (ixD_nI (by omega) (by decide)) ?_
  refine g_top hv ?_
  refine g_goto (tgt := 20) dX6_letter_16 rfl ?_
  exact e_iret dX6_letter_20 rfl (by rfl) (by rfl)
set_option maxRecDepth 100000 in
set_option maxHeartbeats 200000 in
theorem c_KT_number {σ : SI} {δ : SD} {k j : Nat} (hk : k < 60) (hj : j < 4) {v : Int32} (hv : σ 83 (k * 4 + j) = v) : E KT_number [.ref 80, .int (nI k), .int (nI j)] (HH σ δ) (some (.int v)) (HH σ δ) := by
  refine E.ofL [some (.ref 80), some (.int (nI k)), some (.int (nI j))] rfl pn_RX6 rfl (fun sc => ?_)
  refine g_iload_n dX6_number_0 rfl ?_
  refine g_iconst dX6_number_1 ic_0 ?_
  refine g_bipush dX6_number_2 bp_59 ?_
  refine g_s3N (M' := KP_within) dX6_number_4 l_T_21 s_KP_within c_KP_within rfl rfl ⟨rfl, rfl⟩ ?_
  refine g_top (in1 (Nat.zero_le _) (by omega) (by decide)) ?_
  refine n_if_eq (tgt := 23) (by omega) dX6_number_7 rfl (fun zc7 => absurd zc7 (by decide)) (fun _ => ?_)
  refine g_iload_n dX6_number_10 rfl ?_
  refine g_iconst dX6_number_11 ic_0 ?_
  refine g_iconst dX6_number_12 ic_3 ?_
  refine g_s3N (M' := KP_within) dX6_number_13 l_T_21 s_KP_within c_KP_within rfl rfl ⟨rfl, rfl⟩ ?_
  refine g_top (in1 (Nat.zero_le _) (by omega) (by decide)) ?_
  refine n_if_eq (tgt := 23) (by omega) dX6_number_16 rfl (fun zc16 => absurd zc16 (by decide)) (fun _ => ?_)
  refine g_iconst dX6_number_19 ic_1 ?_
  refine g_goto (tgt := 24) dX6_number_20 rfl ?_
  refine g_istore_n dX6_number_24 rfl ?_
  refine g_iload_n dX6_number_25 rfl ?_
  refine n_if_eq (tgt := 42) (by omega) dX6_number_26 rfl (fun zc26 => absurd zc26 (by decide)) (fun _ => ?_)
  refine g_aload_n dX6_number_29 rfl ?_
  refine q_getq dX6_number_30 f_T_18 ck_80 (by decide) ty_5_5 rf_80_5 ?_
  refine g_iload_n dX6_number_33 rfl ?_
  refine g_iconst dX6_number_34 ic_4 ?_
  refine n_imul dX6_number_35 ?_
  refine g_iload_n dX6_number_36 rfl ?_
  refine n_iadd dX6_number_37 ?_
  refine q_iald dX6_number_38 ck_83 (ixD_nI (by omega) (by decide)) ?_
  refine g_top hv ?_
  refine g_goto (tgt := 43) dX6_number_39 rfl ?_
  exact e_iret dX6_number_43 rfl (by rfl) (by rfl)
set_option maxRecDepth 100000 in
set_option maxHeartbeats 200000 in
theorem c_KR_settingOf_109 {σ : SI} {δ : SD} : E KR_settingOf [.int (nI 109)] (HH σ δ) (some (.int (nI 0))) (HH σ δ) := by
  refine E.ofL [some (.int (nI 109))] rfl pn_RX9 rfl (fun sc => ?_)
  refine g_iload_n dX9_settingOf_0 rfl ?_
  refine g_bipush dX9_settingOf_1 bp_109 ?_
  refine n_icmp_ne (tgt := 10) (by omega) (by omega) dX9_settingOf_3 rfl (fun zc3 => ?_) (fun zc3 => ?_)
  · exact absurd rfl zc3
  · refine g_iconst dX9_settingOf_6 ic_0 ?_
    refine g_goto (tgt := 41) dX9_settingOf_7 rfl ?_
    exact e_iret dX9_settingOf_41 rfl (by rfl) (by rfl)
set_option maxRecDepth 100000 in
set_option maxHeartbeats 200000 in
theorem c_KR_settingOf_103 {σ : SI} {δ : SD} : E KR_settingOf [.int (nI 103)] (HH σ δ) (some (.int (nI 1))) (HH σ δ) := by
  refine E.ofL [some (.int (nI 103))] rfl pn_RX9 rfl (fun sc => ?_)
  refine g_iload_n dX9_settingOf_0 rfl ?_
  refine g_bipush dX9_settingOf_1 bp_109 ?_
  refine n_icmp_ne (tgt := 10) (by omega) (by omega) dX9_settingOf_3 rfl (fun zc3 => ?_) (fun zc3 => ?_)
  · refine g_iload_n dX9_settingOf_10 rfl ?_
    refine g_bipush dX9_settingOf_11 bp_103 ?_
    refine n_icmp_ne (tgt := 20) (by omega) (by omega) dX9_settingOf_13 rfl (fun zc13 => ?_) (fun zc13 => ?_)
    · exact absurd rfl zc13
    · refine g_iconst dX9_settingOf_16 ic_1 ?_
      refine g_goto (tgt := 41) dX9_settingOf_17 rfl ?_
      exact e_iret dX9_settingOf_41 rfl (by rfl) (by rfl)
  · exact absurd zc3 (by decide)
set_option maxRecDepth 100000 in
set_option maxHeartbeats 200000 in
theorem c_KR_settingOf_98 {σ : SI} {δ : SD} : E KR_settingOf [.int (nI 98)] (HH σ δ) (some (.int (nI 2))) (HH σ δ) := by
  refine E.ofL [some (.int (nI 98))] rfl pn_RX9 rfl (fun sc => ?_)
  refine g_iload_n dX9_settingOf_0 rfl ?_
  refine g_bipush dX9_settingOf_1 bp_109 ?_
  refine n_icmp_ne (tgt := 10) (by omega) (by omega) dX9_settingOf_3 rfl (fun zc3 => ?_) (fun zc3 => ?_)
  · refine g_iload_n dX9_settingOf_10 rfl ?_
    refine g_bipush dX9_settingOf_11 bp_103 ?_
    refine n_icmp_ne (tgt := 20) (by omega) (by omega) dX9_settingOf_13 rfl (fun zc13 => ?_) (fun zc13 => ?_)
    · refine g_iload_n dX9_settingOf_20 rfl ?_
      refine g_bipush dX9_settingOf_21 bp_98 ?_
      refine n_icmp_ne (tgt := 30) (by omega) (by omega) dX9_settingOf_23 rfl (fun zc23 => ?_) (fun zc23 => ?_)
      · exact absurd rfl zc23
      · refine g_iconst dX9_settingOf_26 ic_2 ?_
        refine g_goto (tgt := 41) dX9_settingOf_27 rfl ?_
        exact e_iret dX9_settingOf_41 rfl (by rfl) (by rfl)
    · exact absurd zc13 (by decide)
  · exact absurd zc3 (by decide)
set_option maxRecDepth 100000 in
set_option maxHeartbeats 200000 in
theorem c_KR_settingOf_114 {σ : SI} {δ : SD} : E KR_settingOf [.int (nI 114)] (HH σ δ) (some (.int (nI 3))) (HH σ δ) := by
  refine E.ofL [some (.int (nI 114))] rfl pn_RX9 rfl (fun sc => ?_)
  refine g_iload_n dX9_settingOf_0 rfl ?_
  refine g_bipush dX9_settingOf_1 bp_109 ?_
  refine n_icmp_ne (tgt := 10) (by omega) (by omega) dX9_settingOf_3 rfl (fun zc3 => ?_) (fun zc3 => ?_)
  · refine g_iload_n dX9_settingOf_10 rfl ?_
    refine g_bipush dX9_settingOf_11 bp_103 ?_
    refine n_icmp_ne (tgt := 20) (by omega) (by omega) dX9_settingOf_13 rfl (fun zc13 => ?_) (fun zc13 => ?_)
    · refine g_iload_n dX9_settingOf_20 rfl ?_
      refine g_bipush dX9_settingOf_21 bp_98 ?_
      refine n_icmp_ne (tgt := 30) (by omega) (by omega) dX9_settingOf_23 rfl (fun zc23 => ?_) (fun zc23 => ?_)
      · refine g_iload_n dX9_settingOf_30 rfl ?_
        refine g_bipush dX9_settingOf_31 bp_114 ?_
        refine n_icmp_ne (tgt := 40) (by omega) (by omega) dX9_settingOf_33 rfl (fun zc33 => ?_) (fun zc33 => ?_)
        · exact absurd rfl zc33
        · refine g_iconst dX9_settingOf_36 ic_3 ?_
          refine g_goto (tgt := 41) dX9_settingOf_37 rfl ?_
          exact e_iret dX9_settingOf_41 rfl (by rfl) (by rfl)
      · exact absurd zc23 (by decide)
    · exact absurd zc13 (by decide)
  · exact absurd zc3 (by decide)
set_option maxRecDepth 100000 in
set_option maxHeartbeats 200000 in
theorem c_KR_settingOf_99 {σ : SI} {δ : SD} : E KR_settingOf [.int (nI 99)] (HH σ δ) (some (.int (nI 4))) (HH σ δ) := by
  refine E.ofL [some (.int (nI 99))] rfl pn_RX9 rfl (fun sc => ?_)
  refine g_iload_n dX9_settingOf_0 rfl ?_
  refine g_bipush dX9_settingOf_1 bp_109 ?_
  refine n_icmp_ne (tgt := 10) (by omega) (by omega) dX9_settingOf_3 rfl (fun zc3 => ?_) (fun zc3 => ?_)
  · refine g_iload_n dX9_settingOf_10 rfl ?_
    refine g_bipush dX9_settingOf_11 bp_103 ?_
    refine n_icmp_ne (tgt := 20) (by omega) (by omega) dX9_settingOf_13 rfl (fun zc13 => ?_) (fun zc13 => ?_)
    · refine g_iload_n dX9_settingOf_20 rfl ?_
      refine g_bipush dX9_settingOf_21 bp_98 ?_
      refine n_icmp_ne (tgt := 30) (by omega) (by omega) dX9_settingOf_23 rfl (fun zc23 => ?_) (fun zc23 => ?_)
      · refine g_iload_n dX9_settingOf_30 rfl ?_
        refine g_bipush dX9_settingOf_31 bp_114 ?_
        refine n_icmp_ne (tgt := 40) (by omega) (by omega) dX9_settingOf_33 rfl (fun zc33 => ?_) (fun zc33 => ?_)
        · refine g_iconst dX9_settingOf_40 ic_4 ?_
          exact e_iret dX9_settingOf_41 rfl (by rfl) (by rfl)
        · exact absurd zc33 (by decide)
      · exact absurd zc23 (by decide)
    · exact absurd zc13 (by decide)
  · exact absurd zc3 (by decide)
set_option maxRecDepth 100000 in
set_option maxHeartbeats 200000 in
theorem c_KR_can_105 {σ : SI} {δ : SD} {n : Nat} (hW : WF (σ 85) n) {v0 v1 v2 v3 : Int32} (h0 : σ 93 0 = v0) (h1 : σ 93 1 = v1) (h2 : σ 93 2 = v2) (h3 : σ 93 3 = v3) : E KR_can [.ref 84, .int (nI 105)] (HH σ δ) (some (.int (itemA n v0 v1 v2 v3))) (HH σ δ) := by
  refine E.ofL [some (.ref 84), some (.int (nI 105))] rfl pn_RX9 rfl (fun sc => ?_)
  refine g_iload_n dX9_can_0 rfl ?_
  refine g_lsw (tgt := 52) dX9_can_1 (by decide +kernel) (by decide +kernel) ?_
  refine g_aload_n dX9_can_52 rfl ?_
  refine g_aload_n dX9_can_53 rfl ?_
  refine q_getq dX9_can_54 f_R_35 ck_84 (by decide) ty_8_14 rf_84_14 ?_
  refine g_iconst dX9_can_57 ic_0 ?_
  refine q_iald dX9_can_58 ck_93 (ixD_nI (by omega) (by decide)) ?_
  refine g_top h0 ?_
  refine g_aload_n dX9_can_59 rfl ?_
  refine q_getq dX9_can_60 f_R_35 ck_84 (by decide) ty_8_14 rf_84_14 ?_
  refine g_iconst dX9_can_63 ic_1 ?_
  refine q_iald dX9_can_64 ck_93 (ixD_nI (by omega) (by decide)) ?_
  refine g_top h1 ?_
  refine g_aload_n dX9_can_65 rfl ?_
  refine q_getq dX9_can_66 f_R_35 ck_84 (by decide) ty_8_14 rf_84_14 ?_
  refine g_iconst dX9_can_69 ic_2 ?_
  refine q_iald dX9_can_70 ck_93 (ixD_nI (by omega) (by decide)) ?_
  refine g_top h2 ?_
  refine g_aload_n dX9_can_71 rfl ?_
  refine q_getq dX9_can_72 f_R_35 ck_84 (by decide) ty_8_14 rf_84_14 ?_
  refine g_iconst dX9_can_75 ic_3 ?_
  refine q_iald dX9_can_76 ck_93 (ixD_nI (by omega) (by decide)) ?_
  refine g_top h3 ?_
  refine g_v4 (M' := KR_canItem) dX9_can_77 l_R_142 v_KR_canItem (c_KR_canItem hW) rc_84 rfl rfl ⟨rfl, rfl⟩ ?_
  exact e_iret dX9_can_80 rfl (by first | rfl | (rw [zc0]; rfl)) (by rfl)
set_option maxRecDepth 100000 in
set_option maxHeartbeats 200000 in
theorem c_KR_can_119 {σ : SI} {δ : SD} {n : Nat} (hW : WF (σ 85) n) {v0 v1 v2 v3 : Int32} (h0 : σ 93 0 = v0) (h1 : σ 93 1 = v1) (h2 : σ 93 2 = v2) (h3 : σ 93 3 = v3) : E KR_can [.ref 84, .int (nI 119)] (HH σ δ) (some (.int (if sheetOK v0 v1 then nI 0 else -2))) (HH σ δ) := by
  refine E.ofL [some (.ref 84), some (.int (nI 119))] rfl pn_RX9 rfl (fun sc => ?_)
  refine g_iload_n dX9_can_0 rfl ?_
  refine g_lsw (tgt := 81) dX9_can_1 (by decide +kernel) (by decide +kernel) ?_
  refine g_aload_n dX9_can_81 rfl ?_
  refine q_getq dX9_can_82 f_R_35 ck_84 (by decide) ty_8_14 rf_84_14 ?_
  refine g_iconst dX9_can_85 ic_0 ?_
  refine q_iald dX9_can_86 ck_93 (ixD_nI (by omega) (by decide)) ?_
  refine g_top h0 ?_
  refine g_aload_n dX9_can_87 rfl ?_
  refine q_getq dX9_can_88 f_R_35 ck_84 (by decide) ty_8_14 rf_84_14 ?_
  refine g_iconst dX9_can_91 ic_1 ?_
  refine q_iald dX9_can_92 ck_93 (ixD_nI (by omega) (by decide)) ?_
  refine g_top h1 ?_
  refine g_s2 (M' := KR_isSheet) dX9_can_93 l_R_108 s_KR_isSheet c_KR_isSheet rfl rfl ⟨rfl, rfl⟩ ?_
  refine b_if_eq (tgt := 103) dX9_can_96 rfl (fun zc96 => ?_) (fun zc96 => ?_)
  · refine g_bipush dX9_can_103 bp_m2 ?_
    exact e_iret dX9_can_105 rfl (by first | rfl | (rw [zc96]; rfl)) (by rfl)
  · refine g_iconst dX9_can_99 ic_0 ?_
    refine g_goto (tgt := 105) dX9_can_100 rfl ?_
    exact e_iret dX9_can_105 rfl (by first | rfl | (rw [zc96]; rfl)) (by rfl)
set_option maxRecDepth 100000 in
set_option maxHeartbeats 200000 in
theorem c_KR_can_112 {σ : SI} {δ : SD} {n : Nat} (hW : WF (σ 85) n) {v0 v1 v2 v3 : Int32} (h0 : σ 93 0 = v0) (h1 : σ 93 1 = v1) (h2 : σ 93 2 = v2) (h3 : σ 93 3 = v3) : E KR_can [.ref 84, .int (nI 112)] (HH σ δ) (some (.int (layA (σ 85) n v0 v1 v2))) (HH σ δ) := by
  refine E.ofL [some (.ref 84), some (.int (nI 112))] rfl pn_RX9 rfl (fun sc => ?_)
  refine g_iload_n dX9_can_0 rfl ?_
  refine g_lsw (tgt := 106) dX9_can_1 (by decide +kernel) (by decide +kernel) ?_
  refine g_aload_n dX9_can_106 rfl ?_
  refine g_aload_n dX9_can_107 rfl ?_
  refine q_getq dX9_can_108 f_R_35 ck_84 (by decide) ty_8_14 rf_84_14 ?_
  refine g_iconst dX9_can_111 ic_0 ?_
  refine q_iald dX9_can_112 ck_93 (ixD_nI (by omega) (by decide)) ?_
  refine g_top h0 ?_
  refine g_aload_n dX9_can_113 rfl ?_
  refine q_getq dX9_can_114 f_R_35 ck_84 (by decide) ty_8_14 rf_84_14 ?_
  refine g_iconst dX9_can_117 ic_1 ?_
  refine q_iald dX9_can_118 ck_93 (ixD_nI (by omega) (by decide)) ?_
  refine g_top h1 ?_
  refine g_aload_n dX9_can_119 rfl ?_
  refine q_getq dX9_can_120 f_R_35 ck_84 (by decide) ty_8_14 rf_84_14 ?_
  refine g_iconst dX9_can_123 ic_2 ?_
  refine q_iald dX9_can_124 ck_93 (ixD_nI (by omega) (by decide)) ?_
  refine g_top h2 ?_
  refine g_v3 (M' := KR_canLay) dX9_can_125 l_R_168 v_KR_canLay (c_KR_canLay hW) rc_84 rfl rfl ⟨rfl, rfl⟩ ?_
  exact e_iret dX9_can_128 rfl (by first | rfl | (rw [zc0]; rfl)) (by rfl)
set_option maxRecDepth 100000 in
set_option maxHeartbeats 200000 in
theorem c_KR_can_111 {σ : SI} {δ : SD} {n : Nat} (hW : WF (σ 85) n) {v0 v1 v2 v3 : Int32} (h0 : σ 93 0 = v0) (h1 : σ 93 1 = v1) (h2 : σ 93 2 = v2) (h3 : σ 93 3 = v3) : E KR_can [.ref 84, .int (nI 111)] (HH σ δ) (some (.int (canOffA (σ 85) n v0))) (HH σ δ) := by
  refine E.ofL [some (.ref 84), some (.int (nI 111))] rfl pn_RX9 rfl (fun sc => ?_)
  refine g_iload_n dX9_can_0 rfl ?_
  refine g_lsw (tgt := 129) dX9_can_1 (by decide +kernel) (by decide +kernel) ?_
  refine g_aload_n dX9_can_129 rfl ?_
  refine g_aload_n dX9_can_130 rfl ?_
  refine q_getq dX9_can_131 f_R_35 ck_84 (by decide) ty_8_14 rf_84_14 ?_
  refine g_iconst dX9_can_134 ic_0 ?_
  refine q_iald dX9_can_135 ck_93 (ixD_nI (by omega) (by decide)) ?_
  refine g_top h0 ?_
  refine g_v1 (M' := KR_canOff) dX9_can_136 l_R_178 v_KR_canOff (c_KR_canOff hW) rc_84 rfl rfl ⟨rfl, rfl⟩ ?_
  exact e_iret dX9_can_139 rfl (by first | rfl | (rw [zc0]; rfl)) (by rfl)
set_option maxRecDepth 100000 in
set_option maxHeartbeats 200000 in
theorem c_KR_can_97 {σ : SI} {δ : SD} {n : Nat} (hW : WF (σ 85) n) {v0 v1 v2 v3 : Int32} (h0 : σ 93 0 = v0) (h1 : σ 93 1 = v1) (h2 : σ 93 2 = v2) (h3 : σ 93 3 = v3) : E KR_can [.ref 84, .int (nI 97)] (HH σ δ) (some (.int (nI 0))) (HH σ δ) := by
  refine E.ofL [some (.ref 84), some (.int (nI 97))] rfl pn_RX9 rfl (fun sc => ?_)
  refine g_iload_n dX9_can_0 rfl ?_
  refine g_lsw (tgt := 140) dX9_can_1 (by decide +kernel) (by decide +kernel) ?_
  refine g_iconst dX9_can_140 ic_0 ?_
  exact e_iret dX9_can_141 rfl (by first | rfl | (rw [zc0]; rfl)) (by rfl)
set_option maxRecDepth 100000 in
set_option maxHeartbeats 200000 in
theorem c_KR_can_109 {σ : SI} {δ : SD} {n : Nat} (hW : WF (σ 85) n) {v0 v1 v2 v3 : Int32} (h0 : σ 93 0 = v0) (h1 : σ 93 1 = v1) (h2 : σ 93 2 = v2) (h3 : σ 93 3 = v3) : E KR_can [.ref 84, .int (nI 109)] (HH σ δ) (some (.int (if setOK (nI 0) v0 then nI 0 else -2))) (HH σ δ) := by
  refine E.ofL [some (.ref 84), some (.int (nI 109))] rfl pn_RX9 rfl (fun sc => ?_)
  refine g_iload_n dX9_can_0 rfl ?_
  refine g_lsw (tgt := 142) dX9_can_1 (by decide +kernel) (by decide +kernel) ?_
  refine g_iload_n dX9_can_142 rfl ?_
  refine g_s1 (M' := KR_settingOf) dX9_can_143 l_R_317 s_KR_settingOf c_KR_settingOf_109 rfl rfl ⟨rfl, rfl⟩ ?_
  refine g_aload_n dX9_can_146 rfl ?_
  refine q_getq dX9_can_147 f_R_35 ck_84 (by decide) ty_8_14 rf_84_14 ?_
  refine g_iconst dX9_can_150 ic_0 ?_
  refine q_iald dX9_can_151 ck_93 (ixD_nI (by omega) (by decide)) ?_
  refine g_top h0 ?_
  refine g_s2 (M' := KR_isSetting) dX9_can_152 l_R_125 s_KR_isSetting c_KR_isSetting rfl rfl ⟨rfl, rfl⟩ ?_
  refine b_if_eq (tgt := 162) dX9_can_155 rfl (fun zc155 => ?_) (fun zc155 => ?_)
  · refine g_bipush dX9_can_162 bp_m2 ?_
    exact e_iret dX9_can_164 rfl (by first | rfl | (rw [zc155]; rfl)) (by rfl)
  · refine g_iconst dX9_can_158 ic_0 ?_
    refine g_goto (tgt := 164) dX9_can_159 rfl ?_
    exact e_iret dX9_can_164 rfl (by first | rfl | (rw [zc155]; rfl)) (by rfl)
set_option maxRecDepth 100000 in
set_option maxHeartbeats 200000 in
theorem c_KR_can_103 {σ : SI} {δ : SD} {n : Nat} (hW : WF (σ 85) n) {v0 v1 v2 v3 : Int32} (h0 : σ 93 0 = v0) (h1 : σ 93 1 = v1) (h2 : σ 93 2 = v2) (h3 : σ 93 3 = v3) : E KR_can [.ref 84, .int (nI 103)] (HH σ δ) (some (.int (if setOK (nI 1) v0 then nI 0 else -2))) (HH σ δ) := by
  refine E.ofL [some (.ref 84), some (.int (nI 103))] rfl pn_RX9 rfl (fun sc => ?_)
  refine g_iload_n dX9_can_0 rfl ?_
  refine g_lsw (tgt := 142) dX9_can_1 (by decide +kernel) (by decide +kernel) ?_
  refine g_iload_n dX9_can_142 rfl ?_
  refine g_s1 (M' := KR_settingOf) dX9_can_143 l_R_317 s_KR_settingOf c_KR_settingOf_103 rfl rfl ⟨rfl, rfl⟩ ?_
  refine g_aload_n dX9_can_146 rfl ?_
  refine q_getq dX9_can_147 f_R_35 ck_84 (by decide) ty_8_14 rf_84_14 ?_
  refine g_iconst dX9_can_150 ic_0 ?_
  refine q_iald dX9_can_151 ck_93 (ixD_nI (by omega) (by decide)) ?_
  refine g_top h0 ?_
  refine g_s2 (M' := KR_isSetting) dX9_can_152 l_R_125 s_KR_isSetting c_KR_isSetting rfl rfl ⟨rfl, rfl⟩ ?_
  refine b_if_eq (tgt := 162) dX9_can_155 rfl (fun zc155 => ?_) (fun zc155 => ?_)
  · refine g_bipush dX9_can_162 bp_m2 ?_
    exact e_iret dX9_can_164 rfl (by first | rfl | (rw [zc155]; rfl)) (by rfl)
  · refine g_iconst dX9_can_158 ic_0 ?_
    refine g_goto (tgt := 164) dX9_can_159 rfl ?_
    exact e_iret dX9_can_164 rfl (by first | rfl | (rw [zc155]; rfl)) (by rfl)
set_option maxRecDepth 100000 in
set_option maxHeartbeats 200000 in
theorem c_KR_can_98 {σ : SI} {δ : SD} {n : Nat} (hW : WF (σ 85) n) {v0 v1 v2 v3 : Int32} (h0 : σ 93 0 = v0) (h1 : σ 93 1 = v1) (h2 : σ 93 2 = v2) (h3 : σ 93 3 = v3) : E KR_can [.ref 84, .int (nI 98)] (HH σ δ) (some (.int (if setOK (nI 2) v0 then nI 0 else -2))) (HH σ δ) := by
  refine E.ofL [some (.ref 84), some (.int (nI 98))] rfl pn_RX9 rfl (fun sc => ?_)
  refine g_iload_n dX9_can_0 rfl ?_
  refine g_lsw (tgt := 142) dX9_can_1 (by decide +kernel) (by decide +kernel) ?_
  refine g_iload_n dX9_can_142 rfl ?_
  refine g_s1 (M' := KR_settingOf) dX9_can_143 l_R_317 s_KR_settingOf c_KR_settingOf_98 rfl rfl ⟨rfl, rfl⟩ ?_
  refine g_aload_n dX9_can_146 rfl ?_
  refine q_getq dX9_can_147 f_R_35 ck_84 (by decide) ty_8_14 rf_84_14 ?_
  refine g_iconst dX9_can_150 ic_0 ?_
  refine q_iald dX9_can_151 ck_93 (ixD_nI (by omega) (by decide)) ?_
  refine g_top h0 ?_
  refine g_s2 (M' := KR_isSetting) dX9_can_152 l_R_125 s_KR_isSetting c_KR_isSetting rfl rfl ⟨rfl, rfl⟩ ?_
  refine b_if_eq (tgt := 162) dX9_can_155 rfl (fun zc155 => ?_) (fun zc155 => ?_)
  · refine g_bipush dX9_can_162 bp_m2 ?_
    exact e_iret dX9_can_164 rfl (by first | rfl | (rw [zc155]; rfl)) (by rfl)
  · refine g_iconst dX9_can_158 ic_0 ?_
    refine g_goto (tgt := 164) dX9_can_159 rfl ?_
    exact e_iret dX9_can_164 rfl (by first | rfl | (rw [zc155]; rfl)) (by rfl)
set_option maxRecDepth 100000 in
set_option maxHeartbeats 200000 in
theorem c_KR_can_114 {σ : SI} {δ : SD} {n : Nat} (hW : WF (σ 85) n) {v0 v1 v2 v3 : Int32} (h0 : σ 93 0 = v0) (h1 : σ 93 1 = v1) (h2 : σ 93 2 = v2) (h3 : σ 93 3 = v3) : E KR_can [.ref 84, .int (nI 114)] (HH σ δ) (some (.int (if setOK (nI 3) v0 then nI 0 else -2))) (HH σ δ) := by
  refine E.ofL [some (.ref 84), some (.int (nI 114))] rfl pn_RX9 rfl (fun sc => ?_)
  refine g_iload_n dX9_can_0 rfl ?_
  refine g_lsw (tgt := 142) dX9_can_1 (by decide +kernel) (by decide +kernel) ?_
  refine g_iload_n dX9_can_142 rfl ?_
  refine g_s1 (M' := KR_settingOf) dX9_can_143 l_R_317 s_KR_settingOf c_KR_settingOf_114 rfl rfl ⟨rfl, rfl⟩ ?_
  refine g_aload_n dX9_can_146 rfl ?_
  refine q_getq dX9_can_147 f_R_35 ck_84 (by decide) ty_8_14 rf_84_14 ?_
  refine g_iconst dX9_can_150 ic_0 ?_
  refine q_iald dX9_can_151 ck_93 (ixD_nI (by omega) (by decide)) ?_
  refine g_top h0 ?_
  refine g_s2 (M' := KR_isSetting) dX9_can_152 l_R_125 s_KR_isSetting c_KR_isSetting rfl rfl ⟨rfl, rfl⟩ ?_
  refine b_if_eq (tgt := 162) dX9_can_155 rfl (fun zc155 => ?_) (fun zc155 => ?_)
  · refine g_bipush dX9_can_162 bp_m2 ?_
    exact e_iret dX9_can_164 rfl (by first | rfl | (rw [zc155]; rfl)) (by rfl)
  · refine g_iconst dX9_can_158 ic_0 ?_
    refine g_goto (tgt := 164) dX9_can_159 rfl ?_
    exact e_iret dX9_can_164 rfl (by first | rfl | (rw [zc155]; rfl)) (by rfl)
set_option maxRecDepth 100000 in
set_option maxHeartbeats 200000 in
theorem c_KR_can_99 {σ : SI} {δ : SD} {n : Nat} (hW : WF (σ 85) n) {v0 v1 v2 v3 : Int32} (h0 : σ 93 0 = v0) (h1 : σ 93 1 = v1) (h2 : σ 93 2 = v2) (h3 : σ 93 3 = v3) : E KR_can [.ref 84, .int (nI 99)] (HH σ δ) (some (.int (if setOK (nI 4) v0 then nI 0 else -2))) (HH σ δ) := by
  refine E.ofL [some (.ref 84), some (.int (nI 99))] rfl pn_RX9 rfl (fun sc => ?_)
  refine g_iload_n dX9_can_0 rfl ?_
  refine g_lsw (tgt := 142) dX9_can_1 (by decide +kernel) (by decide +kernel) ?_
  refine g_iload_n dX9_can_142 rfl ?_
  refine g_s1 (M' := KR_settingOf) dX9_can_143 l_R_317 s_KR_settingOf c_KR_settingOf_99 rfl rfl ⟨rfl, rfl⟩ ?_
  refine g_aload_n dX9_can_146 rfl ?_
  refine q_getq dX9_can_147 f_R_35 ck_84 (by decide) ty_8_14 rf_84_14 ?_
  refine g_iconst dX9_can_150 ic_0 ?_
  refine q_iald dX9_can_151 ck_93 (ixD_nI (by omega) (by decide)) ?_
  refine g_top h0 ?_
  refine g_s2 (M' := KR_isSetting) dX9_can_152 l_R_125 s_KR_isSetting c_KR_isSetting rfl rfl ⟨rfl, rfl⟩ ?_
  refine b_if_eq (tgt := 162) dX9_can_155 rfl (fun zc155 => ?_) (fun zc155 => ?_)
  · refine g_bipush dX9_can_162 bp_m2 ?_
    exact e_iret dX9_can_164 rfl (by first | rfl | (rw [zc155]; rfl)) (by rfl)
  · refine g_iconst dX9_can_158 ic_0 ?_
    refine g_goto (tgt := 164) dX9_can_159 rfl ?_
    exact e_iret dX9_can_164 rfl (by first | rfl | (rw [zc155]; rfl)) (by rfl)
set_option maxRecDepth 100000 in
set_option maxHeartbeats 200000 in
theorem c_KR_does_105 {σ : SI} {δ : SD} {n : Nat} (hW : WF (σ 85) n) {v0 v1 v2 v3 : Int32} (h0 : σ 93 0 = v0) (h1 : σ 93 1 = v1) (h2 : σ 93 2 = v2) (h3 : σ 93 3 = v3) (hn : n < 8) : E KR_does [.ref 84, .int (nI 105)] (HH σ δ) (some (.int (nI n))) (HH (mItem σ n v0 v1 v2 v3) δ) := by
  refine E.ofL [some (.ref 84), some (.int (nI 105))] rfl pn_RX9 rfl (fun sc => ?_)
  refine g_iload_n dX9_does_0 rfl ?_
  refine g_lsw (tgt := 52) dX9_does_1 (by decide +kernel) (by decide +kernel) ?_
  refine g_aload_n dX9_does_52 rfl ?_
  refine g_aload_n dX9_does_53 rfl ?_
  refine q_getq dX9_does_54 f_R_35 ck_84 (by decide) ty_8_14 rf_84_14 ?_
  refine g_iconst dX9_does_57 ic_0 ?_
  refine q_iald dX9_does_58 ck_93 (ixD_nI (by omega) (by decide)) ?_
  refine g_top h0 ?_
  refine g_aload_n dX9_does_59 rfl ?_
  refine q_getq dX9_does_60 f_R_35 ck_84 (by decide) ty_8_14 rf_84_14 ?_
  refine g_iconst dX9_does_63 ic_1 ?_
  refine q_iald dX9_does_64 ck_93 (ixD_nI (by omega) (by decide)) ?_
  refine g_top h1 ?_
  refine g_aload_n dX9_does_65 rfl ?_
  refine q_getq dX9_does_66 f_R_35 ck_84 (by decide) ty_8_14 rf_84_14 ?_
  refine g_iconst dX9_does_69 ic_2 ?_
  refine q_iald dX9_does_70 ck_93 (ixD_nI (by omega) (by decide)) ?_
  refine g_top h2 ?_
  refine g_aload_n dX9_does_71 rfl ?_
  refine q_getq dX9_does_72 f_R_35 ck_84 (by decide) ty_8_14 rf_84_14 ?_
  refine g_iconst dX9_does_75 ic_3 ?_
  refine q_iald dX9_does_76 ck_93 (ixD_nI (by omega) (by decide)) ?_
  refine g_top h3 ?_
  refine g_v4 (M' := KR_itemNow) dX9_does_77 l_R_146 v_KR_itemNow (c_KR_itemNow hn hW.a7) rc_84 rfl rfl ⟨rfl, rfl⟩ ?_
  exact e_iret dX9_does_80 rfl (by rfl) (by rfl)
set_option maxRecDepth 100000 in
set_option maxHeartbeats 200000 in
theorem c_KR_does_119 {σ : SI} {δ : SD} {n : Nat} (hW : WF (σ 85) n) {v0 v1 v2 v3 : Int32} (h0 : σ 93 0 = v0) (h1 : σ 93 1 = v1) (h2 : σ 93 2 = v2) (h3 : σ 93 3 = v3) : E KR_does [.ref 84, .int (nI 119)] (HH σ δ) (some (.int (nI 100 * σ 85 0 + σ 85 1))) (HH (uI (uI σ 85 0 v0) 85 1 v1) δ) := by
  refine E.ofL [some (.ref 84), some (.int (nI 119))] rfl pn_RX9 rfl (fun sc => ?_)
  refine g_iload_n dX9_does_0 rfl ?_
  refine g_lsw (tgt := 81) dX9_does_1 (by decide +kernel) (by decide +kernel) ?_
  refine g_aload_n dX9_does_81 rfl ?_
  refine g_aload_n dX9_does_82 rfl ?_
  refine q_getq dX9_does_83 f_R_35 ck_84 (by decide) ty_8_14 rf_84_14 ?_
  refine g_iconst dX9_does_86 ic_0 ?_
  refine q_iald dX9_does_87 ck_93 (ixD_nI (by omega) (by decide)) ?_
  refine g_top h0 ?_
  refine g_aload_n dX9_does_88 rfl ?_
  refine q_getq dX9_does_89 f_R_35 ck_84 (by decide) ty_8_14 rf_84_14 ?_
  refine g_iconst dX9_does_92 ic_1 ?_
  refine q_iald dX9_does_93 ck_93 (ixD_nI (by omega) (by decide)) ?_
  refine g_top h1 ?_
  refine g_v2 (M' := KR_sheetNow) dX9_does_94 l_R_114 v_KR_sheetNow c_KR_sheetNow rc_84 rfl rfl ⟨rfl, rfl⟩ ?_
  exact e_iret dX9_does_97 rfl (by rfl) (by rfl)
set_option maxRecDepth 100000 in
set_option maxHeartbeats 200000 in
theorem c_KR_does_112 {σ : SI} {δ : SD} {n : Nat} (hW : WF (σ 85) n) {v0 v1 v2 v3 : Int32} (h0 : σ 93 0 = v0) (h1 : σ 93 1 = v1) (h2 : σ 93 2 = v2) (h3 : σ 93 3 = v3) {k : Nat} (hk : k < n) (hvk : v0 = nI k) : E KR_does [.ref 84, .int (nI 112)] (HH σ δ) (some (.int (if liesA (σ 85) k then nI 1 else nI 0))) (HH (uI (uI σ 85 (8 + 6 * k + 4) v1) 85 (8 + 6 * k + 5) v2) δ) := by
  refine E.ofL [some (.ref 84), some (.int (nI 112))] rfl pn_RX9 rfl (fun sc => ?_)
  refine g_iload_n dX9_does_0 rfl ?_
  refine g_lsw (tgt := 98) dX9_does_1 (by decide +kernel) (by decide +kernel) ?_
  refine g_aload_n dX9_does_98 rfl ?_
  refine g_aload_n dX9_does_99 rfl ?_
  refine q_getq dX9_does_100 f_R_35 ck_84 (by decide) ty_8_14 rf_84_14 ?_
  refine g_iconst dX9_does_103 ic_0 ?_
  refine q_iald dX9_does_104 ck_93 (ixD_nI (by omega) (by decide)) ?_
  refine g_top (h0.trans hvk) ?_
  refine g_aload_n dX9_does_105 rfl ?_
  refine q_getq dX9_does_106 f_R_35 ck_84 (by decide) ty_8_14 rf_84_14 ?_
  refine g_iconst dX9_does_109 ic_1 ?_
  refine q_iald dX9_does_110 ck_93 (ixD_nI (by omega) (by decide)) ?_
  refine g_top h1 ?_
  refine g_aload_n dX9_does_111 rfl ?_
  refine q_getq dX9_does_112 f_R_35 ck_84 (by decide) ty_8_14 rf_84_14 ?_
  refine g_iconst dX9_does_115 ic_2 ?_
  refine q_iald dX9_does_116 ck_93 (ixD_nI (by omega) (by decide)) ?_
  refine g_top h2 ?_
  refine g_v3 (M' := KR_layNow) dX9_does_117 l_R_172 v_KR_layNow (c_KR_layNow (by have := hW.n8; omega)) rc_84 rfl rfl ⟨rfl, rfl⟩ ?_
  exact e_iret dX9_does_120 rfl (by rfl) (by rfl)
set_option maxRecDepth 100000 in
set_option maxHeartbeats 200000 in
theorem c_KR_does_111 {σ : SI} {δ : SD} {n : Nat} (hW : WF (σ 85) n) {v0 v1 v2 v3 : Int32} (h0 : σ 93 0 = v0) (h1 : σ 93 1 = v1) (h2 : σ 93 2 = v2) (h3 : σ 93 3 = v3) {k : Nat} (hk : k < n) (hvk : v0 = nI k) : E KR_does [.ref 84, .int (nI 111)] (HH σ δ) (some (.int (nI (cntN (liesA (aLay (σ 85) k (-1) (-1))) n)))) (HH (mLay σ k (-1) (-1)) δ) := by
  refine E.ofL [some (.ref 84), some (.int (nI 111))] rfl pn_RX9 rfl (fun sc => ?_)
  refine g_iload_n dX9_does_0 rfl ?_
  refine g_lsw (tgt := 121) dX9_does_1 (by decide +kernel) (by decide +kernel) ?_
  refine g_aload_n dX9_does_121 rfl ?_
  refine g_aload_n dX9_does_122 rfl ?_
  refine q_getq dX9_does_123 f_R_35 ck_84 (by decide) ty_8_14 rf_84_14 ?_
  refine g_iconst dX9_does_126 ic_0 ?_
  refine q_iald dX9_does_127 ck_93 (ixD_nI (by omega) (by decide)) ?_
  refine g_top (h0.trans hvk) ?_
  refine g_v1 (M' := KR_offNow) dX9_does_128 l_R_181 v_KR_offNow (c_KR_offNow hW hk) rc_84 rfl rfl ⟨rfl, rfl⟩ ?_
  exact e_iret dX9_does_131 rfl (by rfl) (by rfl)
set_option maxRecDepth 100000 in
set_option maxHeartbeats 200000 in
theorem c_KR_does_97 {σ : SI} {δ : SD} {n : Nat} (hW : WF (σ 85) n) {v0 v1 v2 v3 : Int32} (h0 : σ 93 0 = v0) (h1 : σ 93 1 = v1) (h2 : σ 93 2 = v2) (h3 : σ 93 3 = v3) : E KR_does [.ref 84, .int (nI 97)] (HH σ δ) (some (.int (nI (cntN (liesA (runA (σ 85) (pkL (σ 85) n 6))) n)))) (HH (runM σ (pkL (σ 85) n 6)) δ) := by
  refine E.ofL [some (.ref 84), some (.int (nI 97))] rfl pn_RX9 rfl (fun sc => ?_)
  refine g_iload_n dX9_does_0 rfl ?_
  refine g_lsw (tgt := 132) dX9_does_1 (by decide +kernel) (by decide +kernel) ?_
  refine g_aload_n dX9_does_132 rfl ?_
  refine g_v0 (M' := KR_packNow) dX9_does_133 l_R_203 v_KR_packNow (c_KR_packNow hW) rc_84 rfl rfl ⟨rfl, rfl⟩ ?_
  exact e_iret dX9_does_136 rfl (by rfl) (by rfl)
set_option maxRecDepth 100000 in
set_option maxHeartbeats 200000 in
theorem c_KR_does_109 {σ : SI} {δ : SD} {n : Nat} (hW : WF (σ 85) n) {v0 v1 v2 v3 : Int32} (h0 : σ 93 0 = v0) (h1 : σ 93 1 = v1) (h2 : σ 93 2 = v2) (h3 : σ 93 3 = v3) : E KR_does [.ref 84, .int (nI 109)] (HH σ δ) (some (.int (σ 85 (2 + 0)))) (HH (uI σ 85 (2 + 0) v0) δ) := by
  refine E.ofL [some (.ref 84), some (.int (nI 109))] rfl pn_RX9 rfl (fun sc => ?_)
  refine g_iload_n dX9_does_0 rfl ?_
  refine g_lsw (tgt := 137) dX9_does_1 (by decide +kernel) (by decide +kernel) ?_
  refine g_aload_n dX9_does_137 rfl ?_
  refine g_iload_n dX9_does_138 rfl ?_
  refine g_s1 (M' := KR_settingOf) dX9_does_139 l_R_317 s_KR_settingOf c_KR_settingOf_109 rfl rfl ⟨rfl, rfl⟩ ?_
  refine g_aload_n dX9_does_142 rfl ?_
  refine q_getq dX9_does_143 f_R_35 ck_84 (by decide) ty_8_14 rf_84_14 ?_
  refine g_iconst dX9_does_146 ic_0 ?_
  refine q_iald dX9_does_147 ck_93 (ixD_nI (by omega) (by decide)) ?_
  refine g_top h0 ?_
  refine g_v2 (M' := KR_setNow) dX9_does_148 l_R_128 v_KR_setNow (c_KR_setNow (by decide)) rc_84 rfl rfl ⟨rfl, rfl⟩ ?_
  exact e_iret dX9_does_151 rfl (by rfl) (by rfl)
set_option maxRecDepth 100000 in
set_option maxHeartbeats 200000 in
theorem c_KR_does_103 {σ : SI} {δ : SD} {n : Nat} (hW : WF (σ 85) n) {v0 v1 v2 v3 : Int32} (h0 : σ 93 0 = v0) (h1 : σ 93 1 = v1) (h2 : σ 93 2 = v2) (h3 : σ 93 3 = v3) : E KR_does [.ref 84, .int (nI 103)] (HH σ δ) (some (.int (σ 85 (2 + 1)))) (HH (uI σ 85 (2 + 1) v0) δ) := by
  refine E.ofL [some (.ref 84), some (.int (nI 103))] rfl pn_RX9 rfl (fun sc => ?_)
  refine g_iload_n dX9_does_0 rfl ?_
  refine g_lsw (tgt := 137) dX9_does_1 (by decide +kernel) (by decide +kernel) ?_
  refine g_aload_n dX9_does_137 rfl ?_
  refine g_iload_n dX9_does_138 rfl ?_
  refine g_s1 (M' := KR_settingOf) dX9_does_139 l_R_317 s_KR_settingOf c_KR_settingOf_103 rfl rfl ⟨rfl, rfl⟩ ?_
  refine g_aload_n dX9_does_142 rfl ?_
  refine q_getq dX9_does_143 f_R_35 ck_84 (by decide) ty_8_14 rf_84_14 ?_
  refine g_iconst dX9_does_146 ic_0 ?_
  refine q_iald dX9_does_147 ck_93 (ixD_nI (by omega) (by decide)) ?_
  refine g_top h0 ?_
  refine g_v2 (M' := KR_setNow) dX9_does_148 l_R_128 v_KR_setNow (c_KR_setNow (by decide)) rc_84 rfl rfl ⟨rfl, rfl⟩ ?_
  exact e_iret dX9_does_151 rfl (by rfl) (by rfl)
set_option maxRecDepth 100000 in
set_option maxHeartbeats 200000 in
theorem c_KR_does_98 {σ : SI} {δ : SD} {n : Nat} (hW : WF (σ 85) n) {v0 v1 v2 v3 : Int32} (h0 : σ 93 0 = v0) (h1 : σ 93 1 = v1) (h2 : σ 93 2 = v2) (h3 : σ 93 3 = v3) : E KR_does [.ref 84, .int (nI 98)] (HH σ δ) (some (.int (σ 85 (2 + 2)))) (HH (uI σ 85 (2 + 2) v0) δ) := by
  refine E.ofL [some (.ref 84), some (.int (nI 98))] rfl pn_RX9 rfl (fun sc => ?_)
  refine g_iload_n dX9_does_0 rfl ?_
  refine g_lsw (tgt := 137) dX9_does_1 (by decide +kernel) (by decide +kernel) ?_
  refine g_aload_n dX9_does_137 rfl ?_
  refine g_iload_n dX9_does_138 rfl ?_
  refine g_s1 (M' := KR_settingOf) dX9_does_139 l_R_317 s_KR_settingOf c_KR_settingOf_98 rfl rfl ⟨rfl, rfl⟩ ?_
  refine g_aload_n dX9_does_142 rfl ?_
  refine q_getq dX9_does_143 f_R_35 ck_84 (by decide) ty_8_14 rf_84_14 ?_
  refine g_iconst dX9_does_146 ic_0 ?_
  refine q_iald dX9_does_147 ck_93 (ixD_nI (by omega) (by decide)) ?_
  refine g_top h0 ?_
  refine g_v2 (M' := KR_setNow) dX9_does_148 l_R_128 v_KR_setNow (c_KR_setNow (by decide)) rc_84 rfl rfl ⟨rfl, rfl⟩ ?_
  exact e_iret dX9_does_151 rfl (by rfl) (by rfl)
set_option maxRecDepth 100000 in
set_option maxHeartbeats 200000 in
theorem c_KR_does_114 {σ : SI} {δ : SD} {n : Nat} (hW : WF (σ 85) n) {v0 v1 v2 v3 : Int32} (h0 : σ 93 0 = v0) (h1 : σ 93 1 = v1) (h2 : σ 93 2 = v2) (h3 : σ 93 3 = v3) : E KR_does [.ref 84, .int (nI 114)] (HH σ δ) (some (.int (σ 85 (2 + 3)))) (HH (uI σ 85 (2 + 3) v0) δ) := by
  refine E.ofL [some (.ref 84), some (.int (nI 114))] rfl pn_RX9 rfl (fun sc => ?_)
  refine g_iload_n dX9_does_0 rfl ?_
  refine g_lsw (tgt := 137) dX9_does_1 (by decide +kernel) (by decide +kernel) ?_
  refine g_aload_n dX9_does_137 rfl ?_
  refine g_iload_n dX9_does_138 rfl ?_
  refine g_s1 (M' := KR_settingOf) dX9_does_139 l_R_317 s_KR_settingOf c_KR_settingOf_114 rfl rfl ⟨rfl, rfl⟩ ?_
  refine g_aload_n dX9_does_142 rfl ?_
  refine q_getq dX9_does_143 f_R_35 ck_84 (by decide) ty_8_14 rf_84_14 ?_
  refine g_iconst dX9_does_146 ic_0 ?_
  refine q_iald dX9_does_147 ck_93 (ixD_nI (by omega) (by decide)) ?_
  refine g_top h0 ?_
  refine g_v2 (M' := KR_setNow) dX9_does_148 l_R_128 v_KR_setNow (c_KR_setNow (by decide)) rc_84 rfl rfl ⟨rfl, rfl⟩ ?_
  exact e_iret dX9_does_151 rfl (by rfl) (by rfl)
set_option maxRecDepth 100000 in
set_option maxHeartbeats 200000 in
theorem c_KR_does_99 {σ : SI} {δ : SD} {n : Nat} (hW : WF (σ 85) n) {v0 v1 v2 v3 : Int32} (h0 : σ 93 0 = v0) (h1 : σ 93 1 = v1) (h2 : σ 93 2 = v2) (h3 : σ 93 3 = v3) : E KR_does [.ref 84, .int (nI 99)] (HH σ δ) (some (.int (σ 85 (2 + 4)))) (HH (uI σ 85 (2 + 4) v0) δ) := by
  refine E.ofL [some (.ref 84), some (.int (nI 99))] rfl pn_RX9 rfl (fun sc => ?_)
  refine g_iload_n dX9_does_0 rfl ?_
  refine g_lsw (tgt := 137) dX9_does_1 (by decide +kernel) (by decide +kernel) ?_
  refine g_aload_n dX9_does_137 rfl ?_
  refine g_iload_n dX9_does_138 rfl ?_
  refine g_s1 (M' := KR_settingOf) dX9_does_139 l_R_317 s_KR_settingOf c_KR_settingOf_99 rfl rfl ⟨rfl, rfl⟩ ?_
  refine g_aload_n dX9_does_142 rfl ?_
  refine q_getq dX9_does_143 f_R_35 ck_84 (by decide) ty_8_14 rf_84_14 ?_
  refine g_iconst dX9_does_146 ic_0 ?_
  refine q_iald dX9_does_147 ck_93 (ixD_nI (by omega) (by decide)) ?_
  refine g_top h0 ?_
  refine g_v2 (M' := KR_setNow) dX9_does_148 l_R_128 v_KR_setNow (c_KR_setNow (by decide)) rc_84 rfl rfl ⟨rfl, rfl⟩ ?_
  exact e_iret dX9_does_151 rfl (by rfl) (by rfl)
