/-! THE TEXT: orders obeyed, the class -/
set_option maxHeartbeats 200000 in
theorem st_le {a : Nat → Int32} {n j : Nat} (hW : WF a n) (hj : j < 5) : (a (2 + j)).toNatClampNeg ≤ 80 := by
  obtain ⟨-, -, -, -, h2, h3, h4, h5, h6, -⟩ := hW
  rcases (show j = 0 ∨ j = 1 ∨ j = 2 ∨ j = 3 ∨ j = 4 by omega) with rfl | rfl | rfl | rfl | rfl
  · exact Nat.le_trans (h2.cl (by decide)).2.1 (by decide)
  · exact Nat.le_trans (h3.cl (by decide)).2.1 (by decide)
  · exact Nat.le_trans (h4.cl (by decide)).2.1 (by decide)
  · exact Nat.le_trans (h5.cl (by decide)).2.1 (by decide)
  · exact Nat.le_trans (h6.cl (by decide)).2.1 (by decide)
set_option maxHeartbeats 200000 in
theorem sz_nI {a : Nat → Int32} {n : Nat} (hW : WF a n) : nI 100 * a 0 + a 1 = nI (100 * (a 0).toNatClampNeg + (a 1).toNatClampNeg) := by
  obtain ⟨w, hw⟩ : ∃ w, (a 0).toNatClampNeg = w := ⟨_, rfl⟩
  obtain ⟨h, hh⟩ : ∃ h, (a 1).toNatClampNeg = h := ⟨_, rfl⟩
  have e1 := hW.wid.2.2
  have e2 := hW.hei.2.2
  rw [hw] at e1 ⊢
  rw [hh] at e2 ⊢
  rw [e1, e2, pk_mul, nI_add]
set_option maxHeartbeats 200000 in
theorem st_nI {a : Nat → Int32} {n j : Nat} (hW : WF a n) (hj : j < 5) : a (2 + j) = nI (a (2 + j)).toNatClampNeg := by
  obtain ⟨-, -, -, -, h2, h3, h4, h5, h6, -⟩ := hW
  rcases (show j = 0 ∨ j = 1 ∨ j = 2 ∨ j = 3 ∨ j = 4 by omega) with rfl | rfl | rfl | rfl | rfl
  · exact (h2.cl (by decide)).2.2
  · exact (h3.cl (by decide)).2.2
  · exact (h4.cl (by decide)).2.2
  · exact (h5.cl (by decide)).2.2
  · exact (h6.cl (by decide)).2.2
set_option maxRecDepth 100000 in
set_option maxHeartbeats 200000 in
theorem c_KP_obeys_105 {σ : SI} {δ : SD} {a : Nat → Int32} {n : Nat} (hL : HL σ 15 a n) {v0 v1 v2 v3 : Int32} {k : Nat} (hk : k < 60) (g0 : σ 83 (k * 4 + 0) = v0) (g1 : σ 83 (k * 4 + 1) = v1) (g2 : σ 83 (k * 4 + 2) = v2) (g3 : σ 83 (k * 4 + 3) = v3) (hl : σ 82 k = nI 105) (hi : itemA n v0 v1 v2 v3 = nI 0) (hn : n < 8) (hW1 : WF (aItem a n v0 v1 v2 v3) (n + 1)) : E KP_obeys [.ref 5, .int (nI k)] (HH σ δ) (some (.int (bI true))) (HH (mea (sItem σ 15 n v0 v1 v2 v3) 15 (aItem a n v0 v1 v2 v3) (n + 1)) δ) := by
  have hW := hL.wf
  have hR := hL.rb
  have hD := hL.rd
  have hB := LB_15
  have hn8 := hW.n8
  have hwd := hW.wid
  have hhg := hW.hei
  refine E.ofL [some (.ref 5), some (.int (nI k))] rfl pn_RX8 rfl (fun sc => ?_)
  refine g_aload_n dX8_obeys_0 rfl ?_
  refine q_getq dX8_obeys_1 f_P_50 ck_5 (by decide) ty_7_6 rf_5_6 ?_
  refine g_iload_n dX8_obeys_4 rfl ?_
  refine g_iconst dX8_obeys_5 ic_0 ?_
  refine g_v2 (M' := KT_number) dX8_obeys_6 l_P_291 v_KT_number (c_KT_number hk (by decide) g0) rc_80 rfl rfl ⟨rfl, rfl⟩ ?_
  refine g_istore_n dX8_obeys_9 rfl ?_
  refine g_aload_n dX8_obeys_10 rfl ?_
  refine q_getq dX8_obeys_11 f_P_50 ck_5 (by decide) ty_7_6 rf_5_6 ?_
  refine g_iload_n dX8_obeys_14 rfl ?_
  refine g_iconst dX8_obeys_15 ic_1 ?_
  refine g_v2 (M' := KT_number) dX8_obeys_16 l_P_291 v_KT_number (c_KT_number hk (by decide) g1) rc_80 rfl rfl ⟨rfl, rfl⟩ ?_
  refine g_istore_n dX8_obeys_19 rfl ?_
  refine g_aload_n dX8_obeys_20 rfl ?_
  refine q_getq dX8_obeys_21 f_P_50 ck_5 (by decide) ty_7_6 rf_5_6 ?_
  refine g_iload_n dX8_obeys_24 rfl ?_
  refine g_iconst dX8_obeys_25 ic_2 ?_
  refine g_v2 (M' := KT_number) dX8_obeys_26 l_P_291 v_KT_number (c_KT_number hk (by decide) g2) rc_80 rfl rfl ⟨rfl, rfl⟩ ?_
  refine g_istore dX8_obeys_29 rfl ?_
  refine g_aload_n dX8_obeys_31 rfl ?_
  refine q_getq dX8_obeys_32 f_P_50 ck_5 (by decide) ty_7_6 rf_5_6 ?_
  refine g_iload_n dX8_obeys_35 rfl ?_
  refine g_iconst dX8_obeys_36 ic_3 ?_
  refine g_v2 (M' := KT_number) dX8_obeys_37 l_P_291 v_KT_number (c_KT_number hk (by decide) g3) rc_80 rfl rfl ⟨rfl, rfl⟩ ?_
  refine g_istore dX8_obeys_40 rfl ?_
  refine g_aload_n dX8_obeys_42 rfl ?_
  refine q_getq dX8_obeys_43 f_P_50 ck_5 (by decide) ty_7_6 rf_5_6 ?_
  refine g_iload_n dX8_obeys_46 rfl ?_
  refine g_v1 (M' := KT_letter) dX8_obeys_47 l_P_294 v_KT_letter (c_KT_letter hk hl) rc_80 rfl rfl ⟨rfl, rfl⟩ ?_
  refine g_istore dX8_obeys_50 rfl ?_
  refine g_iload dX8_obeys_52 rfl ?_
  refine g_lsw (tgt := 104) dX8_obeys_54 (by decide +kernel) (by decide +kernel) ?_
  refine g_aload_n dX8_obeys_104 rfl ?_
  refine q_getq dX8_obeys_105 f_P_16 ck_5 (by decide) ty_7_1 rf_5_1 ?_
  refine g_iload_n dX8_obeys_108 rfl ?_
  refine g_iload_n dX8_obeys_109 rfl ?_
  refine g_iload dX8_obeys_110 rfl ?_
  refine g_iload dX8_obeys_112 rfl ?_
  refine g_v4 (M' := KL_againstItem) dX8_obeys_114 l_P_71 v_KL_againstItem (c_KL_againstItem hB hW hR) (rcL LB_15) rfl rfl ⟨rfl, rfl⟩ ?_
  refine g_top hi ?_
  refine n_if_ne (tgt := 140) (by omega) dX8_obeys_117 rfl (fun zc117 => absurd zc117 (by decide)) (fun _ => ?_)
  refine g_aload_n dX8_obeys_120 rfl ?_
  refine q_getq dX8_obeys_121 f_P_16 ck_5 (by decide) ty_7_1 rf_5_1 ?_
  refine g_iload_n dX8_obeys_124 rfl ?_
  refine g_iload_n dX8_obeys_125 rfl ?_
  refine g_iload dX8_obeys_126 rfl ?_
  refine g_iload dX8_obeys_128 rfl ?_
  refine g_v4 (M' := KL_addItem) dX8_obeys_130 l_P_75 v_KL_addItem (c_KL_addItem hB hR hn hW1) (rcL LB_15) rfl rfl ⟨rfl, rfl⟩ ?_
  refine n_if_lt (tgt := 140) (by omega) dX8_obeys_133 rfl (fun zc133 => ?_) (fun zc133 => ?_)
  · exact zc133.elim
  · refine g_iconst dX8_obeys_136 ic_1 ?_
    refine g_goto (tgt := 141) dX8_obeys_137 rfl ?_
    exact e_z1 dX8_obeys_141 rfl (by rfl) (by rfl)
set_option maxRecDepth 100000 in
set_option maxHeartbeats 200000 in
theorem c_KP_obeys_105n {σ : SI} {δ : SD} {a : Nat → Int32} {n : Nat} (hL : HL σ 15 a n) {v0 v1 v2 v3 : Int32} {k : Nat} (hk : k < 60) (g0 : σ 83 (k * 4 + 0) = v0) (g1 : σ 83 (k * 4 + 1) = v1) (g2 : σ 83 (k * 4 + 2) = v2) (g3 : σ 83 (k * 4 + 3) = v3) (hl : σ 82 k = nI 105) (hi : ¬ itemA n v0 v1 v2 v3 = 0) : E KP_obeys [.ref 5, .int (nI k)] (HH σ δ) (some (.int (bI false))) (HH (σ) δ) := by
  have hW := hL.wf
  have hR := hL.rb
  have hD := hL.rd
  have hB := LB_15
  have hn8 := hW.n8
  have hwd := hW.wid
  have hhg := hW.hei
  refine E.ofL [some (.ref 5), some (.int (nI k))] rfl pn_RX8 rfl (fun sc => ?_)
  refine g_aload_n dX8_obeys_0 rfl ?_
  refine q_getq dX8_obeys_1 f_P_50 ck_5 (by decide) ty_7_6 rf_5_6 ?_
  refine g_iload_n dX8_obeys_4 rfl ?_
  refine g_iconst dX8_obeys_5 ic_0 ?_
  refine g_v2 (M' := KT_number) dX8_obeys_6 l_P_291 v_KT_number (c_KT_number hk (by decide) g0) rc_80 rfl rfl ⟨rfl, rfl⟩ ?_
  refine g_istore_n dX8_obeys_9 rfl ?_
  refine g_aload_n dX8_obeys_10 rfl ?_
  refine q_getq dX8_obeys_11 f_P_50 ck_5 (by decide) ty_7_6 rf_5_6 ?_
  refine g_iload_n dX8_obeys_14 rfl ?_
  refine g_iconst dX8_obeys_15 ic_1 ?_
  refine g_v2 (M' := KT_number) dX8_obeys_16 l_P_291 v_KT_number (c_KT_number hk (by decide) g1) rc_80 rfl rfl ⟨rfl, rfl⟩ ?_
  refine g_istore_n dX8_obeys_19 rfl ?_
  refine g_aload_n dX8_obeys_20 rfl ?_
  refine q_getq dX8_obeys_21 f_P_50 ck_5 (by decide) ty_7_6 rf_5_6 ?_
  refine g_iload_n dX8_obeys_24 rfl ?_
  refine g_iconst dX8_obeys_25 ic_2 ?_
  refine g_v2 (M' := KT_number) dX8_obeys_26 l_P_291 v_KT_number (c_KT_number hk (by decide) g2) rc_80 rfl rfl ⟨rfl, rfl⟩ ?_
  refine g_istore dX8_obeys_29 rfl ?_
  refine g_aload_n dX8_obeys_31 rfl ?_
  refine q_getq dX8_obeys_32 f_P_50 ck_5 (by decide) ty_7_6 rf_5_6 ?_
  refine g_iload_n dX8_obeys_35 rfl ?_
  refine g_iconst dX8_obeys_36 ic_3 ?_
  refine g_v2 (M' := KT_number) dX8_obeys_37 l_P_291 v_KT_number (c_KT_number hk (by decide) g3) rc_80 rfl rfl ⟨rfl, rfl⟩ ?_
  refine g_istore dX8_obeys_40 rfl ?_
  refine g_aload_n dX8_obeys_42 rfl ?_
  refine q_getq dX8_obeys_43 f_P_50 ck_5 (by decide) ty_7_6 rf_5_6 ?_
  refine g_iload_n dX8_obeys_46 rfl ?_
  refine g_v1 (M' := KT_letter) dX8_obeys_47 l_P_294 v_KT_letter (c_KT_letter hk hl) rc_80 rfl rfl ⟨rfl, rfl⟩ ?_
  refine g_istore dX8_obeys_50 rfl ?_
  refine g_iload dX8_obeys_52 rfl ?_
  refine g_lsw (tgt := 104) dX8_obeys_54 (by decide +kernel) (by decide +kernel) ?_
  refine g_aload_n dX8_obeys_104 rfl ?_
  refine q_getq dX8_obeys_105 f_P_16 ck_5 (by decide) ty_7_1 rf_5_1 ?_
  refine g_iload_n dX8_obeys_108 rfl ?_
  refine g_iload_n dX8_obeys_109 rfl ?_
  refine g_iload dX8_obeys_110 rfl ?_
  refine g_iload dX8_obeys_112 rfl ?_
  refine g_v4 (M' := KL_againstItem) dX8_obeys_114 l_P_71 v_KL_againstItem (c_KL_againstItem hB hW hR) (rcL LB_15) rfl rfl ⟨rfl, rfl⟩ ?_
  refine g_if_ne (tgt := 140) dX8_obeys_117 rfl (fun zc117 => ?_) (fun zc117 => ?_)
  · refine g_iconst dX8_obeys_140 ic_0 ?_
    exact e_z0 dX8_obeys_141 rfl (by rfl) (by rfl)
  · exact absurd zc117 hi
set_option maxRecDepth 100000 in
set_option maxHeartbeats 200000 in
theorem c_KP_obeys_119 {σ : SI} {δ : SD} {a : Nat → Int32} {n : Nat} (hL : HL σ 15 a n) {v0 v1 v2 v3 : Int32} {k : Nat} (hk : k < 60) (g0 : σ 83 (k * 4 + 0) = v0) (g1 : σ 83 (k * 4 + 1) = v1) (g2 : σ 83 (k * 4 + 2) = v2) (g3 : σ 83 (k * 4 + 3) = v3) (hl : σ 82 k = nI 119) (hi : sheetOK v0 v1 = true) : E KP_obeys [.ref 5, .int (nI k)] (HH σ δ) (some (.int (bI true))) (HH (mea (uI (uI σ 15 0 v0) 15 1 v1) 15 (upd (upd a 0 v0) 1 v1) n) δ) := by
  have hW := hL.wf
  have hR := hL.rb
  have hD := hL.rd
  have hB := LB_15
  have hn8 := hW.n8
  have hwd := hW.wid
  have hhg := hW.hei
  refine E.ofL [some (.ref 5), some (.int (nI k))] rfl pn_RX8 rfl (fun sc => ?_)
  refine g_aload_n dX8_obeys_0 rfl ?_
  refine q_getq dX8_obeys_1 f_P_50 ck_5 (by decide) ty_7_6 rf_5_6 ?_
  refine g_iload_n dX8_obeys_4 rfl ?_
  refine g_iconst dX8_obeys_5 ic_0 ?_
  refine g_v2 (M' := KT_number) dX8_obeys_6 l_P_291 v_KT_number (c_KT_number hk (by decide) g0) rc_80 rfl rfl ⟨rfl, rfl⟩ ?_
  refine g_istore_n dX8_obeys_9 rfl ?_
  refine g_aload_n dX8_obeys_10 rfl ?_
  refine q_getq dX8_obeys_11 f_P_50 ck_5 (by decide) ty_7_6 rf_5_6 ?_
  refine g_iload_n dX8_obeys_14 rfl ?_
  refine g_iconst dX8_obeys_15 ic_1 ?_
  refine g_v2 (M' := KT_number) dX8_obeys_16 l_P_291 v_KT_number (c_KT_number hk (by decide) g1) rc_80 rfl rfl ⟨rfl, rfl⟩ ?_
  refine g_istore_n dX8_obeys_19 rfl ?_
  refine g_aload_n dX8_obeys_20 rfl ?_
  refine q_getq dX8_obeys_21 f_P_50 ck_5 (by decide) ty_7_6 rf_5_6 ?_
  refine g_iload_n dX8_obeys_24 rfl ?_
  refine g_iconst dX8_obeys_25 ic_2 ?_
  refine g_v2 (M' := KT_number) dX8_obeys_26 l_P_291 v_KT_number (c_KT_number hk (by decide) g2) rc_80 rfl rfl ⟨rfl, rfl⟩ ?_
  refine g_istore dX8_obeys_29 rfl ?_
  refine g_aload_n dX8_obeys_31 rfl ?_
  refine q_getq dX8_obeys_32 f_P_50 ck_5 (by decide) ty_7_6 rf_5_6 ?_
  refine g_iload_n dX8_obeys_35 rfl ?_
  refine g_iconst dX8_obeys_36 ic_3 ?_
  refine g_v2 (M' := KT_number) dX8_obeys_37 l_P_291 v_KT_number (c_KT_number hk (by decide) g3) rc_80 rfl rfl ⟨rfl, rfl⟩ ?_
  refine g_istore dX8_obeys_40 rfl ?_
  refine g_aload_n dX8_obeys_42 rfl ?_
  refine q_getq dX8_obeys_43 f_P_50 ck_5 (by decide) ty_7_6 rf_5_6 ?_
  refine g_iload_n dX8_obeys_46 rfl ?_
  refine g_v1 (M' := KT_letter) dX8_obeys_47 l_P_294 v_KT_letter (c_KT_letter hk hl) rc_80 rfl rfl ⟨rfl, rfl⟩ ?_
  refine g_istore dX8_obeys_50 rfl ?_
  refine g_iload dX8_obeys_52 rfl ?_
  refine g_lsw (tgt := 142) dX8_obeys_54 (by decide +kernel) (by decide +kernel) ?_
  refine g_aload_n dX8_obeys_142 rfl ?_
  refine q_getq dX8_obeys_143 f_P_16 ck_5 (by decide) ty_7_1 rf_5_1 ?_
  refine g_iload_n dX8_obeys_146 rfl ?_
  refine g_iload_n dX8_obeys_147 rfl ?_
  refine g_v2 (M' := KL_againstSize) dX8_obeys_148 l_P_54 v_KL_againstSize (c_KL_againstSize hB) (rcL LB_15) rfl rfl ⟨rfl, rfl⟩ ?_
  refine g_top (if_pos hi) ?_
  refine n_if_ne (tgt := 170) (by omega) dX8_obeys_151 rfl (fun zc151 => absurd zc151 (by decide)) (fun _ => ?_)
  refine g_aload_n dX8_obeys_154 rfl ?_
  refine q_getq dX8_obeys_155 f_P_16 ck_5 (by decide) ty_7_1 rf_5_1 ?_
  refine g_iload_n dX8_obeys_158 rfl ?_
  refine g_iload_n dX8_obeys_159 rfl ?_
  refine g_v2 (M' := KL_resize) dX8_obeys_160 l_P_62 v_KL_resize (c_KL_resize hB hR (WF_size hW hi)) (rcL LB_15) rfl rfl ⟨rfl, rfl⟩ ?_
  refine g_top (sz_nI hW) ?_
  refine n_if_lt (tgt := 170) (by omega) dX8_obeys_163 rfl (fun zc163 => ?_) (fun zc163 => ?_)
  · exact zc163.elim
  · refine g_iconst dX8_obeys_166 ic_1 ?_
    refine g_goto (tgt := 171) dX8_obeys_167 rfl ?_
    exact e_z1 dX8_obeys_171 rfl (by rfl) (by rfl)
set_option maxRecDepth 100000 in
set_option maxHeartbeats 200000 in
theorem c_KP_obeys_119n {σ : SI} {δ : SD} {a : Nat → Int32} {n : Nat} (hL : HL σ 15 a n) {v0 v1 v2 v3 : Int32} {k : Nat} (hk : k < 60) (g0 : σ 83 (k * 4 + 0) = v0) (g1 : σ 83 (k * 4 + 1) = v1) (g2 : σ 83 (k * 4 + 2) = v2) (g3 : σ 83 (k * 4 + 3) = v3) (hl : σ 82 k = nI 119) (hi : sheetOK v0 v1 = false) : E KP_obeys [.ref 5, .int (nI k)] (HH σ δ) (some (.int (bI false))) (HH (σ) δ) := by
  have hW := hL.wf
  have hR := hL.rb
  have hD := hL.rd
  have hB := LB_15
  have hn8 := hW.n8
  have hwd := hW.wid
  have hhg := hW.hei
  refine E.ofL [some (.ref 5), some (.int (nI k))] rfl pn_RX8 rfl (fun sc => ?_)
  refine g_aload_n dX8_obeys_0 rfl ?_
  refine q_getq dX8_obeys_1 f_P_50 ck_5 (by decide) ty_7_6 rf_5_6 ?_
  refine g_iload_n dX8_obeys_4 rfl ?_
  refine g_iconst dX8_obeys_5 ic_0 ?_
  refine g_v2 (M' := KT_number) dX8_obeys_6 l_P_291 v_KT_number (c_KT_number hk (by decide) g0) rc_80 rfl rfl ⟨rfl, rfl⟩ ?_
  refine g_istore_n dX8_obeys_9 rfl ?_
  refine g_aload_n dX8_obeys_10 rfl ?_
  refine q_getq dX8_obeys_11 f_P_50 ck_5 (by decide) ty_7_6 rf_5_6 ?_
  refine g_iload_n dX8_obeys_14 rfl ?_
  refine g_iconst dX8_obeys_15 ic_1 ?_
  refine g_v2 (M' := KT_number) dX8_obeys_16 l_P_291 v_KT_number (c_KT_number hk (by decide) g1) rc_80 rfl rfl ⟨rfl, rfl⟩ ?_
  refine g_istore_n dX8_obeys_19 rfl ?_
  refine g_aload_n dX8_obeys_20 rfl ?_
  refine q_getq dX8_obeys_21 f_P_50 ck_5 (by decide) ty_7_6 rf_5_6 ?_
  refine g_iload_n dX8_obeys_24 rfl ?_
  refine g_iconst dX8_obeys_25 ic_2 ?_
  refine g_v2 (M' := KT_number) dX8_obeys_26 l_P_291 v_KT_number (c_KT_number hk (by decide) g2) rc_80 rfl rfl ⟨rfl, rfl⟩ ?_
  refine g_istore dX8_obeys_29 rfl ?_
  refine g_aload_n dX8_obeys_31 rfl ?_
  refine q_getq dX8_obeys_32 f_P_50 ck_5 (by decide) ty_7_6 rf_5_6 ?_
  refine g_iload_n dX8_obeys_35 rfl ?_
  refine g_iconst dX8_obeys_36 ic_3 ?_
  refine g_v2 (M' := KT_number) dX8_obeys_37 l_P_291 v_KT_number (c_KT_number hk (by decide) g3) rc_80 rfl rfl ⟨rfl, rfl⟩ ?_
  refine g_istore dX8_obeys_40 rfl ?_
  refine g_aload_n dX8_obeys_42 rfl ?_
  refine q_getq dX8_obeys_43 f_P_50 ck_5 (by decide) ty_7_6 rf_5_6 ?_
  refine g_iload_n dX8_obeys_46 rfl ?_
  refine g_v1 (M' := KT_letter) dX8_obeys_47 l_P_294 v_KT_letter (c_KT_letter hk hl) rc_80 rfl rfl ⟨rfl, rfl⟩ ?_
  refine g_istore dX8_obeys_50 rfl ?_
  refine g_iload dX8_obeys_52 rfl ?_
  refine g_lsw (tgt := 142) dX8_obeys_54 (by decide +kernel) (by decide +kernel) ?_
  refine g_aload_n dX8_obeys_142 rfl ?_
  refine q_getq dX8_obeys_143 f_P_16 ck_5 (by decide) ty_7_1 rf_5_1 ?_
  refine g_iload_n dX8_obeys_146 rfl ?_
  refine g_iload_n dX8_obeys_147 rfl ?_
  refine g_v2 (M' := KL_againstSize) dX8_obeys_148 l_P_54 v_KL_againstSize (c_KL_againstSize hB) (rcL LB_15) rfl rfl ⟨rfl, rfl⟩ ?_
  refine g_top (if_neg (by rw [hi]; decide)) ?_
  refine g_if_ne (tgt := 170) dX8_obeys_151 rfl (fun zc151 => ?_) (fun zc151 => ?_)
  · refine g_iconst dX8_obeys_170 ic_0 ?_
    exact e_z0 dX8_obeys_171 rfl (by rfl) (by rfl)
  · exact absurd zc151 (by decide)
set_option maxRecDepth 100000 in
set_option maxHeartbeats 200000 in
theorem c_KP_obeys_112 {σ : SI} {δ : SD} {a : Nat → Int32} {n : Nat} (hL : HL σ 15 a n) {v0 v1 v2 v3 : Int32} {k : Nat} (hk : k < 60) (g0 : σ 83 (k * 4 + 0) = v0) (g1 : σ 83 (k * 4 + 1) = v1) (g2 : σ 83 (k * 4 + 2) = v2) (g3 : σ 83 (k * 4 + 3) = v3) (hl : σ 82 k = nI 112) {j : Nat} (hj : j < n) (hv : v0 = nI j) (hi : layA a n v0 v1 v2 = nI 0) : E KP_obeys [.ref 5, .int (nI k)] (HH σ δ) (some (.int (bI true))) (HH (sLay σ 15 j v1 v2) δ) := by
  have hW := hL.wf
  have hR := hL.rb
  have hD := hL.rd
  have hB := LB_15
  have hn8 := hW.n8
  have hwd := hW.wid
  have hhg := hW.hei
  refine E.ofL [some (.ref 5), some (.int (nI k))] rfl pn_RX8 rfl (fun sc => ?_)
  refine g_aload_n dX8_obeys_0 rfl ?_
  refine q_getq dX8_obeys_1 f_P_50 ck_5 (by decide) ty_7_6 rf_5_6 ?_
  refine g_iload_n dX8_obeys_4 rfl ?_
  refine g_iconst dX8_obeys_5 ic_0 ?_
  refine g_v2 (M' := KT_number) dX8_obeys_6 l_P_291 v_KT_number (c_KT_number hk (by decide) g0) rc_80 rfl rfl ⟨rfl, rfl⟩ ?_
  refine g_istore_n dX8_obeys_9 rfl ?_
  refine g_aload_n dX8_obeys_10 rfl ?_
  refine q_getq dX8_obeys_11 f_P_50 ck_5 (by decide) ty_7_6 rf_5_6 ?_
  refine g_iload_n dX8_obeys_14 rfl ?_
  refine g_iconst dX8_obeys_15 ic_1 ?_
  refine g_v2 (M' := KT_number) dX8_obeys_16 l_P_291 v_KT_number (c_KT_number hk (by decide) g1) rc_80 rfl rfl ⟨rfl, rfl⟩ ?_
  refine g_istore_n dX8_obeys_19 rfl ?_
  refine g_aload_n dX8_obeys_20 rfl ?_
  refine q_getq dX8_obeys_21 f_P_50 ck_5 (by decide) ty_7_6 rf_5_6 ?_
  refine g_iload_n dX8_obeys_24 rfl ?_
  refine g_iconst dX8_obeys_25 ic_2 ?_
  refine g_v2 (M' := KT_number) dX8_obeys_26 l_P_291 v_KT_number (c_KT_number hk (by decide) g2) rc_80 rfl rfl ⟨rfl, rfl⟩ ?_
  refine g_istore dX8_obeys_29 rfl ?_
  refine g_aload_n dX8_obeys_31 rfl ?_
  refine q_getq dX8_obeys_32 f_P_50 ck_5 (by decide) ty_7_6 rf_5_6 ?_
  refine g_iload_n dX8_obeys_35 rfl ?_
  refine g_iconst dX8_obeys_36 ic_3 ?_
  refine g_v2 (M' := KT_number) dX8_obeys_37 l_P_291 v_KT_number (c_KT_number hk (by decide) g3) rc_80 rfl rfl ⟨rfl, rfl⟩ ?_
  refine g_istore dX8_obeys_40 rfl ?_
  refine g_aload_n dX8_obeys_42 rfl ?_
  refine q_getq dX8_obeys_43 f_P_50 ck_5 (by decide) ty_7_6 rf_5_6 ?_
  refine g_iload_n dX8_obeys_46 rfl ?_
  refine g_v1 (M' := KT_letter) dX8_obeys_47 l_P_294 v_KT_letter (c_KT_letter hk hl) rc_80 rfl rfl ⟨rfl, rfl⟩ ?_
  refine g_istore dX8_obeys_50 rfl ?_
  refine g_iload dX8_obeys_52 rfl ?_
  refine g_lsw (tgt := 172) dX8_obeys_54 (by decide +kernel) (by decide +kernel) ?_
  refine g_aload_n dX8_obeys_172 rfl ?_
  refine q_getq dX8_obeys_173 f_P_16 ck_5 (by decide) ty_7_1 rf_5_1 ?_
  refine g_iload_n dX8_obeys_176 rfl ?_
  refine g_iload_n dX8_obeys_177 rfl ?_
  refine g_iload dX8_obeys_178 rfl ?_
  refine g_v3 (M' := KL_againstLaying) dX8_obeys_180 l_P_119 v_KL_againstLaying (c_KL_againstLaying hB hW hR hD) (rcL LB_15) rfl rfl ⟨rfl, rfl⟩ ?_
  refine g_top hi ?_
  refine n_if_ne (tgt := 204) (by omega) dX8_obeys_183 rfl (fun zc183 => absurd zc183 (by decide)) (fun _ => ?_)
  refine g_aload_n dX8_obeys_186 rfl ?_
  refine q_getq dX8_obeys_187 f_P_16 ck_5 (by decide) ty_7_1 rf_5_1 ?_
  refine g_iload_n dX8_obeys_190 rfl ?_
  refine g_iload_n dX8_obeys_191 rfl ?_
  refine g_iload dX8_obeys_192 rfl ?_
  refine g_v3 (M' := KL_lay) dX8_obeys_194 l_P_122 v_KL_lay (by have zq := c_KL_lay (σ := σ) (δ := δ) (x := v1) (y := v2) hB hW hR hj; rw [← hv] at zq; exact zq) (rcL LB_15) HH_len rfl ⟨rfl, rfl⟩ ?_
  refine g_if_lt (tgt := 204) dX8_obeys_197 rfl (fun zc197 => ?_) (fun zc197 => ?_)
  · exact absurd zc197 (by split <;> decide)
  · refine g_iconst dX8_obeys_200 ic_1 ?_
    refine g_goto (tgt := 205) dX8_obeys_201 rfl ?_
    exact e_z1 dX8_obeys_205 rfl (by rfl) (by rfl)
set_option maxRecDepth 100000 in
set_option maxHeartbeats 200000 in
theorem c_KP_obeys_112n {σ : SI} {δ : SD} {a : Nat → Int32} {n : Nat} (hL : HL σ 15 a n) {v0 v1 v2 v3 : Int32} {k : Nat} (hk : k < 60) (g0 : σ 83 (k * 4 + 0) = v0) (g1 : σ 83 (k * 4 + 1) = v1) (g2 : σ 83 (k * 4 + 2) = v2) (g3 : σ 83 (k * 4 + 3) = v3) (hl : σ 82 k = nI 112) (hi : ¬ layA a n v0 v1 v2 = 0) : E KP_obeys [.ref 5, .int (nI k)] (HH σ δ) (some (.int (bI false))) (HH (σ) δ) := by
  have hW := hL.wf
  have hR := hL.rb
  have hD := hL.rd
  have hB := LB_15
  have hn8 := hW.n8
  have hwd := hW.wid
  have hhg := hW.hei
  refine E.ofL [some (.ref 5), some (.int (nI k))] rfl pn_RX8 rfl (fun sc => ?_)
  refine g_aload_n dX8_obeys_0 rfl ?_
  refine q_getq dX8_obeys_1 f_P_50 ck_5 (by decide) ty_7_6 rf_5_6 ?_
  refine g_iload_n dX8_obeys_4 rfl ?_
  refine g_iconst dX8_obeys_5 ic_0 ?_
  refine g_v2 (M' := KT_number) dX8_obeys_6 l_P_291 v_KT_number (c_KT_number hk (by decide) g0) rc_80 rfl rfl ⟨rfl, rfl⟩ ?_
  refine g_istore_n dX8_obeys_9 rfl ?_
  refine g_aload_n dX8_obeys_10 rfl ?_
  refine q_getq dX8_obeys_11 f_P_50 ck_5 (by decide) ty_7_6 rf_5_6 ?_
  refine g_iload_n dX8_obeys_14 rfl ?_
  refine g_iconst dX8_obeys_15 ic_1 ?_
  refine g_v2 (M' := KT_number) dX8_obeys_16 l_P_291 v_KT_number (c_KT_number hk (by decide) g1) rc_80 rfl rfl ⟨rfl, rfl⟩ ?_
  refine g_istore_n dX8_obeys_19 rfl ?_
  refine g_aload_n dX8_obeys_20 rfl ?_
  refine q_getq dX8_obeys_21 f_P_50 ck_5 (by decide) ty_7_6 rf_5_6 ?_
  refine g_iload_n dX8_obeys_24 rfl ?_
  refine g_iconst dX8_obeys_25 ic_2 ?_
  refine g_v2 (M' := KT_number) dX8_obeys_26 l_P_291 v_KT_number (c_KT_number hk (by decide) g2) rc_80 rfl rfl ⟨rfl, rfl⟩ ?_
  refine g_istore dX8_obeys_29 rfl ?_
  refine g_aload_n dX8_obeys_31 rfl ?_
  refine q_getq dX8_obeys_32 f_P_50 ck_5 (by decide) ty_7_6 rf_5_6 ?_
  refine g_iload_n dX8_obeys_35 rfl ?_
  refine g_iconst dX8_obeys_36 ic_3 ?_
  refine g_v2 (M' := KT_number) dX8_obeys_37 l_P_291 v_KT_number (c_KT_number hk (by decide) g3) rc_80 rfl rfl ⟨rfl, rfl⟩ ?_
  refine g_istore dX8_obeys_40 rfl ?_
  refine g_aload_n dX8_obeys_42 rfl ?_
  refine q_getq dX8_obeys_43 f_P_50 ck_5 (by decide) ty_7_6 rf_5_6 ?_
  refine g_iload_n dX8_obeys_46 rfl ?_
  refine g_v1 (M' := KT_letter) dX8_obeys_47 l_P_294 v_KT_letter (c_KT_letter hk hl) rc_80 rfl rfl ⟨rfl, rfl⟩ ?_
  refine g_istore dX8_obeys_50 rfl ?_
  refine g_iload dX8_obeys_52 rfl ?_
  refine g_lsw (tgt := 172) dX8_obeys_54 (by decide +kernel) (by decide +kernel) ?_
  refine g_aload_n dX8_obeys_172 rfl ?_
  refine q_getq dX8_obeys_173 f_P_16 ck_5 (by decide) ty_7_1 rf_5_1 ?_
  refine g_iload_n dX8_obeys_176 rfl ?_
  refine g_iload_n dX8_obeys_177 rfl ?_
  refine g_iload dX8_obeys_178 rfl ?_
  refine g_v3 (M' := KL_againstLaying) dX8_obeys_180 l_P_119 v_KL_againstLaying (c_KL_againstLaying hB hW hR hD) (rcL LB_15) rfl rfl ⟨rfl, rfl⟩ ?_
  refine g_if_ne (tgt := 204) dX8_obeys_183 rfl (fun zc183 => ?_) (fun zc183 => ?_)
  · refine g_iconst dX8_obeys_204 ic_0 ?_
    exact e_z0 dX8_obeys_205 rfl (by rfl) (by rfl)
  · exact absurd zc183 hi
set_option maxRecDepth 100000 in
set_option maxHeartbeats 200000 in
theorem c_KP_obeys_111 {σ : SI} {δ : SD} {a : Nat → Int32} {n : Nat} (hL : HL σ 15 a n) {v0 v1 v2 v3 : Int32} {k : Nat} (hk : k < 60) (g0 : σ 83 (k * 4 + 0) = v0) (g1 : σ 83 (k * 4 + 1) = v1) (g2 : σ 83 (k * 4 + 2) = v2) (g3 : σ 83 (k * 4 + 3) = v3) (hl : σ 82 k = nI 111) {j : Nat} (hj : j < n) (hv : v0 = nI j) (hi : canOffA a n v0 = nI 0) : E KP_obeys [.ref 5, .int (nI k)] (HH σ δ) (some (.int (bI true))) (HH (sLay σ 15 j (-1) (-1)) δ) := by
  have hW := hL.wf
  have hR := hL.rb
  have hD := hL.rd
  have hB := LB_15
  have hn8 := hW.n8
  have hwd := hW.wid
  have hhg := hW.hei
  have hcl := cntN_le (p := liesA (aLay a j (-1) (-1))) n
  refine E.ofL [some (.ref 5), some (.int (nI k))] rfl pn_RX8 rfl (fun sc => ?_)
  refine g_aload_n dX8_obeys_0 rfl ?_
  refine q_getq dX8_obeys_1 f_P_50 ck_5 (by decide) ty_7_6 rf_5_6 ?_
  refine g_iload_n dX8_obeys_4 rfl ?_
  refine g_iconst dX8_obeys_5 ic_0 ?_
  refine g_v2 (M' := KT_number) dX8_obeys_6 l_P_291 v_KT_number (c_KT_number hk (by decide) g0) rc_80 rfl rfl ⟨rfl, rfl⟩ ?_
  refine g_istore_n dX8_obeys_9 rfl ?_
  refine g_aload_n dX8_obeys_10 rfl ?_
  refine q_getq dX8_obeys_11 f_P_50 ck_5 (by decide) ty_7_6 rf_5_6 ?_
  refine g_iload_n dX8_obeys_14 rfl ?_
  refine g_iconst dX8_obeys_15 ic_1 ?_
  refine g_v2 (M' := KT_number) dX8_obeys_16 l_P_291 v_KT_number (c_KT_number hk (by decide) g1) rc_80 rfl rfl ⟨rfl, rfl⟩ ?_
  refine g_istore_n dX8_obeys_19 rfl ?_
  refine g_aload_n dX8_obeys_20 rfl ?_
  refine q_getq dX8_obeys_21 f_P_50 ck_5 (by decide) ty_7_6 rf_5_6 ?_
  refine g_iload_n dX8_obeys_24 rfl ?_
  refine g_iconst dX8_obeys_25 ic_2 ?_
  refine g_v2 (M' := KT_number) dX8_obeys_26 l_P_291 v_KT_number (c_KT_number hk (by decide) g2) rc_80 rfl rfl ⟨rfl, rfl⟩ ?_
  refine g_istore dX8_obeys_29 rfl ?_
  refine g_aload_n dX8_obeys_31 rfl ?_
  refine q_getq dX8_obeys_32 f_P_50 ck_5 (by decide) ty_7_6 rf_5_6 ?_
  refine g_iload_n dX8_obeys_35 rfl ?_
  refine g_iconst dX8_obeys_36 ic_3 ?_
  refine g_v2 (M' := KT_number) dX8_obeys_37 l_P_291 v_KT_number (c_KT_number hk (by decide) g3) rc_80 rfl rfl ⟨rfl, rfl⟩ ?_
  refine g_istore dX8_obeys_40 rfl ?_
  refine g_aload_n dX8_obeys_42 rfl ?_
  refine q_getq dX8_obeys_43 f_P_50 ck_5 (by decide) ty_7_6 rf_5_6 ?_
  refine g_iload_n dX8_obeys_46 rfl ?_
  refine g_v1 (M' := KT_letter) dX8_obeys_47 l_P_294 v_KT_letter (c_KT_letter hk hl) rc_80 rfl rfl ⟨rfl, rfl⟩ ?_
  refine g_istore dX8_obeys_50 rfl ?_
  refine g_iload dX8_obeys_52 rfl ?_
  refine g_lsw (tgt := 206) dX8_obeys_54 (by decide +kernel) (by decide +kernel) ?_
  refine g_aload_n dX8_obeys_206 rfl ?_
  refine q_getq dX8_obeys_207 f_P_16 ck_5 (by decide) ty_7_1 rf_5_1 ?_
  refine g_iload_n dX8_obeys_210 rfl ?_
  refine g_v1 (M' := KL_againstTakingOff) dX8_obeys_211 l_P_125 v_KL_againstTakingOff (c_KL_againstTakingOff hB hW hR) (rcL LB_15) rfl rfl ⟨rfl, rfl⟩ ?_
  refine g_top hi ?_
  refine n_if_ne (tgt := 232) (by omega) dX8_obeys_214 rfl (fun zc214 => absurd zc214 (by decide)) (fun _ => ?_)
  refine g_aload_n dX8_obeys_217 rfl ?_
  refine q_getq dX8_obeys_218 f_P_16 ck_5 (by decide) ty_7_1 rf_5_1 ?_
  refine g_iload_n dX8_obeys_221 rfl ?_
  refine g_v1 (M' := KL_takeOff) dX8_obeys_222 l_P_128 v_KL_takeOff (by have zq := c_KL_takeOff (σ := σ) (δ := δ) hB hW hR hj; rw [← hv] at zq; exact zq) (rcL LB_15) HH_len rfl ⟨rfl, rfl⟩ ?_
  refine n_if_lt (tgt := 232) (by omega) dX8_obeys_225 rfl (fun zc225 => ?_) (fun zc225 => ?_)
  · exact zc225.elim
  · refine g_iconst dX8_obeys_228 ic_1 ?_
    refine g_goto (tgt := 233) dX8_obeys_229 rfl ?_
    exact e_z1 dX8_obeys_233 rfl (by rfl) (by rfl)
set_option maxRecDepth 100000 in
set_option maxHeartbeats 200000 in
theorem c_KP_obeys_111n {σ : SI} {δ : SD} {a : Nat → Int32} {n : Nat} (hL : HL σ 15 a n) {v0 v1 v2 v3 : Int32} {k : Nat} (hk : k < 60) (g0 : σ 83 (k * 4 + 0) = v0) (g1 : σ 83 (k * 4 + 1) = v1) (g2 : σ 83 (k * 4 + 2) = v2) (g3 : σ 83 (k * 4 + 3) = v3) (hl : σ 82 k = nI 111) (hi : ¬ canOffA a n v0 = 0) : E KP_obeys [.ref 5, .int (nI k)] (HH σ δ) (some (.int (bI false))) (HH (σ) δ) := by
  have hW := hL.wf
  have hR := hL.rb
  have hD := hL.rd
  have hB := LB_15
  have hn8 := hW.n8
  have hwd := hW.wid
  have hhg := hW.hei
  refine E.ofL [some (.ref 5), some (.int (nI k))] rfl pn_RX8 rfl (fun sc => ?_)
  refine g_aload_n dX8_obeys_0 rfl ?_
  refine q_getq dX8_obeys_1 f_P_50 ck_5 (by decide) ty_7_6 rf_5_6 ?_
  refine g_iload_n dX8_obeys_4 rfl ?_
  refine g_iconst dX8_obeys_5 ic_0 ?_
  refine g_v2 (M' := KT_number) dX8_obeys_6 l_P_291 v_KT_number (c_KT_number hk (by decide) g0) rc_80 rfl rfl ⟨rfl, rfl⟩ ?_
  refine g_istore_n dX8_obeys_9 rfl ?_
  refine g_aload_n dX8_obeys_10 rfl ?_
  refine q_getq dX8_obeys_11 f_P_50 ck_5 (by decide) ty_7_6 rf_5_6 ?_
  refine g_iload_n dX8_obeys_14 rfl ?_
  refine g_iconst dX8_obeys_15 ic_1 ?_
  refine g_v2 (M' := KT_number) dX8_obeys_16 l_P_291 v_KT_number (c_KT_number hk (by decide) g1) rc_80 rfl rfl ⟨rfl, rfl⟩ ?_
  refine g_istore_n dX8_obeys_19 rfl ?_
  refine g_aload_n dX8_obeys_20 rfl ?_
  refine q_getq dX8_obeys_21 f_P_50 ck_5 (by decide) ty_7_6 rf_5_6 ?_
  refine g_iload_n dX8_obeys_24 rfl ?_
  refine g_iconst dX8_obeys_25 ic_2 ?_
  refine g_v2 (M' := KT_number) dX8_obeys_26 l_P_291 v_KT_number (c_KT_number hk (by decide) g2) rc_80 rfl rfl ⟨rfl, rfl⟩ ?_
  refine g_istore dX8_obeys_29 rfl ?_
  refine g_aload_n dX8_obeys_31 rfl ?_
  refine q_getq dX8_obeys_32 f_P_50 ck_5 (by decide) ty_7_6 rf_5_6 ?_
  refine g_iload_n dX8_obeys_35 rfl ?_
  refine g_iconst dX8_obeys_36 ic_3 ?_
  refine g_v2 (M' := KT_number) dX8_obeys_37 l_P_291 v_KT_number (c_KT_number hk (by decide) g3) rc_80 rfl rfl ⟨rfl, rfl⟩ ?_
  refine g_istore dX8_obeys_40 rfl ?_
  refine g_aload_n dX8_obeys_42 rfl ?_
  refine q_getq dX8_obeys_43 f_P_50 ck_5 (by decide) ty_7_6 rf_5_6 ?_
  refine g_iload_n dX8_obeys_46 rfl ?_
  refine g_v1 (M' := KT_letter) dX8_obeys_47 l_P_294 v_KT_letter (c_KT_letter hk hl) rc_80 rfl rfl ⟨rfl, rfl⟩ ?_
  refine g_istore dX8_obeys_50 rfl ?_
  refine g_iload dX8_obeys_52 rfl ?_
  refine g_lsw (tgt := 206) dX8_obeys_54 (by decide +kernel) (by decide +kernel) ?_
  refine g_aload_n dX8_obeys_206 rfl ?_
  refine q_getq dX8_obeys_207 f_P_16 ck_5 (by decide) ty_7_1 rf_5_1 ?_
  refine g_iload_n dX8_obeys_210 rfl ?_
  refine g_v1 (M' := KL_againstTakingOff) dX8_obeys_211 l_P_125 v_KL_againstTakingOff (c_KL_againstTakingOff hB hW hR) (rcL LB_15) rfl rfl ⟨rfl, rfl⟩ ?_
  refine g_if_ne (tgt := 232) dX8_obeys_214 rfl (fun zc214 => ?_) (fun zc214 => ?_)
  · refine g_iconst dX8_obeys_232 ic_0 ?_
    exact e_z0 dX8_obeys_233 rfl (by rfl) (by rfl)
  · exact absurd zc214 hi
set_option maxRecDepth 100000 in
set_option maxHeartbeats 200000 in
theorem c_KP_obeys_97 {σ : SI} {δ : SD} {a : Nat → Int32} {n : Nat} (hL : HL σ 15 a n) {v0 v1 v2 v3 : Int32} {k : Nat} (hk : k < 60) (g0 : σ 83 (k * 4 + 0) = v0) (g1 : σ 83 (k * 4 + 1) = v1) (g2 : σ 83 (k * 4 + 2) = v2) (g3 : σ 83 (k * 4 + 3) = v3) (hl : σ 82 k = nI 97) : E KP_obeys [.ref 5, .int (nI k)] (HH σ δ) (some (.int (bI true))) (HH (runS σ 15 (pkL a n 6)) δ) := by
  have hW := hL.wf
  have hR := hL.rb
  have hD := hL.rd
  have hB := LB_15
  have hn8 := hW.n8
  have hwd := hW.wid
  have hhg := hW.hei
  have hcl := cntN_le (p := liesA (runA a (pkL a n 6))) n
  refine E.ofL [some (.ref 5), some (.int (nI k))] rfl pn_RX8 rfl (fun sc => ?_)
  refine g_aload_n dX8_obeys_0 rfl ?_
  refine q_getq dX8_obeys_1 f_P_50 ck_5 (by decide) ty_7_6 rf_5_6 ?_
  refine g_iload_n dX8_obeys_4 rfl ?_
  refine g_iconst dX8_obeys_5 ic_0 ?_
  refine g_v2 (M' := KT_number) dX8_obeys_6 l_P_291 v_KT_number (c_KT_number hk (by decide) g0) rc_80 rfl rfl ⟨rfl, rfl⟩ ?_
  refine g_istore_n dX8_obeys_9 rfl ?_
  refine g_aload_n dX8_obeys_10 rfl ?_
  refine q_getq dX8_obeys_11 f_P_50 ck_5 (by decide) ty_7_6 rf_5_6 ?_
  refine g_iload_n dX8_obeys_14 rfl ?_
  refine g_iconst dX8_obeys_15 ic_1 ?_
  refine g_v2 (M' := KT_number) dX8_obeys_16 l_P_291 v_KT_number (c_KT_number hk (by decide) g1) rc_80 rfl rfl ⟨rfl, rfl⟩ ?_
  refine g_istore_n dX8_obeys_19 rfl ?_
  refine g_aload_n dX8_obeys_20 rfl ?_
  refine q_getq dX8_obeys_21 f_P_50 ck_5 (by decide) ty_7_6 rf_5_6 ?_
  refine g_iload_n dX8_obeys_24 rfl ?_
  refine g_iconst dX8_obeys_25 ic_2 ?_
  refine g_v2 (M' := KT_number) dX8_obeys_26 l_P_291 v_KT_number (c_KT_number hk (by decide) g2) rc_80 rfl rfl ⟨rfl, rfl⟩ ?_
  refine g_istore dX8_obeys_29 rfl ?_
  refine g_aload_n dX8_obeys_31 rfl ?_
  refine q_getq dX8_obeys_32 f_P_50 ck_5 (by decide) ty_7_6 rf_5_6 ?_
  refine g_iload_n dX8_obeys_35 rfl ?_
  refine g_iconst dX8_obeys_36 ic_3 ?_
  refine g_v2 (M' := KT_number) dX8_obeys_37 l_P_291 v_KT_number (c_KT_number hk (by decide) g3) rc_80 rfl rfl ⟨rfl, rfl⟩ ?_
  refine g_istore dX8_obeys_40 rfl ?_
  refine g_aload_n dX8_obeys_42 rfl ?_
  refine q_getq dX8_obeys_43 f_P_50 ck_5 (by decide) ty_7_6 rf_5_6 ?_
  refine g_iload_n dX8_obeys_46 rfl ?_
  refine g_v1 (M' := KT_letter) dX8_obeys_47 l_P_294 v_KT_letter (c_KT_letter hk hl) rc_80 rfl rfl ⟨rfl, rfl⟩ ?_
  refine g_istore dX8_obeys_50 rfl ?_
  refine g_iload dX8_obeys_52 rfl ?_
  refine g_lsw (tgt := 234) dX8_obeys_54 (by decide +kernel) (by decide +kernel) ?_
  refine g_aload_n dX8_obeys_234 rfl ?_
  refine q_getq dX8_obeys_235 f_P_36 ck_5 (by decide) ty_7_3 rf_5_3 ?_
  refine g_aload_n dX8_obeys_238 rfl ?_
  refine q_getq dX8_obeys_239 f_P_16 ck_5 (by decide) ty_7_1 rf_5_1 ?_
  refine g_v1 (M' := KA_pack) dX8_obeys_242 l_P_156 v_KA_pack (c_KA_pack hB hL) rc_72 HH_len rfl ⟨rfl, rfl⟩ ?_
  refine n_if_lt (tgt := 252) (by omega) dX8_obeys_245 rfl (fun zc245 => ?_) (fun zc245 => ?_)
  · exact zc245.elim
  · refine g_iconst dX8_obeys_248 ic_1 ?_
    refine g_goto (tgt := 253) dX8_obeys_249 rfl ?_
    exact e_z1 dX8_obeys_253 rfl (by rfl) (by rfl)
set_option maxRecDepth 100000 in
set_option maxHeartbeats 200000 in
theorem c_KP_obeys_109 {σ : SI} {δ : SD} {a : Nat → Int32} {n : Nat} (hL : HL σ 15 a n) {v0 v1 v2 v3 : Int32} {k : Nat} (hk : k < 60) (g0 : σ 83 (k * 4 + 0) = v0) (g1 : σ 83 (k * 4 + 1) = v1) (g2 : σ 83 (k * 4 + 2) = v2) (g3 : σ 83 (k * 4 + 3) = v3) (hl : σ 82 k = nI 109) (hi : setOK (nI 0) v0 = true) : E KP_obeys [.ref 5, .int (nI k)] (HH σ δ) (some (.int (bI true))) (HH (mea (uI σ 18 0 v0) 15 (upd a (2 + 0) v0) n) δ) := by
  have hW := hL.wf
  have hR := hL.rb
  have hD := hL.rd
  have hB := LB_15
  have hn8 := hW.n8
  have hwd := hW.wid
  have hhg := hW.hei
  have hsl := st_le hW (j := 0) (by decide)
  refine E.ofL [some (.ref 5), some (.int (nI k))] rfl pn_RX8 rfl (fun sc => ?_)
  refine g_aload_n dX8_obeys_0 rfl ?_
  refine q_getq dX8_obeys_1 f_P_50 ck_5 (by decide) ty_7_6 rf_5_6 ?_
  refine g_iload_n dX8_obeys_4 rfl ?_
  refine g_iconst dX8_obeys_5 ic_0 ?_
  refine g_v2 (M' := KT_number) dX8_obeys_6 l_P_291 v_KT_number (c_KT_number hk (by decide) g0) rc_80 rfl rfl ⟨rfl, rfl⟩ ?_
  refine g_istore_n dX8_obeys_9 rfl ?_
  refine g_aload_n dX8_obeys_10 rfl ?_
  refine q_getq dX8_obeys_11 f_P_50 ck_5 (by decide) ty_7_6 rf_5_6 ?_
  refine g_iload_n dX8_obeys_14 rfl ?_
  refine g_iconst dX8_obeys_15 ic_1 ?_
  refine g_v2 (M' := KT_number) dX8_obeys_16 l_P_291 v_KT_number (c_KT_number hk (by decide) g1) rc_80 rfl rfl ⟨rfl, rfl⟩ ?_
  refine g_istore_n dX8_obeys_19 rfl ?_
  refine g_aload_n dX8_obeys_20 rfl ?_
  refine q_getq dX8_obeys_21 f_P_50 ck_5 (by decide) ty_7_6 rf_5_6 ?_
  refine g_iload_n dX8_obeys_24 rfl ?_
  refine g_iconst dX8_obeys_25 ic_2 ?_
  refine g_v2 (M' := KT_number) dX8_obeys_26 l_P_291 v_KT_number (c_KT_number hk (by decide) g2) rc_80 rfl rfl ⟨rfl, rfl⟩ ?_
  refine g_istore dX8_obeys_29 rfl ?_
  refine g_aload_n dX8_obeys_31 rfl ?_
  refine q_getq dX8_obeys_32 f_P_50 ck_5 (by decide) ty_7_6 rf_5_6 ?_
  refine g_iload_n dX8_obeys_35 rfl ?_
  refine g_iconst dX8_obeys_36 ic_3 ?_
  refine g_v2 (M' := KT_number) dX8_obeys_37 l_P_291 v_KT_number (c_KT_number hk (by decide) g3) rc_80 rfl rfl ⟨rfl, rfl⟩ ?_
  refine g_istore dX8_obeys_40 rfl ?_
  refine g_aload_n dX8_obeys_42 rfl ?_
  refine q_getq dX8_obeys_43 f_P_50 ck_5 (by decide) ty_7_6 rf_5_6 ?_
  refine g_iload_n dX8_obeys_46 rfl ?_
  refine g_v1 (M' := KT_letter) dX8_obeys_47 l_P_294 v_KT_letter (c_KT_letter hk hl) rc_80 rfl rfl ⟨rfl, rfl⟩ ?_
  refine g_istore dX8_obeys_50 rfl ?_
  refine g_iload dX8_obeys_52 rfl ?_
  refine g_lsw (tgt := 254) dX8_obeys_54 (by decide +kernel) (by decide +kernel) ?_
  refine g_iload dX8_obeys_254 rfl ?_
  refine g_s1 (M' := KT_settingOf) dX8_obeys_256 l_P_297 s_KT_settingOf c_KT_settingOf_109 rfl rfl ⟨rfl, rfl⟩ ?_
  refine g_istore dX8_obeys_259 rfl ?_
  refine g_aload_n dX8_obeys_261 rfl ?_
  refine q_getq dX8_obeys_262 f_P_16 ck_5 (by decide) ty_7_1 rf_5_1 ?_
  refine g_iload dX8_obeys_265 rfl ?_
  refine g_iload_n dX8_obeys_267 rfl ?_
  refine g_v2 (M' := KL_againstSetting) dX8_obeys_268 l_P_65 v_KL_againstSetting (c_KL_againstSetting hB) (rcL LB_15) rfl rfl ⟨rfl, rfl⟩ ?_
  refine g_top (if_pos hi) ?_
  refine n_if_ne (tgt := 291) (by omega) dX8_obeys_271 rfl (fun zc271 => absurd zc271 (by decide)) (fun _ => ?_)
  refine g_aload_n dX8_obeys_274 rfl ?_
  refine q_getq dX8_obeys_275 f_P_16 ck_5 (by decide) ty_7_1 rf_5_1 ?_
  refine g_iload dX8_obeys_278 rfl ?_
  refine g_iload_n dX8_obeys_280 rfl ?_
  refine g_v2 (M' := KL_putSetting) dX8_obeys_281 l_P_68 v_KL_putSetting (c_KL_putSetting hB hR (by decide) (WF_set hW (by decide) hi)) (rcL LB_15) rfl rfl ⟨rfl, rfl⟩ ?_
  refine g_top (st_nI hW (by decide)) ?_
  refine n_if_lt (tgt := 291) (by omega) dX8_obeys_284 rfl (fun zc284 => ?_) (fun zc284 => ?_)
  · exact zc284.elim
  · refine g_iconst dX8_obeys_287 ic_1 ?_
    refine g_goto (tgt := 292) dX8_obeys_288 rfl ?_
    exact e_z1 dX8_obeys_292 rfl (by rfl) (by rfl)
set_option maxRecDepth 100000 in
set_option maxHeartbeats 200000 in
theorem c_KP_obeys_109n {σ : SI} {δ : SD} {a : Nat → Int32} {n : Nat} (hL : HL σ 15 a n) {v0 v1 v2 v3 : Int32} {k : Nat} (hk : k < 60) (g0 : σ 83 (k * 4 + 0) = v0) (g1 : σ 83 (k * 4 + 1) = v1) (g2 : σ 83 (k * 4 + 2) = v2) (g3 : σ 83 (k * 4 + 3) = v3) (hl : σ 82 k = nI 109) (hi : setOK (nI 0) v0 = false) : E KP_obeys [.ref 5, .int (nI k)] (HH σ δ) (some (.int (bI false))) (HH (σ) δ) := by
  have hW := hL.wf
  have hR := hL.rb
  have hD := hL.rd
  have hB := LB_15
  have hn8 := hW.n8
  have hwd := hW.wid
  have hhg := hW.hei
  refine E.ofL [some (.ref 5), some (.int (nI k))] rfl pn_RX8 rfl (fun sc => ?_)
  refine g_aload_n dX8_obeys_0 rfl ?_
  refine q_getq dX8_obeys_1 f_P_50 ck_5 (by decide) ty_7_6 rf_5_6 ?_
  refine g_iload_n dX8_obeys_4 rfl ?_
  refine g_iconst dX8_obeys_5 ic_0 ?_
  refine g_v2 (M' := KT_number) dX8_obeys_6 l_P_291 v_KT_number (c_KT_number hk (by decide) g0) rc_80 rfl rfl ⟨rfl, rfl⟩ ?_
  refine g_istore_n dX8_obeys_9 rfl ?_
  refine g_aload_n dX8_obeys_10 rfl ?_
  refine q_getq dX8_obeys_11 f_P_50 ck_5 (by decide) ty_7_6 rf_5_6 ?_
  refine g_iload_n dX8_obeys_14 rfl ?_
  refine g_iconst dX8_obeys_15 ic_1 ?_
  refine g_v2 (M' := KT_number) dX8_obeys_16 l_P_291 v_KT_number (c_KT_number hk (by decide) g1) rc_80 rfl rfl ⟨rfl, rfl⟩ ?_
  refine g_istore_n dX8_obeys_19 rfl ?_
  refine g_aload_n dX8_obeys_20 rfl ?_
  refine q_getq dX8_obeys_21 f_P_50 ck_5 (by decide) ty_7_6 rf_5_6 ?_
  refine g_iload_n dX8_obeys_24 rfl ?_
  refine g_iconst dX8_obeys_25 ic_2 ?_
  refine g_v2 (M' := KT_number) dX8_obeys_26 l_P_291 v_KT_number (c_KT_number hk (by decide) g2) rc_80 rfl rfl ⟨rfl, rfl⟩ ?_
  refine g_istore dX8_obeys_29 rfl ?_
  refine g_aload_n dX8_obeys_31 rfl ?_
  refine q_getq dX8_obeys_32 f_P_50 ck_5 (by decide) ty_7_6 rf_5_6 ?_
  refine g_iload_n dX8_obeys_35 rfl ?_
  refine g_iconst dX8_obeys_36 ic_3 ?_
  refine g_v2 (M' := KT_number) dX8_obeys_37 l_P_291 v_KT_number (c_KT_number hk (by decide) g3) rc_80 rfl rfl ⟨rfl, rfl⟩ ?_
  refine g_istore dX8_obeys_40 rfl ?_
  refine g_aload_n dX8_obeys_42 rfl ?_
  refine q_getq dX8_obeys_43 f_P_50 ck_5 (by decide) ty_7_6 rf_5_6 ?_
  refine g_iload_n dX8_obeys_46 rfl ?_
  refine g_v1 (M' := KT_letter) dX8_obeys_47 l_P_294 v_KT_letter (c_KT_letter hk hl) rc_80 rfl rfl ⟨rfl, rfl⟩ ?_
  refine g_istore dX8_obeys_50 rfl ?_
  refine g_iload dX8_obeys_52 rfl ?_
  refine g_lsw (tgt := 254) dX8_obeys_54 (by decide +kernel) (by decide +kernel) ?_
  refine g_iload dX8_obeys_254 rfl ?_
  refine g_s1 (M' := KT_settingOf) dX8_obeys_256 l_P_297 s_KT_settingOf c_KT_settingOf_109 rfl rfl ⟨rfl, rfl⟩ ?_
  refine g_istore dX8_obeys_259 rfl ?_
  refine g_aload_n dX8_obeys_261 rfl ?_
  refine q_getq dX8_obeys_262 f_P_16 ck_5 (by decide) ty_7_1 rf_5_1 ?_
  refine g_iload dX8_obeys_265 rfl ?_
  refine g_iload_n dX8_obeys_267 rfl ?_
  refine g_v2 (M' := KL_againstSetting) dX8_obeys_268 l_P_65 v_KL_againstSetting (c_KL_againstSetting hB) (rcL LB_15) rfl rfl ⟨rfl, rfl⟩ ?_
  refine g_top (if_neg (by rw [hi]; decide)) ?_
  refine g_if_ne (tgt := 291) dX8_obeys_271 rfl (fun zc271 => ?_) (fun zc271 => ?_)
  · refine g_iconst dX8_obeys_291 ic_0 ?_
    exact e_z0 dX8_obeys_292 rfl (by rfl) (by rfl)
  · exact absurd zc271 (by decide)
set_option maxRecDepth 100000 in
set_option maxHeartbeats 200000 in
theorem c_KP_obeys_103 {σ : SI} {δ : SD} {a : Nat → Int32} {n : Nat} (hL : HL σ 15 a n) {v0 v1 v2 v3 : Int32} {k : Nat} (hk : k < 60) (g0 : σ 83 (k * 4 + 0) = v0) (g1 : σ 83 (k * 4 + 1) = v1) (g2 : σ 83 (k * 4 + 2) = v2) (g3 : σ 83 (k * 4 + 3) = v3) (hl : σ 82 k = nI 103) (hi : setOK (nI 1) v0 = true) : E KP_obeys [.ref 5, .int (nI k)] (HH σ δ) (some (.int (bI true))) (HH (mea (uI σ 18 1 v0) 15 (upd a (2 + 1) v0) n) δ) := by
  have hW := hL.wf
  have hR := hL.rb
  have hD := hL.rd
  have hB := LB_15
  have hn8 := hW.n8
  have hwd := hW.wid
  have hhg := hW.hei
  have hsl := st_le hW (j := 1) (by decide)
  refine E.ofL [some (.ref 5), some (.int (nI k))] rfl pn_RX8 rfl (fun sc => ?_)
  refine g_aload_n dX8_obeys_0 rfl ?_
  refine q_getq dX8_obeys_1 f_P_50 ck_5 (by decide) ty_7_6 rf_5_6 ?_
  refine g_iload_n dX8_obeys_4 rfl ?_
  refine g_iconst dX8_obeys_5 ic_0 ?_
  refine g_v2 (M' := KT_number) dX8_obeys_6 l_P_291 v_KT_number (c_KT_number hk (by decide) g0) rc_80 rfl rfl ⟨rfl, rfl⟩ ?_
  refine g_istore_n dX8_obeys_9 rfl ?_
  refine g_aload_n dX8_obeys_10 rfl ?_
  refine q_getq dX8_obeys_11 f_P_50 ck_5 (by decide) ty_7_6 rf_5_6 ?_
  refine g_iload_n dX8_obeys_14 rfl ?_
  refine g_iconst dX8_obeys_15 ic_1 ?_
  refine g_v2 (M' := KT_number) dX8_obeys_16 l_P_291 v_KT_number (c_KT_number hk (by decide) g1) rc_80 rfl rfl ⟨rfl, rfl⟩ ?_
  refine g_istore_n dX8_obeys_19 rfl ?_
  refine g_aload_n dX8_obeys_20 rfl ?_
  refine q_getq dX8_obeys_21 f_P_50 ck_5 (by decide) ty_7_6 rf_5_6 ?_
  refine g_iload_n dX8_obeys_24 rfl ?_
  refine g_iconst dX8_obeys_25 ic_2 ?_
  refine g_v2 (M' := KT_number) dX8_obeys_26 l_P_291 v_KT_number (c_KT_number hk (by decide) g2) rc_80 rfl rfl ⟨rfl, rfl⟩ ?_
  refine g_istore dX8_obeys_29 rfl ?_
  refine g_aload_n dX8_obeys_31 rfl ?_
  refine q_getq dX8_obeys_32 f_P_50 ck_5 (by decide) ty_7_6 rf_5_6 ?_
  refine g_iload_n dX8_obeys_35 rfl ?_
  refine g_iconst dX8_obeys_36 ic_3 ?_
  refine g_v2 (M' := KT_number) dX8_obeys_37 l_P_291 v_KT_number (c_KT_number hk (by decide) g3) rc_80 rfl rfl ⟨rfl, rfl⟩ ?_
  refine g_istore dX8_obeys_40 rfl ?_
  refine g_aload_n dX8_obeys_42 rfl ?_
  refine q_getq dX8_obeys_43 f_P_50 ck_5 (by decide) ty_7_6 rf_5_6 ?_
  refine g_iload_n dX8_obeys_46 rfl ?_
  refine g_v1 (M' := KT_letter) dX8_obeys_47 l_P_294 v_KT_letter (c_KT_letter hk hl) rc_80 rfl rfl ⟨rfl, rfl⟩ ?_
  refine g_istore dX8_obeys_50 rfl ?_
  refine g_iload dX8_obeys_52 rfl ?_
  refine g_lsw (tgt := 254) dX8_obeys_54 (by decide +kernel) (by decide +kernel) ?_
  refine g_iload dX8_obeys_254 rfl ?_
  refine g_s1 (M' := KT_settingOf) dX8_obeys_256 l_P_297 s_KT_settingOf c_KT_settingOf_103 rfl rfl ⟨rfl, rfl⟩ ?_
  refine g_istore dX8_obeys_259 rfl ?_
  refine g_aload_n dX8_obeys_261 rfl ?_
  refine q_getq dX8_obeys_262 f_P_16 ck_5 (by decide) ty_7_1 rf_5_1 ?_
  refine g_iload dX8_obeys_265 rfl ?_
  refine g_iload_n dX8_obeys_267 rfl ?_
  refine g_v2 (M' := KL_againstSetting) dX8_obeys_268 l_P_65 v_KL_againstSetting (c_KL_againstSetting hB) (rcL LB_15) rfl rfl ⟨rfl, rfl⟩ ?_
  refine g_top (if_pos hi) ?_
  refine n_if_ne (tgt := 291) (by omega) dX8_obeys_271 rfl (fun zc271 => absurd zc271 (by decide)) (fun _ => ?_)
  refine g_aload_n dX8_obeys_274 rfl ?_
  refine q_getq dX8_obeys_275 f_P_16 ck_5 (by decide) ty_7_1 rf_5_1 ?_
  refine g_iload dX8_obeys_278 rfl ?_
  refine g_iload_n dX8_obeys_280 rfl ?_
  refine g_v2 (M' := KL_putSetting) dX8_obeys_281 l_P_68 v_KL_putSetting (c_KL_putSetting hB hR (by decide) (WF_set hW (by decide) hi)) (rcL LB_15) rfl rfl ⟨rfl, rfl⟩ ?_
  refine g_top (st_nI hW (by decide)) ?_
  refine n_if_lt (tgt := 291) (by omega) dX8_obeys_284 rfl (fun zc284 => ?_) (fun zc284 => ?_)
  · exact zc284.elim
  · refine g_iconst dX8_obeys_287 ic_1 ?_
    refine g_goto (tgt := 292) dX8_obeys_288 rfl ?_
    exact e_z1 dX8_obeys_292 rfl (by rfl) (by rfl)
set_option maxRecDepth 100000 in
set_option maxHeartbeats 200000 in
theorem c_KP_obeys_103n {σ : SI} {δ : SD} {a : Nat → Int32} {n : Nat} (hL : HL σ 15 a n) {v0 v1 v2 v3 : Int32} {k : Nat} (hk : k < 60) (g0 : σ 83 (k * 4 + 0) = v0) (g1 : σ 83 (k * 4 + 1) = v1) (g2 : σ 83 (k * 4 + 2) = v2) (g3 : σ 83 (k * 4 + 3) = v3) (hl : σ 82 k = nI 103) (hi : setOK (nI 1) v0 = false) : E KP_obeys [.ref 5, .int (nI k)] (HH σ δ) (some (.int (bI false))) (HH (σ) δ) := by
  have hW := hL.wf
  have hR := hL.rb
  have hD := hL.rd
  have hB := LB_15
  have hn8 := hW.n8
  have hwd := hW.wid
  have hhg := hW.hei
  refine E.ofL [some (.ref 5), some (.int (nI k))] rfl pn_RX8 rfl (fun sc => ?_)
  refine g_aload_n dX8_obeys_0 rfl ?_
  refine q_getq dX8_obeys_1 f_P_50 ck_5 (by decide) ty_7_6 rf_5_6 ?_
  refine g_iload_n dX8_obeys_4 rfl ?_
  refine g_iconst dX8_obeys_5 ic_0 ?_
  refine g_v2 (M' := KT_number) dX8_obeys_6 l_P_291 v_KT_number (c_KT_number hk (by decide) g0) rc_80 rfl rfl ⟨rfl, rfl⟩ ?_
  refine g_istore_n dX8_obeys_9 rfl ?_
  refine g_aload_n dX8_obeys_10 rfl ?_
  refine q_getq dX8_obeys_11 f_P_50 ck_5 (by decide) ty_7_6 rf_5_6 ?_
  refine g_iload_n dX8_obeys_14 rfl ?_
  refine g_iconst dX8_obeys_15 ic_1 ?_
  refine g_v2 (M' := KT_number) dX8_obeys_16 l_P_291 v_KT_number (c_KT_number hk (by decide) g1) rc_80 rfl rfl ⟨rfl, rfl⟩ ?_
  refine g_istore_n dX8_obeys_19 rfl ?_
  refine g_aload_n dX8_obeys_20 rfl ?_
  refine q_getq dX8_obeys_21 f_P_50 ck_5 (by decide) ty_7_6 rf_5_6 ?_
  refine g_iload_n dX8_obeys_24 rfl ?_
  refine g_iconst dX8_obeys_25 ic_2 ?_
  refine g_v2 (M' := KT_number) dX8_obeys_26 l_P_291 v_KT_number (c_KT_number hk (by decide) g2) rc_80 rfl rfl ⟨rfl, rfl⟩ ?_
  refine g_istore dX8_obeys_29 rfl ?_
  refine g_aload_n dX8_obeys_31 rfl ?_
  refine q_getq dX8_obeys_32 f_P_50 ck_5 (by decide) ty_7_6 rf_5_6 ?_
  refine g_iload_n dX8_obeys_35 rfl ?_
  refine g_iconst dX8_obeys_36 ic_3 ?_
  refine g_v2 (M' := KT_number) dX8_obeys_37 l_P_291 v_KT_number (c_KT_number hk (by decide) g3) rc_80 rfl rfl ⟨rfl, rfl⟩ ?_
  refine g_istore dX8_obeys_40 rfl ?_
  refine g_aload_n dX8_obeys_42 rfl ?_
  refine q_getq dX8_obeys_43 f_P_50 ck_5 (by decide) ty_7_6 rf_5_6 ?_
  refine g_iload_n dX8_obeys_46 rfl ?_
  refine g_v1 (M' := KT_letter) dX8_obeys_47 l_P_294 v_KT_letter (c_KT_letter hk hl) rc_80 rfl rfl ⟨rfl, rfl⟩ ?_
  refine g_istore dX8_obeys_50 rfl ?_
  refine g_iload dX8_obeys_52 rfl ?_
  refine g_lsw (tgt := 254) dX8_obeys_54 (by decide +kernel) (by decide +kernel) ?_
  refine g_iload dX8_obeys_254 rfl ?_
  refine g_s1 (M' := KT_settingOf) dX8_obeys_256 l_P_297 s_KT_settingOf c_KT_settingOf_103 rfl rfl ⟨rfl, rfl⟩ ?_
  refine g_istore dX8_obeys_259 rfl ?_
  refine g_aload_n dX8_obeys_261 rfl ?_
  refine q_getq dX8_obeys_262 f_P_16 ck_5 (by decide) ty_7_1 rf_5_1 ?_
  refine g_iload dX8_obeys_265 rfl ?_
  refine g_iload_n dX8_obeys_267 rfl ?_
  refine g_v2 (M' := KL_againstSetting) dX8_obeys_268 l_P_65 v_KL_againstSetting (c_KL_againstSetting hB) (rcL LB_15) rfl rfl ⟨rfl, rfl⟩ ?_
  refine g_top (if_neg (by rw [hi]; decide)) ?_
  refine g_if_ne (tgt := 291) dX8_obeys_271 rfl (fun zc271 => ?_) (fun zc271 => ?_)
  · refine g_iconst dX8_obeys_291 ic_0 ?_
    exact e_z0 dX8_obeys_292 rfl (by rfl) (by rfl)
  · exact absurd zc271 (by decide)
set_option maxRecDepth 100000 in
set_option maxHeartbeats 200000 in
theorem c_KP_obeys_98 {σ : SI} {δ : SD} {a : Nat → Int32} {n : Nat} (hL : HL σ 15 a n) {v0 v1 v2 v3 : Int32} {k : Nat} (hk : k < 60) (g0 : σ 83 (k * 4 + 0) = v0) (g1 : σ 83 (k * 4 + 1) = v1) (g2 : σ 83 (k * 4 + 2) = v2) (g3 : σ 83 (k * 4 + 3) = v3) (hl : σ 82 k = nI 98) (hi : setOK (nI 2) v0 = true) : E KP_obeys [.ref 5, .int (nI k)] (HH σ δ) (some (.int (bI true))) (HH (mea (uI σ 18 2 v0) 15 (upd a (2 + 2) v0) n) δ) := by
  have hW := hL.wf
  have hR := hL.rb
  have hD := hL.rd
  have hB := LB_15
  have hn8 := hW.n8
  have hwd := hW.wid
  have hhg := hW.hei
  have hsl := st_le hW (j := 2) (by decide)
  refine E.ofL [some (.ref 5), some (.int (nI k))] rfl pn_RX8 rfl (fun sc => ?_)
  refine g_aload_n dX8_obeys_0 rfl ?_
  refine q_getq dX8_obeys_1 f_P_50 ck_5 (by decide) ty_7_6 rf_5_6 ?_
  refine g_iload_n dX8_obeys_4 rfl ?_
  refine g_iconst dX8_obeys_5 ic_0 ?_
  refine g_v2 (M' := KT_number) dX8_obeys_6 l_P_291 v_KT_number (c_KT_number hk (by decide) g0) rc_80 rfl rfl ⟨rfl, rfl⟩ ?_
  refine g_istore_n dX8_obeys_9 rfl ?_
  refine g_aload_n dX8_obeys_10 rfl ?_
  refine q_getq dX8_obeys_11 f_P_50 ck_5 (by decide) ty_7_6 rf_5_6 ?_
  refine g_iload_n dX8_obeys_14 rfl ?_
  refine g_iconst dX8_obeys_15 ic_1 ?_
  refine g_v2 (M' := KT_number) dX8_obeys_16 l_P_291 v_KT_number (c_KT_number hk (by decide) g1) rc_80 rfl rfl ⟨rfl, rfl⟩ ?_
  refine g_istore_n dX8_obeys_19 rfl ?_
  refine g_aload_n dX8_obeys_20 rfl ?_
  refine q_getq dX8_obeys_21 f_P_50 ck_5 (by decide) ty_7_6 rf_5_6 ?_
  refine g_iload_n dX8_obeys_24 rfl ?_
  refine g_iconst dX8_obeys_25 ic_2 ?_
  refine g_v2 (M' := KT_number) dX8_obeys_26 l_P_291 v_KT_number (c_KT_number hk (by decide) g2) rc_80 rfl rfl ⟨rfl, rfl⟩ ?_
  refine g_istore dX8_obeys_29 rfl ?_
  refine g_aload_n dX8_obeys_31 rfl ?_
  refine q_getq dX8_obeys_32 f_P_50 ck_5 (by decide) ty_7_6 rf_5_6 ?_
  refine g_iload_n dX8_obeys_35 rfl ?_
  refine g_iconst dX8_obeys_36 ic_3 ?_
  refine g_v2 (M' := KT_number) dX8_obeys_37 l_P_291 v_KT_number (c_KT_number hk (by decide) g3) rc_80 rfl rfl ⟨rfl, rfl⟩ ?_
  refine g_istore dX8_obeys_40 rfl ?_
  refine g_aload_n dX8_obeys_42 rfl ?_
  refine q_getq dX8_obeys_43 f_P_50 ck_5 (by decide) ty_7_6 rf_5_6 ?_
  refine g_iload_n dX8_obeys_46 rfl ?_
  refine g_v1 (M' := KT_letter) dX8_obeys_47 l_P_294 v_KT_letter (c_KT_letter hk hl) rc_80 rfl rfl ⟨rfl, rfl⟩ ?_
  refine g_istore dX8_obeys_50 rfl ?_
  refine g_iload dX8_obeys_52 rfl ?_
  refine g_lsw (tgt := 254) dX8_obeys_54 (by decide +kernel) (by decide +kernel) ?_
  refine g_iload dX8_obeys_254 rfl ?_
  refine g_s1 (M' := KT_settingOf) dX8_obeys_256 l_P_297 s_KT_settingOf c_KT_settingOf_98 rfl rfl ⟨rfl, rfl⟩ ?_
  refine g_istore dX8_obeys_259 rfl ?_
  refine g_aload_n dX8_obeys_261 rfl ?_
  refine q_getq dX8_obeys_262 f_P_16 ck_5 (by decide) ty_7_1 rf_5_1 ?_
  refine g_iload dX8_obeys_265 rfl ?_
  refine g_iload_n dX8_obeys_267 rfl ?_
  refine g_v2 (M' := KL_againstSetting) dX8_obeys_268 l_P_65 v_KL_againstSetting (c_KL_againstSetting hB) (rcL LB_15) rfl rfl ⟨rfl, rfl⟩ ?_
  refine g_top (if_pos hi) ?_
  refine n_if_ne (tgt := 291) (by omega) dX8_obeys_271 rfl (fun zc271 => absurd zc271 (by decide)) (fun _ => ?_)
  refine g_aload_n dX8_obeys_274 rfl ?_
  refine q_getq dX8_obeys_275 f_P_16 ck_5 (by decide) ty_7_1 rf_5_1 ?_
  refine g_iload dX8_obeys_278 rfl ?_
  refine g_iload_n dX8_obeys_280 rfl ?_
  refine g_v2 (M' := KL_putSetting) dX8_obeys_281 l_P_68 v_KL_putSetting (c_KL_putSetting hB hR (by decide) (WF_set hW (by decide) hi)) (rcL LB_15) rfl rfl ⟨rfl, rfl⟩ ?_
  refine g_top (st_nI hW (by decide)) ?_
  refine n_if_lt (tgt := 291) (by omega) dX8_obeys_284 rfl (fun zc284 => ?_) (fun zc284 => ?_)
  · exact zc284.elim
  · refine g_iconst dX8_obeys_287 ic_1 ?_
    refine g_goto (tgt := 292) dX8_obeys_288 rfl ?_
    exact e_z1 dX8_obeys_292 rfl (by rfl) (by rfl)
set_option maxRecDepth 100000 in
set_option maxHeartbeats 200000 in
theorem c_KP_obeys_98n {σ : SI} {δ : SD} {a : Nat → Int32} {n : Nat} (hL : HL σ 15 a n) {v0 v1 v2 v3 : Int32} {k : Nat} (hk : k < 60) (g0 : σ 83 (k * 4 + 0) = v0) (g1 : σ 83 (k * 4 + 1) = v1) (g2 : σ 83 (k * 4 + 2) = v2) (g3 : σ 83 (k * 4 + 3) = v3) (hl : σ 82 k = nI 98) (hi : setOK (nI 2) v0 = false) : E KP_obeys [.ref 5, .int (nI k)] (HH σ δ) (some (.int (bI false))) (HH (σ) δ) := by
  have hW := hL.wf
  have hR := hL.rb
  have hD := hL.rd
  have hB := LB_15
  have hn8 := hW.n8
  have hwd := hW.wid
  have hhg := hW.hei
  refine E.ofL [some (.ref 5), some (.int (nI k))] rfl pn_RX8 rfl (fun sc => ?_)
  refine g_aload_n dX8_obeys_0 rfl ?_
  refine q_getq dX8_obeys_1 f_P_50 ck_5 (by decide) ty_7_6 rf_5_6 ?_
  refine g_iload_n dX8_obeys_4 rfl ?_
  refine g_iconst dX8_obeys_5 ic_0 ?_
  refine g_v2 (M' := KT_number) dX8_obeys_6 l_P_291 v_KT_number (c_KT_number hk (by decide) g0) rc_80 rfl rfl ⟨rfl, rfl⟩ ?_
  refine g_istore_n dX8_obeys_9 rfl ?_
  refine g_aload_n dX8_obeys_10 rfl ?_
  refine q_getq dX8_obeys_11 f_P_50 ck_5 (by decide) ty_7_6 rf_5_6 ?_
  refine g_iload_n dX8_obeys_14 rfl ?_
  refine g_iconst dX8_obeys_15 ic_1 ?_
  refine g_v2 (M' := KT_number) dX8_obeys_16 l_P_291 v_KT_number (c_KT_number hk (by decide) g1) rc_80 rfl rfl ⟨rfl, rfl⟩ ?_
  refine g_istore_n dX8_obeys_19 rfl ?_
  refine g_aload_n dX8_obeys_20 rfl ?_
  refine q_getq dX8_obeys_21 f_P_50 ck_5 (by decide) ty_7_6 rf_5_6 ?_
  refine g_iload_n dX8_obeys_24 rfl ?_
  refine g_iconst dX8_obeys_25 ic_2 ?_
  refine g_v2 (M' := KT_number) dX8_obeys_26 l_P_291 v_KT_number (c_KT_number hk (by decide) g2) rc_80 rfl rfl ⟨rfl, rfl⟩ ?_
  refine g_istore dX8_obeys_29 rfl ?_
  refine g_aload_n dX8_obeys_31 rfl ?_
  refine q_getq dX8_obeys_32 f_P_50 ck_5 (by decide) ty_7_6 rf_5_6 ?_
  refine g_iload_n dX8_obeys_35 rfl ?_
  refine g_iconst dX8_obeys_36 ic_3 ?_
  refine g_v2 (M' := KT_number) dX8_obeys_37 l_P_291 v_KT_number (c_KT_number hk (by decide) g3) rc_80 rfl rfl ⟨rfl, rfl⟩ ?_
  refine g_istore dX8_obeys_40 rfl ?_
  refine g_aload_n dX8_obeys_42 rfl ?_
  refine q_getq dX8_obeys_43 f_P_50 ck_5 (by decide) ty_7_6 rf_5_6 ?_
  refine g_iload_n dX8_obeys_46 rfl ?_
  refine g_v1 (M' := KT_letter) dX8_obeys_47 l_P_294 v_KT_letter (c_KT_letter hk hl) rc_80 rfl rfl ⟨rfl, rfl⟩ ?_
  refine g_istore dX8_obeys_50 rfl ?_
  refine g_iload dX8_obeys_52 rfl ?_
  refine g_lsw (tgt := 254) dX8_obeys_54 (by decide +kernel) (by decide +kernel) ?_
  refine g_iload dX8_obeys_254 rfl ?_
  refine g_s1 (M' := KT_settingOf) dX8_obeys_256 l_P_297 s_KT_settingOf c_KT_settingOf_98 rfl rfl ⟨rfl, rfl⟩ ?_
  refine g_istore dX8_obeys_259 rfl ?_
  refine g_aload_n dX8_obeys_261 rfl ?_
  refine q_getq dX8_obeys_262 f_P_16 ck_5 (by decide) ty_7_1 rf_5_1 ?_
  refine g_iload dX8_obeys_265 rfl ?_
  refine g_iload_n dX8_obeys_267 rfl ?_
  refine g_v2 (M' := KL_againstSetting) dX8_obeys_268 l_P_65 v_KL_againstSetting (c_KL_againstSetting hB) (rcL LB_15) rfl rfl ⟨rfl, rfl⟩ ?_
  refine g_top (if_neg (by rw [hi]; decide)) ?_
  refine g_if_ne (tgt := 291) dX8_obeys_271 rfl (fun zc271 => ?_) (fun zc271 => ?_)
  · refine g_iconst dX8_obeys_291 ic_0 ?_
    exact e_z0 dX8_obeys_292 rfl (by rfl) (by rfl)
  · exact absurd zc271 (by decide)
set_option maxRecDepth 100000 in
set_option maxHeartbeats 200000 in
theorem c_KP_obeys_114 {σ : SI} {δ : SD} {a : Nat → Int32} {n : Nat} (hL : HL σ 15 a n) {v0 v1 v2 v3 : Int32} {k : Nat} (hk : k < 60) (g0 : σ 83 (k * 4 + 0) = v0) (g1 : σ 83 (k * 4 + 1) = v1) (g2 : σ 83 (k * 4 + 2) = v2) (g3 : σ 83 (k * 4 + 3) = v3) (hl : σ 82 k = nI 114) (hi : setOK (nI 3) v0 = true) : E KP_obeys [.ref 5, .int (nI k)] (HH σ δ) (some (.int (bI true))) (HH (mea (uI σ 18 3 v0) 15 (upd a (2 + 3) v0) n) δ) := by
  have hW := hL.wf
  have hR := hL.rb
  have hD := hL.rd
  have hB := LB_15
  have hn8 := hW.n8
  have hwd := hW.wid
  have hhg := hW.hei
  have hsl := st_le hW (j := 3) (by decide)
  refine E.ofL [some (.ref 5), some (.int (nI k))] rfl pn_RX8 rfl (fun sc => ?_)
  refine g_aload_n dX8_obeys_0 rfl ?_
  refine q_getq dX8_obeys_1 f_P_50 ck_5 (by decide) ty_7_6 rf_5_6 ?_
  refine g_iload_n dX8_obeys_4 rfl ?_
  refine g_iconst dX8_obeys_5 ic_0 ?_
  refine g_v2 (M' := KT_number) dX8_obeys_6 l_P_291 v_KT_number (c_KT_number hk (by decide) g0) rc_80 rfl rfl ⟨rfl, rfl⟩ ?_
  refine g_istore_n dX8_obeys_9 rfl ?_
  refine g_aload_n dX8_obeys_10 rfl ?_
  refine q_getq dX8_obeys_11 f_P_50 ck_5 (by decide) ty_7_6 rf_5_6 ?_
  refine g_iload_n dX8_obeys_14 rfl ?_
  refine g_iconst dX8_obeys_15 ic_1 ?_
  refine g_v2 (M' := KT_number) dX8_obeys_16 l_P_291 v_KT_number (c_KT_number hk (by decide) g1) rc_80 rfl rfl ⟨rfl, rfl⟩ ?_
  refine g_istore_n dX8_obeys_19 rfl ?_
  refine g_aload_n dX8_obeys_20 rfl ?_
  refine q_getq dX8_obeys_21 f_P_50 ck_5 (by decide) ty_7_6 rf_5_6 ?_
  refine g_iload_n dX8_obeys_24 rfl ?_
  refine g_iconst dX8_obeys_25 ic_2 ?_
  refine g_v2 (M' := KT_number) dX8_obeys_26 l_P_291 v_KT_number (c_KT_number hk (by decide) g2) rc_80 rfl rfl ⟨rfl, rfl⟩ ?_
  refine g_istore dX8_obeys_29 rfl ?_
  refine g_aload_n dX8_obeys_31 rfl ?_
  refine q_getq dX8_obeys_32 f_P_50 ck_5 (by decide) ty_7_6 rf_5_6 ?_
  refine g_iload_n dX8_obeys_35 rfl ?_
  refine g_iconst dX8_obeys_36 ic_3 ?_
  refine g_v2 (M' := KT_number) dX8_obeys_37 l_P_291 v_KT_number (c_KT_number hk (by decide) g3) rc_80 rfl rfl ⟨rfl, rfl⟩ ?_
  refine g_istore dX8_obeys_40 rfl ?_
  refine g_aload_n dX8_obeys_42 rfl ?_
  refine q_getq dX8_obeys_43 f_P_50 ck_5 (by decide) ty_7_6 rf_5_6 ?_
  refine g_iload_n dX8_obeys_46 rfl ?_
  refine g_v1 (M' := KT_letter) dX8_obeys_47 l_P_294 v_KT_letter (c_KT_letter hk hl) rc_80 rfl rfl ⟨rfl, rfl⟩ ?_
  refine g_istore dX8_obeys_50 rfl ?_
  refine g_iload dX8_obeys_52 rfl ?_
  refine g_lsw (tgt := 254) dX8_obeys_54 (by decide +kernel) (by decide +kernel) ?_
  refine g_iload dX8_obeys_254 rfl ?_
  refine g_s1 (M' := KT_settingOf) dX8_obeys_256 l_P_297 s_KT_settingOf c_KT_settingOf_114 rfl rfl ⟨rfl, rfl⟩ ?_
  refine g_istore dX8_obeys_259 rfl ?_
  refine g_aload_n dX8_obeys_261 rfl ?_
  refine q_getq dX8_obeys_262 f_P_16 ck_5 (by decide) ty_7_1 rf_5_1 ?_
  refine g_iload dX8_obeys_265 rfl ?_
  refine g_iload_n dX8_obeys_267 rfl ?_
  refine g_v2 (M' := KL_againstSetting) dX8_obeys_268 l_P_65 v_KL_againstSetting (c_KL_againstSetting hB) (rcL LB_15) rfl rfl ⟨rfl, rfl⟩ ?_
  refine g_top (if_pos hi) ?_
  refine n_if_ne (tgt := 291) (by omega) dX8_obeys_271 rfl (fun zc271 => absurd zc271 (by decide)) (fun _ => ?_)
  refine g_aload_n dX8_obeys_274 rfl ?_
  refine q_getq dX8_obeys_275 f_P_16 ck_5 (by decide) ty_7_1 rf_5_1 ?_
  refine g_iload dX8_obeys_278 rfl ?_
  refine g_iload_n dX8_obeys_280 rfl ?_
  refine g_v2 (M' := KL_putSetting) dX8_obeys_281 l_P_68 v_KL_putSetting (c_KL_putSetting hB hR (by decide) (WF_set hW (by decide) hi)) (rcL LB_15) rfl rfl ⟨rfl, rfl⟩ ?_
  refine g_top (st_nI hW (by decide)) ?_
  refine n_if_lt (tgt := 291) (by omega) dX8_obeys_284 rfl (fun zc284 => ?_) (fun zc284 => ?_)
  · exact zc284.elim
  · refine g_iconst dX8_obeys_287 ic_1 ?_
    refine g_goto (tgt := 292) dX8_obeys_288 rfl ?_
    exact e_z1 dX8_obeys_292 rfl (by rfl) (by rfl)
set_option maxRecDepth 100000 in
set_option maxHeartbeats 200000 in
theorem c_KP_obeys_114n {σ : SI} {δ : SD} {a : Nat → Int32} {n : Nat} (hL : HL σ 15 a n) {v0 v1 v2 v3 : Int32} {k : Nat} (hk : k < 60) (g0 : σ 83 (k * 4 + 0) = v0) (g1 : σ 83 (k * 4 + 1) = v1) (g2 : σ 83 (k * 4 + 2) = v2) (g3 : σ 83 (k * 4 + 3) = v3) (hl : σ 82 k = nI 114) (hi : setOK (nI 3) v0 = false) : E KP_obeys [.ref 5, .int (nI k)] (HH σ δ) (some (.int (bI false))) (HH (σ) δ) := by
  have hW := hL.wf
  have hR := hL.rb
  have hD := hL.rd
  have hB := LB_15
  have hn8 := hW.n8
  have hwd := hW.wid
  have hhg := hW.hei
  refine E.ofL [some (.ref 5), some (.int (nI k))] rfl pn_RX8 rfl (fun sc => ?_)
  refine g_aload_n dX8_obeys_0 rfl ?_
  refine q_getq dX8_obeys_1 f_P_50 ck_5 (by decide) ty_7_6 rf_5_6 ?_
  refine g_iload_n dX8_obeys_4 rfl ?_
  refine g_iconst dX8_obeys_5 ic_0 ?_
  refine g_v2 (M' := KT_number) dX8_obeys_6 l_P_291 v_KT_number (c_KT_number hk (by decide) g0) rc_80 rfl rfl ⟨rfl, rfl⟩ ?_
  refine g_istore_n dX8_obeys_9 rfl ?_
  refine g_aload_n dX8_obeys_10 rfl ?_
  refine q_getq dX8_obeys_11 f_P_50 ck_5 (by decide) ty_7_6 rf_5_6 ?_
  refine g_iload_n dX8_obeys_14 rfl ?_
  refine g_iconst dX8_obeys_15 ic_1 ?_
  refine g_v2 (M' := KT_number) dX8_obeys_16 l_P_291 v_KT_number (c_KT_number hk (by decide) g1) rc_80 rfl rfl ⟨rfl, rfl⟩ ?_
  refine g_istore_n dX8_obeys_19 rfl ?_
  refine g_aload_n dX8_obeys_20 rfl ?_
  refine q_getq dX8_obeys_21 f_P_50 ck_5 (by decide) ty_7_6 rf_5_6 ?_
  refine g_iload_n dX8_obeys_24 rfl ?_
  refine g_iconst dX8_obeys_25 ic_2 ?_
  refine g_v2 (M' := KT_number) dX8_obeys_26 l_P_291 v_KT_number (c_KT_number hk (by decide) g2) rc_80 rfl rfl ⟨rfl, rfl⟩ ?_
  refine g_istore dX8_obeys_29 rfl ?_
  refine g_aload_n dX8_obeys_31 rfl ?_
  refine q_getq dX8_obeys_32 f_P_50 ck_5 (by decide) ty_7_6 rf_5_6 ?_
  refine g_iload_n dX8_obeys_35 rfl ?_
  refine g_iconst dX8_obeys_36 ic_3 ?_
  refine g_v2 (M' := KT_number) dX8_obeys_37 l_P_291 v_KT_number (c_KT_number hk (by decide) g3) rc_80 rfl rfl ⟨rfl, rfl⟩ ?_
  refine g_istore dX8_obeys_40 rfl ?_
  refine g_aload_n dX8_obeys_42 rfl ?_
  refine q_getq dX8_obeys_43 f_P_50 ck_5 (by decide) ty_7_6 rf_5_6 ?_
  refine g_iload_n dX8_obeys_46 rfl ?_
  refine g_v1 (M' := KT_letter) dX8_obeys_47 l_P_294 v_KT_letter (c_KT_letter hk hl) rc_80 rfl rfl ⟨rfl, rfl⟩ ?_
  refine g_istore dX8_obeys_50 rfl ?_
  refine g_iload dX8_obeys_52 rfl ?_
  refine g_lsw (tgt := 254) dX8_obeys_54 (by decide +kernel) (by decide +kernel) ?_
  refine g_iload dX8_obeys_254 rfl ?_
  refine g_s1 (M' := KT_settingOf) dX8_obeys_256 l_P_297 s_KT_settingOf c_KT_settingOf_114 rfl rfl ⟨rfl, rfl⟩ ?_
  refine g_istore dX8_obeys_259 rfl ?_
  refine g_aload_n dX8_obeys_261 rfl ?_
  refine q_getq dX8_obeys_262 f_P_16 ck_5 (by decide) ty_7_1 rf_5_1 ?_
  refine g_iload dX8_obeys_265 rfl ?_
  refine g_iload_n dX8_obeys_267 rfl ?_
  refine g_v2 (M' := KL_againstSetting) dX8_obeys_268 l_P_65 v_KL_againstSetting (c_KL_againstSetting hB) (rcL LB_15) rfl rfl ⟨rfl, rfl⟩ ?_
  refine g_top (if_neg (by rw [hi]; decide)) ?_
  refine g_if_ne (tgt := 291) dX8_obeys_271 rfl (fun zc271 => ?_) (fun zc271 => ?_)
  · refine g_iconst dX8_obeys_291 ic_0 ?_
    exact e_z0 dX8_obeys_292 rfl (by rfl) (by rfl)
  · exact absurd zc271 (by decide)
set_option maxRecDepth 100000 in
set_option maxHeartbeats 200000 in
theorem c_KP_obeys_99 {σ : SI} {δ : SD} {a : Nat → Int32} {n : Nat} (hL : HL σ 15 a n) {v0 v1 v2 v3 : Int32} {k : Nat} (hk : k < 60) (g0 : σ 83 (k * 4 + 0) = v0) (g1 : σ 83 (k * 4 + 1) = v1) (g2 : σ 83 (k * 4 + 2) = v2) (g3 : σ 83 (k * 4 + 3) = v3) (hl : σ 82 k = nI 99) (hi : setOK (nI 4) v0 = true) : E KP_obeys [.ref 5, .int (nI k)] (HH σ δ) (some (.int (bI true))) (HH (mea (uI σ 18 4 v0) 15 (upd a (2 + 4) v0) n) δ) := by
  have hW := hL.wf
  have hR := hL.rb
  have hD := hL.rd
  have hB := LB_15
  have hn8 := hW.n8
  have hwd := hW.wid
  have hhg := hW.hei
  have hsl := st_le hW (j := 4) (by decide)
  refine E.ofL [some (.ref 5), some (.int (nI k))] rfl pn_RX8 rfl (fun sc => ?_)
  refine g_aload_n dX8_obeys_0 rfl ?_
  refine q_getq dX8_obeys_1 f_P_50 ck_5 (by decide) ty_7_6 rf_5_6 ?_
  refine g_iload_n dX8_obeys_4 rfl ?_
  refine g_iconst dX8_obeys_5 ic_0 ?_
  refine g_v2 (M' := KT_number) dX8_obeys_6 l_P_291 v_KT_number (c_KT_number hk (by decide) g0) rc_80 rfl rfl ⟨rfl, rfl⟩ ?_
  refine g_istore_n dX8_obeys_9 rfl ?_
  refine g_aload_n dX8_obeys_10 rfl ?_
  refine q_getq dX8_obeys_11 f_P_50 ck_5 (by decide) ty_7_6 rf_5_6 ?_
  refine g_iload_n dX8_obeys_14 rfl ?_
  refine g_iconst dX8_obeys_15 ic_1 ?_
  refine g_v2 (M' := KT_number) dX8_obeys_16 l_P_291 v_KT_number (c_KT_number hk (by decide) g1) rc_80 rfl rfl ⟨rfl, rfl⟩ ?_
  refine g_istore_n dX8_obeys_19 rfl ?_
  refine g_aload_n dX8_obeys_20 rfl ?_
  refine q_getq dX8_obeys_21 f_P_50 ck_5 (by decide) ty_7_6 rf_5_6 ?_
  refine g_iload_n dX8_obeys_24 rfl ?_
  refine g_iconst dX8_obeys_25 ic_2 ?_
  refine g_v2 (M' := KT_number) dX8_obeys_26 l_P_291 v_KT_number (c_KT_number hk (by decide) g2) rc_80 rfl rfl ⟨rfl, rfl⟩ ?_
  refine g_istore dX8_obeys_29 rfl ?_
  refine g_aload_n dX8_obeys_31 rfl ?_
  refine q_getq dX8_obeys_32 f_P_50 ck_5 (by decide) ty_7_6 rf_5_6 ?_
  refine g_iload_n dX8_obeys_35 rfl ?_
  refine g_iconst dX8_obeys_36 ic_3 ?_
  refine g_v2 (M' := KT_number) dX8_obeys_37 l_P_291 v_KT_number (c_KT_number hk (by decide) g3) rc_80 rfl rfl ⟨rfl, rfl⟩ ?_
  refine g_istore dX8_obeys_40 rfl ?_
  refine g_aload_n dX8_obeys_42 rfl ?_
  refine q_getq dX8_obeys_43 f_P_50 ck_5 (by decide) ty_7_6 rf_5_6 ?_
  refine g_iload_n dX8_obeys_46 rfl ?_
  refine g_v1 (M' := KT_letter) dX8_obeys_47 l_P_294 v_KT_letter (c_KT_letter hk hl) rc_80 rfl rfl ⟨rfl, rfl⟩ ?_
  refine g_istore dX8_obeys_50 rfl ?_
  refine g_iload dX8_obeys_52 rfl ?_
  refine g_lsw (tgt := 254) dX8_obeys_54 (by decide +kernel) (by decide +kernel) ?_
  refine g_iload dX8_obeys_254 rfl ?_
  refine g_s1 (M' := KT_settingOf) dX8_obeys_256 l_P_297 s_KT_settingOf c_KT_settingOf_99 rfl rfl ⟨rfl, rfl⟩ ?_
  refine g_istore dX8_obeys_259 rfl ?_
  refine g_aload_n dX8_obeys_261 rfl ?_
  refine q_getq dX8_obeys_262 f_P_16 ck_5 (by decide) ty_7_1 rf_5_1 ?_
  refine g_iload dX8_obeys_265 rfl ?_
  refine g_iload_n dX8_obeys_267 rfl ?_
  refine g_v2 (M' := KL_againstSetting) dX8_obeys_268 l_P_65 v_KL_againstSetting (c_KL_againstSetting hB) (rcL LB_15) rfl rfl ⟨rfl, rfl⟩ ?_
  refine g_top (if_pos hi) ?_
  refine n_if_ne (tgt := 291) (by omega) dX8_obeys_271 rfl (fun zc271 => absurd zc271 (by decide)) (fun _ => ?_)
  refine g_aload_n dX8_obeys_274 rfl ?_
  refine q_getq dX8_obeys_275 f_P_16 ck_5 (by decide) ty_7_1 rf_5_1 ?_
  refine g_iload dX8_obeys_278 rfl ?_
  refine g_iload_n dX8_obeys_280 rfl ?_
  refine g_v2 (M' := KL_putSetting) dX8_obeys_281 l_P_68 v_KL_putSetting (c_KL_putSetting hB hR (by decide) (WF_set hW (by decide) hi)) (rcL LB_15) rfl rfl ⟨rfl, rfl⟩ ?_
  refine g_top (st_nI hW (by decide)) ?_
  refine n_if_lt (tgt := 291) (by omega) dX8_obeys_284 rfl (fun zc284 => ?_) (fun zc284 => ?_)
  · exact zc284.elim
  · refine g_iconst dX8_obeys_287 ic_1 ?_
    refine g_goto (tgt := 292) dX8_obeys_288 rfl ?_
    exact e_z1 dX8_obeys_292 rfl (by rfl) (by rfl)
set_option maxRecDepth 100000 in
set_option maxHeartbeats 200000 in
theorem c_KP_obeys_99n {σ : SI} {δ : SD} {a : Nat → Int32} {n : Nat} (hL : HL σ 15 a n) {v0 v1 v2 v3 : Int32} {k : Nat} (hk : k < 60) (g0 : σ 83 (k * 4 + 0) = v0) (g1 : σ 83 (k * 4 + 1) = v1) (g2 : σ 83 (k * 4 + 2) = v2) (g3 : σ 83 (k * 4 + 3) = v3) (hl : σ 82 k = nI 99) (hi : setOK (nI 4) v0 = false) : E KP_obeys [.ref 5, .int (nI k)] (HH σ δ) (some (.int (bI false))) (HH (σ) δ) := by
  have hW := hL.wf
  have hR := hL.rb
  have hD := hL.rd
  have hB := LB_15
  have hn8 := hW.n8
  have hwd := hW.wid
  have hhg := hW.hei
  refine E.ofL [some (.ref 5), some (.int (nI k))] rfl pn_RX8 rfl (fun sc => ?_)
  refine g_aload_n dX8_obeys_0 rfl ?_
  refine q_getq dX8_obeys_1 f_P_50 ck_5 (by decide) ty_7_6 rf_5_6 ?_
  refine g_iload_n dX8_obeys_4 rfl ?_
  refine g_iconst dX8_obeys_5 ic_0 ?_
  refine g_v2 (M' := KT_number) dX8_obeys_6 l_P_291 v_KT_number (c_KT_number hk (by decide) g0) rc_80 rfl rfl ⟨rfl, rfl⟩ ?_
  refine g_istore_n dX8_obeys_9 rfl ?_
  refine g_aload_n dX8_obeys_10 rfl ?_
  refine q_getq dX8_obeys_11 f_P_50 ck_5 (by decide) ty_7_6 rf_5_6 ?_
  refine g_iload_n dX8_obeys_14 rfl ?_
  refine g_iconst dX8_obeys_15 ic_1 ?_
  refine g_v2 (M' := KT_number) dX8_obeys_16 l_P_291 v_KT_number (c_KT_number hk (by decide) g1) rc_80 rfl rfl ⟨rfl, rfl⟩ ?_
  refine g_istore_n dX8_obeys_19 rfl ?_
  refine g_aload_n dX8_obeys_20 rfl ?_
  refine q_getq dX8_obeys_21 f_P_50 ck_5 (by decide) ty_7_6 rf_5_6 ?_
  refine g_iload_n dX8_obeys_24 rfl ?_
  refine g_iconst dX8_obeys_25 ic_2 ?_
  refine g_v2 (M' := KT_number) dX8_obeys_26 l_P_291 v_KT_number (c_KT_number hk (by decide) g2) rc_80 rfl rfl ⟨rfl, rfl⟩ ?_
  refine g_istore dX8_obeys_29 rfl ?_
  refine g_aload_n dX8_obeys_31 rfl ?_
  refine q_getq dX8_obeys_32 f_P_50 ck_5 (by decide) ty_7_6 rf_5_6 ?_
  refine g_iload_n dX8_obeys_35 rfl ?_
  refine g_iconst dX8_obeys_36 ic_3 ?_
  refine g_v2 (M' := KT_number) dX8_obeys_37 l_P_291 v_KT_number (c_KT_number hk (by decide) g3) rc_80 rfl rfl ⟨rfl, rfl⟩ ?_
  refine g_istore dX8_obeys_40 rfl ?_
  refine g_aload_n dX8_obeys_42 rfl ?_
  refine q_getq dX8_obeys_43 f_P_50 ck_5 (by decide) ty_7_6 rf_5_6 ?_
  refine g_iload_n dX8_obeys_46 rfl ?_
  refine g_v1 (M' := KT_letter) dX8_obeys_47 l_P_294 v_KT_letter (c_KT_letter hk hl) rc_80 rfl rfl ⟨rfl, rfl⟩ ?_
  refine g_istore dX8_obeys_50 rfl ?_
  refine g_iload dX8_obeys_52 rfl ?_
  refine g_lsw (tgt := 254) dX8_obeys_54 (by decide +kernel) (by decide +kernel) ?_
  refine g_iload dX8_obeys_254 rfl ?_
  refine g_s1 (M' := KT_settingOf) dX8_obeys_256 l_P_297 s_KT_settingOf c_KT_settingOf_99 rfl rfl ⟨rfl, rfl⟩ ?_
  refine g_istore dX8_obeys_259 rfl ?_
  refine g_aload_n dX8_obeys_261 rfl ?_
  refine q_getq dX8_obeys_262 f_P_16 ck_5 (by decide) ty_7_1 rf_5_1 ?_
  refine g_iload dX8_obeys_265 rfl ?_
  refine g_iload_n dX8_obeys_267 rfl ?_
  refine g_v2 (M' := KL_againstSetting) dX8_obeys_268 l_P_65 v_KL_againstSetting (c_KL_againstSetting hB) (rcL LB_15) rfl rfl ⟨rfl, rfl⟩ ?_
  refine g_top (if_neg (by rw [hi]; decide)) ?_
  refine g_if_ne (tgt := 291) dX8_obeys_271 rfl (fun zc271 => ?_) (fun zc271 => ?_)
  · refine g_iconst dX8_obeys_291 ic_0 ?_
    exact e_z0 dX8_obeys_292 rfl (by rfl) (by rfl)
  · exact absurd zc271 (by decide)
