/-! CONTRACTS: calls that change the layout, both sides -/
theorem zuI_row {σ : SI} {c k : Nat} {v : Int32} : uI σ c k v c = upd (σ c) k v := by
  funext b
  by_cases h : b = k
  · subst h; rw [uI_same, upd_s]
  · rw [uI_oth (by omega), upd_n h]
def mItem (σ : SI) (n : Nat) (so r c b : Int32) : SI := uI (uI (uI (uI (uI (uI (uI σ 85 (8 + 6 * n + 0) so) 85 (8 + 6 * n + 1) r) 85 (8 + 6 * n + 2) c) 85 (8 + 6 * n + 3) b) 85 (8 + 6 * n + 4) (-1)) 85 (8 + 6 * n + 5) (-1)) 85 7 (nI (n + 1))
theorem it_7 {σ : SI} {n : Nat} {so r c b : Int32} (h7 : σ 85 7 = nI n) : uI (uI (uI (uI (uI (uI σ 85 (8 + 6 * n + 0) so) 85 (8 + 6 * n + 1) r) 85 (8 + 6 * n + 2) c) 85 (8 + 6 * n + 3) b) 85 (8 + 6 * n + 4) (-1)) 85 (8 + 6 * n + 5) (-1) 85 7 = nI n := by
  rw [uI_oth (by omega), uI_oth (by omega), uI_oth (by omega), uI_oth (by omega), uI_oth (by omega), uI_oth (by omega)]; exact h7
theorem mItem_row {σ : SI} {n : Nat} {so r c b : Int32} : mItem σ n so r c b 85 = aItem (σ 85) n so r c b := by
  unfold mItem aItem
  simp only [zuI_row]
def mLay (σ : SI) (k : Nat) (x y : Int32) : SI := uI (uI σ 85 (8 + 6 * k + 4) x) 85 (8 + 6 * k + 5) y
theorem mLay_row {σ : SI} {k : Nat} {x y : Int32} : mLay σ k x y 85 = aLay (σ 85) k x y := by
  unfold mLay aLay
  simp only [zuI_row]
def mSwap (σ : SI) (a : Nat → Int32) (i k : Nat) : SI := mLay (mLay σ i (its a k 4) (its a k 5)) k (its a i 4) (its a i 5)
theorem mSwap_row {σ : SI} {a : Nat → Int32} {i k : Nat} : mSwap σ a i k 85 = aLay (aLay (σ 85) i (its a k 4) (its a k 5)) k (its a i 4) (its a i 5) := by
  unfold mSwap
  rw [mLay_row, mLay_row]
def mDrop (σ : SI) (n k : Nat) : SI := uI (uR σ 85 (va_cpy (σ 85) (σ 85) (8 + 6 * k + 6) (8 + 6 * k) (6 * (n - 1 - k)))) 85 7 (nI (n - 1))
theorem mDrop_row {σ : SI} {n k : Nat} (hk : k < n) : mDrop σ n k 85 = aDrop (σ 85) n k := by
  funext j
  unfold mDrop aDrop
  by_cases h : j = 7
  · rw [if_pos h, h, uI_same]
  · rw [uI_oth (by omega), uR_eq, if_neg h]
    by_cases h2 : 8 + 6 * k ≤ j ∧ j < 8 + 6 * (n - 1)
    · rw [if_pos h2, pk_cpy_in (by omega) (by omega)]; congr 1; omega
    · rw [if_neg h2, pk_cpy_out (by omega)]
set_option maxRecDepth 100000 in
theorem c_KP_sheet_ok {σ : SI} {δ : SD} {a : Nat → Int32} {n s o tl : Nat} {P : Nat → Nat → Int32} {tx rf : Nat → Int32} (hI : IC σ a n s o P tl tx rf) {w h : Int32} (hk : sheetOK w h = true) : E KP_sheet [.ref 5, .int w, .int h] (HH σ δ) (some (.int (nI 100 * a 0 + a 1))) (HH (mea (uI (uI (sPush σ s o) 6 0 w) 6 1 h) 6 (upd (upd a 0 w) 1 h) n) δ) := by
  have hI1 := hI.push
  have hW := hI.hl.wf
  have hR := hI.hl.rb
  have hD := hI.hl.rd
  have h2 := hR.c
  have h8 := hW.n8
  have hB := LB_6
  refine E.ofL [some (.ref 5), some (.int w), some (.int h)] rfl pn_RX8 rfl (fun sc => ?_)
  refine g_aload_n dX8_sheet_0 rfl ?_
  refine q_getq dX8_sheet_1 f_P_12 ck_5 (by decide) ty_7_0 rf_5_0 ?_
  refine g_iload_n dX8_sheet_4 rfl ?_
  refine g_iload_n dX8_sheet_5 rfl ?_
  refine g_v2 (M' := KL_againstSize) dX8_sheet_6 l_P_54 v_KL_againstSize (c_KL_againstSize LB_6) (rcL LB_6) rfl rfl ⟨rfl, rfl⟩ ?_
  refine g_top (if_pos hk) ?_
  refine g_istore_n dX8_sheet_9 rfl ?_
  refine g_aload_n dX8_sheet_10 rfl ?_
  refine g_iload_n dX8_sheet_11 rfl ?_
  refine g_v1 (M' := KP_mayChange) dX8_sheet_12 l_P_58 v_KP_mayChange (c_KP_mayChange0 hI) rc_5 rfl rfl ⟨rfl, rfl⟩ ?_
  refine b_if_eq (tgt := 30) dX8_sheet_15 rfl (fun zc15 => ?_) (fun zc15 => ?_)
  · exact absurd zc15 (by decide)
  · refine g_aload_n dX8_sheet_18 rfl ?_
    refine q_getq dX8_sheet_19 f_P_12 ck_5 (by decide) ty_7_0 rf_5_0 ?_
    refine g_iload_n dX8_sheet_22 rfl ?_
    refine g_iload_n dX8_sheet_23 rfl ?_
    refine g_v2 (M' := KL_resize) dX8_sheet_24 l_P_62 v_KL_resize (c_KL_resize LB_6 hI1.hl.rb (WF_size hW hk)) (rcL LB_6) rfl rfl ⟨rfl, rfl⟩ ?_
    refine g_goto (tgt := 31) dX8_sheet_27 rfl ?_
    exact e_iret dX8_sheet_31 rfl (by rfl) (by rfl)
set_option maxRecDepth 100000 in
theorem c_KP_sheet_no2 {σ : SI} {δ : SD} {a : Nat → Int32} {n s o tl : Nat} {P : Nat → Nat → Int32} {tx rf : Nat → Int32} (hI : IC σ a n s o P tl tx rf) {w h : Int32} (hk : ¬ sheetOK w h = true) : E KP_sheet [.ref 5, .int w, .int h] (HH σ δ) (some (.int (-2))) (HH (rfC σ 0) δ) := by
  have hI1 := hI.push
  have hW := hI.hl.wf
  have hR := hI.hl.rb
  have hD := hI.hl.rd
  have h2 := hR.c
  have h8 := hW.n8
  have hB := LB_6
  refine E.ofL [some (.ref 5), some (.int w), some (.int h)] rfl pn_RX8 rfl (fun sc => ?_)
  refine g_aload_n dX8_sheet_0 rfl ?_
  refine q_getq dX8_sheet_1 f_P_12 ck_5 (by decide) ty_7_0 rf_5_0 ?_
  refine g_iload_n dX8_sheet_4 rfl ?_
  refine g_iload_n dX8_sheet_5 rfl ?_
  refine g_v2 (M' := KL_againstSize) dX8_sheet_6 l_P_54 v_KL_againstSize (c_KL_againstSize LB_6) (rcL LB_6) rfl rfl ⟨rfl, rfl⟩ ?_
  refine g_top (if_neg hk) ?_
  refine g_istore_n dX8_sheet_9 rfl ?_
  refine g_aload_n dX8_sheet_10 rfl ?_
  refine g_iload_n dX8_sheet_11 rfl ?_
  refine g_v1 (M' := KP_mayChange) dX8_sheet_12 l_P_58 v_KP_mayChange c_KP_mayChange2 rc_5 rfl rfl ⟨rfl, rfl⟩ ?_
  refine b_if_eq (tgt := 30) dX8_sheet_15 rfl (fun zc15 => ?_) (fun zc15 => ?_)
  · refine g_iload_n dX8_sheet_30 rfl ?_
    exact e_iret dX8_sheet_31 rfl (by rfl) (by rfl)
  · exact absurd zc15 (by decide)
set_option maxRecDepth 100000 in
theorem c_KP_sets_ok {σ : SI} {δ : SD} {a : Nat → Int32} {n s o tl : Nat} {P : Nat → Nat → Int32} {tx rf : Nat → Int32} (hI : IC σ a n s o P tl tx rf) {j : Nat} {v : Int32} (hj : j < 5) (hk : setOK (nI j) v = true) : E KP_sets [.ref 5, .int (nI j), .int v] (HH σ δ) (some (.int (a (2 + j)))) (HH (mea (uI (sPush σ s o) 9 j v) 6 (upd a (2 + j) v) n) δ) := by
  have hI1 := hI.push
  have hW := hI.hl.wf
  have hR := hI.hl.rb
  have hD := hI.hl.rd
  have h2 := hR.c
  have h8 := hW.n8
  have hB := LB_6
  refine E.ofL [some (.ref 5), some (.int (nI j)), some (.int v)] rfl pn_RX8 rfl (fun sc => ?_)
  refine g_aload_n dX8_sets_0 rfl ?_
  refine q_getq dX8_sets_1 f_P_12 ck_5 (by decide) ty_7_0 rf_5_0 ?_
  refine g_iload_n dX8_sets_4 rfl ?_
  refine g_iload_n dX8_sets_5 rfl ?_
  refine g_v2 (M' := KL_againstSetting) dX8_sets_6 l_P_65 v_KL_againstSetting (c_KL_againstSetting LB_6) (rcL LB_6) rfl rfl ⟨rfl, rfl⟩ ?_
  refine g_top (if_pos hk) ?_
  refine g_istore_n dX8_sets_9 rfl ?_
  refine g_aload_n dX8_sets_10 rfl ?_
  refine g_iload_n dX8_sets_11 rfl ?_
  refine g_v1 (M' := KP_mayChange) dX8_sets_12 l_P_58 v_KP_mayChange (c_KP_mayChange0 hI) rc_5 rfl rfl ⟨rfl, rfl⟩ ?_
  refine b_if_eq (tgt := 30) dX8_sets_15 rfl (fun zc15 => ?_) (fun zc15 => ?_)
  · exact absurd zc15 (by decide)
  · refine g_aload_n dX8_sets_18 rfl ?_
    refine q_getq dX8_sets_19 f_P_12 ck_5 (by decide) ty_7_0 rf_5_0 ?_
    refine g_iload_n dX8_sets_22 rfl ?_
    refine g_iload_n dX8_sets_23 rfl ?_
    refine g_v2 (M' := KL_putSetting) dX8_sets_24 l_P_68 v_KL_putSetting (c_KL_putSetting LB_6 hI1.hl.rb hj (WF_set hW hj hk)) (rcL LB_6) rfl rfl ⟨rfl, rfl⟩ ?_
    refine g_goto (tgt := 31) dX8_sets_27 rfl ?_
    exact e_iret dX8_sets_31 rfl (by rfl) (by rfl)
set_option maxRecDepth 100000 in
theorem c_KP_sets_no2 {σ : SI} {δ : SD} {a : Nat → Int32} {n s o tl : Nat} {P : Nat → Nat → Int32} {tx rf : Nat → Int32} (hI : IC σ a n s o P tl tx rf) {what v : Int32} (hk : ¬ setOK what v = true) : E KP_sets [.ref 5, .int what, .int v] (HH σ δ) (some (.int (-2))) (HH (rfC σ 0) δ) := by
  have hI1 := hI.push
  have hW := hI.hl.wf
  have hR := hI.hl.rb
  have hD := hI.hl.rd
  have h2 := hR.c
  have h8 := hW.n8
  have hB := LB_6
  refine E.ofL [some (.ref 5), some (.int what), some (.int v)] rfl pn_RX8 rfl (fun sc => ?_)
  refine g_aload_n dX8_sets_0 rfl ?_
  refine q_getq dX8_sets_1 f_P_12 ck_5 (by decide) ty_7_0 rf_5_0 ?_
  refine g_iload_n dX8_sets_4 rfl ?_
  refine g_iload_n dX8_sets_5 rfl ?_
  refine g_v2 (M' := KL_againstSetting) dX8_sets_6 l_P_65 v_KL_againstSetting (c_KL_againstSetting LB_6) (rcL LB_6) rfl rfl ⟨rfl, rfl⟩ ?_
  refine g_top (if_neg hk) ?_
  refine g_istore_n dX8_sets_9 rfl ?_
  refine g_aload_n dX8_sets_10 rfl ?_
  refine g_iload_n dX8_sets_11 rfl ?_
  refine g_v1 (M' := KP_mayChange) dX8_sets_12 l_P_58 v_KP_mayChange c_KP_mayChange2 rc_5 rfl rfl ⟨rfl, rfl⟩ ?_
  refine b_if_eq (tgt := 30) dX8_sets_15 rfl (fun zc15 => ?_) (fun zc15 => ?_)
  · refine g_iload_n dX8_sets_30 rfl ?_
    exact e_iret dX8_sets_31 rfl (by rfl) (by rfl)
  · exact absurd zc15 (by decide)
set_option maxRecDepth 100000 in
theorem c_KP_item_ok {σ : SI} {δ : SD} {a : Nat → Int32} {n s o tl : Nat} {P : Nat → Nat → Int32} {tx rf : Nat → Int32} (hI : IC σ a n s o P tl tx rf) {so r c b : Int32} (h : n < 8) (hk : (traitOK (nI 0) so && traitOK (nI 1) r && traitOK (nI 2) c && traitOK (nI 3) b) = true) : E KP_item [.ref 5, .int so, .int r, .int c, .int b] (HH σ δ) (some (.int (nI n))) (HH (mea (sItem (sPush σ s o) 6 n so r c b) 6 (aItem a n so r c b) (n + 1)) δ) := by
  have hI1 := hI.push
  have hW := hI.hl.wf
  have hR := hI.hl.rb
  have hD := hI.hl.rd
  have h2 := hR.c
  have h8 := hW.n8
  have hB := LB_6
  refine E.ofL [some (.ref 5), some (.int so), some (.int r), some (.int c), some (.int b)] rfl pn_RX8 rfl (fun sc => ?_)
  refine g_aload_n dX8_item_0 rfl ?_
  refine q_getq dX8_item_1 f_P_12 ck_5 (by decide) ty_7_0 rf_5_0 ?_
  refine g_iload_n dX8_item_4 rfl ?_
  refine g_iload_n dX8_item_5 rfl ?_
  refine g_iload_n dX8_item_6 rfl ?_
  refine g_iload dX8_item_7 rfl ?_
  refine g_v4 (M' := KL_againstItem) dX8_item_9 l_P_71 v_KL_againstItem (c_KL_againstItem LB_6 hW hR) (rcL LB_6) rfl rfl ⟨rfl, rfl⟩ ?_
  refine g_top (itA_ok hk h) ?_
  refine g_istore dX8_item_12 rfl ?_
  refine g_aload_n dX8_item_14 rfl ?_
  refine g_iload dX8_item_15 rfl ?_
  refine g_v1 (M' := KP_mayChange) dX8_item_17 l_P_58 v_KP_mayChange (c_KP_mayChange0 hI) rc_5 rfl rfl ⟨rfl, rfl⟩ ?_
  refine b_if_eq (tgt := 38) dX8_item_20 rfl (fun zc20 => ?_) (fun zc20 => ?_)
  · exact absurd zc20 (by decide)
  · refine g_aload_n dX8_item_23 rfl ?_
    refine q_getq dX8_item_24 f_P_12 ck_5 (by decide) ty_7_0 rf_5_0 ?_
    refine g_iload_n dX8_item_27 rfl ?_
    refine g_iload_n dX8_item_28 rfl ?_
    refine g_iload_n dX8_item_29 rfl ?_
    refine g_iload dX8_item_30 rfl ?_
    refine g_v4 (M' := KL_addItem) dX8_item_32 l_P_75 v_KL_addItem (c_KL_addItem LB_6 hI1.hl.rb h (WF_item hW h hk)) (rcL LB_6) rfl rfl ⟨rfl, rfl⟩ ?_
    refine g_goto (tgt := 40) dX8_item_35 rfl ?_
    exact e_iret dX8_item_40 rfl (by rfl) (by rfl)
set_option maxRecDepth 100000 in
theorem c_KP_item_no2 {σ : SI} {δ : SD} {a : Nat → Int32} {n s o tl : Nat} {P : Nat → Nat → Int32} {tx rf : Nat → Int32} (hI : IC σ a n s o P tl tx rf) {so r c b : Int32} (hk : (traitOK (nI 0) so && traitOK (nI 1) r && traitOK (nI 2) c && traitOK (nI 3) b) = false) : E KP_item [.ref 5, .int so, .int r, .int c, .int b] (HH σ δ) (some (.int (-2))) (HH (rfC σ 0) δ) := by
  have hI1 := hI.push
  have hW := hI.hl.wf
  have hR := hI.hl.rb
  have hD := hI.hl.rd
  have h2 := hR.c
  have h8 := hW.n8
  have hB := LB_6
  refine E.ofL [some (.ref 5), some (.int so), some (.int r), some (.int c), some (.int b)] rfl pn_RX8 rfl (fun sc => ?_)
  refine g_aload_n dX8_item_0 rfl ?_
  refine q_getq dX8_item_1 f_P_12 ck_5 (by decide) ty_7_0 rf_5_0 ?_
  refine g_iload_n dX8_item_4 rfl ?_
  refine g_iload_n dX8_item_5 rfl ?_
  refine g_iload_n dX8_item_6 rfl ?_
  refine g_iload dX8_item_7 rfl ?_
  refine g_v4 (M' := KL_againstItem) dX8_item_9 l_P_71 v_KL_againstItem (c_KL_againstItem LB_6 hW hR) (rcL LB_6) rfl rfl ⟨rfl, rfl⟩ ?_
  refine g_top (itA_bad hk) ?_
  refine g_istore dX8_item_12 rfl ?_
  refine g_aload_n dX8_item_14 rfl ?_
  refine g_iload dX8_item_15 rfl ?_
  refine g_v1 (M' := KP_mayChange) dX8_item_17 l_P_58 v_KP_mayChange c_KP_mayChange2 rc_5 rfl rfl ⟨rfl, rfl⟩ ?_
  refine b_if_eq (tgt := 38) dX8_item_20 rfl (fun zc20 => ?_) (fun zc20 => ?_)
  · refine g_iload dX8_item_38 rfl ?_
    exact e_iret dX8_item_40 rfl (by rfl) (by rfl)
  · exact absurd zc20 (by decide)
set_option maxRecDepth 100000 in
theorem c_KP_item_no4 {σ : SI} {δ : SD} {a : Nat → Int32} {n s o tl : Nat} {P : Nat → Nat → Int32} {tx rf : Nat → Int32} (hI : IC σ a n s o P tl tx rf) {so r c b : Int32} (h : 8 ≤ n) (hk : (traitOK (nI 0) so && traitOK (nI 1) r && traitOK (nI 2) c && traitOK (nI 3) b) = true) : E KP_item [.ref 5, .int so, .int r, .int c, .int b] (HH σ δ) (some (.int (-4))) (HH (rfC σ 2) δ) := by
  have hI1 := hI.push
  have hW := hI.hl.wf
  have hR := hI.hl.rb
  have hD := hI.hl.rd
  have h2 := hR.c
  have h8 := hW.n8
  have hB := LB_6
  refine E.ofL [some (.ref 5), some (.int so), some (.int r), some (.int c), some (.int b)] rfl pn_RX8 rfl (fun sc => ?_)
  refine g_aload_n dX8_item_0 rfl ?_
  refine q_getq dX8_item_1 f_P_12 ck_5 (by decide) ty_7_0 rf_5_0 ?_
  refine g_iload_n dX8_item_4 rfl ?_
  refine g_iload_n dX8_item_5 rfl ?_
  refine g_iload_n dX8_item_6 rfl ?_
  refine g_iload dX8_item_7 rfl ?_
  refine g_v4 (M' := KL_againstItem) dX8_item_9 l_P_71 v_KL_againstItem (c_KL_againstItem LB_6 hW hR) (rcL LB_6) rfl rfl ⟨rfl, rfl⟩ ?_
  refine g_top (itA_full hk h) ?_
  refine g_istore dX8_item_12 rfl ?_
  refine g_aload_n dX8_item_14 rfl ?_
  refine g_iload dX8_item_15 rfl ?_
  refine g_v1 (M' := KP_mayChange) dX8_item_17 l_P_58 v_KP_mayChange c_KP_mayChange4 rc_5 rfl rfl ⟨rfl, rfl⟩ ?_
  refine b_if_eq (tgt := 38) dX8_item_20 rfl (fun zc20 => ?_) (fun zc20 => ?_)
  · refine g_iload dX8_item_38 rfl ?_
    exact e_iret dX8_item_40 rfl (by rfl) (by rfl)
  · exact absurd zc20 (by decide)
set_option maxRecDepth 100000 in
theorem c_KP_drops_ok {σ : SI} {δ : SD} {a : Nat → Int32} {n s o tl : Nat} {P : Nat → Nat → Int32} {tx rf : Nat → Int32} (hI : IC σ a n s o P tl tx rf) {k : Nat} (hk : k < n) : E KP_drops [.ref 5, .int (nI k)] (HH σ δ) (some (.int (nI (n - 1)))) (HH (mea (sDrop (sPush σ s o) 6 n k) 6 (aDrop a n k) (n - 1)) δ) := by
  have hI1 := hI.push
  have hW := hI.hl.wf
  have hR := hI.hl.rb
  have hD := hI.hl.rd
  have h2 := hR.c
  have h8 := hW.n8
  have hB := LB_6
  refine E.ofL [some (.ref 5), some (.int (nI k))] rfl pn_RX8 rfl (fun sc => ?_)
  refine g_aload_n dX8_drops_0 rfl ?_
  refine q_getq dX8_drops_1 f_P_12 ck_5 (by decide) ty_7_0 rf_5_0 ?_
  refine g_iload_n dX8_drops_4 rfl ?_
  refine g_v1 (M' := KL_hasItem) dX8_drops_5 l_P_78 v_KL_hasItem (c_KL_hasItem hB h2 h8) (rcL LB_6) rfl rfl ⟨rfl, rfl⟩ ?_
  refine g_s1 (M' := KP_goodIf) dX8_drops_8 l_P_81 s_KP_goodIf c_KP_goodIf rfl rfl ⟨rfl, rfl⟩ ?_
  refine g_top (if_pos (show itB (nI k) n = true by rw [itB_nI (by omega), decide_eq_true hk])) ?_
  refine g_istore_n dX8_drops_11 rfl ?_
  refine g_aload_n dX8_drops_12 rfl ?_
  refine g_iload_n dX8_drops_13 rfl ?_
  refine g_v1 (M' := KP_mayChange) dX8_drops_14 l_P_58 v_KP_mayChange (c_KP_mayChange0 hI) rc_5 rfl rfl ⟨rfl, rfl⟩ ?_
  refine b_if_eq (tgt := 31) dX8_drops_17 rfl (fun zc17 => ?_) (fun zc17 => ?_)
  · exact absurd zc17 (by decide)
  · refine g_aload_n dX8_drops_20 rfl ?_
    refine q_getq dX8_drops_21 f_P_12 ck_5 (by decide) ty_7_0 rf_5_0 ?_
    refine g_iload_n dX8_drops_24 rfl ?_
    refine g_v1 (M' := KL_removeItem) dX8_drops_25 l_P_85 v_KL_removeItem (c_KL_removeItem LB_6 hI1.hl.rb h8 hk (WF_drop hW hk)) (rcL LB_6) rfl rfl ⟨rfl, rfl⟩ ?_
    refine g_goto (tgt := 32) dX8_drops_28 rfl ?_
    exact e_iret dX8_drops_32 rfl (by rfl) (by rfl)
set_option maxRecDepth 100000 in
theorem c_KP_drops_no2 {σ : SI} {δ : SD} {a : Nat → Int32} {n s o tl : Nat} {P : Nat → Nat → Int32} {tx rf : Nat → Int32} (hI : IC σ a n s o P tl tx rf) {k : Int32} (hk : ¬ itB k n = true) : E KP_drops [.ref 5, .int k] (HH σ δ) (some (.int (-2))) (HH (rfC σ 0) δ) := by
  have hI1 := hI.push
  have hW := hI.hl.wf
  have hR := hI.hl.rb
  have hD := hI.hl.rd
  have h2 := hR.c
  have h8 := hW.n8
  have hB := LB_6
  refine E.ofL [some (.ref 5), some (.int k)] rfl pn_RX8 rfl (fun sc => ?_)
  refine g_aload_n dX8_drops_0 rfl ?_
  refine q_getq dX8_drops_1 f_P_12 ck_5 (by decide) ty_7_0 rf_5_0 ?_
  refine g_iload_n dX8_drops_4 rfl ?_
  refine g_v1 (M' := KL_hasItem) dX8_drops_5 l_P_78 v_KL_hasItem (c_KL_hasItem hB h2 h8) (rcL LB_6) rfl rfl ⟨rfl, rfl⟩ ?_
  refine g_s1 (M' := KP_goodIf) dX8_drops_8 l_P_81 s_KP_goodIf c_KP_goodIf rfl rfl ⟨rfl, rfl⟩ ?_
  refine g_top (if_neg hk) ?_
  refine g_istore_n dX8_drops_11 rfl ?_
  refine g_aload_n dX8_drops_12 rfl ?_
  refine g_iload_n dX8_drops_13 rfl ?_
  refine g_v1 (M' := KP_mayChange) dX8_drops_14 l_P_58 v_KP_mayChange c_KP_mayChange2 rc_5 rfl rfl ⟨rfl, rfl⟩ ?_
  refine b_if_eq (tgt := 31) dX8_drops_17 rfl (fun zc17 => ?_) (fun zc17 => ?_)
  · refine g_iload_n dX8_drops_31 rfl ?_
    exact e_iret dX8_drops_32 rfl (by rfl) (by rfl)
  · exact absurd zc17 (by decide)
set_option maxRecDepth 100000 in
theorem c_KP_becomes_ok {σ : SI} {δ : SD} {a : Nat → Int32} {n s o tl : Nat} {P : Nat → Nat → Int32} {tx rf : Nat → Int32} (hI : IC σ a n s o P tl tx rf) {k j : Nat} {v : Int32} (hk : k < n) (hj : j < 4) (ht : traitOK (nI j) v = true) : E KP_becomes [.ref 5, .int (nI k), .int (nI j), .int v] (HH σ δ) (some (.int (its a k j))) (HH (mea (uI (sPush σ s o) 10 (4 * k + j) v) 6 (upd a (8 + 6 * k + j) v) n) δ) := by
  have hI1 := hI.push
  have hW := hI.hl.wf
  have hR := hI.hl.rb
  have hD := hI.hl.rd
  have h2 := hR.c
  have h8 := hW.n8
  have hB := LB_6
  refine E.ofL [some (.ref 5), some (.int (nI k)), some (.int (nI j)), some (.int v)] rfl pn_RX8 rfl (fun sc => ?_)
  refine g_aload_n dX8_becomes_0 rfl ?_
  refine q_getq dX8_becomes_1 f_P_12 ck_5 (by decide) ty_7_0 rf_5_0 ?_
  refine g_iload_n dX8_becomes_4 rfl ?_
  refine g_iload_n dX8_becomes_5 rfl ?_
  refine g_iload_n dX8_becomes_6 rfl ?_
  refine g_v3 (M' := KL_againstTrait) dX8_becomes_7 l_P_89 v_KL_againstTrait (c_KL_againstTrait hB hW hR) (rcL LB_6) rfl rfl ⟨rfl, rfl⟩ ?_
  refine g_top (if_pos (by rw [itB_nI (by omega), decide_eq_true hk, ht]; rfl)) ?_
  refine g_istore dX8_becomes_10 rfl ?_
  refine g_aload_n dX8_becomes_12 rfl ?_
  refine g_iload dX8_becomes_13 rfl ?_
  refine g_v1 (M' := KP_mayChange) dX8_becomes_15 l_P_58 v_KP_mayChange (c_KP_mayChange0 hI) rc_5 rfl rfl ⟨rfl, rfl⟩ ?_
  refine b_if_eq (tgt := 34) dX8_becomes_18 rfl (fun zc18 => ?_) (fun zc18 => ?_)
  · exact absurd zc18 (by decide)
  · refine g_aload_n dX8_becomes_21 rfl ?_
    refine q_getq dX8_becomes_22 f_P_12 ck_5 (by decide) ty_7_0 rf_5_0 ?_
    refine g_iload_n dX8_becomes_25 rfl ?_
    refine g_iload_n dX8_becomes_26 rfl ?_
    refine g_iload_n dX8_becomes_27 rfl ?_
    refine g_v3 (M' := KL_putTrait) dX8_becomes_28 l_P_93 v_KL_putTrait (c_KL_putTrait LB_6 hI1.hl.rb h8 hk hj (WF_trait hW hk hj ht)) (rcL LB_6) rfl rfl ⟨rfl, rfl⟩ ?_
    refine g_goto (tgt := 36) dX8_becomes_31 rfl ?_
    exact e_iret dX8_becomes_36 rfl (by rfl) (by rfl)
set_option maxRecDepth 100000 in
theorem c_KP_becomes_no2 {σ : SI} {δ : SD} {a : Nat → Int32} {n s o tl : Nat} {P : Nat → Nat → Int32} {tx rf : Nat → Int32} (hI : IC σ a n s o P tl tx rf) {k what v : Int32} (hk : ¬ (itB k n && traitOK what v) = true) : E KP_becomes [.ref 5, .int k, .int what, .int v] (HH σ δ) (some (.int (-2))) (HH (rfC σ 0) δ) := by
  have hI1 := hI.push
  have hW := hI.hl.wf
  have hR := hI.hl.rb
  have hD := hI.hl.rd
  have h2 := hR.c
  have h8 := hW.n8
  have hB := LB_6
  refine E.ofL [some (.ref 5), some (.int k), some (.int what), some (.int v)] rfl pn_RX8 rfl (fun sc => ?_)
  refine g_aload_n dX8_becomes_0 rfl ?_
  refine q_getq dX8_becomes_1 f_P_12 ck_5 (by decide) ty_7_0 rf_5_0 ?_
  refine g_iload_n dX8_becomes_4 rfl ?_
  refine g_iload_n dX8_becomes_5 rfl ?_
  refine g_iload_n dX8_becomes_6 rfl ?_
  refine g_v3 (M' := KL_againstTrait) dX8_becomes_7 l_P_89 v_KL_againstTrait (c_KL_againstTrait hB hW hR) (rcL LB_6) rfl rfl ⟨rfl, rfl⟩ ?_
  refine g_top (if_neg hk) ?_
  refine g_istore dX8_becomes_10 rfl ?_
  refine g_aload_n dX8_becomes_12 rfl ?_
  refine g_iload dX8_becomes_13 rfl ?_
  refine g_v1 (M' := KP_mayChange) dX8_becomes_15 l_P_58 v_KP_mayChange c_KP_mayChange2 rc_5 rfl rfl ⟨rfl, rfl⟩ ?_
  refine b_if_eq (tgt := 34) dX8_becomes_18 rfl (fun zc18 => ?_) (fun zc18 => ?_)
  · refine g_iload dX8_becomes_34 rfl ?_
    exact e_iret dX8_becomes_36 rfl (by rfl) (by rfl)
  · exact absurd zc18 (by decide)
set_option maxRecDepth 100000 in
theorem c_KP_lays_ok {σ : SI} {δ : SD} {a : Nat → Int32} {n s o tl : Nat} {P : Nat → Nat → Int32} {tx rf : Nat → Int32} (hI : IC σ a n s o P tl tx rf) {k : Nat} {x y : Int32} (hk : k < n) (h : layA a n (nI k) x y = nI 0) : E KP_lays [.ref 5, .int (nI k), .int x, .int y] (HH σ δ) (some (.int (if liesA a k then nI 1 else nI 0))) (HH (sLay (sPush σ s o) 6 k x y) δ) := by
  have hI1 := hI.push
  have hW := hI.hl.wf
  have hR := hI.hl.rb
  have hD := hI.hl.rd
  have h2 := hR.c
  have h8 := hW.n8
  have hB := LB_6
  refine E.ofL [some (.ref 5), some (.int (nI k)), some (.int x), some (.int y)] rfl pn_RX8 rfl (fun sc => ?_)
  refine g_aload_n dX8_lays_0 rfl ?_
  refine q_getq dX8_lays_1 f_P_12 ck_5 (by decide) ty_7_0 rf_5_0 ?_
  refine g_iload_n dX8_lays_4 rfl ?_
  refine g_iload_n dX8_lays_5 rfl ?_
  refine g_iload_n dX8_lays_6 rfl ?_
  refine g_v3 (M' := KL_againstLaying) dX8_lays_7 l_P_119 v_KL_againstLaying (c_KL_againstLaying LB_6 hW hR hD) (rcL LB_6) rfl rfl ⟨rfl, rfl⟩ ?_
  refine g_top h ?_
  refine g_istore dX8_lays_10 rfl ?_
  refine g_aload_n dX8_lays_12 rfl ?_
  refine g_iload dX8_lays_13 rfl ?_
  refine g_v1 (M' := KP_mayChange) dX8_lays_15 l_P_58 v_KP_mayChange (c_KP_mayChange0 hI) rc_5 rfl rfl ⟨rfl, rfl⟩ ?_
  refine b_if_eq (tgt := 34) dX8_lays_18 rfl (fun zc18 => ?_) (fun zc18 => ?_)
  · exact absurd zc18 (by decide)
  · refine g_aload_n dX8_lays_21 rfl ?_
    refine q_getq dX8_lays_22 f_P_12 ck_5 (by decide) ty_7_0 rf_5_0 ?_
    refine g_iload_n dX8_lays_25 rfl ?_
    refine g_iload_n dX8_lays_26 rfl ?_
    refine g_iload_n dX8_lays_27 rfl ?_
    refine g_v3 (M' := KL_lay) dX8_lays_28 l_P_122 v_KL_lay (c_KL_lay LB_6 hI1.hl.wf hI1.hl.rb hk) (rcL LB_6) rfl rfl ⟨rfl, rfl⟩ ?_
    refine g_goto (tgt := 36) dX8_lays_31 rfl ?_
    exact e_iret dX8_lays_36 rfl (by rfl) (by rfl)
set_option maxRecDepth 100000 in
theorem c_KP_lays_no2 {σ : SI} {δ : SD} {a : Nat → Int32} {n s o tl : Nat} {P : Nat → Nat → Int32} {tx rf : Nat → Int32} (hI : IC σ a n s o P tl tx rf) {k x y : Int32} (h : layA a n k x y = -2) : E KP_lays [.ref 5, .int k, .int x, .int y] (HH σ δ) (some (.int (-2))) (HH (rfC σ 0) δ) := by
  have hI1 := hI.push
  have hW := hI.hl.wf
  have hR := hI.hl.rb
  have hD := hI.hl.rd
  have h2 := hR.c
  have h8 := hW.n8
  have hB := LB_6
  refine E.ofL [some (.ref 5), some (.int k), some (.int x), some (.int y)] rfl pn_RX8 rfl (fun sc => ?_)
  refine g_aload_n dX8_lays_0 rfl ?_
  refine q_getq dX8_lays_1 f_P_12 ck_5 (by decide) ty_7_0 rf_5_0 ?_
  refine g_iload_n dX8_lays_4 rfl ?_
  refine g_iload_n dX8_lays_5 rfl ?_
  refine g_iload_n dX8_lays_6 rfl ?_
  refine g_v3 (M' := KL_againstLaying) dX8_lays_7 l_P_119 v_KL_againstLaying (c_KL_againstLaying LB_6 hW hR hD) (rcL LB_6) rfl rfl ⟨rfl, rfl⟩ ?_
  refine g_top h ?_
  refine g_istore dX8_lays_10 rfl ?_
  refine g_aload_n dX8_lays_12 rfl ?_
  refine g_iload dX8_lays_13 rfl ?_
  refine g_v1 (M' := KP_mayChange) dX8_lays_15 l_P_58 v_KP_mayChange c_KP_mayChange2 rc_5 rfl rfl ⟨rfl, rfl⟩ ?_
  refine b_if_eq (tgt := 34) dX8_lays_18 rfl (fun zc18 => ?_) (fun zc18 => ?_)
  · refine g_iload dX8_lays_34 rfl ?_
    exact e_iret dX8_lays_36 rfl (by rfl) (by rfl)
  · exact absurd zc18 (by decide)
set_option maxRecDepth 100000 in
theorem c_KP_lays_no3 {σ : SI} {δ : SD} {a : Nat → Int32} {n s o tl : Nat} {P : Nat → Nat → Int32} {tx rf : Nat → Int32} (hI : IC σ a n s o P tl tx rf) {k x y : Int32} (h : layA a n k x y = -3) : E KP_lays [.ref 5, .int k, .int x, .int y] (HH σ δ) (some (.int (-3))) (HH (rfC σ 1) δ) := by
  have hI1 := hI.push
  have hW := hI.hl.wf
  have hR := hI.hl.rb
  have hD := hI.hl.rd
  have h2 := hR.c
  have h8 := hW.n8
  have hB := LB_6
  refine E.ofL [some (.ref 5), some (.int k), some (.int x), some (.int y)] rfl pn_RX8 rfl (fun sc => ?_)
  refine g_aload_n dX8_lays_0 rfl ?_
  refine q_getq dX8_lays_1 f_P_12 ck_5 (by decide) ty_7_0 rf_5_0 ?_
  refine g_iload_n dX8_lays_4 rfl ?_
  refine g_iload_n dX8_lays_5 rfl ?_
  refine g_iload_n dX8_lays_6 rfl ?_
  refine g_v3 (M' := KL_againstLaying) dX8_lays_7 l_P_119 v_KL_againstLaying (c_KL_againstLaying LB_6 hW hR hD) (rcL LB_6) rfl rfl ⟨rfl, rfl⟩ ?_
  refine g_top h ?_
  refine g_istore dX8_lays_10 rfl ?_
  refine g_aload_n dX8_lays_12 rfl ?_
  refine g_iload dX8_lays_13 rfl ?_
  refine g_v1 (M' := KP_mayChange) dX8_lays_15 l_P_58 v_KP_mayChange c_KP_mayChange3 rc_5 rfl rfl ⟨rfl, rfl⟩ ?_
  refine b_if_eq (tgt := 34) dX8_lays_18 rfl (fun zc18 => ?_) (fun zc18 => ?_)
  · refine g_iload dX8_lays_34 rfl ?_
    exact e_iret dX8_lays_36 rfl (by rfl) (by rfl)
  · exact absurd zc18 (by decide)
set_option maxRecDepth 100000 in
theorem c_KP_off_ok {σ : SI} {δ : SD} {a : Nat → Int32} {n s o tl : Nat} {P : Nat → Nat → Int32} {tx rf : Nat → Int32} (hI : IC σ a n s o P tl tx rf) {k : Nat} (hk : k < n) (h : canOffA a n (nI k) = nI 0) : E KP_off [.ref 5, .int (nI k)] (HH σ δ) (some (.int (nI (cntN (liesA (aLay a k (-1) (-1))) n)))) (HH (sLay (sPush σ s o) 6 k (-1) (-1)) δ) := by
  have hI1 := hI.push
  have hW := hI.hl.wf
  have hR := hI.hl.rb
  have hD := hI.hl.rd
  have h2 := hR.c
  have h8 := hW.n8
  have hB := LB_6
  refine E.ofL [some (.ref 5), some (.int (nI k))] rfl pn_RX8 rfl (fun sc => ?_)
  refine g_aload_n dX8_off_0 rfl ?_
  refine q_getq dX8_off_1 f_P_12 ck_5 (by decide) ty_7_0 rf_5_0 ?_
  refine g_iload_n dX8_off_4 rfl ?_
  refine g_v1 (M' := KL_againstTakingOff) dX8_off_5 l_P_125 v_KL_againstTakingOff (c_KL_againstTakingOff LB_6 hW hR) (rcL LB_6) rfl rfl ⟨rfl, rfl⟩ ?_
  refine g_top h ?_
  refine g_istore_n dX8_off_8 rfl ?_
  refine g_aload_n dX8_off_9 rfl ?_
  refine g_iload_n dX8_off_10 rfl ?_
  refine g_v1 (M' := KP_mayChange) dX8_off_11 l_P_58 v_KP_mayChange (c_KP_mayChange0 hI) rc_5 rfl rfl ⟨rfl, rfl⟩ ?_
  refine b_if_eq (tgt := 28) dX8_off_14 rfl (fun zc14 => ?_) (fun zc14 => ?_)
  · exact absurd zc14 (by decide)
  · refine g_aload_n dX8_off_17 rfl ?_
    refine q_getq dX8_off_18 f_P_12 ck_5 (by decide) ty_7_0 rf_5_0 ?_
    refine g_iload_n dX8_off_21 rfl ?_
    refine g_v1 (M' := KL_takeOff) dX8_off_22 l_P_128 v_KL_takeOff (c_KL_takeOff LB_6 hI1.hl.wf hI1.hl.rb hk) (rcL LB_6) rfl rfl ⟨rfl, rfl⟩ ?_
    refine g_goto (tgt := 29) dX8_off_25 rfl ?_
    exact e_iret dX8_off_29 rfl (by rfl) (by rfl)
set_option maxRecDepth 100000 in
theorem c_KP_off_no2 {σ : SI} {δ : SD} {a : Nat → Int32} {n s o tl : Nat} {P : Nat → Nat → Int32} {tx rf : Nat → Int32} (hI : IC σ a n s o P tl tx rf) {k : Int32} (h : canOffA a n k = -2) : E KP_off [.ref 5, .int k] (HH σ δ) (some (.int (-2))) (HH (rfC σ 0) δ) := by
  have hI1 := hI.push
  have hW := hI.hl.wf
  have hR := hI.hl.rb
  have hD := hI.hl.rd
  have h2 := hR.c
  have h8 := hW.n8
  have hB := LB_6
  refine E.ofL [some (.ref 5), some (.int k)] rfl pn_RX8 rfl (fun sc => ?_)
  refine g_aload_n dX8_off_0 rfl ?_
  refine q_getq dX8_off_1 f_P_12 ck_5 (by decide) ty_7_0 rf_5_0 ?_
  refine g_iload_n dX8_off_4 rfl ?_
  refine g_v1 (M' := KL_againstTakingOff) dX8_off_5 l_P_125 v_KL_againstTakingOff (c_KL_againstTakingOff LB_6 hW hR) (rcL LB_6) rfl rfl ⟨rfl, rfl⟩ ?_
  refine g_top h ?_
  refine g_istore_n dX8_off_8 rfl ?_
  refine g_aload_n dX8_off_9 rfl ?_
  refine g_iload_n dX8_off_10 rfl ?_
  refine g_v1 (M' := KP_mayChange) dX8_off_11 l_P_58 v_KP_mayChange c_KP_mayChange2 rc_5 rfl rfl ⟨rfl, rfl⟩ ?_
  refine b_if_eq (tgt := 28) dX8_off_14 rfl (fun zc14 => ?_) (fun zc14 => ?_)
  · refine g_iload_n dX8_off_28 rfl ?_
    exact e_iret dX8_off_29 rfl (by rfl) (by rfl)
  · exact absurd zc14 (by decide)
set_option maxRecDepth 100000 in
theorem c_KP_off_no3 {σ : SI} {δ : SD} {a : Nat → Int32} {n s o tl : Nat} {P : Nat → Nat → Int32} {tx rf : Nat → Int32} (hI : IC σ a n s o P tl tx rf) {k : Int32} (h : canOffA a n k = -3) : E KP_off [.ref 5, .int k] (HH σ δ) (some (.int (-3))) (HH (rfC σ 1) δ) := by
  have hI1 := hI.push
  have hW := hI.hl.wf
  have hR := hI.hl.rb
  have hD := hI.hl.rd
  have h2 := hR.c
  have h8 := hW.n8
  have hB := LB_6
  refine E.ofL [some (.ref 5), some (.int k)] rfl pn_RX8 rfl (fun sc => ?_)
  refine g_aload_n dX8_off_0 rfl ?_
  refine q_getq dX8_off_1 f_P_12 ck_5 (by decide) ty_7_0 rf_5_0 ?_
  refine g_iload_n dX8_off_4 rfl ?_
  refine g_v1 (M' := KL_againstTakingOff) dX8_off_5 l_P_125 v_KL_againstTakingOff (c_KL_againstTakingOff LB_6 hW hR) (rcL LB_6) rfl rfl ⟨rfl, rfl⟩ ?_
  refine g_top h ?_
  refine g_istore_n dX8_off_8 rfl ?_
  refine g_aload_n dX8_off_9 rfl ?_
  refine g_iload_n dX8_off_10 rfl ?_
  refine g_v1 (M' := KP_mayChange) dX8_off_11 l_P_58 v_KP_mayChange c_KP_mayChange3 rc_5 rfl rfl ⟨rfl, rfl⟩ ?_
  refine b_if_eq (tgt := 28) dX8_off_14 rfl (fun zc14 => ?_) (fun zc14 => ?_)
  · refine g_iload_n dX8_off_28 rfl ?_
    exact e_iret dX8_off_29 rfl (by rfl) (by rfl)
  · exact absurd zc14 (by decide)
set_option maxRecDepth 100000 in
theorem c_KP_swaps_ok {σ : SI} {δ : SD} {a : Nat → Int32} {n s o tl : Nat} {P : Nat → Nat → Int32} {tx rf : Nat → Int32} (hI : IC σ a n s o P tl tx rf) {i k : Nat} (hi : i < n) (hk : k < n) (h : swapA a n (nI i) (nI k) = nI 0) : E KP_swaps [.ref 5, .int (nI i), .int (nI k)] (HH σ δ) (some (.int (swapsA (aSwap a i k) n i k))) (HH (sSwap (sPush σ s o) 6 a i k) δ) := by
  have hI1 := hI.push
  have hW := hI.hl.wf
  have hR := hI.hl.rb
  have hD := hI.hl.rd
  have h2 := hR.c
  have h8 := hW.n8
  have hB := LB_6
  refine E.ofL [some (.ref 5), some (.int (nI i)), some (.int (nI k))] rfl pn_RX8 rfl (fun sc => ?_)
  refine g_aload_n dX8_swaps_0 rfl ?_
  refine q_getq dX8_swaps_1 f_P_12 ck_5 (by decide) ty_7_0 rf_5_0 ?_
  refine g_iload_n dX8_swaps_4 rfl ?_
  refine g_iload_n dX8_swaps_5 rfl ?_
  refine g_v2 (M' := KL_againstSwap) dX8_swaps_6 l_P_131 v_KL_againstSwap (c_KL_againstSwap LB_6 hW hR) (rcL LB_6) rfl rfl ⟨rfl, rfl⟩ ?_
  refine g_top h ?_
  refine g_istore_n dX8_swaps_9 rfl ?_
  refine g_aload_n dX8_swaps_10 rfl ?_
  refine g_iload_n dX8_swaps_11 rfl ?_
  refine g_v1 (M' := KP_mayChange) dX8_swaps_12 l_P_58 v_KP_mayChange (c_KP_mayChange0 hI) rc_5 rfl rfl ⟨rfl, rfl⟩ ?_
  refine b_if_eq (tgt := 30) dX8_swaps_15 rfl (fun zc15 => ?_) (fun zc15 => ?_)
  · exact absurd zc15 (by decide)
  · refine g_aload_n dX8_swaps_18 rfl ?_
    refine q_getq dX8_swaps_19 f_P_12 ck_5 (by decide) ty_7_0 rf_5_0 ?_
    refine g_iload_n dX8_swaps_22 rfl ?_
    refine g_iload_n dX8_swaps_23 rfl ?_
    refine g_v2 (M' := KL_swap) dX8_swaps_24 l_P_134 v_KL_swap (c_KL_swap LB_6 hI1.hl.wf hI1.hl.rb hI1.hl.rd hi hk) (rcL LB_6) rfl rfl ⟨rfl, rfl⟩ ?_
    refine g_goto (tgt := 31) dX8_swaps_27 rfl ?_
    exact e_iret dX8_swaps_31 rfl (by rfl) (by rfl)
set_option maxRecDepth 100000 in
theorem c_KP_swaps_no2 {σ : SI} {δ : SD} {a : Nat → Int32} {n s o tl : Nat} {P : Nat → Nat → Int32} {tx rf : Nat → Int32} (hI : IC σ a n s o P tl tx rf) {i k : Int32} (h : swapA a n i k = -2) : E KP_swaps [.ref 5, .int i, .int k] (HH σ δ) (some (.int (-2))) (HH (rfC σ 0) δ) := by
  have hI1 := hI.push
  have hW := hI.hl.wf
  have hR := hI.hl.rb
  have hD := hI.hl.rd
  have h2 := hR.c
  have h8 := hW.n8
  have hB := LB_6
  refine E.ofL [some (.ref 5), some (.int i), some (.int k)] rfl pn_RX8 rfl (fun sc => ?_)
  refine g_aload_n dX8_swaps_0 rfl ?_
  refine q_getq dX8_swaps_1 f_P_12 ck_5 (by decide) ty_7_0 rf_5_0 ?_
  refine g_iload_n dX8_swaps_4 rfl ?_
  refine g_iload_n dX8_swaps_5 rfl ?_
  refine g_v2 (M' := KL_againstSwap) dX8_swaps_6 l_P_131 v_KL_againstSwap (c_KL_againstSwap LB_6 hW hR) (rcL LB_6) rfl rfl ⟨rfl, rfl⟩ ?_
  refine g_top h ?_
  refine g_istore_n dX8_swaps_9 rfl ?_
  refine g_aload_n dX8_swaps_10 rfl ?_
  refine g_iload_n dX8_swaps_11 rfl ?_
  refine g_v1 (M' := KP_mayChange) dX8_swaps_12 l_P_58 v_KP_mayChange c_KP_mayChange2 rc_5 rfl rfl ⟨rfl, rfl⟩ ?_
  refine b_if_eq (tgt := 30) dX8_swaps_15 rfl (fun zc15 => ?_) (fun zc15 => ?_)
  · refine g_iload_n dX8_swaps_30 rfl ?_
    exact e_iret dX8_swaps_31 rfl (by rfl) (by rfl)
  · exact absurd zc15 (by decide)
set_option maxRecDepth 100000 in
theorem c_KP_swaps_no3 {σ : SI} {δ : SD} {a : Nat → Int32} {n s o tl : Nat} {P : Nat → Nat → Int32} {tx rf : Nat → Int32} (hI : IC σ a n s o P tl tx rf) {i k : Int32} (h : swapA a n i k = -3) : E KP_swaps [.ref 5, .int i, .int k] (HH σ δ) (some (.int (-3))) (HH (rfC σ 1) δ) := by
  have hI1 := hI.push
  have hW := hI.hl.wf
  have hR := hI.hl.rb
  have hD := hI.hl.rd
  have h2 := hR.c
  have h8 := hW.n8
  have hB := LB_6
  refine E.ofL [some (.ref 5), some (.int i), some (.int k)] rfl pn_RX8 rfl (fun sc => ?_)
  refine g_aload_n dX8_swaps_0 rfl ?_
  refine q_getq dX8_swaps_1 f_P_12 ck_5 (by decide) ty_7_0 rf_5_0 ?_
  refine g_iload_n dX8_swaps_4 rfl ?_
  refine g_iload_n dX8_swaps_5 rfl ?_
  refine g_v2 (M' := KL_againstSwap) dX8_swaps_6 l_P_131 v_KL_againstSwap (c_KL_againstSwap LB_6 hW hR) (rcL LB_6) rfl rfl ⟨rfl, rfl⟩ ?_
  refine g_top h ?_
  refine g_istore_n dX8_swaps_9 rfl ?_
  refine g_aload_n dX8_swaps_10 rfl ?_
  refine g_iload_n dX8_swaps_11 rfl ?_
  refine g_v1 (M' := KP_mayChange) dX8_swaps_12 l_P_58 v_KP_mayChange c_KP_mayChange3 rc_5 rfl rfl ⟨rfl, rfl⟩ ?_
  refine b_if_eq (tgt := 30) dX8_swaps_15 rfl (fun zc15 => ?_) (fun zc15 => ?_)
  · refine g_iload_n dX8_swaps_30 rfl ?_
    exact e_iret dX8_swaps_31 rfl (by rfl) (by rfl)
  · exact absurd zc15 (by decide)
set_option maxRecDepth 100000 in
theorem c_KR_sheetNow {σ : SI} {δ : SD} {w h : Int32} : E KR_sheetNow [.ref 84, .int w, .int h] (HH σ δ) (some (.int (nI 100 * σ 85 0 + σ 85 1))) (HH (uI (uI σ 85 0 w) 85 1 h) δ) := by
  refine E.ofL [some (.ref 84), some (.int w), some (.int h)] rfl pn_RX9 rfl (fun sc => ?_)
  refine g_bipush dX9_sheetNow_0 bp_100 ?_
  refine g_aload_n dX9_sheetNow_2 rfl ?_
  refine q_getq dX9_sheetNow_3 f_R_7 ck_84 (by decide) ty_8_0 rf_84_0 ?_
  refine g_iconst dX9_sheetNow_6 ic_0 ?_
  refine q_iald dX9_sheetNow_7 ck_85 (ixD_nI (by omega) (by decide)) ?_
  refine g_top rfl ?_
  refine g_imul dX9_sheetNow_8 ?_
  refine g_aload_n dX9_sheetNow_9 rfl ?_
  refine q_getq dX9_sheetNow_10 f_R_7 ck_84 (by decide) ty_8_0 rf_84_0 ?_
  refine g_iconst dX9_sheetNow_13 ic_1 ?_
  refine q_iald dX9_sheetNow_14 ck_85 (ixD_nI (by omega) (by decide)) ?_
  refine g_iadd dX9_sheetNow_15 ?_
  refine g_istore_n dX9_sheetNow_16 rfl ?_
  refine g_aload_n dX9_sheetNow_17 rfl ?_
  refine q_getq dX9_sheetNow_18 f_R_7 ck_84 (by decide) ty_8_0 rf_84_0 ?_
  refine g_iconst dX9_sheetNow_21 ic_0 ?_
  refine g_iload_n dX9_sheetNow_22 rfl ?_
  refine q_iast dX9_sheetNow_23 ck_85 (ixD_nI (by omega) (by decide)) ?_
  refine g_aload_n dX9_sheetNow_24 rfl ?_
  refine q_getq dX9_sheetNow_25 f_R_7 ck_84 (by decide) ty_8_0 rf_84_0 ?_
  refine g_iconst dX9_sheetNow_28 ic_1 ?_
  refine g_iload_n dX9_sheetNow_29 rfl ?_
  refine q_iast dX9_sheetNow_30 ck_85 (ixD_nI (by omega) (by decide)) ?_
  refine g_iload_n dX9_sheetNow_31 rfl ?_
  exact e_iret dX9_sheetNow_32 rfl (by rfl) (by rfl)
set_option maxRecDepth 100000 in
theorem c_KR_sheet_ok {σ : SI} {δ : SD} {a : Nat → Int32} {n s tl : Nat} {P : Nat → Nat → Int32} {tx rf : Nat → Int32} (hJ : IR σ a s P tl tx rf) (hs : s ≤ 5) (hW : WF a n) {w h : Int32} (hk : sheetOK w h = true) : E KR_sheet [.ref 84, .int w, .int h] (HH σ δ) (some (.int (nI 100 * a 0 + a 1))) (HH (uI (uI (sKeep σ s) 85 0 w) 85 1 h) δ) := by
  obtain rfl := hJ.row
  have h3 := hJ.sd
  have hJ1 := hJ.keep hs
  have hn := hW.n8
  have h7 := hW.a7
  have hW1 : WF (sKeep σ s 85) n := by rw [hJ1.row]; exact hW
  refine E.ofL [some (.ref 84), some (.int w), some (.int h)] rfl pn_RX9 rfl (fun sc => ?_)
  refine g_iload_n dX9_sheet_0 rfl ?_
  refine g_iload_n dX9_sheet_1 rfl ?_
  refine g_s2 (M' := KR_isSheet) dX9_sheet_2 l_R_108 s_KR_isSheet c_KR_isSheet rfl rfl ⟨rfl, rfl⟩ ?_
  refine b_if_ne (tgt := 15) dX9_sheet_5 rfl (fun zc5 => ?_) (fun zc5 => ?_)
  · refine g_aload_n dX9_sheet_15 rfl ?_
    refine g_v0n (M' := KR_keep) dX9_sheet_16 l_R_111 v_KR_keep (c_KR_keep hs h3) rc_84 rfl rfl ⟨rfl, rfl⟩ ?_
    refine g_aload_n dX9_sheet_19 rfl ?_
    refine g_iload_n dX9_sheet_20 rfl ?_
    refine g_iload_n dX9_sheet_21 rfl ?_
    refine g_v2 (M' := KR_sheetNow) dX9_sheet_22 l_R_114 v_KR_sheetNow c_KR_sheetNow rc_84 rfl rfl ⟨rfl, rfl⟩ ?_
    exact e_iret dX9_sheet_25 rfl (by rw [hJ1.row]) (by rfl)
  · exact absurd hk (by rw [zc5]; decide)
set_option maxRecDepth 100000 in
theorem c_KR_sheet_no2 {σ : SI} {δ : SD} {a : Nat → Int32} {n s tl : Nat} {P : Nat → Nat → Int32} {tx rf : Nat → Int32} (hJ : IR σ a s P tl tx rf) (hs : s ≤ 5) (hW : WF a n) {w h : Int32} (hk : ¬ sheetOK w h = true) : E KR_sheet [.ref 84, .int w, .int h] (HH σ δ) (some (.int (-2))) (HH (rfM σ 0) δ) := by
  obtain rfl := hJ.row
  have h3 := hJ.sd
  have hJ1 := hJ.keep hs
  have hn := hW.n8
  have h7 := hW.a7
  have hW1 : WF (sKeep σ s 85) n := by rw [hJ1.row]; exact hW
  refine E.ofL [some (.ref 84), some (.int w), some (.int h)] rfl pn_RX9 rfl (fun sc => ?_)
  refine g_iload_n dX9_sheet_0 rfl ?_
  refine g_iload_n dX9_sheet_1 rfl ?_
  refine g_s2 (M' := KR_isSheet) dX9_sheet_2 l_R_108 s_KR_isSheet c_KR_isSheet rfl rfl ⟨rfl, rfl⟩ ?_
  refine b_if_ne (tgt := 15) dX9_sheet_5 rfl (fun zc5 => ?_) (fun zc5 => ?_)
  · exact absurd zc5 hk
  · refine g_aload_n dX9_sheet_8 rfl ?_
    refine g_bipush dX9_sheet_9 bp_m2 ?_
    refine g_v1 (M' := KR_refuses) dX9_sheet_11 l_R_101 v_KR_refuses c_KR_refuses0 rc_84 rfl rfl ⟨rfl, rfl⟩ ?_
    exact e_iret dX9_sheet_14 rfl (by rfl) (by rfl)
set_option maxRecDepth 100000 in
theorem c_KR_setNow {σ : SI} {δ : SD} {j : Nat} {v : Int32} (hj : j < 5) : E KR_setNow [.ref 84, .int (nI j), .int v] (HH σ δ) (some (.int (σ 85 (2 + j)))) (HH (uI σ 85 (2 + j) v) δ) := by
  refine E.ofL [some (.ref 84), some (.int (nI j)), some (.int v)] rfl pn_RX9 rfl (fun sc => ?_)
  refine g_aload_n dX9_setNow_0 rfl ?_
  refine q_getq dX9_setNow_1 f_R_7 ck_84 (by decide) ty_8_0 rf_84_0 ?_
  refine g_iconst dX9_setNow_4 ic_2 ?_
  refine g_iload_n dX9_setNow_5 rfl ?_
  refine n_iadd dX9_setNow_6 ?_
  refine q_iald dX9_setNow_7 ck_85 (ixD_nI (by omega) (by decide)) ?_
  refine g_istore_n dX9_setNow_8 rfl ?_
  refine g_aload_n dX9_setNow_9 rfl ?_
  refine q_getq dX9_setNow_10 f_R_7 ck_84 (by decide) ty_8_0 rf_84_0 ?_
  refine g_iconst dX9_setNow_13 ic_2 ?_
  refine g_iload_n dX9_setNow_14 rfl ?_
  refine n_iadd dX9_setNow_15 ?_
  refine g_iload_n dX9_setNow_16 rfl ?_
  refine q_iast dX9_setNow_17 ck_85 (ixD_nI (by omega) (by decide)) ?_
  refine g_iload_n dX9_setNow_18 rfl ?_
  exact e_iret dX9_setNow_19 rfl (by rfl) (by rfl)
set_option maxRecDepth 100000 in
theorem c_KR_sets_ok {σ : SI} {δ : SD} {a : Nat → Int32} {n s tl : Nat} {P : Nat → Nat → Int32} {tx rf : Nat → Int32} (hJ : IR σ a s P tl tx rf) (hs : s ≤ 5) (hW : WF a n) {j : Nat} {v : Int32} (hj : j < 5) (hk : setOK (nI j) v = true) : E KR_sets [.ref 84, .int (nI j), .int v] (HH σ δ) (some (.int (a (2 + j)))) (HH (uI (sKeep σ s) 85 (2 + j) v) δ) := by
  obtain rfl := hJ.row
  have h3 := hJ.sd
  have hJ1 := hJ.keep hs
  have hn := hW.n8
  have h7 := hW.a7
  have hW1 : WF (sKeep σ s 85) n := by rw [hJ1.row]; exact hW
  refine E.ofL [some (.ref 84), some (.int (nI j)), some (.int v)] rfl pn_RX9 rfl (fun sc => ?_)
  refine g_iload_n dX9_sets_0 rfl ?_
  refine g_iload_n dX9_sets_1 rfl ?_
  refine g_s2 (M' := KR_isSetting) dX9_sets_2 l_R_125 s_KR_isSetting c_KR_isSetting rfl rfl ⟨rfl, rfl⟩ ?_
  refine b_if_ne (tgt := 15) dX9_sets_5 rfl (fun zc5 => ?_) (fun zc5 => ?_)
  · refine g_aload_n dX9_sets_15 rfl ?_
    refine g_v0n (M' := KR_keep) dX9_sets_16 l_R_111 v_KR_keep (c_KR_keep hs h3) rc_84 rfl rfl ⟨rfl, rfl⟩ ?_
    refine g_aload_n dX9_sets_19 rfl ?_
    refine g_iload_n dX9_sets_20 rfl ?_
    refine g_iload_n dX9_sets_21 rfl ?_
    refine g_v2 (M' := KR_setNow) dX9_sets_22 l_R_128 v_KR_setNow (c_KR_setNow hj) rc_84 rfl rfl ⟨rfl, rfl⟩ ?_
    exact e_iret dX9_sets_25 rfl (by rw [hJ1.row]) (by rfl)
  · exact absurd hk (by rw [zc5]; decide)
set_option maxRecDepth 100000 in
theorem c_KR_sets_no2 {σ : SI} {δ : SD} {a : Nat → Int32} {n s tl : Nat} {P : Nat → Nat → Int32} {tx rf : Nat → Int32} (hJ : IR σ a s P tl tx rf) (hs : s ≤ 5) (hW : WF a n) {what v : Int32} (hk : ¬ setOK what v = true) : E KR_sets [.ref 84, .int what, .int v] (HH σ δ) (some (.int (-2))) (HH (rfM σ 0) δ) := by
  obtain rfl := hJ.row
  have h3 := hJ.sd
  have hJ1 := hJ.keep hs
  have hn := hW.n8
  have h7 := hW.a7
  have hW1 : WF (sKeep σ s 85) n := by rw [hJ1.row]; exact hW
  refine E.ofL [some (.ref 84), some (.int what), some (.int v)] rfl pn_RX9 rfl (fun sc => ?_)
  refine g_iload_n dX9_sets_0 rfl ?_
  refine g_iload_n dX9_sets_1 rfl ?_
  refine g_s2 (M' := KR_isSetting) dX9_sets_2 l_R_125 s_KR_isSetting c_KR_isSetting rfl rfl ⟨rfl, rfl⟩ ?_
  refine b_if_ne (tgt := 15) dX9_sets_5 rfl (fun zc5 => ?_) (fun zc5 => ?_)
  · exact absurd zc5 hk
  · refine g_aload_n dX9_sets_8 rfl ?_
    refine g_bipush dX9_sets_9 bp_m2 ?_
    refine g_v1 (M' := KR_refuses) dX9_sets_11 l_R_101 v_KR_refuses c_KR_refuses0 rc_84 rfl rfl ⟨rfl, rfl⟩ ?_
    exact e_iret dX9_sets_14 rfl (by rfl) (by rfl)
set_option maxRecDepth 100000 in
theorem c_KR_itemNow {σ : SI} {δ : SD} {n : Nat} (hn : n < 8) (h7 : σ 85 7 = nI n) {so r c b : Int32} : E KR_itemNow [.ref 84, .int so, .int r, .int c, .int b] (HH σ δ) (some (.int (nI n))) (HH (mItem σ n so r c b) δ) := by
  refine E.ofL [some (.ref 84), some (.int so), some (.int r), some (.int c), some (.int b)] rfl pn_RX9 rfl (fun sc => ?_)
  refine g_aload_n dX9_itemNow_0 rfl ?_
  refine g_v0 (M' := KR_many) dX9_itemNow_1 l_R_42 v_KR_many c_KR_many rc_84 rfl rfl ⟨rfl, rfl⟩ ?_
  refine g_top h7 ?_
  refine g_istore dX9_itemNow_4 rfl ?_
  refine g_aload_n dX9_itemNow_6 rfl ?_
  refine g_iload dX9_itemNow_7 rfl ?_
  refine g_iconst dX9_itemNow_9 ic_0 ?_
  refine g_iload_n dX9_itemNow_10 rfl ?_
  refine g_v3n (M' := KR_puts) dX9_itemNow_11 l_R_138 v_KR_puts (c_KR_puts (by omega) (by omega)) rc_84 rfl rfl ⟨rfl, rfl⟩ ?_
  refine g_aload_n dX9_itemNow_14 rfl ?_
  refine g_iload dX9_itemNow_15 rfl ?_
  refine g_iconst dX9_itemNow_17 ic_1 ?_
  refine g_iload_n dX9_itemNow_18 rfl ?_
  refine g_v3n (M' := KR_puts) dX9_itemNow_19 l_R_138 v_KR_puts (c_KR_puts (by omega) (by omega)) rc_84 rfl rfl ⟨rfl, rfl⟩ ?_
  refine g_aload_n dX9_itemNow_22 rfl ?_
  refine g_iload dX9_itemNow_23 rfl ?_
  refine g_iconst dX9_itemNow_25 ic_2 ?_
  refine g_iload_n dX9_itemNow_26 rfl ?_
  refine g_v3n (M' := KR_puts) dX9_itemNow_27 l_R_138 v_KR_puts (c_KR_puts (by omega) (by omega)) rc_84 rfl rfl ⟨rfl, rfl⟩ ?_
  refine g_aload_n dX9_itemNow_30 rfl ?_
  refine g_iload dX9_itemNow_31 rfl ?_
  refine g_iconst dX9_itemNow_33 ic_3 ?_
  refine g_iload dX9_itemNow_34 rfl ?_
  refine g_v3n (M' := KR_puts) dX9_itemNow_36 l_R_138 v_KR_puts (c_KR_puts (by omega) (by omega)) rc_84 rfl rfl ⟨rfl, rfl⟩ ?_
  refine g_aload_n dX9_itemNow_39 rfl ?_
  refine g_iload dX9_itemNow_40 rfl ?_
  refine g_iconst dX9_itemNow_42 ic_4 ?_
  refine g_iconst dX9_itemNow_43 ic_m1 ?_
  refine g_v3n (M' := KR_puts) dX9_itemNow_44 l_R_138 v_KR_puts (c_KR_puts (by omega) (by omega)) rc_84 rfl rfl ⟨rfl, rfl⟩ ?_
  refine g_aload_n dX9_itemNow_47 rfl ?_
  refine g_iload dX9_itemNow_48 rfl ?_
  refine g_iconst dX9_itemNow_50 ic_5 ?_
  refine g_iconst dX9_itemNow_51 ic_m1 ?_
  refine g_v3n (M' := KR_puts) dX9_itemNow_52 l_R_138 v_KR_puts (c_KR_puts (by omega) (by omega)) rc_84 rfl rfl ⟨rfl, rfl⟩ ?_
  refine g_aload_n dX9_itemNow_55 rfl ?_
  refine q_getq dX9_itemNow_56 f_R_7 ck_84 (by decide) ty_8_0 rf_84_0 ?_
  refine g_bipush dX9_itemNow_59 bp_7 ?_
  refine g_dup2 dX9_itemNow_61 rfl rfl ?_
  refine q_iald dX9_itemNow_62 ck_85 (ixD_nI (by omega) (by decide)) ?_
  refine g_top (it_7 h7) ?_
  refine g_iconst dX9_itemNow_63 ic_1 ?_
  refine n_iadd dX9_itemNow_64 ?_
  refine q_iast dX9_itemNow_65 ck_85 (ixD_nI (by omega) (by decide)) ?_
  refine g_iload dX9_itemNow_66 rfl ?_
  exact e_iret dX9_itemNow_68 rfl (by rfl) (by rfl)
set_option maxRecDepth 100000 in
theorem c_KR_item_ok {σ : SI} {δ : SD} {a : Nat → Int32} {n s tl : Nat} {P : Nat → Nat → Int32} {tx rf : Nat → Int32} (hJ : IR σ a s P tl tx rf) (hs : s ≤ 5) (hW : WF a n) {so r c b : Int32} (h : n < 8) (hk : (traitOK (nI 0) so && traitOK (nI 1) r && traitOK (nI 2) c && traitOK (nI 3) b) = true) : E KR_item [.ref 84, .int so, .int r, .int c, .int b] (HH σ δ) (some (.int (nI n))) (HH (mItem (sKeep σ s) n so r c b) δ) := by
  obtain rfl := hJ.row
  have h3 := hJ.sd
  have hJ1 := hJ.keep hs
  have hn := hW.n8
  have h7 := hW.a7
  have hW1 : WF (sKeep σ s 85) n := by rw [hJ1.row]; exact hW
  refine E.ofL [some (.ref 84), some (.int so), some (.int r), some (.int c), some (.int b)] rfl pn_RX9 rfl (fun sc => ?_)
  refine g_aload_n dX9_item_0 rfl ?_
  refine g_iload_n dX9_item_1 rfl ?_
  refine g_iload_n dX9_item_2 rfl ?_
  refine g_iload_n dX9_item_3 rfl ?_
  refine g_iload dX9_item_4 rfl ?_
  refine g_v4 (M' := KR_canItem) dX9_item_6 l_R_142 v_KR_canItem (c_KR_canItem hW) rc_84 rfl rfl ⟨rfl, rfl⟩ ?_
  refine g_top (itA_ok hk h) ?_
  refine g_istore dX9_item_9 rfl ?_
  refine g_iload dX9_item_11 rfl ?_
  refine n_if_ge (tgt := 23) (by omega) dX9_item_13 rfl (fun _ => ?_) (fun zc13 => absurd zc13 (by decide))
  refine g_aload_n dX9_item_23 rfl ?_
  refine g_v0n (M' := KR_keep) dX9_item_24 l_R_111 v_KR_keep (c_KR_keep hs h3) rc_84 rfl rfl ⟨rfl, rfl⟩ ?_
  refine g_aload_n dX9_item_27 rfl ?_
  refine g_iload_n dX9_item_28 rfl ?_
  refine g_iload_n dX9_item_29 rfl ?_
  refine g_iload_n dX9_item_30 rfl ?_
  refine g_iload dX9_item_31 rfl ?_
  refine g_v4 (M' := KR_itemNow) dX9_item_33 l_R_146 v_KR_itemNow (c_KR_itemNow h hW1.a7) rc_84 rfl rfl ⟨rfl, rfl⟩ ?_
  exact e_iret dX9_item_36 rfl (by rfl) (by rfl)
set_option maxRecDepth 100000 in
theorem c_KR_item_no2 {σ : SI} {δ : SD} {a : Nat → Int32} {n s tl : Nat} {P : Nat → Nat → Int32} {tx rf : Nat → Int32} (hJ : IR σ a s P tl tx rf) (hs : s ≤ 5) (hW : WF a n) {so r c b : Int32} (hk : (traitOK (nI 0) so && traitOK (nI 1) r && traitOK (nI 2) c && traitOK (nI 3) b) = false) : E KR_item [.ref 84, .int so, .int r, .int c, .int b] (HH σ δ) (some (.int (-2))) (HH (rfM σ 0) δ) := by
  obtain rfl := hJ.row
  have h3 := hJ.sd
  have hJ1 := hJ.keep hs
  have hn := hW.n8
  have h7 := hW.a7
  have hW1 : WF (sKeep σ s 85) n := by rw [hJ1.row]; exact hW
  refine E.ofL [some (.ref 84), some (.int so), some (.int r), some (.int c), some (.int b)] rfl pn_RX9 rfl (fun sc => ?_)
  refine g_aload_n dX9_item_0 rfl ?_
  refine g_iload_n dX9_item_1 rfl ?_
  refine g_iload_n dX9_item_2 rfl ?_
  refine g_iload_n dX9_item_3 rfl ?_
  refine g_iload dX9_item_4 rfl ?_
  refine g_v4 (M' := KR_canItem) dX9_item_6 l_R_142 v_KR_canItem (c_KR_canItem hW) rc_84 rfl rfl ⟨rfl, rfl⟩ ?_
  refine g_top (itA_bad hk) ?_
  refine g_istore dX9_item_9 rfl ?_
  refine g_iload dX9_item_11 rfl ?_
  refine g_if_ge (tgt := 23) dX9_item_13 rfl (fun zc13 => ?_) (fun zc13 => ?_)
  · exact absurd zc13 (by decide)
  · refine g_aload_n dX9_item_16 rfl ?_
    refine g_iload dX9_item_17 rfl ?_
    refine g_v1 (M' := KR_refuses) dX9_item_19 l_R_101 v_KR_refuses c_KR_refuses0 rc_84 rfl rfl ⟨rfl, rfl⟩ ?_
    exact e_iret dX9_item_22 rfl (by rfl) (by rfl)
set_option maxRecDepth 100000 in
theorem c_KR_item_no4 {σ : SI} {δ : SD} {a : Nat → Int32} {n s tl : Nat} {P : Nat → Nat → Int32} {tx rf : Nat → Int32} (hJ : IR σ a s P tl tx rf) (hs : s ≤ 5) (hW : WF a n) {so r c b : Int32} (h : 8 ≤ n) (hk : (traitOK (nI 0) so && traitOK (nI 1) r && traitOK (nI 2) c && traitOK (nI 3) b) = true) : E KR_item [.ref 84, .int so, .int r, .int c, .int b] (HH σ δ) (some (.int (-4))) (HH (rfM σ 2) δ) := by
  obtain rfl := hJ.row
  have h3 := hJ.sd
  have hJ1 := hJ.keep hs
  have hn := hW.n8
  have h7 := hW.a7
  have hW1 : WF (sKeep σ s 85) n := by rw [hJ1.row]; exact hW
  refine E.ofL [some (.ref 84), some (.int so), some (.int r), some (.int c), some (.int b)] rfl pn_RX9 rfl (fun sc => ?_)
  refine g_aload_n dX9_item_0 rfl ?_
  refine g_iload_n dX9_item_1 rfl ?_
  refine g_iload_n dX9_item_2 rfl ?_
  refine g_iload_n dX9_item_3 rfl ?_
  refine g_iload dX9_item_4 rfl ?_
  refine g_v4 (M' := KR_canItem) dX9_item_6 l_R_142 v_KR_canItem (c_KR_canItem hW) rc_84 rfl rfl ⟨rfl, rfl⟩ ?_
  refine g_top (itA_full hk h) ?_
  refine g_istore dX9_item_9 rfl ?_
  refine g_iload dX9_item_11 rfl ?_
  refine g_if_ge (tgt := 23) dX9_item_13 rfl (fun zc13 => ?_) (fun zc13 => ?_)
  · exact absurd zc13 (by decide)
  · refine g_aload_n dX9_item_16 rfl ?_
    refine g_iload dX9_item_17 rfl ?_
    refine g_v1 (M' := KR_refuses) dX9_item_19 l_R_101 v_KR_refuses c_KR_refuses2 rc_84 rfl rfl ⟨rfl, rfl⟩ ?_
    exact e_iret dX9_item_22 rfl (by rfl) (by rfl)
set_option maxRecDepth 100000 in
theorem c_KR_drops_ok {σ : SI} {δ : SD} {a : Nat → Int32} {n s tl : Nat} {P : Nat → Nat → Int32} {tx rf : Nat → Int32} (hJ : IR σ a s P tl tx rf) (hs : s ≤ 5) (hW : WF a n) {k : Nat} (hk : k < n) : E KR_drops [.ref 84, .int (nI k)] (HH σ δ) (some (.int (nI (n - 1)))) (HH (mDrop (sKeep σ s) n k) δ) := by
  obtain rfl := hJ.row
  have h3 := hJ.sd
  have hJ1 := hJ.keep hs
  have hn := hW.n8
  have h7 := hW.a7
  have hW1 : WF (sKeep σ s 85) n := by rw [hJ1.row]; exact hW
  refine E.ofL [some (.ref 84), some (.int (nI k))] rfl pn_RX9 rfl (fun sc => ?_)
  generalize hRz : (fun (zr : Option Value) (zk : XH) => zr = some (.int (nI (n - 1))) ∧ zk = HH (mDrop (sKeep σ s) n k) δ) = R
  refine g_aload_n dX9_drops_0 rfl ?_
  refine g_iload_n dX9_drops_1 rfl ?_
  refine g_v1 (M' := KR_isItem) dX9_drops_2 l_R_94 v_KR_isItem (c_KR_isItem h7 hn) rc_84 rfl rfl ⟨rfl, rfl⟩ ?_
  refine g_top (it1 hk hn) ?_
  refine n_if_ne (tgt := 15) (by omega) dX9_drops_5 rfl (fun _ => ?_) (fun zc5 => absurd zc5 (by decide))
  refine g_aload_n dX9_drops_15 rfl ?_
  refine g_v0n (M' := KR_keep) dX9_drops_16 l_R_111 v_KR_keep (c_KR_keep hs h3) rc_84 rfl rfl ⟨rfl, rfl⟩ ?_
  refine g_bipush dX9_drops_19 bp_8 ?_
  refine g_bipush dX9_drops_21 bp_6 ?_
  refine g_iload_n dX9_drops_23 rfl ?_
  refine n_imul dX9_drops_24 ?_
  refine n_iadd dX9_drops_25 ?_
  refine g_istore_n dX9_drops_26 rfl ?_
  refine g_heap (show HH (sKeep σ s) δ = HH (uR (sKeep σ s) 85 (va_cpy (sKeep σ s 85) (sKeep σ s 85) (8 + 6 * k + 6) (8 + 6 * k) 0)) δ by rw [cpy_0]) ?_
  have H27 : ∀ (N : Nat) (m : Nat), m ≤ 6 * (n - 1 - k) → 6 * (n - 1 - k) - m < N → G sc KR_drops 27 (aL [some (.ref 84), some (.int (nI k)), some (.int (nI (8 + 6 * k + m)))]) [] (HH (uR (sKeep σ s) 85 (va_cpy (sKeep σ s 85) (sKeep σ s 85) (8 + 6 * k + 6) (8 + 6 * k) m)) δ) (0, 0) R := by
    intro N
    induction N with
    | zero => intro m hm hN27; exact absurd hN27 (Nat.not_lt_zero _)
    | succ N ih27 =>
      intro m hm hN27
      refine g_iload_n dX9_drops_27 rfl ?_
      refine g_bipush dX9_drops_28 bp_8 ?_
      refine g_bipush dX9_drops_30 bp_6 ?_
      refine g_aload_n dX9_drops_32 rfl ?_
      refine g_v0 (M' := KR_many) dX9_drops_33 l_R_42 v_KR_many c_KR_many rc_84 rfl rfl ⟨rfl, rfl⟩ ?_
      refine g_top (show (uR (sKeep σ s) 85 (va_cpy (sKeep σ s 85) (sKeep σ s 85) (8 + 6 * k + 6) (8 + 6 * k) m)) 85 7 = nI n by rw [uR_eq, pk_cpy_out (by omega)]; exact hW1.a7) ?_
      refine g_iconst dX9_drops_36 ic_1 ?_
      refine n_isub dX9_drops_37 (by omega) ?_
      refine n_imul dX9_drops_38 ?_
      refine n_iadd dX9_drops_39 ?_
      refine n_icmp_ge (tgt := 64) (by omega) (by omega) dX9_drops_40 rfl (fun zc40 => ?_) (fun zc40 => ?_)
      · refine g_aload_n dX9_drops_64 rfl ?_
        refine q_getq dX9_drops_65 f_R_7 ck_84 (by decide) ty_8_0 rf_84_0 ?_
        refine g_bipush dX9_drops_68 bp_7 ?_
        refine g_dup2 dX9_drops_70 rfl rfl ?_
        refine q_iald dX9_drops_71 ck_85 (ixD_nI (by omega) (by decide)) ?_
        refine g_top (show (uR (sKeep σ s) 85 (va_cpy (sKeep σ s 85) (sKeep σ s 85) (8 + 6 * k + 6) (8 + 6 * k) m)) 85 7 = nI n by rw [uR_eq, pk_cpy_out (by omega)]; exact hW1.a7) ?_
        refine g_iconst dX9_drops_72 ic_1 ?_
        refine n_isub dX9_drops_73 (by omega) ?_
        refine q_iast dX9_drops_74 ck_85 (ixD_nI (by omega) (by decide)) ?_
        refine g_aload_n dX9_drops_75 rfl ?_
        refine g_v0 (M' := KR_many) dX9_drops_76 l_R_42 v_KR_many c_KR_many rc_84 rfl rfl ⟨rfl, rfl⟩ ?_
        refine g_top uI_same ?_
        exact g_iret (S := []) dX9_drops_79 rfl (by rw [← hRz]; exact ⟨congrArg (fun zz => some (Value.int zz)) (show _ = _ by rfl), by obtain rfl : m = 6 * (n - 1 - k) := (by omega); rfl⟩) (Nat.zero_le _) (Nat.zero_le _)
      · refine g_aload_n dX9_drops_43 rfl ?_
        refine q_getq dX9_drops_44 f_R_7 ck_84 (by decide) ty_8_0 rf_84_0 ?_
        refine g_iload_n dX9_drops_47 rfl ?_
        refine g_aload_n dX9_drops_48 rfl ?_
        refine q_getq dX9_drops_49 f_R_7 ck_84 (by decide) ty_8_0 rf_84_0 ?_
        refine g_iload_n dX9_drops_52 rfl ?_
        refine g_bipush dX9_drops_53 bp_6 ?_
        refine n_iadd dX9_drops_55 ?_
        refine q_iald dX9_drops_56 ck_85 (ixD_nI (by omega) (by decide)) ?_
        refine q_iast dX9_drops_57 ck_85 (ixD_nI (by omega) (by decide)) ?_
        refine n_iinc (b := 1) dX9_drops_58 rfl rfl rfl ?_
        refine g_goto (tgt := 27) dX9_drops_61 rfl ?_
        refine g_heap (congrArg (fun z => HH z δ) (cpy_st _ (by rw [uR_eq, pk_cpy_out (by omega)]; congr 1; omega))) ?_
        exact g_can _ (by exact ⟨rfl, rfl, rfl, trivial⟩) (ih27 (m + 1) (by omega) (by omega))
  exact g_can _ (by exact ⟨rfl, rfl, rfl, trivial⟩) (H27 _ 0 (by omega) (Nat.lt_succ_self _))
set_option maxRecDepth 100000 in
theorem c_KR_drops_no2 {σ : SI} {δ : SD} {a : Nat → Int32} {n s tl : Nat} {P : Nat → Nat → Int32} {tx rf : Nat → Int32} (hJ : IR σ a s P tl tx rf) (hs : s ≤ 5) (hW : WF a n) {k : Int32} (hk : ¬ itB k n = true) : E KR_drops [.ref 84, .int k] (HH σ δ) (some (.int (-2))) (HH (rfM σ 0) δ) := by
  obtain rfl := hJ.row
  have h3 := hJ.sd
  have hJ1 := hJ.keep hs
  have hn := hW.n8
  have h7 := hW.a7
  have hW1 : WF (sKeep σ s 85) n := by rw [hJ1.row]; exact hW
  refine E.ofL [some (.ref 84), some (.int k)] rfl pn_RX9 rfl (fun sc => ?_)
  refine g_aload_n dX9_drops_0 rfl ?_
  refine g_iload_n dX9_drops_1 rfl ?_
  refine g_v1 (M' := KR_isItem) dX9_drops_2 l_R_94 v_KR_isItem (c_KR_isItem h7 hn) rc_84 rfl rfl ⟨rfl, rfl⟩ ?_
  refine b_if_ne (tgt := 15) dX9_drops_5 rfl (fun zc5 => ?_) (fun zc5 => ?_)
  · exact absurd zc5 hk
  · refine g_aload_n dX9_drops_8 rfl ?_
    refine g_bipush dX9_drops_9 bp_m2 ?_
    refine g_v1 (M' := KR_refuses) dX9_drops_11 l_R_101 v_KR_refuses c_KR_refuses0 rc_84 rfl rfl ⟨rfl, rfl⟩ ?_
    exact e_iret dX9_drops_14 rfl (by rfl) (by rfl)
set_option maxRecDepth 100000 in
theorem c_KR_becomes_ok {σ : SI} {δ : SD} {a : Nat → Int32} {n s tl : Nat} {P : Nat → Nat → Int32} {tx rf : Nat → Int32} (hJ : IR σ a s P tl tx rf) (hs : s ≤ 5) (hW : WF a n) {k j : Nat} {v : Int32} (hk : k < n) (hj : j < 4) (ht : traitOK (nI j) v = true) : E KR_becomes [.ref 84, .int (nI k), .int (nI j), .int v] (HH σ δ) (some (.int (its a k j))) (HH (uI (sKeep σ s) 85 (8 + 6 * k + j) v) δ) := by
  obtain rfl := hJ.row
  have h3 := hJ.sd
  have hJ1 := hJ.keep hs
  have hn := hW.n8
  have h7 := hW.a7
  have hW1 : WF (sKeep σ s 85) n := by rw [hJ1.row]; exact hW
  refine E.ofL [some (.ref 84), some (.int (nI k)), some (.int (nI j)), some (.int v)] rfl pn_RX9 rfl (fun sc => ?_)
  refine g_aload_n dX9_becomes_0 rfl ?_
  refine g_iload_n dX9_becomes_1 rfl ?_
  refine g_v1 (M' := KR_isItem) dX9_becomes_2 l_R_94 v_KR_isItem (c_KR_isItem h7 hn) rc_84 rfl rfl ⟨rfl, rfl⟩ ?_
  refine g_top (it1 hk hn) ?_
  refine n_if_eq (tgt := 16) (by omega) dX9_becomes_5 rfl (fun zc5 => absurd zc5 (by decide)) (fun _ => ?_)
  refine g_iload_n dX9_becomes_8 rfl ?_
  refine g_iload_n dX9_becomes_9 rfl ?_
  refine g_s2 (M' := KR_isOf) dX9_becomes_10 l_R_135 s_KR_isOf c_KR_isOf rfl rfl ⟨rfl, rfl⟩ ?_
  refine b_if_ne (tgt := 23) dX9_becomes_13 rfl (fun zc13 => ?_) (fun zc13 => ?_)
  · refine g_aload_n dX9_becomes_23 rfl ?_
    refine g_v0n (M' := KR_keep) dX9_becomes_24 l_R_111 v_KR_keep (c_KR_keep hs h3) rc_84 rfl rfl ⟨rfl, rfl⟩ ?_
    refine g_aload_n dX9_becomes_27 rfl ?_
    refine g_iload_n dX9_becomes_28 rfl ?_
    refine g_iload_n dX9_becomes_29 rfl ?_
    refine g_v2 (M' := KR_its) dX9_becomes_30 l_R_50 v_KR_its (c_KR_its (by omega) (by omega)) rc_84 rfl rfl ⟨rfl, rfl⟩ ?_
    refine g_istore dX9_becomes_33 rfl ?_
    refine g_aload_n dX9_becomes_35 rfl ?_
    refine g_iload_n dX9_becomes_36 rfl ?_
    refine g_iload_n dX9_becomes_37 rfl ?_
    refine g_iload_n dX9_becomes_38 rfl ?_
    refine g_v3n (M' := KR_puts) dX9_becomes_39 l_R_138 v_KR_puts (c_KR_puts (by omega) (by omega)) rc_84 rfl rfl ⟨rfl, rfl⟩ ?_
    refine g_iload dX9_becomes_42 rfl ?_
    exact e_iret dX9_becomes_44 rfl (by unfold its; rw [hJ1.row]) (by rfl)
  · exact absurd ht (by rw [zc13]; decide)
set_option maxRecDepth 100000 in
theorem c_KR_becomes_no2 {σ : SI} {δ : SD} {a : Nat → Int32} {n s tl : Nat} {P : Nat → Nat → Int32} {tx rf : Nat → Int32} (hJ : IR σ a s P tl tx rf) (hs : s ≤ 5) (hW : WF a n) {k what v : Int32} (hk : ¬ (itB k n && traitOK what v) = true) : E KR_becomes [.ref 84, .int k, .int what, .int v] (HH σ δ) (some (.int (-2))) (HH (rfM σ 0) δ) := by
  obtain rfl := hJ.row
  have h3 := hJ.sd
  have hJ1 := hJ.keep hs
  have hn := hW.n8
  have h7 := hW.a7
  have hW1 : WF (sKeep σ s 85) n := by rw [hJ1.row]; exact hW
  refine E.ofL [some (.ref 84), some (.int k), some (.int what), some (.int v)] rfl pn_RX9 rfl (fun sc => ?_)
  refine g_aload_n dX9_becomes_0 rfl ?_
  refine g_iload_n dX9_becomes_1 rfl ?_
  refine g_v1 (M' := KR_isItem) dX9_becomes_2 l_R_94 v_KR_isItem (c_KR_isItem h7 hn) rc_84 rfl rfl ⟨rfl, rfl⟩ ?_
  refine b_if_eq (tgt := 16) dX9_becomes_5 rfl (fun zc5 => ?_) (fun zc5 => ?_)
  · refine g_aload_n dX9_becomes_16 rfl ?_
    refine g_bipush dX9_becomes_17 bp_m2 ?_
    refine g_v1 (M' := KR_refuses) dX9_becomes_19 l_R_101 v_KR_refuses c_KR_refuses0 rc_84 rfl rfl ⟨rfl, rfl⟩ ?_
    exact e_iret dX9_becomes_22 rfl (by rfl) (by rfl)
  · refine g_iload_n dX9_becomes_8 rfl ?_
    refine g_iload_n dX9_becomes_9 rfl ?_
    refine g_s2 (M' := KR_isOf) dX9_becomes_10 l_R_135 s_KR_isOf c_KR_isOf rfl rfl ⟨rfl, rfl⟩ ?_
    refine b_if_ne (tgt := 23) dX9_becomes_13 rfl (fun zc13 => ?_) (fun zc13 => ?_)
    · exact absurd (show (itB k n && traitOK what v) = true by rw [zc5, zc13]; rfl) hk
    · refine g_aload_n dX9_becomes_16 rfl ?_
      refine g_bipush dX9_becomes_17 bp_m2 ?_
      refine g_v1 (M' := KR_refuses) dX9_becomes_19 l_R_101 v_KR_refuses c_KR_refuses0 rc_84 rfl rfl ⟨rfl, rfl⟩ ?_
      exact e_iret dX9_becomes_22 rfl (by rfl) (by rfl)
set_option maxRecDepth 100000 in
theorem c_KR_canLay {σ : SI} {δ : SD} {n : Nat} (hW : WF (σ 85) n) {k x y : Int32} : E KR_canLay [.ref 84, .int k, .int x, .int y] (HH σ δ) (some (.int (layA (σ 85) n k x y))) (HH σ δ) := by
  have h8 := hW.n8
  have h7 := hW.a7
  have hn := hW.n8
  refine E.ofL [some (.ref 84), some (.int k), some (.int x), some (.int y)] rfl pn_RX9 rfl (fun sc => ?_)
  refine g_aload_n dX9_canLay_0 rfl ?_
  refine g_iload_n dX9_canLay_1 rfl ?_
  refine g_v1 (M' := KR_isItem) dX9_canLay_2 l_R_94 v_KR_isItem (c_KR_isItem h7 hn) rc_84 rfl rfl ⟨rfl, rfl⟩ ?_
  refine b_if_eq (tgt := 16) dX9_canLay_5 rfl (fun zc5 => ?_) (fun zc5 => ?_)
  · refine g_bipush dX9_canLay_16 bp_m2 ?_
    refine g_goto (tgt := 37) dX9_canLay_18 rfl ?_
    exact e_iret dX9_canLay_37 rfl (by first | exact (lyA_no (Or.inl zc5)).symm | exact (lyA_no (Or.inr zc13)).symm | exact (lyA_yes zc5 zc13 zc28).symm | exact (lyA_bad zc5 zc13 zc28).symm) (by rfl)
  · refine g_iload_n dX9_canLay_8 rfl ?_
    refine g_iload_n dX9_canLay_9 rfl ?_
    refine g_s2 (M' := KR_isPlace) dX9_canLay_10 l_R_97 s_KR_isPlace c_KR_isPlace rfl rfl ⟨rfl, rfl⟩ ?_
    refine b_if_ne (tgt := 21) dX9_canLay_13 rfl (fun zc13 => ?_) (fun zc13 => ?_)
    · obtain ⟨j, hj, rfl⟩ := (itB_iff (by omega)).mp zc5
      refine g_aload_n dX9_canLay_21 rfl ?_
      refine g_iload_n dX9_canLay_22 rfl ?_
      refine g_iload_n dX9_canLay_23 rfl ?_
      refine g_iload_n dX9_canLay_24 rfl ?_
      refine g_v3 (M' := KR_isFit) dX9_canLay_25 l_R_89 v_KR_isFit (c_KR_isFit hW (k := j) (by omega)) rc_84 rfl rfl ⟨rfl, rfl⟩ ?_
      refine b_if_eq (tgt := 35) dX9_canLay_28 rfl (fun zc28 => ?_) (fun zc28 => ?_)
      · refine g_bipush dX9_canLay_35 bp_m3 ?_
        exact e_iret dX9_canLay_37 rfl (by first | exact (lyA_no (Or.inl zc5)).symm | exact (lyA_no (Or.inr zc13)).symm | exact (lyA_yes zc5 zc13 zc28).symm | exact (lyA_bad zc5 zc13 zc28).symm) (by rfl)
      · refine g_iconst dX9_canLay_31 ic_0 ?_
        refine g_goto (tgt := 37) dX9_canLay_32 rfl ?_
        exact e_iret dX9_canLay_37 rfl (by first | exact (lyA_no (Or.inl zc5)).symm | exact (lyA_no (Or.inr zc13)).symm | exact (lyA_yes zc5 zc13 zc28).symm | exact (lyA_bad zc5 zc13 zc28).symm) (by rfl)
    · refine g_bipush dX9_canLay_16 bp_m2 ?_
      refine g_goto (tgt := 37) dX9_canLay_18 rfl ?_
      exact e_iret dX9_canLay_37 rfl (by first | exact (lyA_no (Or.inl zc5)).symm | exact (lyA_no (Or.inr zc13)).symm | exact (lyA_yes zc5 zc13 zc28).symm | exact (lyA_bad zc5 zc13 zc28).symm) (by rfl)
set_option maxRecDepth 100000 in
theorem c_KR_lays_ok {σ : SI} {δ : SD} {a : Nat → Int32} {n s tl : Nat} {P : Nat → Nat → Int32} {tx rf : Nat → Int32} (hJ : IR σ a s P tl tx rf) (hs : s ≤ 5) (hW : WF a n) {k : Nat} {x y : Int32} (hk : k < n) (h : layA a n (nI k) x y = nI 0) : E KR_lays [.ref 84, .int (nI k), .int x, .int y] (HH σ δ) (some (.int (if liesA a k then nI 1 else nI 0))) (HH (mLay (sKeep σ s) k x y) δ) := by
  obtain rfl := hJ.row
  have h3 := hJ.sd
  have hJ1 := hJ.keep hs
  have hn := hW.n8
  have h7 := hW.a7
  have hW1 : WF (sKeep σ s 85) n := by rw [hJ1.row]; exact hW
  refine E.ofL [some (.ref 84), some (.int (nI k)), some (.int x), some (.int y)] rfl pn_RX9 rfl (fun sc => ?_)
  refine g_aload_n dX9_lays_0 rfl ?_
  refine g_iload_n dX9_lays_1 rfl ?_
  refine g_iload_n dX9_lays_2 rfl ?_
  refine g_iload_n dX9_lays_3 rfl ?_
  refine g_v3 (M' := KR_canLay) dX9_lays_4 l_R_168 v_KR_canLay (c_KR_canLay hW) rc_84 rfl rfl ⟨rfl, rfl⟩ ?_
  refine g_top h ?_
  refine g_istore dX9_lays_7 rfl ?_
  refine g_iload dX9_lays_9 rfl ?_
  refine n_if_ge (tgt := 21) (by omega) dX9_lays_11 rfl (fun _ => ?_) (fun zc11 => absurd zc11 (by decide))
  refine g_aload_n dX9_lays_21 rfl ?_
  refine g_v0n (M' := KR_keep) dX9_lays_22 l_R_111 v_KR_keep (c_KR_keep hs h3) rc_84 rfl rfl ⟨rfl, rfl⟩ ?_
  refine g_aload_n dX9_lays_25 rfl ?_
  refine g_iload_n dX9_lays_26 rfl ?_
  refine g_iload_n dX9_lays_27 rfl ?_
  refine g_iload_n dX9_lays_28 rfl ?_
  refine g_v3 (M' := KR_layNow) dX9_lays_29 l_R_172 v_KR_layNow (c_KR_layNow (by omega)) rc_84 rfl rfl ⟨rfl, rfl⟩ ?_
  exact e_iret dX9_lays_32 rfl (by rw [hJ1.row]) (by rfl)
set_option maxRecDepth 100000 in
theorem c_KR_lays_no2 {σ : SI} {δ : SD} {a : Nat → Int32} {n s tl : Nat} {P : Nat → Nat → Int32} {tx rf : Nat → Int32} (hJ : IR σ a s P tl tx rf) (hs : s ≤ 5) (hW : WF a n) {k x y : Int32} (h : layA a n k x y = -2) : E KR_lays [.ref 84, .int k, .int x, .int y] (HH σ δ) (some (.int (-2))) (HH (rfM σ 0) δ) := by
  obtain rfl := hJ.row
  have h3 := hJ.sd
  have hJ1 := hJ.keep hs
  have hn := hW.n8
  have h7 := hW.a7
  have hW1 : WF (sKeep σ s 85) n := by rw [hJ1.row]; exact hW
  refine E.ofL [some (.ref 84), some (.int k), some (.int x), some (.int y)] rfl pn_RX9 rfl (fun sc => ?_)
  refine g_aload_n dX9_lays_0 rfl ?_
  refine g_iload_n dX9_lays_1 rfl ?_
  refine g_iload_n dX9_lays_2 rfl ?_
  refine g_iload_n dX9_lays_3 rfl ?_
  refine g_v3 (M' := KR_canLay) dX9_lays_4 l_R_168 v_KR_canLay (c_KR_canLay hW) rc_84 rfl rfl ⟨rfl, rfl⟩ ?_
  refine g_top h ?_
  refine g_istore dX9_lays_7 rfl ?_
  refine g_iload dX9_lays_9 rfl ?_
  refine g_if_ge (tgt := 21) dX9_lays_11 rfl (fun zc11 => ?_) (fun zc11 => ?_)
  · exact absurd zc11 (by decide)
  · refine g_aload_n dX9_lays_14 rfl ?_
    refine g_iload dX9_lays_15 rfl ?_
    refine g_v1 (M' := KR_refuses) dX9_lays_17 l_R_101 v_KR_refuses c_KR_refuses0 rc_84 rfl rfl ⟨rfl, rfl⟩ ?_
    exact e_iret dX9_lays_20 rfl (by rfl) (by rfl)
set_option maxRecDepth 100000 in
theorem c_KR_lays_no3 {σ : SI} {δ : SD} {a : Nat → Int32} {n s tl : Nat} {P : Nat → Nat → Int32} {tx rf : Nat → Int32} (hJ : IR σ a s P tl tx rf) (hs : s ≤ 5) (hW : WF a n) {k x y : Int32} (h : layA a n k x y = -3) : E KR_lays [.ref 84, .int k, .int x, .int y] (HH σ δ) (some (.int (-3))) (HH (rfM σ 1) δ) := by
  obtain rfl := hJ.row
  have h3 := hJ.sd
  have hJ1 := hJ.keep hs
  have hn := hW.n8
  have h7 := hW.a7
  have hW1 : WF (sKeep σ s 85) n := by rw [hJ1.row]; exact hW
  refine E.ofL [some (.ref 84), some (.int k), some (.int x), some (.int y)] rfl pn_RX9 rfl (fun sc => ?_)
  refine g_aload_n dX9_lays_0 rfl ?_
  refine g_iload_n dX9_lays_1 rfl ?_
  refine g_iload_n dX9_lays_2 rfl ?_
  refine g_iload_n dX9_lays_3 rfl ?_
  refine g_v3 (M' := KR_canLay) dX9_lays_4 l_R_168 v_KR_canLay (c_KR_canLay hW) rc_84 rfl rfl ⟨rfl, rfl⟩ ?_
  refine g_top h ?_
  refine g_istore dX9_lays_7 rfl ?_
  refine g_iload dX9_lays_9 rfl ?_
  refine g_if_ge (tgt := 21) dX9_lays_11 rfl (fun zc11 => ?_) (fun zc11 => ?_)
  · exact absurd zc11 (by decide)
  · refine g_aload_n dX9_lays_14 rfl ?_
    refine g_iload dX9_lays_15 rfl ?_
    refine g_v1 (M' := KR_refuses) dX9_lays_17 l_R_101 v_KR_refuses c_KR_refuses1 rc_84 rfl rfl ⟨rfl, rfl⟩ ?_
    exact e_iret dX9_lays_20 rfl (by rfl) (by rfl)
set_option maxRecDepth 100000 in
theorem c_KR_offNow {σ : SI} {δ : SD} {n : Nat} (hW : WF (σ 85) n) {k : Nat} (hk : k < n) : E KR_offNow [.ref 84, .int (nI k)] (HH σ δ) (some (.int (nI (cntN (liesA (aLay (σ 85) k (-1) (-1))) n)))) (HH (mLay σ k (-1) (-1)) δ) := by
  have h8 := hW.n8
  have hW1 : WF (mLay σ k (-1) (-1) 85) n := by rw [mLay_row]; exact WF_lay hW hk (Or.inl ⟨rfl, rfl⟩)
  refine E.ofL [some (.ref 84), some (.int (nI k))] rfl pn_RX9 rfl (fun sc => ?_)
  refine g_aload_n dX9_offNow_0 rfl ?_
  refine g_iload_n dX9_offNow_1 rfl ?_
  refine g_iconst dX9_offNow_2 ic_4 ?_
  refine g_iconst dX9_offNow_3 ic_m1 ?_
  refine g_v3n (M' := KR_puts) dX9_offNow_4 l_R_138 v_KR_puts (c_KR_puts (by omega) (by omega)) rc_84 rfl rfl ⟨rfl, rfl⟩ ?_
  refine g_aload_n dX9_offNow_7 rfl ?_
  refine g_iload_n dX9_offNow_8 rfl ?_
  refine g_iconst dX9_offNow_9 ic_5 ?_
  refine g_iconst dX9_offNow_10 ic_m1 ?_
  refine g_v3n (M' := KR_puts) dX9_offNow_11 l_R_138 v_KR_puts (c_KR_puts (by omega) (by omega)) rc_84 rfl rfl ⟨rfl, rfl⟩ ?_
  refine g_aload_n dX9_offNow_14 rfl ?_
  refine g_v0 (M' := KR_liesMany) dX9_offNow_15 l_R_175 v_KR_liesMany (c_KR_liesMany hW1) rc_84 rfl rfl ⟨rfl, rfl⟩ ?_
  exact e_iret dX9_offNow_18 rfl (by show nI (cntN (liesA (mLay σ k (-1) (-1) 85)) n) = _; rw [mLay_row]) (by rfl)
set_option maxRecDepth 100000 in
theorem c_KR_off_ok {σ : SI} {δ : SD} {a : Nat → Int32} {n s tl : Nat} {P : Nat → Nat → Int32} {tx rf : Nat → Int32} (hJ : IR σ a s P tl tx rf) (hs : s ≤ 5) (hW : WF a n) {k : Nat} (hk : k < n) (h : canOffA a n (nI k) = nI 0) : E KR_off [.ref 84, .int (nI k)] (HH σ δ) (some (.int (nI (cntN (liesA (aLay a k (-1) (-1))) n)))) (HH (mLay (sKeep σ s) k (-1) (-1)) δ) := by
  obtain rfl := hJ.row
  have h3 := hJ.sd
  have hJ1 := hJ.keep hs
  have hn := hW.n8
  have h7 := hW.a7
  have hW1 : WF (sKeep σ s 85) n := by rw [hJ1.row]; exact hW
  refine E.ofL [some (.ref 84), some (.int (nI k))] rfl pn_RX9 rfl (fun sc => ?_)
  refine g_aload_n dX9_off_0 rfl ?_
  refine g_iload_n dX9_off_1 rfl ?_
  refine g_v1 (M' := KR_canOff) dX9_off_2 l_R_178 v_KR_canOff (c_KR_canOff hW) rc_84 rfl rfl ⟨rfl, rfl⟩ ?_
  refine g_top h ?_
  refine g_istore_n dX9_off_5 rfl ?_
  refine g_iload_n dX9_off_6 rfl ?_
  refine n_if_ge (tgt := 16) (by omega) dX9_off_7 rfl (fun _ => ?_) (fun zc7 => absurd zc7 (by decide))
  refine g_aload_n dX9_off_16 rfl ?_
  refine g_v0n (M' := KR_keep) dX9_off_17 l_R_111 v_KR_keep (c_KR_keep hs h3) rc_84 rfl rfl ⟨rfl, rfl⟩ ?_
  refine g_aload_n dX9_off_20 rfl ?_
  refine g_iload_n dX9_off_21 rfl ?_
  refine g_v1 (M' := KR_offNow) dX9_off_22 l_R_181 v_KR_offNow (c_KR_offNow hW1 (by omega)) rc_84 rfl rfl ⟨rfl, rfl⟩ ?_
  exact e_iret dX9_off_25 rfl (by rw [hJ1.row]) (by rfl)
set_option maxRecDepth 100000 in
theorem c_KR_off_no2 {σ : SI} {δ : SD} {a : Nat → Int32} {n s tl : Nat} {P : Nat → Nat → Int32} {tx rf : Nat → Int32} (hJ : IR σ a s P tl tx rf) (hs : s ≤ 5) (hW : WF a n) {k : Int32} (h : canOffA a n k = -2) : E KR_off [.ref 84, .int k] (HH σ δ) (some (.int (-2))) (HH (rfM σ 0) δ) := by
  obtain rfl := hJ.row
  have h3 := hJ.sd
  have hJ1 := hJ.keep hs
  have hn := hW.n8
  have h7 := hW.a7
  have hW1 : WF (sKeep σ s 85) n := by rw [hJ1.row]; exact hW
  refine E.ofL [some (.ref 84), some (.int k)] rfl pn_RX9 rfl (fun sc => ?_)
  refine g_aload_n dX9_off_0 rfl ?_
  refine g_iload_n dX9_off_1 rfl ?_
  refine g_v1 (M' := KR_canOff) dX9_off_2 l_R_178 v_KR_canOff (c_KR_canOff hW) rc_84 rfl rfl ⟨rfl, rfl⟩ ?_
  refine g_top h ?_
  refine g_istore_n dX9_off_5 rfl ?_
  refine g_iload_n dX9_off_6 rfl ?_
  refine g_if_ge (tgt := 16) dX9_off_7 rfl (fun zc7 => ?_) (fun zc7 => ?_)
  · exact absurd zc7 (by decide)
  · refine g_aload_n dX9_off_10 rfl ?_
    refine g_iload_n dX9_off_11 rfl ?_
    refine g_v1 (M' := KR_refuses) dX9_off_12 l_R_101 v_KR_refuses c_KR_refuses0 rc_84 rfl rfl ⟨rfl, rfl⟩ ?_
    exact e_iret dX9_off_15 rfl (by rfl) (by rfl)
set_option maxRecDepth 100000 in
theorem c_KR_off_no3 {σ : SI} {δ : SD} {a : Nat → Int32} {n s tl : Nat} {P : Nat → Nat → Int32} {tx rf : Nat → Int32} (hJ : IR σ a s P tl tx rf) (hs : s ≤ 5) (hW : WF a n) {k : Int32} (h : canOffA a n k = -3) : E KR_off [.ref 84, .int k] (HH σ δ) (some (.int (-3))) (HH (rfM σ 1) δ) := by
  obtain rfl := hJ.row
  have h3 := hJ.sd
  have hJ1 := hJ.keep hs
  have hn := hW.n8
  have h7 := hW.a7
  have hW1 : WF (sKeep σ s 85) n := by rw [hJ1.row]; exact hW
  refine E.ofL [some (.ref 84), some (.int k)] rfl pn_RX9 rfl (fun sc => ?_)
  refine g_aload_n dX9_off_0 rfl ?_
  refine g_iload_n dX9_off_1 rfl ?_
  refine g_v1 (M' := KR_canOff) dX9_off_2 l_R_178 v_KR_canOff (c_KR_canOff hW) rc_84 rfl rfl ⟨rfl, rfl⟩ ?_
  refine g_top h ?_
  refine g_istore_n dX9_off_5 rfl ?_
  refine g_iload_n dX9_off_6 rfl ?_
  refine g_if_ge (tgt := 16) dX9_off_7 rfl (fun zc7 => ?_) (fun zc7 => ?_)
  · exact absurd zc7 (by decide)
  · refine g_aload_n dX9_off_10 rfl ?_
    refine g_iload_n dX9_off_11 rfl ?_
    refine g_v1 (M' := KR_refuses) dX9_off_12 l_R_101 v_KR_refuses c_KR_refuses1 rc_84 rfl rfl ⟨rfl, rfl⟩ ?_
    exact e_iret dX9_off_15 rfl (by rfl) (by rfl)
set_option maxRecDepth 100000 in
theorem c_KR_swaps_ok {σ : SI} {δ : SD} {a : Nat → Int32} {n s tl : Nat} {P : Nat → Nat → Int32} {tx rf : Nat → Int32} (hJ : IR σ a s P tl tx rf) (hs : s ≤ 5) (hW : WF a n) {i k : Nat} (hi : i < n) (hk : k < n) (h : swapA a n (nI i) (nI k) = nI 0) : E KR_swaps [.ref 84, .int (nI i), .int (nI k)] (HH σ δ) (some (.int (swapsA (aSwap a i k) n i k))) (HH (mSwap (sKeep σ s) a i k) δ) := by
  obtain rfl := hJ.row
  have h3 := hJ.sd
  have hJ1 := hJ.keep hs
  have hn := hW.n8
  have h7 := hW.a7
  have hW1 : WF (sKeep σ s 85) n := by rw [hJ1.row]; exact hW
  have hW2 : WF (mSwap (sKeep σ s) (σ 85) i k 85) n := by rw [mSwap_row, hJ1.row]; exact WF_lay (WF_lay hW hi (hW.pl hk)) hk (hW.pl hi)
  refine E.ofL [some (.ref 84), some (.int (nI i)), some (.int (nI k))] rfl pn_RX9 rfl (fun sc => ?_)
  refine g_aload_n dX9_swaps_0 rfl ?_
  refine g_iload_n dX9_swaps_1 rfl ?_
  refine g_v1 (M' := KR_isItem) dX9_swaps_2 l_R_94 v_KR_isItem (c_KR_isItem h7 hn) rc_84 rfl rfl ⟨rfl, rfl⟩ ?_
  refine g_top (it1 hi hn) ?_
  refine n_if_eq (tgt := 21) (by omega) dX9_swaps_5 rfl (fun zc5 => absurd zc5 (by decide)) (fun _ => ?_)
  refine g_aload_n dX9_swaps_8 rfl ?_
  refine g_iload_n dX9_swaps_9 rfl ?_
  refine g_v1 (M' := KR_isItem) dX9_swaps_10 l_R_94 v_KR_isItem (c_KR_isItem h7 hn) rc_84 rfl rfl ⟨rfl, rfl⟩ ?_
  refine g_top (it1 hk hn) ?_
  refine n_if_eq (tgt := 21) (by omega) dX9_swaps_13 rfl (fun zc13 => absurd zc13 (by decide)) (fun _ => ?_)
  refine g_iload_n dX9_swaps_16 rfl ?_
  refine g_iload_n dX9_swaps_17 rfl ?_
  refine n_icmp_ne (tgt := 28) (by omega) (by omega) dX9_swaps_18 rfl (fun zc18 => ?_) (fun zc18 => ?_)
  · refine g_aload_n dX9_swaps_28 rfl ?_
    refine g_iload_n dX9_swaps_29 rfl ?_
    refine g_v1 (M' := KR_lies) dX9_swaps_30 l_R_82 v_KR_lies (c_KR_lies (by omega)) rc_84 rfl rfl ⟨rfl, rfl⟩ ?_
    refine b_if_ne (tgt := 51) dX9_swaps_33 rfl (fun zc33 => ?_) (fun zc33 => ?_)
    · refine g_aload_n dX9_swaps_51 rfl ?_
      refine g_v0n (M' := KR_keep) dX9_swaps_52 l_R_111 v_KR_keep (c_KR_keep hs h3) rc_84 rfl rfl ⟨rfl, rfl⟩ ?_
      refine g_aload_n dX9_swaps_55 rfl ?_
      refine g_iload_n dX9_swaps_56 rfl ?_
      refine g_iconst dX9_swaps_57 ic_4 ?_
      refine g_v2 (M' := KR_its) dX9_swaps_58 l_R_50 v_KR_its (c_KR_its (by omega) (by omega)) rc_84 rfl rfl ⟨rfl, rfl⟩ ?_
      refine g_top (by unfold its; rw [hJ1.row]) ?_
      refine g_istore_n dX9_swaps_61 rfl ?_
      refine g_aload_n dX9_swaps_62 rfl ?_
      refine g_iload_n dX9_swaps_63 rfl ?_
      refine g_iconst dX9_swaps_64 ic_5 ?_
      refine g_v2 (M' := KR_its) dX9_swaps_65 l_R_50 v_KR_its (c_KR_its (by omega) (by omega)) rc_84 rfl rfl ⟨rfl, rfl⟩ ?_
      refine g_top (by unfold its; rw [hJ1.row]) ?_
      refine g_istore dX9_swaps_68 rfl ?_
      refine g_aload_n dX9_swaps_70 rfl ?_
      refine g_iload_n dX9_swaps_71 rfl ?_
      refine g_iconst dX9_swaps_72 ic_4 ?_
      refine g_aload_n dX9_swaps_73 rfl ?_
      refine g_iload_n dX9_swaps_74 rfl ?_
      refine g_iconst dX9_swaps_75 ic_4 ?_
      refine g_v2 (M' := KR_its) dX9_swaps_76 l_R_50 v_KR_its (c_KR_its (by omega) (by omega)) rc_84 rfl rfl ⟨rfl, rfl⟩ ?_
      refine g_top (by unfold its; rw [hJ1.row]) ?_
      refine g_v3n (M' := KR_puts) dX9_swaps_79 l_R_138 v_KR_puts (c_KR_puts (by omega) (by omega)) rc_84 rfl rfl ⟨rfl, rfl⟩ ?_
      refine g_aload_n dX9_swaps_82 rfl ?_
      refine g_iload_n dX9_swaps_83 rfl ?_
      refine g_iconst dX9_swaps_84 ic_5 ?_
      refine g_aload_n dX9_swaps_85 rfl ?_
      refine g_iload_n dX9_swaps_86 rfl ?_
      refine g_iconst dX9_swaps_87 ic_5 ?_
      refine g_v2 (M' := KR_its) dX9_swaps_88 l_R_50 v_KR_its (c_KR_its (by omega) (by omega)) rc_84 rfl rfl ⟨rfl, rfl⟩ ?_
      refine g_top (show its (uI (sKeep σ s) 85 (8 + 6 * i + 4) (its (σ 85) k 4) 85) k 5 = its (σ 85) k 5 by unfold its; rw [uI_oth (by omega), hJ1.row]) ?_
      refine g_v3n (M' := KR_puts) dX9_swaps_91 l_R_138 v_KR_puts (c_KR_puts (by omega) (by omega)) rc_84 rfl rfl ⟨rfl, rfl⟩ ?_
      refine g_aload_n dX9_swaps_94 rfl ?_
      refine g_iload_n dX9_swaps_95 rfl ?_
      refine g_iconst dX9_swaps_96 ic_4 ?_
      refine g_iload_n dX9_swaps_97 rfl ?_
      refine g_v3n (M' := KR_puts) dX9_swaps_98 l_R_138 v_KR_puts (c_KR_puts (by omega) (by omega)) rc_84 rfl rfl ⟨rfl, rfl⟩ ?_
      refine g_aload_n dX9_swaps_101 rfl ?_
      refine g_iload_n dX9_swaps_102 rfl ?_
      refine g_iconst dX9_swaps_103 ic_5 ?_
      refine g_iload dX9_swaps_104 rfl ?_
      refine g_v3n (M' := KR_puts) dX9_swaps_106 l_R_138 v_KR_puts (c_KR_puts (by omega) (by omega)) rc_84 rfl rfl ⟨rfl, rfl⟩ ?_
      refine g_aload_n dX9_swaps_109 rfl ?_
      refine g_iload_n dX9_swaps_110 rfl ?_
      refine g_v1 (M' := KR_isFitThere) dX9_swaps_111 l_R_152 v_KR_isFitThere (c_KR_isFitThere hW2 hi) rc_84 rfl rfl ⟨rfl, rfl⟩ ?_
      refine b_if_eq (tgt := 121) dX9_swaps_114 rfl (fun zc114 => ?_) (fun zc114 => ?_)
      · refine g_iconst dX9_swaps_121 ic_0 ?_
        refine g_aload_n dX9_swaps_122 rfl ?_
        refine g_iload_n dX9_swaps_123 rfl ?_
        refine g_v1 (M' := KR_isFitThere) dX9_swaps_124 l_R_152 v_KR_isFitThere (c_KR_isFitThere hW2 hk) rc_84 rfl rfl ⟨rfl, rfl⟩ ?_
        refine b_if_eq (tgt := 134) dX9_swaps_127 rfl (fun zc127 => ?_) (fun zc127 => ?_)
        · refine g_iconst dX9_swaps_134 ic_0 ?_
          refine n_iadd dX9_swaps_135 ?_
          exact e_iret dX9_swaps_136 rfl (by rw [mSwap_row, hJ1.row] at zc114 zc127; exact (sw_ans zc114 zc127).symm) (by rfl)
        · refine g_iconst dX9_swaps_130 ic_1 ?_
          refine g_goto (tgt := 135) dX9_swaps_131 rfl ?_
          refine n_iadd dX9_swaps_135 ?_
          exact e_iret dX9_swaps_136 rfl (by rw [mSwap_row, hJ1.row] at zc114 zc127; exact (sw_ans zc114 zc127).symm) (by rfl)
      · refine g_iconst dX9_swaps_117 ic_1 ?_
        refine g_goto (tgt := 122) dX9_swaps_118 rfl ?_
        refine g_aload_n dX9_swaps_122 rfl ?_
        refine g_iload_n dX9_swaps_123 rfl ?_
        refine g_v1 (M' := KR_isFitThere) dX9_swaps_124 l_R_152 v_KR_isFitThere (c_KR_isFitThere hW2 hk) rc_84 rfl rfl ⟨rfl, rfl⟩ ?_
        refine b_if_eq (tgt := 134) dX9_swaps_127 rfl (fun zc127 => ?_) (fun zc127 => ?_)
        · refine g_iconst dX9_swaps_134 ic_0 ?_
          refine n_iadd dX9_swaps_135 ?_
          exact e_iret dX9_swaps_136 rfl (by rw [mSwap_row, hJ1.row] at zc114 zc127; exact (sw_ans zc114 zc127).symm) (by rfl)
        · refine g_iconst dX9_swaps_130 ic_1 ?_
          refine g_goto (tgt := 135) dX9_swaps_131 rfl ?_
          refine n_iadd dX9_swaps_135 ?_
          exact e_iret dX9_swaps_136 rfl (by rw [mSwap_row, hJ1.row] at zc114 zc127; exact (sw_ans zc114 zc127).symm) (by rfl)
    · refine g_aload_n dX9_swaps_36 rfl ?_
      refine g_iload_n dX9_swaps_37 rfl ?_
      refine g_v1 (M' := KR_lies) dX9_swaps_38 l_R_82 v_KR_lies (c_KR_lies (by omega)) rc_84 rfl rfl ⟨rfl, rfl⟩ ?_
      refine b_if_ne (tgt := 51) dX9_swaps_41 rfl (fun zc41 => ?_) (fun zc41 => ?_)
      · refine g_aload_n dX9_swaps_51 rfl ?_
        refine g_v0n (M' := KR_keep) dX9_swaps_52 l_R_111 v_KR_keep (c_KR_keep hs h3) rc_84 rfl rfl ⟨rfl, rfl⟩ ?_
        refine g_aload_n dX9_swaps_55 rfl ?_
        refine g_iload_n dX9_swaps_56 rfl ?_
        refine g_iconst dX9_swaps_57 ic_4 ?_
        refine g_v2 (M' := KR_its) dX9_swaps_58 l_R_50 v_KR_its (c_KR_its (by omega) (by omega)) rc_84 rfl rfl ⟨rfl, rfl⟩ ?_
        refine g_top (by unfold its; rw [hJ1.row]) ?_
        refine g_istore_n dX9_swaps_61 rfl ?_
        refine g_aload_n dX9_swaps_62 rfl ?_
        refine g_iload_n dX9_swaps_63 rfl ?_
        refine g_iconst dX9_swaps_64 ic_5 ?_
        refine g_v2 (M' := KR_its) dX9_swaps_65 l_R_50 v_KR_its (c_KR_its (by omega) (by omega)) rc_84 rfl rfl ⟨rfl, rfl⟩ ?_
        refine g_top (by unfold its; rw [hJ1.row]) ?_
        refine g_istore dX9_swaps_68 rfl ?_
        refine g_aload_n dX9_swaps_70 rfl ?_
        refine g_iload_n dX9_swaps_71 rfl ?_
        refine g_iconst dX9_swaps_72 ic_4 ?_
        refine g_aload_n dX9_swaps_73 rfl ?_
        refine g_iload_n dX9_swaps_74 rfl ?_
        refine g_iconst dX9_swaps_75 ic_4 ?_
        refine g_v2 (M' := KR_its) dX9_swaps_76 l_R_50 v_KR_its (c_KR_its (by omega) (by omega)) rc_84 rfl rfl ⟨rfl, rfl⟩ ?_
        refine g_top (by unfold its; rw [hJ1.row]) ?_
        refine g_v3n (M' := KR_puts) dX9_swaps_79 l_R_138 v_KR_puts (c_KR_puts (by omega) (by omega)) rc_84 rfl rfl ⟨rfl, rfl⟩ ?_
        refine g_aload_n dX9_swaps_82 rfl ?_
        refine g_iload_n dX9_swaps_83 rfl ?_
        refine g_iconst dX9_swaps_84 ic_5 ?_
        refine g_aload_n dX9_swaps_85 rfl ?_
        refine g_iload_n dX9_swaps_86 rfl ?_
        refine g_iconst dX9_swaps_87 ic_5 ?_
        refine g_v2 (M' := KR_its) dX9_swaps_88 l_R_50 v_KR_its (c_KR_its (by omega) (by omega)) rc_84 rfl rfl ⟨rfl, rfl⟩ ?_
        refine g_top (show its (uI (sKeep σ s) 85 (8 + 6 * i + 4) (its (σ 85) k 4) 85) k 5 = its (σ 85) k 5 by unfold its; rw [uI_oth (by omega), hJ1.row]) ?_
        refine g_v3n (M' := KR_puts) dX9_swaps_91 l_R_138 v_KR_puts (c_KR_puts (by omega) (by omega)) rc_84 rfl rfl ⟨rfl, rfl⟩ ?_
        refine g_aload_n dX9_swaps_94 rfl ?_
        refine g_iload_n dX9_swaps_95 rfl ?_
        refine g_iconst dX9_swaps_96 ic_4 ?_
        refine g_iload_n dX9_swaps_97 rfl ?_
        refine g_v3n (M' := KR_puts) dX9_swaps_98 l_R_138 v_KR_puts (c_KR_puts (by omega) (by omega)) rc_84 rfl rfl ⟨rfl, rfl⟩ ?_
        refine g_aload_n dX9_swaps_101 rfl ?_
        refine g_iload_n dX9_swaps_102 rfl ?_
        refine g_iconst dX9_swaps_103 ic_5 ?_
        refine g_iload dX9_swaps_104 rfl ?_
        refine g_v3n (M' := KR_puts) dX9_swaps_106 l_R_138 v_KR_puts (c_KR_puts (by omega) (by omega)) rc_84 rfl rfl ⟨rfl, rfl⟩ ?_
        refine g_aload_n dX9_swaps_109 rfl ?_
        refine g_iload_n dX9_swaps_110 rfl ?_
        refine g_v1 (M' := KR_isFitThere) dX9_swaps_111 l_R_152 v_KR_isFitThere (c_KR_isFitThere hW2 hi) rc_84 rfl rfl ⟨rfl, rfl⟩ ?_
        refine b_if_eq (tgt := 121) dX9_swaps_114 rfl (fun zc114 => ?_) (fun zc114 => ?_)
        · refine g_iconst dX9_swaps_121 ic_0 ?_
          refine g_aload_n dX9_swaps_122 rfl ?_
          refine g_iload_n dX9_swaps_123 rfl ?_
          refine g_v1 (M' := KR_isFitThere) dX9_swaps_124 l_R_152 v_KR_isFitThere (c_KR_isFitThere hW2 hk) rc_84 rfl rfl ⟨rfl, rfl⟩ ?_
          refine b_if_eq (tgt := 134) dX9_swaps_127 rfl (fun zc127 => ?_) (fun zc127 => ?_)
          · refine g_iconst dX9_swaps_134 ic_0 ?_
            refine n_iadd dX9_swaps_135 ?_
            exact e_iret dX9_swaps_136 rfl (by rw [mSwap_row, hJ1.row] at zc114 zc127; exact (sw_ans zc114 zc127).symm) (by rfl)
          · refine g_iconst dX9_swaps_130 ic_1 ?_
            refine g_goto (tgt := 135) dX9_swaps_131 rfl ?_
            refine n_iadd dX9_swaps_135 ?_
            exact e_iret dX9_swaps_136 rfl (by rw [mSwap_row, hJ1.row] at zc114 zc127; exact (sw_ans zc114 zc127).symm) (by rfl)
        · refine g_iconst dX9_swaps_117 ic_1 ?_
          refine g_goto (tgt := 122) dX9_swaps_118 rfl ?_
          refine g_aload_n dX9_swaps_122 rfl ?_
          refine g_iload_n dX9_swaps_123 rfl ?_
          refine g_v1 (M' := KR_isFitThere) dX9_swaps_124 l_R_152 v_KR_isFitThere (c_KR_isFitThere hW2 hk) rc_84 rfl rfl ⟨rfl, rfl⟩ ?_
          refine b_if_eq (tgt := 134) dX9_swaps_127 rfl (fun zc127 => ?_) (fun zc127 => ?_)
          · refine g_iconst dX9_swaps_134 ic_0 ?_
            refine n_iadd dX9_swaps_135 ?_
            exact e_iret dX9_swaps_136 rfl (by rw [mSwap_row, hJ1.row] at zc114 zc127; exact (sw_ans zc114 zc127).symm) (by rfl)
          · refine g_iconst dX9_swaps_130 ic_1 ?_
            refine g_goto (tgt := 135) dX9_swaps_131 rfl ?_
            refine n_iadd dX9_swaps_135 ?_
            exact e_iret dX9_swaps_136 rfl (by rw [mSwap_row, hJ1.row] at zc114 zc127; exact (sw_ans zc114 zc127).symm) (by rfl)
      · exact absurd h (by rw [swA_bad (by rw [itB_nI (by omega), decide_eq_true hi]) (by rw [itB_nI (by omega), decide_eq_true hk]) (fun q => zc18 ((nI_eq (by omega) (by omega)).mp q)) zc33 zc41]; decide)
  · exact absurd h (by rw [zc18, swA_no (Or.inr (Or.inr rfl))]; decide)
set_option maxRecDepth 100000 in
theorem c_KR_swaps_no2 {σ : SI} {δ : SD} {a : Nat → Int32} {n s tl : Nat} {P : Nat → Nat → Int32} {tx rf : Nat → Int32} (hJ : IR σ a s P tl tx rf) (hs : s ≤ 5) (hW : WF a n) {i k : Int32} (h : swapA a n i k = -2) : E KR_swaps [.ref 84, .int i, .int k] (HH σ δ) (some (.int (-2))) (HH (rfM σ 0) δ) := by
  obtain rfl := hJ.row
  have h3 := hJ.sd
  have hJ1 := hJ.keep hs
  have hn := hW.n8
  have h7 := hW.a7
  have hW1 : WF (sKeep σ s 85) n := by rw [hJ1.row]; exact hW
  refine E.ofL [some (.ref 84), some (.int i), some (.int k)] rfl pn_RX9 rfl (fun sc => ?_)
  refine g_aload_n dX9_swaps_0 rfl ?_
  refine g_iload_n dX9_swaps_1 rfl ?_
  refine g_v1 (M' := KR_isItem) dX9_swaps_2 l_R_94 v_KR_isItem (c_KR_isItem h7 hn) rc_84 rfl rfl ⟨rfl, rfl⟩ ?_
  refine b_if_eq (tgt := 21) dX9_swaps_5 rfl (fun zc5 => ?_) (fun zc5 => ?_)
  · refine g_aload_n dX9_swaps_21 rfl ?_
    refine g_bipush dX9_swaps_22 bp_m2 ?_
    refine g_v1 (M' := KR_refuses) dX9_swaps_24 l_R_101 v_KR_refuses c_KR_refuses0 rc_84 rfl rfl ⟨rfl, rfl⟩ ?_
    exact e_iret dX9_swaps_27 rfl (by rfl) (by rfl)
  · refine g_aload_n dX9_swaps_8 rfl ?_
    refine g_iload_n dX9_swaps_9 rfl ?_
    refine g_v1 (M' := KR_isItem) dX9_swaps_10 l_R_94 v_KR_isItem (c_KR_isItem h7 hn) rc_84 rfl rfl ⟨rfl, rfl⟩ ?_
    refine b_if_eq (tgt := 21) dX9_swaps_13 rfl (fun zc13 => ?_) (fun zc13 => ?_)
    · refine g_aload_n dX9_swaps_21 rfl ?_
      refine g_bipush dX9_swaps_22 bp_m2 ?_
      refine g_v1 (M' := KR_refuses) dX9_swaps_24 l_R_101 v_KR_refuses c_KR_refuses0 rc_84 rfl rfl ⟨rfl, rfl⟩ ?_
      exact e_iret dX9_swaps_27 rfl (by rfl) (by rfl)
    · refine g_iload_n dX9_swaps_16 rfl ?_
      refine g_iload_n dX9_swaps_17 rfl ?_
      refine g_icmp_ne (tgt := 28) dX9_swaps_18 rfl (fun zc18 => ?_) (fun zc18 => ?_)
      · obtain ⟨zi, hzi, rfl⟩ := (itB_iff (by omega)).mp zc5
        obtain ⟨zk, hzk, rfl⟩ := (itB_iff (by omega)).mp zc13
        exfalso
        revert h
        unfold swapA
        rw [zc5, zc13, decide_eq_true zc18]
        simp only [Bool.and_self, if_true]
        split <;> decide
      · refine g_aload_n dX9_swaps_21 rfl ?_
        refine g_bipush dX9_swaps_22 bp_m2 ?_
        refine g_v1 (M' := KR_refuses) dX9_swaps_24 l_R_101 v_KR_refuses c_KR_refuses0 rc_84 rfl rfl ⟨rfl, rfl⟩ ?_
        exact e_iret dX9_swaps_27 rfl (by rfl) (by rfl)
set_option maxRecDepth 100000 in
theorem c_KR_swaps_no3 {σ : SI} {δ : SD} {a : Nat → Int32} {n s tl : Nat} {P : Nat → Nat → Int32} {tx rf : Nat → Int32} (hJ : IR σ a s P tl tx rf) (hs : s ≤ 5) (hW : WF a n) {i k : Nat} (hi : i < n) (hk : k < n) (h : swapA a n (nI i) (nI k) = -3) : E KR_swaps [.ref 84, .int (nI i), .int (nI k)] (HH σ δ) (some (.int (-3))) (HH (rfM σ 1) δ) := by
  obtain rfl := hJ.row
  have h3 := hJ.sd
  have hJ1 := hJ.keep hs
  have hn := hW.n8
  have h7 := hW.a7
  have hW1 : WF (sKeep σ s 85) n := by rw [hJ1.row]; exact hW
  refine E.ofL [some (.ref 84), some (.int (nI i)), some (.int (nI k))] rfl pn_RX9 rfl (fun sc => ?_)
  refine g_aload_n dX9_swaps_0 rfl ?_
  refine g_iload_n dX9_swaps_1 rfl ?_
  refine g_v1 (M' := KR_isItem) dX9_swaps_2 l_R_94 v_KR_isItem (c_KR_isItem h7 hn) rc_84 rfl rfl ⟨rfl, rfl⟩ ?_
  refine g_top (it1 hi hn) ?_
  refine n_if_eq (tgt := 21) (by omega) dX9_swaps_5 rfl (fun zc5 => absurd zc5 (by decide)) (fun _ => ?_)
  refine g_aload_n dX9_swaps_8 rfl ?_
  refine g_iload_n dX9_swaps_9 rfl ?_
  refine g_v1 (M' := KR_isItem) dX9_swaps_10 l_R_94 v_KR_isItem (c_KR_isItem h7 hn) rc_84 rfl rfl ⟨rfl, rfl⟩ ?_
  refine g_top (it1 hk hn) ?_
  refine n_if_eq (tgt := 21) (by omega) dX9_swaps_13 rfl (fun zc13 => absurd zc13 (by decide)) (fun _ => ?_)
  refine g_iload_n dX9_swaps_16 rfl ?_
  refine g_iload_n dX9_swaps_17 rfl ?_
  refine n_icmp_ne (tgt := 28) (by omega) (by omega) dX9_swaps_18 rfl (fun zc18 => ?_) (fun zc18 => ?_)
  · refine g_aload_n dX9_swaps_28 rfl ?_
    refine g_iload_n dX9_swaps_29 rfl ?_
    refine g_v1 (M' := KR_lies) dX9_swaps_30 l_R_82 v_KR_lies (c_KR_lies (by omega)) rc_84 rfl rfl ⟨rfl, rfl⟩ ?_
    refine b_if_ne (tgt := 51) dX9_swaps_33 rfl (fun zc33 => ?_) (fun zc33 => ?_)
    · exact absurd h (by rw [swA_1 (by rw [itB_nI (by omega), decide_eq_true hi]) (by rw [itB_nI (by omega), decide_eq_true hk]) (fun q => zc18 ((nI_eq (by omega) (by omega)).mp q)) zc33]; decide)
    · refine g_aload_n dX9_swaps_36 rfl ?_
      refine g_iload_n dX9_swaps_37 rfl ?_
      refine g_v1 (M' := KR_lies) dX9_swaps_38 l_R_82 v_KR_lies (c_KR_lies (by omega)) rc_84 rfl rfl ⟨rfl, rfl⟩ ?_
      refine b_if_ne (tgt := 51) dX9_swaps_41 rfl (fun zc41 => ?_) (fun zc41 => ?_)
      · exact absurd h (by rw [swA_2 (by rw [itB_nI (by omega), decide_eq_true hi]) (by rw [itB_nI (by omega), decide_eq_true hk]) (fun q => zc18 ((nI_eq (by omega) (by omega)).mp q)) zc41]; decide)
      · refine g_aload_n dX9_swaps_44 rfl ?_
        refine g_bipush dX9_swaps_45 bp_m3 ?_
        refine g_v1 (M' := KR_refuses) dX9_swaps_47 l_R_101 v_KR_refuses c_KR_refuses1 rc_84 rfl rfl ⟨rfl, rfl⟩ ?_
        exact e_iret dX9_swaps_50 rfl (by rfl) (by rfl)
  · exact absurd h (by rw [zc18, swA_no (Or.inr (Or.inr rfl))]; decide)
