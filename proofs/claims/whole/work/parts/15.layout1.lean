/-! CONTRACTS of a layout: what it tells, whether an item fits -/
theorem fl_pos {q : Nat} (h1 : 10 ≤ q) (h2 : q ≤ 30) : ¬ Op.cmpValue (FP.fcmp (FP.fdiv (FP.i2f (nI q)) tenF) FP.fconst0) .l ≤ 0 := by
  have := (show ∀ q, q < 31 → 10 ≤ q → ¬ Op.cmpValue (FP.fcmp (FP.fdiv (FP.i2f (nI q)) tenF) FP.fconst0) .l ≤ 0 by decide +kernel) q (by omega) h1
  exact this
theorem cut_max {v : UInt32} : (if nI 1 < FP.f2i (FP.fadd v halfF) then FP.f2i (FP.fadd v halfF) else nI 1) = cutF v := by
  unfold cutF
  by_cases h : nI 1 < FP.f2i (FP.fadd v halfF)
  · rw [if_pos h, if_neg (Int32.not_lt.mpr (Int32.le_of_lt h))]
  · rw [if_neg h]
    by_cases h2 : FP.f2i (FP.fadd v halfF) < nI 1
    · rw [if_pos h2]
    · rw [if_neg h2]
      exact Int32.le_antisymm (Int32.not_lt.mp h2) (Int32.not_lt.mp h)
theorem plc_x {x y : Int32} (h : plc x y) : x = -1 ∨ btw x 0 15 := h.elim (fun q => Or.inl q.1) (fun q => Or.inr q.1)
theorem within_no {a : Nat → Int32} {k : Nat} {x y : Int32} (h : x < a 2 ∨ y < a 2 ∨ (a 0 - a 2 < x + wideF a k) ∨ ¬ (y + highF a k ≤ a 1 - a 2)) : withinA a k x y = false := by
  unfold withinA
  rcases h with h | h | h | h
  · rw [decide_eq_false (Int32.not_le.mpr h)]; rfl
  · rw [decide_eq_false (p := a 2 ≤ y) (Int32.not_le.mpr h), Bool.and_false]; rfl
  · rw [decide_eq_false (p := x + wideF a k ≤ a 0 - a 2) (Int32.not_le.mpr h), Bool.and_false]; rfl
  · rw [decide_eq_false h, Bool.and_false]; rfl
theorem within_is {a : Nat → Int32} {k : Nat} {x y : Int32} (h1 : ¬ x < a 2) (h2 : ¬ y < a 2) (h3 : ¬ a 0 - a 2 < x + wideF a k) (h4 : y + highF a k ≤ a 1 - a 2) : withinA a k x y = isLineA a x := by
  unfold withinA
  rw [decide_eq_true (Int32.not_lt.mp h1), decide_eq_true (Int32.not_lt.mp h2), decide_eq_true (Int32.not_lt.mp h3), decide_eq_true h4]
  rfl
theorem within_x {a : Nat → Int32} {n : Nat} (hW : WF a n) {x : Int32} (hx : x = -1 ∨ btw x 0 15) (h1 : ¬ x < a 2) : ∃ j, j ≤ 15 ∧ x = nI j := by
  rcases hx with rfl | ⟨j, -, h, rfl⟩
  · exfalso
    have hm := hW.mar
    rw [Int32.lt_iff_toInt_lt, hm.2.2, nI_int (by omega)] at h1
    have : (-1 : Int32).toInt = -1 := rfl
    omega
  · exact ⟨j, h, rfl⟩
section WIN
variable {a : Nat → Int32} {n k : Nat} {x y : Int32}
theorem within_col (hW : WF a n) (hx : x = -1 ∨ btw x 0 15) (h1 : ¬ x < a 2) (h2 : ¬ y < a 2) (h3 : ¬ a 0 - a 2 < x + wideF a k) (h4 : y + highF a k ≤ a 1 - a 2) (h5 : colN a = 0) : withinA a k x y = true := by
  rw [within_is h1 h2 h3 h4]
  unfold isLineA
  rw [decide_eq_true h5]
  rfl
theorem within_lin (hW : WF a n) (hx : x = -1 ∨ btw x 0 15) (h1 : ¬ x < a 2) (h2 : ¬ y < a 2) (h3 : ¬ a 0 - a 2 < x + wideF a k) (h4 : y + highF a k ≤ a 1 - a 2) (h5 : ¬ colN a = 0) (h6 : (lbF a (colN a) >>> (x &&& 31)) &&& nI 1 = nI 1) : withinA a k x y = true := by
  rw [within_is h1 h2 h3 h4]
  obtain ⟨j, hj, rfl⟩ := within_x hW hx h1
  unfold isLineA
  rw [(lbF_x hW (by omega)).mp h6, Bool.or_true]
theorem within_nol (hW : WF a n) (hx : x = -1 ∨ btw x 0 15) (h1 : ¬ x < a 2) (h2 : ¬ y < a 2) (h3 : ¬ a 0 - a 2 < x + wideF a k) (h4 : y + highF a k ≤ a 1 - a 2) (h5 : ¬ colN a = 0) (h6 : ¬ (lbF a (colN a) >>> (x &&& 31)) &&& nI 1 = nI 1) : withinA a k x y = false := by
  rw [within_is h1 h2 h3 h4]
  obtain ⟨j, hj, rfl⟩ := within_x hW hx h1
  unfold isLineA
  rw [decide_eq_false h5, Bool.false_or]
  cases hq : anyN (fun k => decide (lineF a k = nI j)) (colN a) with
  | false => rfl
  | true => exact absurd ((lbF_x hW (by omega)).mpr hq) h6
end WIN
set_option maxRecDepth 100000 in
theorem c_KP_goodIf {σ : SI} {δ : SD} {b : Bool} : E KP_goodIf [.int (bI b)] (HH σ δ) (some (.int (if b then nI 0 else -2))) (HH σ δ) := by
  refine E.ofL [some (.int (bI b))] rfl pn_RX8 rfl (fun sc => ?_)
  refine g_iload_n dX8_goodIf_0 rfl ?_
  refine b_if_eq (tgt := 8) dX8_goodIf_1 rfl (fun zc1 => ?_) (fun zc1 => ?_)
  · refine g_bipush dX8_goodIf_8 bp_m2 ?_
    exact e_iret dX8_goodIf_10 rfl (by rw [zc1]; rfl) (by rfl)
  · refine g_iconst dX8_goodIf_4 ic_0 ?_
    refine g_goto (tgt := 10) dX8_goodIf_5 rfl ?_
    exact e_iret dX8_goodIf_10 rfl (by rw [zc1]; rfl) (by rfl)
set_option maxRecDepth 100000 in
theorem c_KP_isPlace {σ : SI} {δ : SD} {x y : Int32} : E KP_isPlace [.int x, .int y] (HH σ δ) (some (.int (bI (inB x (nI 0) (nI 15) && inB y (nI 0) (nI 15))))) (HH σ δ) := by
  refine E.ofL [some (.int x), some (.int y)] rfl pn_RX8 rfl (fun sc => ?_)
  refine g_iload_n dX8_isPlace_0 rfl ?_
  refine g_iconst dX8_isPlace_1 ic_0 ?_
  refine g_bipush dX8_isPlace_2 bp_15 ?_
  refine g_s3 (M' := KP_within) dX8_isPlace_4 l_P_96 s_KP_within c_KP_within rfl rfl ⟨rfl, rfl⟩ ?_
  refine b_if_eq (tgt := 24) dX8_isPlace_7 rfl (fun zc7 => ?_) (fun zc7 => ?_)
  · refine g_iconst dX8_isPlace_24 ic_0 ?_
    exact e_z0 dX8_isPlace_25 rfl (by simp [*]) (by rfl)
  · refine g_iload_n dX8_isPlace_10 rfl ?_
    refine g_iconst dX8_isPlace_11 ic_0 ?_
    refine g_bipush dX8_isPlace_12 bp_15 ?_
    refine g_s3 (M' := KP_within) dX8_isPlace_14 l_P_96 s_KP_within c_KP_within rfl rfl ⟨rfl, rfl⟩ ?_
    refine b_if_eq (tgt := 24) dX8_isPlace_17 rfl (fun zc17 => ?_) (fun zc17 => ?_)
    · refine g_iconst dX8_isPlace_24 ic_0 ?_
      exact e_z0 dX8_isPlace_25 rfl (by simp [*]) (by rfl)
    · refine g_iconst dX8_isPlace_20 ic_1 ?_
      refine g_goto (tgt := 25) dX8_isPlace_21 rfl ?_
      exact e_z1 dX8_isPlace_25 rfl (by simp [*]) (by rfl)
set_option maxRecDepth 100000 in
theorem c_KP_placeOf {σ : SI} {δ : SD} {x y : Nat} : E KP_placeOf [.int (nI x), .int (nI y)] (HH σ δ) (some (.int (nI (16 * y + x)))) (HH σ δ) := by
  refine E.ofL [some (.int (nI x)), some (.int (nI y))] rfl pn_RX8 rfl (fun sc => ?_)
  refine g_bipush dX8_placeOf_0 bp_16 ?_
  refine g_iload_n dX8_placeOf_2 rfl ?_
  refine n_imul dX8_placeOf_3 ?_
  refine g_iload_n dX8_placeOf_4 rfl ?_
  refine n_iadd dX8_placeOf_5 ?_
  exact e_iret dX8_placeOf_6 rfl (by rfl) (by rfl)
set_option maxRecDepth 100000 in
theorem c_KP_distance {σ : SI} {δ : SD} {p q : Int32} : E KP_distance [.int p, .int q] (HH σ δ) (some (.int (if p < q then q - p else p - q))) (HH σ δ) := by
  refine E.ofL [some (.int p), some (.int q)] rfl pn_RX8 rfl (fun sc => ?_)
  refine g_iload_n dX8_distance_0 rfl ?_
  refine g_iload_n dX8_distance_1 rfl ?_
  refine g_icmp_ge (tgt := 11) dX8_distance_2 rfl (fun zc2 => ?_) (fun zc2 => ?_)
  · refine g_iload_n dX8_distance_11 rfl ?_
    refine g_iload_n dX8_distance_12 rfl ?_
    refine g_isub dX8_distance_13 ?_
    exact e_iret dX8_distance_14 rfl (by simp only [Int32.lt_iff_toInt_lt, Int32.le_iff_toInt_le] at *; split <;> first | rfl | omega) (by rfl)
  · refine g_iload_n dX8_distance_5 rfl ?_
    refine g_iload_n dX8_distance_6 rfl ?_
    refine g_isub dX8_distance_7 ?_
    refine g_goto (tgt := 14) dX8_distance_8 rfl ?_
    exact e_iret dX8_distance_14 rfl (by simp only [Int32.lt_iff_toInt_lt, Int32.le_iff_toInt_le] at *; split <;> first | rfl | omega) (by rfl)
set_option maxRecDepth 100000 in
theorem c_KL_setting {σ : SI} {δ : SD} {B n : Nat} {a : Nat → Int32} (hB : LB B) (hW : WF a n) (hR : RB σ B a n) {j : Nat} (hj : j < 5) : E KL_setting [.ref B, .int (nI j)] (HH σ δ) (some (.int (a (2 + j)))) (HH σ δ) := by
  have h8 := hW.n8
  have h2 := hR.c
  refine E.ofL [some (.ref B), some (.int (nI j))] rfl pn_RX1 rfl (fun sc => ?_)
  refine g_iload_n dX1_setting_0 rfl ?_
  refine g_iconst dX1_setting_1 ic_0 ?_
  refine g_iconst dX1_setting_2 ic_4 ?_
  refine g_s3N (M' := KP_within) dX1_setting_3 l_L_60 s_KP_within c_KP_within rfl rfl ⟨rfl, rfl⟩ ?_
  refine g_top (in1 (Nat.zero_le _) (by omega) (by decide)) ?_
  refine n_if_eq (tgt := 18) (by omega) dX1_setting_6 rfl (fun zc6 => absurd zc6 (by decide)) (fun _ => ?_)
  refine g_aload_n dX1_setting_9 rfl ?_
  refine q_getq dX1_setting_10 f_L_25 (ckL_0 hB) (by decide) ty_0_4 (rfL_4 hB) ?_
  refine g_iload_n dX1_setting_13 rfl ?_
  refine q_iald dX1_setting_14 (ckL_3 hB) (ixD_nI (by omega) (by decide)) ?_
  refine g_goto (tgt := 19) dX1_setting_15 rfl ?_
  exact e_iret dX1_setting_19 rfl (by exact hR.s j hj) (by rfl)
set_option maxRecDepth 100000 in
theorem c_KL_trait {σ : SI} {δ : SD} {B n : Nat} {a : Nat → Int32} (hB : LB B) (hW : WF a n) (hR : RB σ B a n) {k j : Nat} (hk : k < n) (hj : j < 4) : E KL_trait [.ref B, .int (nI k), .int (nI j)] (HH σ δ) (some (.int (its a k j))) (HH σ δ) := by
  have h8 := hW.n8
  have h2 := hR.c
  refine E.ofL [some (.ref B), some (.int (nI k)), some (.int (nI j))] rfl pn_RX1 rfl (fun sc => ?_)
  refine g_aload_n dX1_trait_0 rfl ?_
  refine g_iload_n dX1_trait_1 rfl ?_
  refine g_v1 (M' := KL_hasItem) dX1_trait_2 l_L_64 v_KL_hasItem (c_KL_hasItem hB h2 h8) (rcL hB) rfl rfl ⟨rfl, rfl⟩ ?_
  refine g_top (it1 hk h8) ?_
  refine n_if_eq (tgt := 30) (by omega) dX1_trait_5 rfl (fun zc5 => absurd zc5 (by decide)) (fun _ => ?_)
  refine g_iload_n dX1_trait_8 rfl ?_
  refine g_iconst dX1_trait_9 ic_0 ?_
  refine g_iconst dX1_trait_10 ic_3 ?_
  refine g_s3N (M' := KP_within) dX1_trait_11 l_L_60 s_KP_within c_KP_within rfl rfl ⟨rfl, rfl⟩ ?_
  refine g_top (in1 (Nat.zero_le _) (by omega) (by decide)) ?_
  refine n_if_eq (tgt := 30) (by omega) dX1_trait_14 rfl (fun zc14 => absurd zc14 (by decide)) (fun _ => ?_)
  refine g_aload_n dX1_trait_17 rfl ?_
  refine q_getq dX1_trait_18 f_L_29 (ckL_0 hB) (by decide) ty_0_5 (rfL_5 hB) ?_
  refine g_iconst dX1_trait_21 ic_4 ?_
  refine g_iload_n dX1_trait_22 rfl ?_
  refine n_imul dX1_trait_23 ?_
  refine g_iload_n dX1_trait_24 rfl ?_
  refine n_iadd dX1_trait_25 ?_
  refine q_iald dX1_trait_26 (ckL_4 hB) (ixD_nI (by omega) (by decide)) ?_
  refine g_goto (tgt := 31) dX1_trait_27 rfl ?_
  exact e_iret dX1_trait_31 rfl (by exact hR.t hk hj) (by rfl)
set_option maxRecDepth 100000 in
theorem c_KL_sideOf {σ : SI} {δ : SD} {B n : Nat} {a : Nat → Int32} (hB : LB B) (hW : WF a n) (hR : RB σ B a n) {r : Nat} (hr : 1 ≤ r) (hr6 : r ≤ 6) : E KL_sideOf [.ref B, .int (nI r)] (HH σ δ) (some (.float (sideA a r))) (HH σ δ) := by
  have h8 := hW.n8
  have h2 := hR.c
  have hb := hW.big
  have hq := hW.rat
  refine E.ofL [some (.ref B), some (.int (nI r))] rfl pn_RX1 rfl (fun sc => ?_)
  generalize hRz : (fun (zr : Option Value) (zk : XH) => zr = some (.float (sideA a r)) ∧ zk = HH σ δ) = R
  refine g_aload_n dX1_sideOf_0 rfl ?_
  refine q_getq dX1_sideOf_1 f_L_25 (ckL_0 hB) (by decide) ty_0_4 (rfL_4 hB) ?_
  refine g_iconst dX1_sideOf_4 ic_2 ?_
  refine q_iald dX1_sideOf_5 (ckL_3 hB) (ixD_nI (by omega) (by decide)) ?_
  refine g_top (hR.s 2 (by decide) |>.trans hb.2.2) ?_
  refine g_i2f dX1_sideOf_6 ?_
  refine g_ldcf dX1_sideOf_7 c_L_91 ?_
  refine g_fdiv dX1_sideOf_9 (fl_ten hb.1 hb.2.1) ?_
  refine g_fstore_n dX1_sideOf_10 rfl ?_
  refine g_aload_n dX1_sideOf_11 rfl ?_
  refine q_getq dX1_sideOf_12 f_L_25 (ckL_0 hB) (by decide) ty_0_4 (rfL_4 hB) ?_
  refine g_iconst dX1_sideOf_15 ic_3 ?_
  refine q_iald dX1_sideOf_16 (ckL_3 hB) (ixD_nI (by omega) (by decide)) ?_
  refine g_top (hR.s 3 (by decide) |>.trans hq.2.2) ?_
  refine g_i2f dX1_sideOf_17 ?_
  refine g_ldcf dX1_sideOf_18 c_L_91 ?_
  refine g_fdiv dX1_sideOf_20 (fl_ten hq.1 (by have := hq.2.1; omega)) ?_
  refine g_fstore_n dX1_sideOf_21 rfl ?_
  refine g_iconst dX1_sideOf_22 ic_2 ?_
  refine g_istore dX1_sideOf_23 rfl ?_
  have H25 : ∀ (N : Nat) (k : Nat) (s : UInt32), 2 ≤ k → k ≤ r + 1 → s = sdF (FP.fdiv (FP.i2f (nI (bigN a))) tenF) (FP.fdiv (FP.i2f (nI (ratN a))) tenF) (k - 2) → r + 1 - k < N → G sc KL_sideOf 25 (aL [some (.ref B), some (.int (nI r)), some (.float s), some (.float (FP.fdiv (FP.i2f (nI (ratN a))) tenF)), some (.int (nI k))]) [] (HH σ δ) (0, 0) R := by
    intro N
    induction N with
    | zero => intro k s h1 h3 hs hN25; exact absurd hN25 (Nat.not_lt_zero _)
    | succ N ih25 =>
      intro k s h1 h3 hs hN25
      refine g_iload dX1_sideOf_25 rfl ?_
      refine g_iload_n dX1_sideOf_27 rfl ?_
      refine n_icmp_gt (tgt := 47) (by omega) (by omega) dX1_sideOf_28 rfl (fun zc28 => ?_) (fun zc28 => ?_)
      · refine g_fload_n dX1_sideOf_47 rfl ?_
        exact g_fret (S := []) dX1_sideOf_48 rfl (by rw [← hRz]; exact ⟨congrArg (fun zz => some (Value.float zz)) (show _ = _ by rw [hs, show k = r + 1 by omega]; rfl), by rfl⟩) (Nat.zero_le _) (Nat.zero_le _)
      · refine g_fload_n dX1_sideOf_31 rfl ?_
        refine g_fconst0 dX1_sideOf_32 ?_
        refine g_fcmp dX1_sideOf_33 ?_
        refine g_if_le (tgt := 47) dX1_sideOf_34 rfl (fun zc34 => ?_) (fun zc34 => ?_)
        · exact absurd zc34 (fl_pos hq.1 hq.2.1)
        · refine g_fload_n dX1_sideOf_37 rfl ?_
          refine g_fload_n dX1_sideOf_38 rfl ?_
          refine g_fdiv dX1_sideOf_39 (by rw [hs]; exact fl_side hb.1 hb.2.1 hq.1 hq.2.1 (k - 2)) ?_
          refine g_fstore_n dX1_sideOf_40 rfl ?_
          refine n_iinc (b := 1) dX1_sideOf_41 rfl rfl rfl ?_
          refine g_goto (tgt := 25) dX1_sideOf_44 rfl ?_
          exact g_can _ (by exact ⟨rfl, rfl, rfl, rfl, rfl, trivial⟩) (ih25 (k + 1) _ (by omega) (by omega) (by rw [hs, show k + 1 - 2 = (k - 2) + 1 by omega]; rfl) (by omega))
  exact g_can _ (by exact ⟨rfl, rfl, rfl, rfl, rfl, trivial⟩) (H25 _ 2 _ (by omega) (by omega) rfl (Nat.lt_succ_self _))
set_option maxRecDepth 100000 in
theorem c_KL_cutToCells {σ : SI} {δ : SD} {v : UInt32} (hv : vf_n32 (FP.fadd v halfF)) : E KL_cutToCells [.float v] (HH σ δ) (some (.int (cutF v))) (HH σ δ) := by
  refine E.ofL [some (.float v)] rfl pn_RX1 rfl (fun sc => ?_)
  refine g_iconst dX1_cutToCells_0 ic_1 ?_
  refine g_fload_n dX1_cutToCells_1 rfl ?_
  refine g_ldcf dX1_cutToCells_2 c_L_92 ?_
  refine g_fadd dX1_cutToCells_4 hv ?_
  refine g_f2i dX1_cutToCells_5 ?_
  refine g_mmax dX1_cutToCells_6 l_L_93 mw_max rfl ?_
  exact e_iret dX1_cutToCells_9 rfl (by exact cut_max) (by rfl)
set_option maxRecDepth 100000 in
theorem c_KL_lineOf {σ : SI} {δ : SD} {B n : Nat} {a : Nat → Int32} (hB : LB B) (hW : WF a n) (hR : RB σ B a n) {k : Nat} (hk : k < colN a) : E KL_lineOf [.ref B, .int (nI k)] (HH σ δ) (some (.int (lineF a k))) (HH σ δ) := by
  have h8 := hW.n8
  have h2 := hR.c
  have hc := hW.col
  have hl := lineF_ok hW hk
  simp only [← hR.w] at hl
  have e0 := hR.s 0 (by decide)
  have e4 := hR.s 4 (by decide)
  refine E.ofL [some (.ref B), some (.int (nI k))] rfl pn_RX1 rfl (fun sc => ?_)
  refine g_aload_n dX1_lineOf_0 rfl ?_
  refine q_getq dX1_lineOf_1 f_L_25 (ckL_0 hB) (by decide) ty_0_4 (rfL_4 hB) ?_
  refine g_iconst dX1_lineOf_4 ic_4 ?_
  refine q_iald dX1_lineOf_5 (ckL_3 hB) (ixD_nI (by omega) (by decide)) ?_
  refine g_top (e4.trans hc.2.2) ?_
  refine g_istore_n dX1_lineOf_6 rfl ?_
  refine g_iload_n dX1_lineOf_7 rfl ?_
  refine n_if_lt (tgt := 16) (by omega) dX1_lineOf_8 rfl (fun zc8 => ?_) (fun zc8 => ?_)
  · refine g_iconst dX1_lineOf_16 ic_m1 ?_
    exact e_iret dX1_lineOf_17 rfl (by exfalso; first | exact zc8 | omega) (by rfl)
  · refine g_iload_n dX1_lineOf_11 rfl ?_
    refine g_iload_n dX1_lineOf_12 rfl ?_
    refine n_icmp_lt (tgt := 18) (by omega) (by omega) dX1_lineOf_13 rfl (fun zc13 => ?_) (fun zc13 => ?_)
    · refine g_iload_n dX1_lineOf_18 rfl ?_
      refine g_aload_n dX1_lineOf_19 rfl ?_
      refine q_geti dX1_lineOf_20 f_L_9 (ckL_0 hB) (by decide) ty_0_0 ?_
      refine g_top hR.w ?_
      refine g_iconst dX1_lineOf_23 ic_2 ?_
      refine g_aload_n dX1_lineOf_24 rfl ?_
      refine q_getq dX1_lineOf_25 f_L_25 (ckL_0 hB) (by decide) ty_0_4 (rfL_4 hB) ?_
      refine g_iconst dX1_lineOf_28 ic_0 ?_
      refine q_iald dX1_lineOf_29 (ckL_3 hB) (ixD_nI (by omega) (by decide)) ?_
      refine g_top e0 ?_
      refine g_imul dX1_lineOf_30 ?_
      refine g_isub dX1_lineOf_31 ?_
      refine g_imul dX1_lineOf_32 ?_
      refine g_i2f dX1_lineOf_33 ?_
      refine g_fstore_n dX1_lineOf_34 rfl ?_
      refine g_aload_n dX1_lineOf_35 rfl ?_
      refine q_getq dX1_lineOf_36 f_L_25 (ckL_0 hB) (by decide) ty_0_4 (rfL_4 hB) ?_
      refine g_iconst dX1_lineOf_39 ic_0 ?_
      refine q_iald dX1_lineOf_40 (ckL_3 hB) (ixD_nI (by omega) (by decide)) ?_
      refine g_top e0 ?_
      refine g_fload_n dX1_lineOf_41 rfl ?_
      refine g_iload_n dX1_lineOf_42 rfl ?_
      refine g_i2f dX1_lineOf_43 ?_
      refine g_fdiv dX1_lineOf_44 (by rw [← hc.2.2, ← hR.w]; exact hl.1) ?_
      refine g_f2i dX1_lineOf_45 ?_
      refine g_iadd dX1_lineOf_46 ?_
      exact e_iret dX1_lineOf_47 rfl (by unfold lineF; rw [hc.2.2]) (by rfl)
    · refine g_iconst dX1_lineOf_16 ic_m1 ?_
      exact e_iret dX1_lineOf_17 rfl (by exfalso; first | exact zc8 | omega) (by rfl)
set_option maxRecDepth 100000 in
theorem c_KL_wide {σ : SI} {δ : SD} {B n : Nat} {a : Nat → Int32} (hB : LB B) (hW : WF a n) (hR : RB σ B a n) (hD : RD σ B a n) {k : Nat} (hk : k < n) : E KL_wide [.ref B, .int (nI k)] (HH σ δ) (some (.int (wideF a k))) (HH σ δ) := by
  have h8 := hW.n8
  have h2 := hR.c
  refine E.ofL [some (.ref B), some (.int (nI k))] rfl pn_RX1 rfl (fun sc => ?_)
  refine g_aload_n dX1_wide_0 rfl ?_
  refine g_iload_n dX1_wide_1 rfl ?_
  refine g_v1 (M' := KL_hasItem) dX1_wide_2 l_L_64 v_KL_hasItem (c_KL_hasItem hB h2 h8) (rcL hB) rfl rfl ⟨rfl, rfl⟩ ?_
  refine g_top (it1 hk h8) ?_
  refine n_if_eq (tgt := 17) (by omega) dX1_wide_5 rfl (fun zc5 => absurd zc5 (by decide)) (fun _ => ?_)
  refine g_aload_n dX1_wide_8 rfl ?_
  refine q_getq dX1_wide_9 f_L_38 (ckL_0 hB) (by decide) ty_0_8 (rfL_8 hB) ?_
  refine g_iload_n dX1_wide_12 rfl ?_
  refine q_iald dX1_wide_13 (ckL_7 hB) (ixD_nI (by omega) (by decide)) ?_
  refine g_goto (tgt := 18) dX1_wide_14 rfl ?_
  exact e_iret dX1_wide_18 rfl (by exact hD.1 k hk) (by rfl)
set_option maxRecDepth 100000 in
theorem c0_KL_wide {σ : SI} {δ : SD} {B n : Nat} {a : Nat → Int32} (hB : LB B) (hW : WF a n) (hR : RB σ B a n) {k : Nat} (hk : n ≤ k) (hk8 : k < 8) : E KL_wide [.ref B, .int (nI k)] (HH σ δ) (some (.int (-1))) (HH σ δ) := by
  have h8 := hW.n8
  have h2 := hR.c
  refine E.ofL [some (.ref B), some (.int (nI k))] rfl pn_RX1 rfl (fun sc => ?_)
  refine g_aload_n dX1_wide_0 rfl ?_
  refine g_iload_n dX1_wide_1 rfl ?_
  refine g_v1 (M' := KL_hasItem) dX1_wide_2 l_L_64 v_KL_hasItem (c_KL_hasItem hB h2 h8) (rcL hB) rfl rfl ⟨rfl, rfl⟩ ?_
  refine g_top (it0 hk (by omega)) ?_
  refine n_if_eq (tgt := 17) (by omega) dX1_wide_5 rfl (fun _ => ?_) (fun zc5 => absurd zc5 (by decide))
  refine g_iconst dX1_wide_17 ic_m1 ?_
  exact e_iret dX1_wide_18 rfl (by rfl) (by rfl)
set_option maxRecDepth 100000 in
theorem c_KL_high {σ : SI} {δ : SD} {B n : Nat} {a : Nat → Int32} (hB : LB B) (hW : WF a n) (hR : RB σ B a n) (hD : RD σ B a n) {k : Nat} (hk : k < n) : E KL_high [.ref B, .int (nI k)] (HH σ δ) (some (.int (highF a k))) (HH σ δ) := by
  have h8 := hW.n8
  have h2 := hR.c
  refine E.ofL [some (.ref B), some (.int (nI k))] rfl pn_RX1 rfl (fun sc => ?_)
  refine g_aload_n dX1_high_0 rfl ?_
  refine g_iload_n dX1_high_1 rfl ?_
  refine g_v1 (M' := KL_hasItem) dX1_high_2 l_L_64 v_KL_hasItem (c_KL_hasItem hB h2 h8) (rcL hB) rfl rfl ⟨rfl, rfl⟩ ?_
  refine g_top (it1 hk h8) ?_
  refine n_if_eq (tgt := 17) (by omega) dX1_high_5 rfl (fun zc5 => absurd zc5 (by decide)) (fun _ => ?_)
  refine g_aload_n dX1_high_8 rfl ?_
  refine q_getq dX1_high_9 f_L_41 (ckL_0 hB) (by decide) ty_0_9 (rfL_9 hB) ?_
  refine g_iload_n dX1_high_12 rfl ?_
  refine q_iald dX1_high_13 (ckL_8 hB) (ixD_nI (by omega) (by decide)) ?_
  refine g_goto (tgt := 18) dX1_high_14 rfl ?_
  exact e_iret dX1_high_18 rfl (by exact hD.2.1 k hk) (by rfl)
set_option maxRecDepth 100000 in
theorem c0_KL_high {σ : SI} {δ : SD} {B n : Nat} {a : Nat → Int32} (hB : LB B) (hW : WF a n) (hR : RB σ B a n) {k : Nat} (hk : n ≤ k) (hk8 : k < 8) : E KL_high [.ref B, .int (nI k)] (HH σ δ) (some (.int (-1))) (HH σ δ) := by
  have h8 := hW.n8
  have h2 := hR.c
  refine E.ofL [some (.ref B), some (.int (nI k))] rfl pn_RX1 rfl (fun sc => ?_)
  refine g_aload_n dX1_high_0 rfl ?_
  refine g_iload_n dX1_high_1 rfl ?_
  refine g_v1 (M' := KL_hasItem) dX1_high_2 l_L_64 v_KL_hasItem (c_KL_hasItem hB h2 h8) (rcL hB) rfl rfl ⟨rfl, rfl⟩ ?_
  refine g_top (it0 hk (by omega)) ?_
  refine n_if_eq (tgt := 17) (by omega) dX1_high_5 rfl (fun _ => ?_) (fun zc5 => absurd zc5 (by decide))
  refine g_iconst dX1_high_17 ic_m1 ?_
  exact e_iret dX1_high_18 rfl (by rfl) (by rfl)
set_option maxRecDepth 100000 in
theorem c_KL_xOf {σ : SI} {δ : SD} {B n : Nat} {a : Nat → Int32} (hB : LB B) (hW : WF a n) (hR : RB σ B a n) {k : Nat} (hk : k < n) : E KL_xOf [.ref B, .int (nI k)] (HH σ δ) (some (.int (its a k 4))) (HH σ δ) := by
  have h8 := hW.n8
  have h2 := hR.c
  refine E.ofL [some (.ref B), some (.int (nI k))] rfl pn_RX1 rfl (fun sc => ?_)
  refine g_aload_n dX1_xOf_0 rfl ?_
  refine g_iload_n dX1_xOf_1 rfl ?_
  refine g_v1 (M' := KL_hasItem) dX1_xOf_2 l_L_64 v_KL_hasItem (c_KL_hasItem hB h2 h8) (rcL hB) rfl rfl ⟨rfl, rfl⟩ ?_
  refine g_top (it1 hk h8) ?_
  refine n_if_eq (tgt := 17) (by omega) dX1_xOf_5 rfl (fun zc5 => absurd zc5 (by decide)) (fun _ => ?_)
  refine g_aload_n dX1_xOf_8 rfl ?_
  refine q_getq dX1_xOf_9 f_L_32 (ckL_0 hB) (by decide) ty_0_6 (rfL_6 hB) ?_
  refine g_iload_n dX1_xOf_12 rfl ?_
  refine q_iald dX1_xOf_13 (ckL_5 hB) (ixD_nI (by omega) (by decide)) ?_
  refine g_goto (tgt := 18) dX1_xOf_14 rfl ?_
  exact e_iret dX1_xOf_18 rfl (by exact hR.x hk) (by rfl)
set_option maxRecDepth 100000 in
theorem c0_KL_xOf {σ : SI} {δ : SD} {B n : Nat} {a : Nat → Int32} (hB : LB B) (hW : WF a n) (hR : RB σ B a n) {k : Nat} (hk : n ≤ k) (hk8 : k < 8) : E KL_xOf [.ref B, .int (nI k)] (HH σ δ) (some (.int (-1))) (HH σ δ) := by
  have h8 := hW.n8
  have h2 := hR.c
  refine E.ofL [some (.ref B), some (.int (nI k))] rfl pn_RX1 rfl (fun sc => ?_)
  refine g_aload_n dX1_xOf_0 rfl ?_
  refine g_iload_n dX1_xOf_1 rfl ?_
  refine g_v1 (M' := KL_hasItem) dX1_xOf_2 l_L_64 v_KL_hasItem (c_KL_hasItem hB h2 h8) (rcL hB) rfl rfl ⟨rfl, rfl⟩ ?_
  refine g_top (it0 hk (by omega)) ?_
  refine n_if_eq (tgt := 17) (by omega) dX1_xOf_5 rfl (fun _ => ?_) (fun zc5 => absurd zc5 (by decide))
  refine g_iconst dX1_xOf_17 ic_m1 ?_
  exact e_iret dX1_xOf_18 rfl (by rfl) (by rfl)
set_option maxRecDepth 100000 in
theorem c_KL_yOf {σ : SI} {δ : SD} {B n : Nat} {a : Nat → Int32} (hB : LB B) (hW : WF a n) (hR : RB σ B a n) {k : Nat} (hk : k < n) : E KL_yOf [.ref B, .int (nI k)] (HH σ δ) (some (.int (its a k 5))) (HH σ δ) := by
  have h8 := hW.n8
  have h2 := hR.c
  refine E.ofL [some (.ref B), some (.int (nI k))] rfl pn_RX1 rfl (fun sc => ?_)
  refine g_aload_n dX1_yOf_0 rfl ?_
  refine g_iload_n dX1_yOf_1 rfl ?_
  refine g_v1 (M' := KL_hasItem) dX1_yOf_2 l_L_64 v_KL_hasItem (c_KL_hasItem hB h2 h8) (rcL hB) rfl rfl ⟨rfl, rfl⟩ ?_
  refine g_top (it1 hk h8) ?_
  refine n_if_eq (tgt := 17) (by omega) dX1_yOf_5 rfl (fun zc5 => absurd zc5 (by decide)) (fun _ => ?_)
  refine g_aload_n dX1_yOf_8 rfl ?_
  refine q_getq dX1_yOf_9 f_L_35 (ckL_0 hB) (by decide) ty_0_7 (rfL_7 hB) ?_
  refine g_iload_n dX1_yOf_12 rfl ?_
  refine q_iald dX1_yOf_13 (ckL_6 hB) (ixD_nI (by omega) (by decide)) ?_
  refine g_goto (tgt := 18) dX1_yOf_14 rfl ?_
  exact e_iret dX1_yOf_18 rfl (by exact hR.y hk) (by rfl)
set_option maxRecDepth 100000 in
theorem c0_KL_yOf {σ : SI} {δ : SD} {B n : Nat} {a : Nat → Int32} (hB : LB B) (hW : WF a n) (hR : RB σ B a n) {k : Nat} (hk : n ≤ k) (hk8 : k < 8) : E KL_yOf [.ref B, .int (nI k)] (HH σ δ) (some (.int (-1))) (HH σ δ) := by
  have h8 := hW.n8
  have h2 := hR.c
  refine E.ofL [some (.ref B), some (.int (nI k))] rfl pn_RX1 rfl (fun sc => ?_)
  refine g_aload_n dX1_yOf_0 rfl ?_
  refine g_iload_n dX1_yOf_1 rfl ?_
  refine g_v1 (M' := KL_hasItem) dX1_yOf_2 l_L_64 v_KL_hasItem (c_KL_hasItem hB h2 h8) (rcL hB) rfl rfl ⟨rfl, rfl⟩ ?_
  refine g_top (it0 hk (by omega)) ?_
  refine n_if_eq (tgt := 17) (by omega) dX1_yOf_5 rfl (fun _ => ?_) (fun zc5 => absurd zc5 (by decide))
  refine g_iconst dX1_yOf_17 ic_m1 ?_
  exact e_iret dX1_yOf_18 rfl (by rfl) (by rfl)
set_option maxRecDepth 100000 in
theorem c_KL_weight {σ : SI} {δ : SD} {B n : Nat} {a : Nat → Int32} (hB : LB B) (hW : WF a n) (hR : RB σ B a n) (hD : RD σ B a n) {k : Nat} (hk : k < n) : E KL_weight [.ref B, .int (nI k)] (HH σ δ) (some (.int (wgtF a k))) (HH σ δ) := by
  have h8 := hW.n8
  have h2 := hR.c
  refine E.ofL [some (.ref B), some (.int (nI k))] rfl pn_RX1 rfl (fun sc => ?_)
  refine g_aload_n dX1_weight_0 rfl ?_
  refine g_iload_n dX1_weight_1 rfl ?_
  refine g_v1 (M' := KL_hasItem) dX1_weight_2 l_L_64 v_KL_hasItem (c_KL_hasItem hB h2 h8) (rcL hB) rfl rfl ⟨rfl, rfl⟩ ?_
  refine g_top (it1 hk h8) ?_
  refine n_if_eq (tgt := 34) (by omega) dX1_weight_5 rfl (fun zc5 => absurd zc5 (by decide)) (fun _ => ?_)
  refine g_aload_n dX1_weight_8 rfl ?_
  refine q_getq dX1_weight_9 f_L_38 (ckL_0 hB) (by decide) ty_0_8 (rfL_8 hB) ?_
  refine g_iload_n dX1_weight_12 rfl ?_
  refine q_iald dX1_weight_13 (ckL_7 hB) (ixD_nI (by omega) (by decide)) ?_
  refine g_top (hD.1 k hk) ?_
  refine g_aload_n dX1_weight_14 rfl ?_
  refine q_getq dX1_weight_15 f_L_41 (ckL_0 hB) (by decide) ty_0_9 (rfL_9 hB) ?_
  refine g_iload_n dX1_weight_18 rfl ?_
  refine q_iald dX1_weight_19 (ckL_8 hB) (ixD_nI (by omega) (by decide)) ?_
  refine g_top (hD.2.1 k hk) ?_
  refine g_imul dX1_weight_20 ?_
  refine g_bipush dX1_weight_21 bp_7 ?_
  refine g_aload_n dX1_weight_23 rfl ?_
  refine g_iload_n dX1_weight_24 rfl ?_
  refine g_iconst dX1_weight_25 ic_1 ?_
  refine g_v2 (M' := KL_trait) dX1_weight_26 l_L_99 v_KL_trait (c_KL_trait hB hW hR (by omega) (by omega)) (rcL hB) rfl rfl ⟨rfl, rfl⟩ ?_
  refine g_isub dX1_weight_29 ?_
  refine g_imul dX1_weight_30 ?_
  refine g_goto (tgt := 35) dX1_weight_31 rfl ?_
  exact e_iret dX1_weight_35 rfl (by rfl) (by rfl)
set_option maxRecDepth 100000 in
theorem c_KL_lies {σ : SI} {δ : SD} {B n : Nat} {a : Nat → Int32} (hB : LB B) (hW : WF a n) (hR : RB σ B a n) {k : Nat} (hk : k < n) : E KL_lies [.ref B, .int (nI k)] (HH σ δ) (some (.int (bI (liesA a k)))) (HH σ δ) := by
  have h8 := hW.n8
  have h2 := hR.c
  refine E.ofL [some (.ref B), some (.int (nI k))] rfl pn_RX1 rfl (fun sc => ?_)
  refine g_aload_n dX1_lies_0 rfl ?_
  refine g_iload_n dX1_lies_1 rfl ?_
  refine g_v1 (M' := KL_hasItem) dX1_lies_2 l_L_64 v_KL_hasItem (c_KL_hasItem hB h2 h8) (rcL hB) rfl rfl ⟨rfl, rfl⟩ ?_
  refine g_top (it1 hk h8) ?_
  refine n_if_eq (tgt := 22) (by omega) dX1_lies_5 rfl (fun zc5 => absurd zc5 (by decide)) (fun _ => ?_)
  refine g_aload_n dX1_lies_8 rfl ?_
  refine q_getq dX1_lies_9 f_L_32 (ckL_0 hB) (by decide) ty_0_6 (rfL_6 hB) ?_
  refine g_iload_n dX1_lies_12 rfl ?_
  refine q_iald dX1_lies_13 (ckL_5 hB) (ixD_nI (by omega) (by decide)) ?_
  refine g_top (hR.x hk) ?_
  refine g_iconst dX1_lies_14 ic_m1 ?_
  refine g_icmp_eq (tgt := 22) dX1_lies_15 rfl (fun zc15 => ?_) (fun zc15 => ?_)
  · refine g_iconst dX1_lies_22 ic_0 ?_
    exact e_z0 dX1_lies_23 rfl (by simp [liesA, *]) (by rfl)
  · refine g_iconst dX1_lies_18 ic_1 ?_
    refine g_goto (tgt := 23) dX1_lies_19 rfl ?_
    exact e_z1 dX1_lies_23 rfl (by simp [liesA, *]) (by rfl)
set_option maxRecDepth 100000 in
theorem c0_KL_lies {σ : SI} {δ : SD} {B n : Nat} {a : Nat → Int32} (hB : LB B) (hW : WF a n) (hR : RB σ B a n) {k : Nat} (hk : n ≤ k) (hk8 : k < 8) : E KL_lies [.ref B, .int (nI k)] (HH σ δ) (some (.int (bI false))) (HH σ δ) := by
  have h8 := hW.n8
  have h2 := hR.c
  refine E.ofL [some (.ref B), some (.int (nI k))] rfl pn_RX1 rfl (fun sc => ?_)
  refine g_aload_n dX1_lies_0 rfl ?_
  refine g_iload_n dX1_lies_1 rfl ?_
  refine g_v1 (M' := KL_hasItem) dX1_lies_2 l_L_64 v_KL_hasItem (c_KL_hasItem hB h2 h8) (rcL hB) rfl rfl ⟨rfl, rfl⟩ ?_
  refine g_top (it0 hk (by omega)) ?_
  refine n_if_eq (tgt := 22) (by omega) dX1_lies_5 rfl (fun _ => ?_) (fun zc5 => absurd zc5 (by decide))
  refine g_iconst dX1_lies_22 ic_0 ?_
  exact e_z0 dX1_lies_23 rfl (by rfl) (by rfl)
set_option maxRecDepth 100000 in
theorem c_KL_put {σ : SI} {δ : SD} {B n : Nat} {a : Nat → Int32} (hB : LB B) (hW : WF a n) (hR : RB σ B a n) {k : Nat} (hk : k < n) {x y : Int32} : E KL_put [.ref B, .int (nI k), .int x, .int y] (HH σ δ) (none) (HH (uI (uI σ (B + 5) k x) (B + 6) k y) δ) := by
  have h8 := hW.n8
  have h2 := hR.c
  refine E.ofL [some (.ref B), some (.int (nI k)), some (.int x), some (.int y)] rfl pn_RX1 rfl (fun sc => ?_)
  refine g_aload_n dX1_put_0 rfl ?_
  refine g_iload_n dX1_put_1 rfl ?_
  refine g_v1 (M' := KL_hasItem) dX1_put_2 l_L_64 v_KL_hasItem (c_KL_hasItem hB h2 h8) (rcL hB) rfl rfl ⟨rfl, rfl⟩ ?_
  refine g_top (it1 hk h8) ?_
  refine n_if_eq (tgt := 22) (by omega) dX1_put_5 rfl (fun zc5 => absurd zc5 (by decide)) (fun _ => ?_)
  refine g_aload_n dX1_put_8 rfl ?_
  refine q_getq dX1_put_9 f_L_32 (ckL_0 hB) (by decide) ty_0_6 (rfL_6 hB) ?_
  refine g_iload_n dX1_put_12 rfl ?_
  refine g_iload_n dX1_put_13 rfl ?_
  refine q_iast dX1_put_14 (ckL_5 hB) (ixD_nI (by omega) (by decide)) ?_
  refine g_aload_n dX1_put_15 rfl ?_
  refine q_getq dX1_put_16 f_L_35 (ckL_0 hB) (by decide) ty_0_7 (rfL_7 hB) ?_
  refine g_iload_n dX1_put_19 rfl ?_
  refine g_iload_n dX1_put_20 rfl ?_
  refine q_iast dX1_put_21 (ckL_6 hB) (ixD_nI (by omega) (by decide)) ?_
  exact e_vret dX1_put_22 rfl (by rfl)
set_option maxRecDepth 100000 in
theorem c_KL_hasRoomAlone {σ : SI} {δ : SD} {B n : Nat} {a : Nat → Int32} (hB : LB B) (hW : WF a n) (hR : RB σ B a n) (hD : RD σ B a n) {k : Nat} (hk : k < n) {x y : Int32} (hx : x = -1 ∨ btw x 0 15) : E KL_hasRoomAlone [.ref B, .int (nI k), .int x, .int y] (HH σ δ) (some (.int (bI (withinA a k x y)))) (HH σ δ) := by
  have h8 := hW.n8
  have h2 := hR.c
  have hc := hW.col
  have e0 := hR.s 0 (by decide)
  have e4 := hR.s 4 (by decide)
  refine E.ofL [some (.ref B), some (.int (nI k)), some (.int x), some (.int y)] rfl pn_RX1 rfl (fun sc => ?_)
  refine g_aload_n dX1_hasRoomAlone_0 rfl ?_
  refine g_iload_n dX1_hasRoomAlone_1 rfl ?_
  refine g_v1 (M' := KL_hasItem) dX1_hasRoomAlone_2 l_L_64 v_KL_hasItem (c_KL_hasItem hB h2 h8) (rcL hB) rfl rfl ⟨rfl, rfl⟩ ?_
  refine g_top (it1 hk h8) ?_
  refine n_if_ne (tgt := 10) (by omega) dX1_hasRoomAlone_5 rfl (fun _ => ?_) (fun zc5 => absurd zc5 (by decide))
  refine g_aload_n dX1_hasRoomAlone_10 rfl ?_
  refine q_getq dX1_hasRoomAlone_11 f_L_25 (ckL_0 hB) (by decide) ty_0_4 (rfL_4 hB) ?_
  refine g_iconst dX1_hasRoomAlone_14 ic_0 ?_
  refine q_iald dX1_hasRoomAlone_15 (ckL_3 hB) (ixD_nI (by omega) (by decide)) ?_
  refine g_top e0 ?_
  refine g_istore dX1_hasRoomAlone_16 rfl ?_
  refine g_iload_n dX1_hasRoomAlone_18 rfl ?_
  refine g_iload dX1_hasRoomAlone_19 rfl ?_
  refine g_icmp_lt (tgt := 66) dX1_hasRoomAlone_21 rfl (fun zc21 => ?_) (fun zc21 => ?_)
  · refine g_iconst dX1_hasRoomAlone_66 ic_0 ?_
    exact e_z0 dX1_hasRoomAlone_67 rfl (by exact within_no (by first | exact Or.inl zc21 | exact Or.inr (Or.inl zc27) | exact Or.inr (Or.inr (Or.inl zc45)) | exact Or.inr (Or.inr (Or.inr zc63)))) (by rfl)
  · refine g_iload_n dX1_hasRoomAlone_24 rfl ?_
    refine g_iload dX1_hasRoomAlone_25 rfl ?_
    refine g_icmp_lt (tgt := 66) dX1_hasRoomAlone_27 rfl (fun zc27 => ?_) (fun zc27 => ?_)
    · refine g_iconst dX1_hasRoomAlone_66 ic_0 ?_
      exact e_z0 dX1_hasRoomAlone_67 rfl (by exact within_no (by first | exact Or.inl zc21 | exact Or.inr (Or.inl zc27) | exact Or.inr (Or.inr (Or.inl zc45)) | exact Or.inr (Or.inr (Or.inr zc63)))) (by rfl)
    · refine g_iload_n dX1_hasRoomAlone_30 rfl ?_
      refine g_aload_n dX1_hasRoomAlone_31 rfl ?_
      refine q_getq dX1_hasRoomAlone_32 f_L_38 (ckL_0 hB) (by decide) ty_0_8 (rfL_8 hB) ?_
      refine g_iload_n dX1_hasRoomAlone_35 rfl ?_
      refine q_iald dX1_hasRoomAlone_36 (ckL_7 hB) (ixD_nI (by omega) (by decide)) ?_
      refine g_top (hD.1 k hk) ?_
      refine g_iadd dX1_hasRoomAlone_37 ?_
      refine g_aload_n dX1_hasRoomAlone_38 rfl ?_
      refine q_geti dX1_hasRoomAlone_39 f_L_9 (ckL_0 hB) (by decide) ty_0_0 ?_
      refine g_top hR.w ?_
      refine g_iload dX1_hasRoomAlone_42 rfl ?_
      refine g_isub dX1_hasRoomAlone_44 ?_
      refine g_icmp_gt (tgt := 66) dX1_hasRoomAlone_45 rfl (fun zc45 => ?_) (fun zc45 => ?_)
      · refine g_iconst dX1_hasRoomAlone_66 ic_0 ?_
        exact e_z0 dX1_hasRoomAlone_67 rfl (by exact within_no (by first | exact Or.inl zc21 | exact Or.inr (Or.inl zc27) | exact Or.inr (Or.inr (Or.inl zc45)) | exact Or.inr (Or.inr (Or.inr zc63)))) (by rfl)
      · refine g_iload_n dX1_hasRoomAlone_48 rfl ?_
        refine g_aload_n dX1_hasRoomAlone_49 rfl ?_
        refine q_getq dX1_hasRoomAlone_50 f_L_41 (ckL_0 hB) (by decide) ty_0_9 (rfL_9 hB) ?_
        refine g_iload_n dX1_hasRoomAlone_53 rfl ?_
        refine q_iald dX1_hasRoomAlone_54 (ckL_8 hB) (ixD_nI (by omega) (by decide)) ?_
        refine g_top (hD.2.1 k hk) ?_
        refine g_iadd dX1_hasRoomAlone_55 ?_
        refine g_aload_n dX1_hasRoomAlone_56 rfl ?_
        refine q_geti dX1_hasRoomAlone_57 f_L_15 (ckL_0 hB) (by decide) ty_0_1 ?_
        refine g_top hR.h ?_
        refine g_iload dX1_hasRoomAlone_60 rfl ?_
        refine g_isub dX1_hasRoomAlone_62 ?_
        refine g_icmp_le (tgt := 68) dX1_hasRoomAlone_63 rfl (fun zc63 => ?_) (fun zc63 => ?_)
        · refine g_aload_n dX1_hasRoomAlone_68 rfl ?_
          refine q_getq dX1_hasRoomAlone_69 f_L_25 (ckL_0 hB) (by decide) ty_0_4 (rfL_4 hB) ?_
          refine g_iconst dX1_hasRoomAlone_72 ic_4 ?_
          refine q_iald dX1_hasRoomAlone_73 (ckL_3 hB) (ixD_nI (by omega) (by decide)) ?_
          refine g_top (e4.trans hc.2.2) ?_
          refine n_if_eq (tgt := 89) (by omega) dX1_hasRoomAlone_74 rfl (fun zc74 => ?_) (fun zc74 => ?_)
          · refine g_iconst dX1_hasRoomAlone_89 ic_1 ?_
            refine g_goto (tgt := 94) dX1_hasRoomAlone_90 rfl ?_
            exact e_z1 dX1_hasRoomAlone_94 rfl (by first | exact within_col hW hx zc21 zc27 zc45 zc63 zc74 | exact within_lin hW hx zc21 zc27 zc45 zc63 zc74 zc86 | exact within_nol hW hx zc21 zc27 zc45 zc63 zc74 zc86) (by rfl)
          · refine g_aload_n dX1_hasRoomAlone_77 rfl ?_
            refine q_geti dX1_hasRoomAlone_78 f_L_47 (ckL_0 hB) (by decide) ty_0_10 ?_
            refine g_top hD.2.2 ?_
            refine g_iload_n dX1_hasRoomAlone_81 rfl ?_
            refine g_ishr dX1_hasRoomAlone_82 ?_
            refine g_iconst dX1_hasRoomAlone_83 ic_1 ?_
            refine g_iand dX1_hasRoomAlone_84 ?_
            refine g_iconst dX1_hasRoomAlone_85 ic_1 ?_
            refine g_icmp_ne (tgt := 93) dX1_hasRoomAlone_86 rfl (fun zc86 => ?_) (fun zc86 => ?_)
            · refine g_iconst dX1_hasRoomAlone_93 ic_0 ?_
              exact e_z0 dX1_hasRoomAlone_94 rfl (by first | exact within_col hW hx zc21 zc27 zc45 zc63 zc74 | exact within_lin hW hx zc21 zc27 zc45 zc63 zc74 zc86 | exact within_nol hW hx zc21 zc27 zc45 zc63 zc74 zc86) (by rfl)
            · refine g_iconst dX1_hasRoomAlone_89 ic_1 ?_
              refine g_goto (tgt := 94) dX1_hasRoomAlone_90 rfl ?_
              exact e_z1 dX1_hasRoomAlone_94 rfl (by first | exact within_col hW hx zc21 zc27 zc45 zc63 zc74 | exact within_lin hW hx zc21 zc27 zc45 zc63 zc74 zc86 | exact within_nol hW hx zc21 zc27 zc45 zc63 zc74 zc86) (by rfl)
        · refine g_iconst dX1_hasRoomAlone_66 ic_0 ?_
          exact e_z0 dX1_hasRoomAlone_67 rfl (by exact within_no (by first | exact Or.inl zc21 | exact Or.inr (Or.inl zc27) | exact Or.inr (Or.inr (Or.inl zc45)) | exact Or.inr (Or.inr (Or.inr zc63)))) (by rfl)
set_option maxRecDepth 100000 in
theorem c_KL_isApart {σ : SI} {δ : SD} {B n : Nat} {a : Nat → Int32} (hB : LB B) (hW : WF a n) (hR : RB σ B a n) (hD : RD σ B a n) {k o : Nat} (hk : k < n) (ho : o < n) {x y : Int32} : E KL_isApart [.ref B, .int (nI k), .int x, .int y, .int (nI o)] (HH σ δ) (some (.int (bI (apartA a k x y o)))) (HH σ δ) := by
  have h8 := hW.n8
  have h2 := hR.c
  have e1 := hR.s 1 (by decide)
  refine E.ofL [some (.ref B), some (.int (nI k)), some (.int x), some (.int y), some (.int (nI o))] rfl pn_RX1 rfl (fun sc => ?_)
  refine g_aload_n dX1_isApart_0 rfl ?_
  refine g_iload_n dX1_isApart_1 rfl ?_
  refine g_v1 (M' := KL_hasItem) dX1_isApart_2 l_L_64 v_KL_hasItem (c_KL_hasItem hB h2 h8) (rcL hB) rfl rfl ⟨rfl, rfl⟩ ?_
  refine g_top (it1 hk h8) ?_
  refine n_if_eq (tgt := 17) (by omega) dX1_isApart_5 rfl (fun zc5 => absurd zc5 (by decide)) (fun _ => ?_)
  refine g_aload_n dX1_isApart_8 rfl ?_
  refine g_iload dX1_isApart_9 rfl ?_
  refine g_v1 (M' := KL_hasItem) dX1_isApart_11 l_L_64 v_KL_hasItem (c_KL_hasItem hB h2 h8) (rcL hB) rfl rfl ⟨rfl, rfl⟩ ?_
  refine g_top (it1 ho h8) ?_
  refine n_if_ne (tgt := 19) (by omega) dX1_isApart_14 rfl (fun _ => ?_) (fun zc14 => absurd zc14 (by decide))
  refine g_aload_n dX1_isApart_19 rfl ?_
  refine q_getq dX1_isApart_20 f_L_25 (ckL_0 hB) (by decide) ty_0_4 (rfL_4 hB) ?_
  refine g_iconst dX1_isApart_23 ic_1 ?_
  refine q_iald dX1_isApart_24 (ckL_3 hB) (ixD_nI (by omega) (by decide)) ?_
  refine g_top e1 ?_
  refine g_istore dX1_isApart_25 rfl ?_
  refine g_iload_n dX1_isApart_27 rfl ?_
  refine g_aload_n dX1_isApart_28 rfl ?_
  refine q_getq dX1_isApart_29 f_L_38 (ckL_0 hB) (by decide) ty_0_8 (rfL_8 hB) ?_
  refine g_iload_n dX1_isApart_32 rfl ?_
  refine q_iald dX1_isApart_33 (ckL_7 hB) (ixD_nI (by omega) (by decide)) ?_
  refine g_top (hD.1 k hk) ?_
  refine g_iadd dX1_isApart_34 ?_
  refine g_iload dX1_isApart_35 rfl ?_
  refine g_iadd dX1_isApart_37 ?_
  refine g_aload_n dX1_isApart_38 rfl ?_
  refine q_getq dX1_isApart_39 f_L_32 (ckL_0 hB) (by decide) ty_0_6 (rfL_6 hB) ?_
  refine g_iload dX1_isApart_42 rfl ?_
  refine q_iald dX1_isApart_44 (ckL_5 hB) (ixD_nI (by omega) (by decide)) ?_
  refine g_top (hR.x ho) ?_
  refine g_icmp_le (tgt := 113) dX1_isApart_45 rfl (fun zc45 => ?_) (fun zc45 => ?_)
  · refine g_iconst dX1_isApart_113 ic_1 ?_
    refine g_goto (tgt := 118) dX1_isApart_114 rfl ?_
    exact e_z1 dX1_isApart_118 rfl (by simp [apartA, Int32.le_iff_toInt_le, Int32.lt_iff_toInt_lt] at *; first | omega | (simp [*]; omega) | simp [*]) (by rfl)
  · refine g_aload_n dX1_isApart_48 rfl ?_
    refine q_getq dX1_isApart_49 f_L_32 (ckL_0 hB) (by decide) ty_0_6 (rfL_6 hB) ?_
    refine g_iload dX1_isApart_52 rfl ?_
    refine q_iald dX1_isApart_54 (ckL_5 hB) (ixD_nI (by omega) (by decide)) ?_
    refine g_top (hR.x ho) ?_
    refine g_aload_n dX1_isApart_55 rfl ?_
    refine q_getq dX1_isApart_56 f_L_38 (ckL_0 hB) (by decide) ty_0_8 (rfL_8 hB) ?_
    refine g_iload dX1_isApart_59 rfl ?_
    refine q_iald dX1_isApart_61 (ckL_7 hB) (ixD_nI (by omega) (by decide)) ?_
    refine g_top (hD.1 o ho) ?_
    refine g_iadd dX1_isApart_62 ?_
    refine g_iload dX1_isApart_63 rfl ?_
    refine g_iadd dX1_isApart_65 ?_
    refine g_iload_n dX1_isApart_66 rfl ?_
    refine g_icmp_le (tgt := 113) dX1_isApart_67 rfl (fun zc67 => ?_) (fun zc67 => ?_)
    · refine g_iconst dX1_isApart_113 ic_1 ?_
      refine g_goto (tgt := 118) dX1_isApart_114 rfl ?_
      exact e_z1 dX1_isApart_118 rfl (by simp [apartA, Int32.le_iff_toInt_le, Int32.lt_iff_toInt_lt] at *; first | omega | (simp [*]; omega) | simp [*]) (by rfl)
    · refine g_iload_n dX1_isApart_70 rfl ?_
      refine g_aload_n dX1_isApart_71 rfl ?_
      refine q_getq dX1_isApart_72 f_L_41 (ckL_0 hB) (by decide) ty_0_9 (rfL_9 hB) ?_
      refine g_iload_n dX1_isApart_75 rfl ?_
      refine q_iald dX1_isApart_76 (ckL_8 hB) (ixD_nI (by omega) (by decide)) ?_
      refine g_top (hD.2.1 k hk) ?_
      refine g_iadd dX1_isApart_77 ?_
      refine g_iload dX1_isApart_78 rfl ?_
      refine g_iadd dX1_isApart_80 ?_
      refine g_aload_n dX1_isApart_81 rfl ?_
      refine q_getq dX1_isApart_82 f_L_35 (ckL_0 hB) (by decide) ty_0_7 (rfL_7 hB) ?_
      refine g_iload dX1_isApart_85 rfl ?_
      refine q_iald dX1_isApart_87 (ckL_6 hB) (ixD_nI (by omega) (by decide)) ?_
      refine g_top (hR.y ho) ?_
      refine g_icmp_le (tgt := 113) dX1_isApart_88 rfl (fun zc88 => ?_) (fun zc88 => ?_)
      · refine g_iconst dX1_isApart_113 ic_1 ?_
        refine g_goto (tgt := 118) dX1_isApart_114 rfl ?_
        exact e_z1 dX1_isApart_118 rfl (by simp [apartA, Int32.le_iff_toInt_le, Int32.lt_iff_toInt_lt] at *; first | omega | (simp [*]; omega) | simp [*]) (by rfl)
      · refine g_aload_n dX1_isApart_91 rfl ?_
        refine q_getq dX1_isApart_92 f_L_35 (ckL_0 hB) (by decide) ty_0_7 (rfL_7 hB) ?_
        refine g_iload dX1_isApart_95 rfl ?_
        refine q_iald dX1_isApart_97 (ckL_6 hB) (ixD_nI (by omega) (by decide)) ?_
        refine g_top (hR.y ho) ?_
        refine g_aload_n dX1_isApart_98 rfl ?_
        refine q_getq dX1_isApart_99 f_L_41 (ckL_0 hB) (by decide) ty_0_9 (rfL_9 hB) ?_
        refine g_iload dX1_isApart_102 rfl ?_
        refine q_iald dX1_isApart_104 (ckL_8 hB) (ixD_nI (by omega) (by decide)) ?_
        refine g_top (hD.2.1 o ho) ?_
        refine g_iadd dX1_isApart_105 ?_
        refine g_iload dX1_isApart_106 rfl ?_
        refine g_iadd dX1_isApart_108 ?_
        refine g_iload_n dX1_isApart_109 rfl ?_
        refine g_icmp_gt (tgt := 117) dX1_isApart_110 rfl (fun zc110 => ?_) (fun zc110 => ?_)
        · refine g_iconst dX1_isApart_117 ic_0 ?_
          exact e_z0 dX1_isApart_118 rfl (by simp [apartA, Int32.le_iff_toInt_le, Int32.lt_iff_toInt_lt] at *; first | omega | (simp [*]; omega) | simp [*]) (by rfl)
        · refine g_iconst dX1_isApart_113 ic_1 ?_
          refine g_goto (tgt := 118) dX1_isApart_114 rfl ?_
          exact e_z1 dX1_isApart_118 rfl (by simp [apartA, Int32.le_iff_toInt_le, Int32.lt_iff_toInt_lt] at *; first | omega | (simp [*]; omega) | simp [*]) (by rfl)
set_option maxRecDepth 100000 in
theorem c_KL_hasRoom {σ : SI} {δ : SD} {B n : Nat} {a : Nat → Int32} (hB : LB B) (hW : WF a n) (hR : RB σ B a n) (hD : RD σ B a n) {k : Nat} (hk : k < n) {x y : Int32} (hx : x = -1 ∨ btw x 0 15) : E KL_hasRoom [.ref B, .int (nI k), .int x, .int y] (HH σ δ) (some (.int (bI (fitA a n k x y)))) (HH σ δ) := by
  have h8 := hW.n8
  have h2 := hR.c
  refine E.ofL [some (.ref B), some (.int (nI k)), some (.int x), some (.int y)] rfl pn_RX1 rfl (fun sc => ?_)
  generalize hRz : (fun (zr : Option Value) (zk : XH) => zr = some (.int (bI (fitA a n k x y))) ∧ zk = HH σ δ) = R
  refine g_aload_n dX1_hasRoom_0 rfl ?_
  refine g_iload_n dX1_hasRoom_1 rfl ?_
  refine g_iload_n dX1_hasRoom_2 rfl ?_
  refine g_iload_n dX1_hasRoom_3 rfl ?_
  refine g_v3 (M' := KL_hasRoomAlone) dX1_hasRoom_4 l_L_126 v_KL_hasRoomAlone (c_KL_hasRoomAlone hB hW hR hD (by omega) hx) (rcL hB) rfl rfl ⟨rfl, rfl⟩ ?_
  refine b_if_ne (tgt := 12) dX1_hasRoom_7 rfl (fun zc7 => ?_) (fun zc7 => ?_)
  · refine g_iconst dX1_hasRoom_12 ic_0 ?_
    refine g_istore dX1_hasRoom_13 rfl ?_
    have H15 : ∀ (N : Nat) (o : Nat), o ≤ n → allN (fun o => decide (o = k) || !liesA a o || apartA a k x y o) o = true → n - o < N → G sc KL_hasRoom 15 (aL [some (.ref B), some (.int (nI k)), some (.int x), some (.int y), some (.int (nI o))]) [] (HH σ δ) (0, 0) R := by
      intro N
      induction N with
      | zero => intro o h1 hb hN15; exact absurd hN15 (Nat.not_lt_zero _)
      | succ N ih15 =>
        intro o h1 hb hN15
        refine g_iload dX1_hasRoom_15 rfl ?_
        refine g_aload_n dX1_hasRoom_17 rfl ?_
        refine q_geti dX1_hasRoom_18 f_L_44 (ckL_0 hB) (by decide) ty_0_2 ?_
        refine g_top h2 ?_
        refine n_icmp_ge (tgt := 68) (by omega) (by omega) dX1_hasRoom_21 rfl (fun zc21 => ?_) (fun zc21 => ?_)
        · refine g_iconst dX1_hasRoom_68 ic_1 ?_
          exact g_zret (S := []) dX1_hasRoom_69 rfl (Or.inr rfl) (by rw [← hRz]; exact ⟨by unfold fitA; rw [zc7, show n = o by omega, hb]; rfl, by rfl⟩) (Nat.zero_le _) (Nat.zero_le _)
        · refine g_iload dX1_hasRoom_24 rfl ?_
          refine g_bipush dX1_hasRoom_26 bp_8 ?_
          refine n_icmp_ge (tgt := 68) (by omega) (by omega) dX1_hasRoom_28 rfl (fun zc28 => ?_) (fun zc28 => ?_)
          · exact absurd zc28 (by omega)
          · refine g_iload dX1_hasRoom_31 rfl ?_
            refine g_iload_n dX1_hasRoom_33 rfl ?_
            refine n_icmp_eq (tgt := 62) (by omega) (by omega) dX1_hasRoom_34 rfl (fun zc34 => ?_) (fun zc34 => ?_)
            · refine n_iinc (b := 1) dX1_hasRoom_62 rfl rfl rfl ?_
              refine g_goto (tgt := 15) dX1_hasRoom_65 rfl ?_
              exact g_can _ (by exact ⟨rfl, rfl, rfl, rfl, rfl, trivial⟩) (ih15 (o + 1) (by omega) (by rw [allN, hb]; clear hb ih15; simp [liesA, *]) (by omega))
            · refine g_aload_n dX1_hasRoom_37 rfl ?_
              refine q_getq dX1_hasRoom_38 f_L_32 (ckL_0 hB) (by decide) ty_0_6 (rfL_6 hB) ?_
              refine g_iload dX1_hasRoom_41 rfl ?_
              refine q_iald dX1_hasRoom_43 (ckL_5 hB) (ixD_nI (by omega) (by decide)) ?_
              refine g_top (hR.x zc21) ?_
              refine g_iconst dX1_hasRoom_44 ic_m1 ?_
              refine g_icmp_eq (tgt := 62) dX1_hasRoom_45 rfl (fun zc45 => ?_) (fun zc45 => ?_)
              · refine n_iinc (b := 1) dX1_hasRoom_62 rfl rfl rfl ?_
                refine g_goto (tgt := 15) dX1_hasRoom_65 rfl ?_
                exact g_can _ (by exact ⟨rfl, rfl, rfl, rfl, rfl, trivial⟩) (ih15 (o + 1) (by omega) (by rw [allN, hb]; clear hb ih15; simp [liesA, *]) (by omega))
              · refine g_aload_n dX1_hasRoom_48 rfl ?_
                refine g_iload_n dX1_hasRoom_49 rfl ?_
                refine g_iload_n dX1_hasRoom_50 rfl ?_
                refine g_iload_n dX1_hasRoom_51 rfl ?_
                refine g_iload dX1_hasRoom_52 rfl ?_
                refine g_v4 (M' := KL_isApart) dX1_hasRoom_54 l_L_129 v_KL_isApart (c_KL_isApart hB hW hR hD (by omega) (by omega)) (rcL hB) rfl rfl ⟨rfl, rfl⟩ ?_
                refine b_if_ne (tgt := 62) dX1_hasRoom_57 rfl (fun zc57 => ?_) (fun zc57 => ?_)
                · refine n_iinc (b := 1) dX1_hasRoom_62 rfl rfl rfl ?_
                  refine g_goto (tgt := 15) dX1_hasRoom_65 rfl ?_
                  exact g_can _ (by exact ⟨rfl, rfl, rfl, rfl, rfl, trivial⟩) (ih15 (o + 1) (by omega) (by rw [allN, hb]; clear hb ih15; simp [liesA, *]) (by omega))
                · refine g_iconst dX1_hasRoom_60 ic_0 ?_
                  exact g_zret (S := []) dX1_hasRoom_61 rfl (Or.inl rfl) (by rw [← hRz]; exact ⟨by unfold fitA; rw [allN_false (k := o + 1) (by rw [allN, hb]; clear hb ih15; simp [liesA, *]) n (by omega), Bool.and_false]; rfl, by rfl⟩) (Nat.zero_le _) (Nat.zero_le _)
    exact g_can _ (by exact ⟨rfl, rfl, rfl, rfl, rfl, trivial⟩) (H15 _ 0 (by omega) rfl (Nat.lt_succ_self _))
  · refine g_iconst dX1_hasRoom_10 ic_0 ?_
    exact g_zret (S := []) dX1_hasRoom_11 rfl (Or.inl rfl) (by rw [← hRz]; exact ⟨by unfold fitA; rw [zc7]; rfl, by rfl⟩) (Nat.zero_le _) (Nat.zero_le _)
set_option maxRecDepth 100000 in
theorem c_KL_liesWell {σ : SI} {δ : SD} {B n : Nat} {a : Nat → Int32} (hB : LB B) (hW : WF a n) (hR : RB σ B a n) (hD : RD σ B a n) {k : Nat} (hk : k < n) : E KL_liesWell [.ref B, .int (nI k)] (HH σ δ) (some (.int (bI (fitThereA a n k)))) (HH σ δ) := by
  have h8 := hW.n8
  have h2 := hR.c
  have hx := plc_x (hW.pl hk)
  refine E.ofL [some (.ref B), some (.int (nI k))] rfl pn_RX1 rfl (fun sc => ?_)
  refine g_aload_n dX1_liesWell_0 rfl ?_
  refine g_iload_n dX1_liesWell_1 rfl ?_
  refine g_v1 (M' := KL_lies) dX1_liesWell_2 l_L_123 v_KL_lies (c_KL_lies hB hW hR (by omega)) (rcL hB) rfl rfl ⟨rfl, rfl⟩ ?_
  refine b_if_eq (tgt := 30) dX1_liesWell_5 rfl (fun zc5 => ?_) (fun zc5 => ?_)
  · refine g_iconst dX1_liesWell_30 ic_0 ?_
    exact e_z0 dX1_liesWell_31 rfl (by simp [fitThereA, *]) (by rfl)
  · refine g_aload_n dX1_liesWell_8 rfl ?_
    refine g_iload_n dX1_liesWell_9 rfl ?_
    refine g_aload_n dX1_liesWell_10 rfl ?_
    refine g_iload_n dX1_liesWell_11 rfl ?_
    refine g_v1 (M' := KL_xOf) dX1_liesWell_12 l_L_133 v_KL_xOf (c_KL_xOf hB hW hR (by omega)) (rcL hB) rfl rfl ⟨rfl, rfl⟩ ?_
    refine g_aload_n dX1_liesWell_15 rfl ?_
    refine g_iload_n dX1_liesWell_16 rfl ?_
    refine g_v1 (M' := KL_yOf) dX1_liesWell_17 l_L_136 v_KL_yOf (c_KL_yOf hB hW hR (by omega)) (rcL hB) rfl rfl ⟨rfl, rfl⟩ ?_
    refine g_v3 (M' := KL_hasRoom) dX1_liesWell_20 l_L_139 v_KL_hasRoom (c_KL_hasRoom hB hW hR hD (by omega) hx) (rcL hB) rfl rfl ⟨rfl, rfl⟩ ?_
    refine b_if_eq (tgt := 30) dX1_liesWell_23 rfl (fun zc23 => ?_) (fun zc23 => ?_)
    · refine g_iconst dX1_liesWell_30 ic_0 ?_
      exact e_z0 dX1_liesWell_31 rfl (by simp [fitThereA, *]) (by rfl)
    · refine g_iconst dX1_liesWell_26 ic_1 ?_
      refine g_goto (tgt := 31) dX1_liesWell_27 rfl ?_
      exact e_z1 dX1_liesWell_31 rfl (by simp [fitThereA, *]) (by rfl)
