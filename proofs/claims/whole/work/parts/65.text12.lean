/-! THE TEXT: read -/
set_option maxHeartbeats 200000 in
theorem fill_out {σ : SI} {c k b : Nat} {f : Nat → Int32} (h : ¬ b < k) : fill σ c f k c b = σ c b := by unfold fill; rw [if_neg (fun q => h q.2)]
set_option maxRecDepth 100000 in
set_option maxHeartbeats 200000 in
theorem c_KP_reads_bad {σ : SI} {δ : SD} {σ1 : SI} {f : Nat} (hf : f < 1000) (hF : E KT_findFault [.ref 80] (HH σ δ) (some (.int (nI f))) (HH σ1 δ)) : E KP_reads [.ref 5] (HH σ δ) (some (.int (-10 - nI f))) (HH σ1 δ) := by
  refine E.ofL [some (.ref 5)] rfl pn_RX8 rfl (fun sc => ?_)
  refine g_aload_n dX8_reads_0 rfl ?_
  refine q_getq dX8_reads_1 f_P_50 ck_5 (by decide) ty_7_6 rf_5_6 ?_
  refine g_v0 (M' := KT_findFault) dX8_reads_4 l_P_237 v_KT_findFault hF rc_80 HH_len rfl ⟨rfl, rfl⟩ ?_
  refine g_istore_n dX8_reads_7 rfl ?_
  refine g_iload_n dX8_reads_8 rfl ?_
  refine g_iconst dX8_reads_9 ic_m1 ?_
  refine g_icmp_eq (tgt := 18) dX8_reads_10 rfl (fun zc10 => ?_) (fun zc10 => ?_)
  · exact absurd zc10 (nI_m1 (by omega))
  · refine g_bipush dX8_reads_13 bp_m10 ?_
    refine g_iload_n dX8_reads_15 rfl ?_
    refine g_isub dX8_reads_16 ?_
    exact e_iret dX8_reads_17 rfl (by rfl) (by rfl)
set_option maxRecDepth 100000 in
set_option maxHeartbeats 200000 in
theorem c_KP_reads_ok {σ : SI} {δ : SD} {σ1 : SI} {k : Nat} (hk : k ≤ 60) (hF : E KT_findFault [.ref 80] (HH σ δ) (some (.int (-1))) (HH σ1 δ)) (ho : σ1 80 1 = nI k) {τ : Nat → SI} (h0 : cop σ1 15 6 = τ 0) (hO : ∀ i, i < k → E KP_obeys [.ref 5, .int (nI i)] (HH (τ i) δ) (some (.int (bI true))) (HH (τ (i + 1)) δ)) {σ2 : SI} (hP : E KQ_push [.ref 24, .ref 6] (HH (τ k) δ) none (HH σ2 δ)) : E KP_reads [.ref 5] (HH σ δ) (some (.int (nI k))) (HH (cop σ2 6 15) δ) := by
  refine E.ofL [some (.ref 5)] rfl pn_RX8 rfl (fun sc => ?_)
  generalize hRz : (fun (zr : Option Value) (zk : XH) => zr = some (.int (nI k)) ∧ zk = HH (cop σ2 6 15) δ) = R
  refine g_aload_n dX8_reads_0 rfl ?_
  refine q_getq dX8_reads_1 f_P_50 ck_5 (by decide) ty_7_6 rf_5_6 ?_
  refine g_v0 (M' := KT_findFault) dX8_reads_4 l_P_237 v_KT_findFault hF rc_80 HH_len rfl ⟨rfl, rfl⟩ ?_
  refine g_istore_n dX8_reads_7 rfl ?_
  refine g_iload_n dX8_reads_8 rfl ?_
  refine g_iconst dX8_reads_9 ic_m1 ?_
  refine g_icmp_eq (tgt := 18) dX8_reads_10 rfl (fun zc10 => ?_) (fun zc10 => ?_)
  · refine g_aload_n dX8_reads_18 rfl ?_
    refine q_getq dX8_reads_19 f_P_16 ck_5 (by decide) ty_7_1 rf_5_1 ?_
    refine g_aload_n dX8_reads_22 rfl ?_
    refine q_getq dX8_reads_23 f_P_12 ck_5 (by decide) ty_7_0 rf_5_0 ?_
    refine g_v1n (M' := KL_copyFrom) dX8_reads_26 l_P_240 v_KL_copyFrom (by have zq := c_KL_copyFrom (σ := σ1) (δ := δ) LB_15 LB_6 (Or.inr (by omega)); rw [h0] at zq; exact zq) (rcL LB_15) HH_len rfl ⟨rfl, rfl⟩ ?_
    refine g_aload_n dX8_reads_29 rfl ?_
    refine q_getq dX8_reads_30 f_P_50 ck_5 (by decide) ty_7_6 rf_5_6 ?_
    refine q_geti dX8_reads_33 f_P_243 ck_80 (by decide) ty_5_1 ?_
    refine g_top (show _ = nI k by rw [← h0, cop_ne (by omega)]; exact ho) ?_
    refine g_istore_n dX8_reads_36 rfl ?_
    refine g_iconst dX8_reads_37 ic_0 ?_
    refine g_istore_n dX8_reads_38 rfl ?_
    have H39 : ∀ (N : Nat) (i : Nat), i ≤ k → 61 - i < N → G sc KP_reads 39 (aL [some (.ref 5), some (.int (-1)), some (.int (nI k)), some (.int (nI i))]) [] (HH (τ i) δ) (0, 0) R := by
      intro N
      induction N with
      | zero => intro i h1 hN39; exact absurd hN39 (Nat.not_lt_zero _)
      | succ N ih39 =>
        intro i h1 hN39
        refine g_iload_n dX8_reads_39 rfl ?_
        refine g_iload_n dX8_reads_40 rfl ?_
        refine n_icmp_ge (tgt := 64) (by omega) (by omega) dX8_reads_41 rfl (fun zc41 => ?_) (fun zc41 => ?_)
        · have hik : i = k := by omega
          refine g_heap (show _ = HH (τ k) δ from by rw [hik]) ?_
          refine g_aload_n dX8_reads_64 rfl ?_
          refine q_getq dX8_reads_65 f_P_22 ck_5 (by decide) ty_7_2 rf_5_2 ?_
          refine g_aload_n dX8_reads_68 rfl ?_
          refine q_getq dX8_reads_69 f_P_12 ck_5 (by decide) ty_7_0 rf_5_0 ?_
          refine g_v1n (M' := KQ_push) dX8_reads_72 l_P_152 v_KQ_push hP rc_24 HH_len rfl ⟨rfl, rfl⟩ ?_
          refine g_aload_n dX8_reads_75 rfl ?_
          refine q_getq dX8_reads_76 f_P_12 ck_5 (by decide) ty_7_0 rf_5_0 ?_
          refine g_aload_n dX8_reads_79 rfl ?_
          refine q_getq dX8_reads_80 f_P_16 ck_5 (by decide) ty_7_1 rf_5_1 ?_
          refine g_v1n (M' := KL_copyFrom) dX8_reads_83 l_P_240 v_KL_copyFrom (c_KL_copyFrom LB_6 LB_15 (Or.inl (by omega))) (rcL LB_6) HH_len rfl ⟨rfl, rfl⟩ ?_
          refine g_iload_n dX8_reads_86 rfl ?_
          exact g_iret (S := []) dX8_reads_87 rfl (by rw [← hRz]; exact ⟨congrArg (fun zz => some (Value.int zz)) (show _ = _ by rfl), by rfl⟩) (Nat.zero_le _) (Nat.zero_le _)
        · refine g_aload_n dX8_reads_44 rfl ?_
          refine g_iload_n dX8_reads_45 rfl ?_
          refine g_v1 (M' := KP_obeys) dX8_reads_46 l_P_246 v_KP_obeys (hO i (by omega)) rc_5 HH_len rfl ⟨rfl, rfl⟩ ?_
          refine b_if_ne (tgt := 58) dX8_reads_49 rfl (fun zc49 => ?_) (fun zc49 => ?_)
          · refine n_iinc (b := 1) dX8_reads_58 rfl rfl rfl ?_
            refine g_goto (tgt := 39) dX8_reads_61 rfl ?_
            exact g_can _ (by exact ⟨rfl, rfl, rfl, rfl, trivial⟩) (ih39 (i + 1) (by omega) (by omega))
          · exact absurd zc49 (by decide)
    exact g_can _ (by exact ⟨rfl, rfl, rfl, rfl, trivial⟩) (H39 _ 0 (by omega) (Nat.lt_succ_self _))
  · exact absurd rfl zc10
set_option maxRecDepth 100000 in
set_option maxHeartbeats 200000 in
theorem c_KP_reads_stop {σ : SI} {δ : SD} {σ1 : SI} {k : Nat} (hk : k ≤ 60) (hF : E KT_findFault [.ref 80] (HH σ δ) (some (.int (-1))) (HH σ1 δ)) (ho : σ1 80 1 = nI k) {τ : Nat → SI} (h0 : cop σ1 15 6 = τ 0) {j : Nat} (hj : j < k) (hO : ∀ i, i < j → E KP_obeys [.ref 5, .int (nI i)] (HH (τ i) δ) (some (.int (bI true))) (HH (τ (i + 1)) δ)) (hN : E KP_obeys [.ref 5, .int (nI j)] (HH (τ j) δ) (some (.int (bI false))) (HH (τ j) δ)) : E KP_reads [.ref 5] (HH σ δ) (some (.int (-1000 - nI j))) (HH (τ j) δ) := by
  refine E.ofL [some (.ref 5)] rfl pn_RX8 rfl (fun sc => ?_)
  generalize hRz : (fun (zr : Option Value) (zk : XH) => zr = some (.int (-1000 - nI j)) ∧ zk = HH (τ j) δ) = R
  refine g_aload_n dX8_reads_0 rfl ?_
  refine q_getq dX8_reads_1 f_P_50 ck_5 (by decide) ty_7_6 rf_5_6 ?_
  refine g_v0 (M' := KT_findFault) dX8_reads_4 l_P_237 v_KT_findFault hF rc_80 HH_len rfl ⟨rfl, rfl⟩ ?_
  refine g_istore_n dX8_reads_7 rfl ?_
  refine g_iload_n dX8_reads_8 rfl ?_
  refine g_iconst dX8_reads_9 ic_m1 ?_
  refine g_icmp_eq (tgt := 18) dX8_reads_10 rfl (fun zc10 => ?_) (fun zc10 => ?_)
  · refine g_aload_n dX8_reads_18 rfl ?_
    refine q_getq dX8_reads_19 f_P_16 ck_5 (by decide) ty_7_1 rf_5_1 ?_
    refine g_aload_n dX8_reads_22 rfl ?_
    refine q_getq dX8_reads_23 f_P_12 ck_5 (by decide) ty_7_0 rf_5_0 ?_
    refine g_v1n (M' := KL_copyFrom) dX8_reads_26 l_P_240 v_KL_copyFrom (by have zq := c_KL_copyFrom (σ := σ1) (δ := δ) LB_15 LB_6 (Or.inr (by omega)); rw [h0] at zq; exact zq) (rcL LB_15) HH_len rfl ⟨rfl, rfl⟩ ?_
    refine g_aload_n dX8_reads_29 rfl ?_
    refine q_getq dX8_reads_30 f_P_50 ck_5 (by decide) ty_7_6 rf_5_6 ?_
    refine q_geti dX8_reads_33 f_P_243 ck_80 (by decide) ty_5_1 ?_
    refine g_top (show _ = nI k by rw [← h0, cop_ne (by omega)]; exact ho) ?_
    refine g_istore_n dX8_reads_36 rfl ?_
    refine g_iconst dX8_reads_37 ic_0 ?_
    refine g_istore_n dX8_reads_38 rfl ?_
    have H39 : ∀ (N : Nat) (i : Nat), i ≤ j → 61 - i < N → G sc KP_reads 39 (aL [some (.ref 5), some (.int (-1)), some (.int (nI k)), some (.int (nI i))]) [] (HH (τ i) δ) (0, 0) R := by
      intro N
      induction N with
      | zero => intro i h1 hN39; exact absurd hN39 (Nat.not_lt_zero _)
      | succ N ih39 =>
        intro i h1 hN39
        refine g_iload_n dX8_reads_39 rfl ?_
        refine g_iload_n dX8_reads_40 rfl ?_
        refine n_icmp_ge (tgt := 64) (by omega) (by omega) dX8_reads_41 rfl (fun zc41 => ?_) (fun zc41 => ?_)
        · exact absurd zc41 (by omega)
        · refine g_aload_n dX8_reads_44 rfl ?_
          refine g_iload_n dX8_reads_45 rfl ?_
          have hE : E KP_obeys [.ref 5, .int (nI i)] (HH (τ i) δ) (some (.int (bI (decide (i < j))))) (HH (τ (if i < j then i + 1 else j)) δ) := by
            by_cases hij : i < j
            · rw [if_pos hij, decide_eq_true hij]; exact hO i hij
            · have hie : i = j := by omega
              rw [if_neg hij, decide_eq_false hij, hie]; exact hN
          refine g_v1 (M' := KP_obeys) dX8_reads_46 l_P_246 v_KP_obeys hE rc_5 HH_len rfl ⟨rfl, rfl⟩ ?_
          refine b_if_ne (tgt := 58) dX8_reads_49 rfl (fun zc49 => ?_) (fun zc49 => ?_)
          · refine n_iinc (b := 1) dX8_reads_58 rfl rfl rfl ?_
            refine g_goto (tgt := 39) dX8_reads_61 rfl ?_
            refine g_heap (show _ = HH (τ (i + 1)) δ from by rw [if_pos (of_decide_eq_true zc49)]) ?_
            exact g_can _ (by exact ⟨rfl, rfl, rfl, rfl, trivial⟩) (ih39 (i + 1) (by have := of_decide_eq_true zc49; omega) (by omega))
          · have hij := of_decide_eq_false zc49
            have hie : i = j := by omega
            refine g_sipush dX8_reads_52 sp_m1000 ?_
            refine g_iload_n dX8_reads_55 rfl ?_
            refine g_isub dX8_reads_56 ?_
            exact g_iret (S := []) dX8_reads_57 rfl (by rw [← hRz]; exact ⟨congrArg (fun zz => some (Value.int zz)) (show _ = _ by rw [hie]), by rw [if_neg hij]⟩) (Nat.zero_le _) (Nat.zero_le _)
    exact g_can _ (by exact ⟨rfl, rfl, rfl, rfl, trivial⟩) (H39 _ 0 (by omega) (Nat.lt_succ_self _))
  · exact absurd rfl zc10
set_option maxRecDepth 100000 in
set_option maxHeartbeats 200000 in
theorem c_KR_keepsAside {τ : SI} {δ : SD} {s : Nat} (hs : s ≤ 5) (h3 : τ 84 3 = nI s) {κ : SI} (hκ : sKeep (fill (fill τ 85 (τ 87) 155) 87 (τ 85) 155) s = κ) : E KR_keepsAside [.ref 84] (HH τ δ) (none) (HH (fill κ 85 (κ 87) 155) δ) := by
  refine E.ofL [some (.ref 84)] rfl pn_RX9 rfl (fun sc => ?_)
  generalize hRz : (fun (zr : Option Value) (zk : XH) => zr = none ∧ zk = HH (fill κ 85 (κ 87) 155) δ) = R
  refine g_iconst dX9_keepsAside_0 ic_0 ?_
  refine g_istore_n dX9_keepsAside_1 rfl ?_
  refine g_heap (show _ = HH (fill (fill τ 85 (τ 87) 0) 87 (τ 85) 0) δ from by rw [fill_0, fill_0]) ?_
  have H2 : ∀ (N : Nat) (i : Nat), i ≤ 155 → 155 - i < N → G sc KR_keepsAside 2 (aL [some (.ref 84), some (.int (nI i))]) [] (HH (fill (fill τ 85 (τ 87) i) 87 (τ 85) i) δ) (0, 0) R := by
    intro N
    induction N with
    | zero => intro i h1 hN2; exact absurd hN2 (Nat.not_lt_zero _)
    | succ N ih2 =>
      intro i h1 hN2
      refine g_iload_n dX9_keepsAside_2 rfl ?_
      refine g_sipush dX9_keepsAside_3 sp_155 ?_
      refine n_icmp_ge (tgt := 41) (by omega) (by omega) dX9_keepsAside_6 rfl (fun zc6 => ?_) (fun zc6 => ?_)
      · obtain rfl : i = 155 := by omega
        refine g_aload_n dX9_keepsAside_41 rfl ?_
        refine g_v0n (M' := KR_keep) dX9_keepsAside_42 l_R_111 v_KR_keep (by have zq := c_KR_keep (σ := fill (fill τ 85 (τ 87) 155) 87 (τ 85) 155) (δ := δ) hs (by rw [fill_ne (by decide), fill_ne (by decide)]; exact h3); rw [hκ] at zq; exact zq) rc_84 HH_len rfl ⟨rfl, rfl⟩ ?_
        refine g_iconst dX9_keepsAside_45 ic_0 ?_
        refine g_istore_n dX9_keepsAside_46 rfl ?_
        refine g_heap (show _ = HH (fill κ 85 (κ 87) 0) δ from by rw [fill_0]) ?_
        have H47 : ∀ (N : Nat) (i : Nat), i ≤ 155 → 155 - i < N → G sc KR_keepsAside 47 (aL [some (.ref 84), some (.int (nI i))]) [] (HH (fill κ 85 (κ 87) i) δ) (0, 0) R := by
          intro N
          induction N with
          | zero => intro i h1 hN47; exact absurd hN47 (Nat.not_lt_zero _)
          | succ N ih47 =>
            intro i h1 hN47
            refine g_iload_n dX9_keepsAside_47 rfl ?_
            refine g_sipush dX9_keepsAside_48 sp_155 ?_
            refine n_icmp_ge (tgt := 72) (by omega) (by omega) dX9_keepsAside_51 rfl (fun zc51 => ?_) (fun zc51 => ?_)
            · obtain rfl : i = 155 := by omega
              exact g_vret (S := []) dX9_keepsAside_72 rfl (by rw [← hRz]; exact ⟨rfl, by rfl⟩) (Nat.zero_le _) (Nat.zero_le _)
            · refine g_aload_n dX9_keepsAside_54 rfl ?_
              refine q_getq dX9_keepsAside_55 f_R_7 ck_84 (by decide) ty_8_0 rf_84_0 ?_
              refine g_iload_n dX9_keepsAside_58 rfl ?_
              refine g_aload_n dX9_keepsAside_59 rfl ?_
              refine q_getq dX9_keepsAside_60 f_R_16 ck_84 (by decide) ty_8_2 rf_84_2 ?_
              refine g_iload_n dX9_keepsAside_63 rfl ?_
              refine q_iald dX9_keepsAside_64 ck_87 (ixD_nI (by omega) (by decide)) ?_
              refine g_top (show _ = κ 87 i by rw [fill_ne (by decide)]) ?_
              refine q_iast dX9_keepsAside_65 ck_85 (ixD_nI (by omega) (by decide)) ?_
              refine n_iinc (b := 1) dX9_keepsAside_66 rfl rfl rfl ?_
              refine g_goto (tgt := 47) dX9_keepsAside_69 rfl ?_
              refine g_heap (show _ = HH (fill κ 85 (κ 87) (i + 1)) δ from by rw [fill_succ]) ?_
              exact g_can _ (by exact ⟨rfl, rfl, trivial⟩) (ih47 (i + 1) (by omega) (by omega))
        exact g_can _ (by exact ⟨rfl, rfl, trivial⟩) (H47 _ 0 (by omega) (Nat.lt_succ_self _))
      · refine g_aload_n dX9_keepsAside_9 rfl ?_
        refine q_getq dX9_keepsAside_10 f_R_7 ck_84 (by decide) ty_8_0 rf_84_0 ?_
        refine g_iload_n dX9_keepsAside_13 rfl ?_
        refine q_iald dX9_keepsAside_14 ck_85 (ixD_nI (by omega) (by decide)) ?_
        refine g_top (show _ = τ 85 i by rw [fill_ne (by decide), fill_out (by omega)]) ?_
        refine g_istore_n dX9_keepsAside_15 rfl ?_
        refine g_aload_n dX9_keepsAside_16 rfl ?_
        refine q_getq dX9_keepsAside_17 f_R_7 ck_84 (by decide) ty_8_0 rf_84_0 ?_
        refine g_iload_n dX9_keepsAside_20 rfl ?_
        refine g_aload_n dX9_keepsAside_21 rfl ?_
        refine q_getq dX9_keepsAside_22 f_R_16 ck_84 (by decide) ty_8_2 rf_84_2 ?_
        refine g_iload_n dX9_keepsAside_25 rfl ?_
        refine q_iald dX9_keepsAside_26 ck_87 (ixD_nI (by omega) (by decide)) ?_
        refine g_top (show _ = τ 87 i by rw [fill_out (by omega), fill_ne (by decide)]) ?_
        refine q_iast dX9_keepsAside_27 ck_85 (ixD_nI (by omega) (by decide)) ?_
        refine g_aload_n dX9_keepsAside_28 rfl ?_
        refine q_getq dX9_keepsAside_29 f_R_16 ck_84 (by decide) ty_8_2 rf_84_2 ?_
        refine g_iload_n dX9_keepsAside_32 rfl ?_
        refine g_iload_n dX9_keepsAside_33 rfl ?_
        refine q_iast dX9_keepsAside_34 ck_87 (ixD_nI (by omega) (by decide)) ?_
        refine n_iinc (b := 1) dX9_keepsAside_35 rfl rfl rfl ?_
        refine g_goto (tgt := 2) dX9_keepsAside_38 rfl ?_
        refine g_heap (show _ = HH (fill (fill τ 85 (τ 87) (i + 1)) 87 (τ 85) (i + 1)) δ from by rw [uI_fill _ _ _ _ _ (by decide), fill_succ, fill_succ]) ?_
        exact g_can _ (by exact ⟨rfl, rfl, trivial⟩) (ih2 (i + 1) (by omega) (by omega))
  exact g_can _ (by exact ⟨rfl, rfl, trivial⟩) (H2 _ 0 (by omega) (Nat.lt_succ_self _))
set_option maxRecDepth 100000 in
set_option maxHeartbeats 200000 in
theorem c_KR_reads_ok {σ : SI} {δ : SD} {tc : Nat → Nat} {tl : Nat} (hT : TXR σ tc tl) {k : Nat} (hk0 : 1 ≤ k) (hk : k ≤ 60) (hq : ∀ i, i < k → (odE tc tl (sqP tc tl i)).2 = true ∧ sqP tc tl i < tl) (hkl : ¬ sqP tc tl k < tl) {ρ ρ2 : Nat → SI} (h0 : uI (uI (fill (rS σ (sqP tc tl k) (sqM tc tl (σ 93) k)) 87 (σ 85) 155) 84 13 (nI 0)) 84 15 (nI 0) = ρ 0) (hH : ∀ i, i ≤ k → E KR_here [.ref 84] (HH (ρ i) δ) (some (.int (hrV tc tl (sqP tc tl i)))) (HH (ρ2 i) δ)) (hO : ∀ i, i < k → E KR_readsOrder [.ref 84, .int (nI 1)] (HH (ρ2 i) δ) (some (.int (bI true))) (HH (ρ (i + 1)) δ)) (hN : ∀ i, i < k → ρ (i + 1) 84 15 = nI 0) {σ9 : SI} (hA : E KR_keepsAside [.ref 84] (HH (ρ2 k) δ) none (HH σ9 δ)) : E KR_reads [.ref 84] (HH σ δ) (some (.int (nI k))) (HH σ9 δ) := by
  have htl := hT.2.1
  refine E.ofL [some (.ref 84)] rfl pn_RX9 rfl (fun sc => ?_)
  generalize hRz : (fun (zr : Option Value) (zk : XH) => zr = some (.int (nI k)) ∧ zk = HH σ9 δ) = R
  refine g_aload_n dX9_reads_0 rfl ?_
  refine g_iconst dX9_reads_1 ic_0 ?_
  refine q_puti dX9_reads_2 f_R_304 ck_84 (by decide) ty_8_13 fi_8_13 ?_
  refine g_heap (congrArg (fun z => HH z δ) rS_0) ?_
  refine g_aload_n dX9_reads_5 rfl ?_
  refine g_iconst dX9_reads_6 ic_0 ?_
  refine g_v1 (M' := KR_readsOrder) dX9_reads_7 l_R_338 v_KR_readsOrder (c_KR_rO hT (by omega) rfl) rc_84 HH_len rfl ⟨rfl, rfl⟩ ?_
  refine g_istore_n dX9_reads_10 rfl ?_
  refine g_heap (show _ = HH (rS σ ((odE tc tl (sqP tc tl 0)).1) (sqM tc tl (σ 93) (0 + 1))) δ from rfl) ?_
  have H11 : ∀ (N : Nat) (i : Nat), i < k → 61 - i < N → G sc KR_reads 11 (aL [some (.ref 84), some (.int (bI (odE tc tl (sqP tc tl i)).2))]) [] (HH (rS σ ((odE tc tl (sqP tc tl i)).1) (sqM tc tl (σ 93) (i + 1))) δ) (0, 0) R := by
    intro N
    induction N with
    | zero => intro i h1 hN11; exact absurd hN11 (Nat.not_lt_zero _)
    | succ N ih11 =>
      intro i h1 hN11
      refine g_iload_n dX9_reads_11 rfl ?_
      refine b_if_eq (tgt := 32) dX9_reads_12 rfl (fun zc12 => ?_) (fun zc12 => ?_)
      · exact absurd zc12 (by rw [(hq i h1).1]; decide)
      · refine g_aload_n dX9_reads_15 rfl ?_
        refine g_v0 (M' := KR_here) dX9_reads_16 l_R_311 v_KR_here (c_KR_here hT (od_leR hT (sq_leR hT i))) rc_84 HH_len rfl ⟨rfl, rfl⟩ ?_
        refine g_iconst dX9_reads_19 ic_m1 ?_
        refine g_icmp_eq (tgt := 32) dX9_reads_20 rfl (fun zc20 => ?_) (fun zc20 => ?_)
        · have hik : i + 1 = k := Nat.le_antisymm (by omega) (Nat.le_of_not_lt fun hlt => hr_nm hT (hq (i + 1) hlt).2 zc20)
          refine g_iload_n dX9_reads_32 rfl ?_
          refine b_if_ne (tgt := 44) dX9_reads_33 rfl (fun zc33 => ?_) (fun zc33 => ?_)
          · refine g_iconst dX9_reads_44 ic_0 ?_
            refine g_istore_n dX9_reads_45 rfl ?_
            refine g_heap (show _ = HH (fill (rS σ (sqP tc tl k) (sqM tc tl (σ 93) k)) 87 (σ 85) 0) δ from by rw [fill_0]; subst hik; rfl) ?_
            have H46 : ∀ (N : Nat) (q : Nat), q ≤ 155 → 155 - q < N → G sc KR_reads 46 (aL [some (.ref 84), none, some (.int (nI q))]) [] (HH (fill (rS σ (sqP tc tl k) (sqM tc tl (σ 93) k)) 87 (σ 85) q) δ) (0, 0) R := by
              intro N
              induction N with
              | zero => intro q g1 hN46; exact absurd hN46 (Nat.not_lt_zero _)
              | succ N ih46 =>
                intro q g1 hN46
                refine g_iload_n dX9_reads_46 rfl ?_
                refine g_sipush dX9_reads_47 sp_155 ?_
                refine n_icmp_ge (tgt := 71) (by omega) (by omega) dX9_reads_50 rfl (fun zc50 => ?_) (fun zc50 => ?_)
                · obtain rfl : q = 155 := by omega
                  refine g_iconst dX9_reads_71 ic_0 ?_
                  refine g_istore_n dX9_reads_72 rfl ?_
                  refine g_aload_n dX9_reads_73 rfl ?_
                  refine g_iconst dX9_reads_74 ic_0 ?_
                  refine q_puti dX9_reads_75 f_R_304 ck_84 (by decide) ty_8_13 fi_8_13 ?_
                  refine g_aload_n dX9_reads_78 rfl ?_
                  refine g_iconst dX9_reads_79 ic_0 ?_
                  refine q_puti dX9_reads_80 f_R_332 ck_84 (by decide) ty_8_15 fi_8_15 ?_
                  refine g_heap (show _ = HH (ρ 0) δ from by rw [← h0]) ?_
                  have H83 : ∀ (N : Nat) (y : Nat), y ≤ k → 61 - y < N → G sc KR_reads 83 (aL [some (.ref 84), none, some (.int (nI y))]) [] (HH (ρ y) δ) (0, 0) R := by
                    intro N
                    induction N with
                    | zero => intro y y1 hN83; exact absurd hN83 (Nat.not_lt_zero _)
                    | succ N ih83 =>
                      intro y y1 hN83
                      refine g_aload_n dX9_reads_83 rfl ?_
                      refine g_v0 (M' := KR_here) dX9_reads_84 l_R_311 v_KR_here (hH y (by omega)) rc_84 HH_len rfl ⟨rfl, rfl⟩ ?_
                      refine g_iconst dX9_reads_87 ic_m1 ?_
                      refine g_icmp_eq (tgt := 143) dX9_reads_88 rfl (fun zc88 => ?_) (fun zc88 => ?_)
                      · have hyk : y = k := Nat.le_antisymm y1 (Nat.le_of_not_lt fun hlt => hr_nm hT (hq y hlt).2 zc88)
                        refine g_heap (show _ = HH (ρ2 k) δ from by rw [hyk]) ?_
                        refine g_aload_n dX9_reads_143 rfl ?_
                        refine g_v0n (M' := KR_keepsAside) dX9_reads_144 l_R_342 v_KR_keepsAside hA rc_84 HH_len rfl ⟨rfl, rfl⟩ ?_
                        refine g_iload_n dX9_reads_147 rfl ?_
                        exact g_iret (S := []) dX9_reads_148 rfl (by rw [← hRz]; exact ⟨congrArg (fun zz => some (Value.int zz)) (show _ = _ by rw [hyk]), by rfl⟩) (Nat.zero_le _) (Nat.zero_le _)
                      · have hyk : y < k := Nat.lt_of_le_of_ne y1 (fun e => zc88 (by rw [e, hr_n hkl]))
                        refine g_aload_n dX9_reads_91 rfl ?_
                        refine g_iconst dX9_reads_92 ic_1 ?_
                        refine g_v1 (M' := KR_readsOrder) dX9_reads_93 l_R_338 v_KR_readsOrder (hO y (by omega)) rc_84 HH_len rfl ⟨rfl, rfl⟩ ?_
                        refine g_istore_n dX9_reads_96 rfl ?_
                        refine g_aload_n dX9_reads_97 rfl ?_
                        refine q_geti dX9_reads_98 f_R_332 ck_84 (by decide) ty_8_15 ?_
                        refine g_top (hN y (by omega)) ?_
                        refine n_if_ge (tgt := 137) (by omega) dX9_reads_101 rfl (fun _ => ?_) (fun zc101 => absurd zc101 (by decide))
                        refine n_iinc (b := 1) dX9_reads_137 rfl rfl rfl ?_
                        refine g_goto (tgt := 83) dX9_reads_140 rfl ?_
                        exact g_can _ (by exact ⟨rfl, rfl, trivial⟩) (ih83 (y + 1) (by omega) (by omega))
                  exact g_can _ (by exact ⟨rfl, rfl, trivial⟩) (H83 _ 0 (by omega) (Nat.lt_succ_self _))
                · refine g_aload_n dX9_reads_53 rfl ?_
                  refine q_getq dX9_reads_54 f_R_16 ck_84 (by decide) ty_8_2 rf_84_2 ?_
                  refine g_iload_n dX9_reads_57 rfl ?_
                  refine g_aload_n dX9_reads_58 rfl ?_
                  refine q_getq dX9_reads_59 f_R_7 ck_84 (by decide) ty_8_0 rf_84_0 ?_
                  refine g_iload_n dX9_reads_62 rfl ?_
                  refine q_iald dX9_reads_63 ck_85 (ixD_nI (by omega) (by decide)) ?_
                  refine g_top (show _ = σ 85 q by rw [fill_ne (by decide), rS_c (by decide)]) ?_
                  refine q_iast dX9_reads_64 ck_87 (ixD_nI (by omega) (by decide)) ?_
                  refine n_iinc (b := 1) dX9_reads_65 rfl rfl rfl ?_
                  refine g_goto (tgt := 46) dX9_reads_68 rfl ?_
                  refine g_heap (show _ = HH (fill (rS σ (sqP tc tl k) (sqM tc tl (σ 93) k)) 87 (σ 85) (q + 1)) δ from by rw [fill_succ]) ?_
                  exact g_can _ (by exact ⟨rfl, rfl, trivial⟩) (ih46 (q + 1) (by omega) (by omega))
            exact g_can _ (by exact ⟨rfl, rfl, trivial⟩) (H46 _ 0 (by omega) (Nat.lt_succ_self _))
          · exact absurd zc33 (by rw [(hq i (by omega)).1]; decide)
        · have hik : i + 1 < k := Nat.lt_of_le_of_ne (by omega) (fun e => zc20 (by rw [← e] at hkl; exact hr_n hkl))
          refine g_aload_n dX9_reads_23 rfl ?_
          refine g_iconst dX9_reads_24 ic_0 ?_
          refine g_v1 (M' := KR_readsOrder) dX9_reads_25 l_R_338 v_KR_readsOrder (c_KR_rO hT (sq_leR hT (i + 1)) (skP_at (skP_end htl))) rc_84 HH_len rfl ⟨rfl, rfl⟩ ?_
          refine g_istore_n dX9_reads_28 rfl ?_
          refine g_goto (tgt := 11) dX9_reads_29 rfl ?_
          refine g_heap (show _ = HH (rS σ ((odE tc tl (sqP tc tl (i + 1))).1) (sqM tc tl (σ 93) (i + 1 + 1))) δ from rfl) ?_
          exact g_can _ (by exact ⟨rfl, rfl, trivial⟩) (ih11 (i + 1) (by omega) (by omega))
  exact g_can _ (by exact ⟨rfl, rfl, trivial⟩) (H11 _ 0 (by omega) (Nat.lt_succ_self _))
set_option maxRecDepth 100000 in
set_option maxHeartbeats 200000 in
theorem c_KR_reads_stop {σ : SI} {δ : SD} {tc : Nat → Nat} {tl : Nat} (hT : TXR σ tc tl) {k : Nat} (hk0 : 1 ≤ k) (hk : k ≤ 60) (hq : ∀ i, i < k → (odE tc tl (sqP tc tl i)).2 = true ∧ sqP tc tl i < tl) (hkl : ¬ sqP tc tl k < tl) {j : Nat} (hj : j < k) {ρ ρ2 : Nat → SI} (h0 : uI (uI (fill (rS σ (sqP tc tl k) (sqM tc tl (σ 93) k)) 87 (σ 85) 155) 84 13 (nI 0)) 84 15 (nI 0) = ρ 0) (hH : ∀ i, i ≤ j → E KR_here [.ref 84] (HH (ρ i) δ) (some (.int (hrV tc tl (sqP tc tl i)))) (HH (ρ2 i) δ)) (hO : ∀ i, i ≤ j → E KR_readsOrder [.ref 84, .int (nI 1)] (HH (ρ2 i) δ) (some (.int (bI true))) (HH (ρ (i + 1)) δ)) (hN : ∀ i, i < j → ρ (i + 1) 84 15 = nI 0) {v : Int32} (hv : ¬ (0 : Int32) ≤ v) (hvv : ρ (j + 1) 84 15 = v) : E KR_reads [.ref 84] (HH σ δ) (some (.int (-1000 - nI j))) (HH (fill (ρ (j + 1)) 85 (ρ (j + 1) 87) 155) δ) := by
  have htl := hT.2.1
  refine E.ofL [some (.ref 84)] rfl pn_RX9 rfl (fun sc => ?_)
  generalize hRz : (fun (zr : Option Value) (zk : XH) => zr = some (.int (-1000 - nI j)) ∧ zk = HH (fill (ρ (j + 1)) 85 (ρ (j + 1) 87) 155) δ) = R
  refine g_aload_n dX9_reads_0 rfl ?_
  refine g_iconst dX9_reads_1 ic_0 ?_
  refine q_puti dX9_reads_2 f_R_304 ck_84 (by decide) ty_8_13 fi_8_13 ?_
  refine g_heap (congrArg (fun z => HH z δ) rS_0) ?_
  refine g_aload_n dX9_reads_5 rfl ?_
  refine g_iconst dX9_reads_6 ic_0 ?_
  refine g_v1 (M' := KR_readsOrder) dX9_reads_7 l_R_338 v_KR_readsOrder (c_KR_rO hT (by omega) rfl) rc_84 HH_len rfl ⟨rfl, rfl⟩ ?_
  refine g_istore_n dX9_reads_10 rfl ?_
  refine g_heap (show _ = HH (rS σ ((odE tc tl (sqP tc tl 0)).1) (sqM tc tl (σ 93) (0 + 1))) δ from rfl) ?_
  have H11 : ∀ (N : Nat) (i : Nat), i < k → 61 - i < N → G sc KR_reads 11 (aL [some (.ref 84), some (.int (bI (odE tc tl (sqP tc tl i)).2))]) [] (HH (rS σ ((odE tc tl (sqP tc tl i)).1) (sqM tc tl (σ 93) (i + 1))) δ) (0, 0) R := by
    intro N
    induction N with
    | zero => intro i h1 hN11; exact absurd hN11 (Nat.not_lt_zero _)
    | succ N ih11 =>
      intro i h1 hN11
      refine g_iload_n dX9_reads_11 rfl ?_
      refine b_if_eq (tgt := 32) dX9_reads_12 rfl (fun zc12 => ?_) (fun zc12 => ?_)
      · exact absurd zc12 (by rw [(hq i h1).1]; decide)
      · refine g_aload_n dX9_reads_15 rfl ?_
        refine g_v0 (M' := KR_here) dX9_reads_16 l_R_311 v_KR_here (c_KR_here hT (od_leR hT (sq_leR hT i))) rc_84 HH_len rfl ⟨rfl, rfl⟩ ?_
        refine g_iconst dX9_reads_19 ic_m1 ?_
        refine g_icmp_eq (tgt := 32) dX9_reads_20 rfl (fun zc20 => ?_) (fun zc20 => ?_)
        · have hik : i + 1 = k := Nat.le_antisymm (by omega) (Nat.le_of_not_lt fun hlt => hr_nm hT (hq (i + 1) hlt).2 zc20)
          refine g_iload_n dX9_reads_32 rfl ?_
          refine b_if_ne (tgt := 44) dX9_reads_33 rfl (fun zc33 => ?_) (fun zc33 => ?_)
          · refine g_iconst dX9_reads_44 ic_0 ?_
            refine g_istore_n dX9_reads_45 rfl ?_
            refine g_heap (show _ = HH (fill (rS σ (sqP tc tl k) (sqM tc tl (σ 93) k)) 87 (σ 85) 0) δ from by rw [fill_0]; subst hik; rfl) ?_
            have H46 : ∀ (N : Nat) (q : Nat), q ≤ 155 → 155 - q < N → G sc KR_reads 46 (aL [some (.ref 84), none, some (.int (nI q))]) [] (HH (fill (rS σ (sqP tc tl k) (sqM tc tl (σ 93) k)) 87 (σ 85) q) δ) (0, 0) R := by
              intro N
              induction N with
              | zero => intro q g1 hN46; exact absurd hN46 (Nat.not_lt_zero _)
              | succ N ih46 =>
                intro q g1 hN46
                refine g_iload_n dX9_reads_46 rfl ?_
                refine g_sipush dX9_reads_47 sp_155 ?_
                refine n_icmp_ge (tgt := 71) (by omega) (by omega) dX9_reads_50 rfl (fun zc50 => ?_) (fun zc50 => ?_)
                · obtain rfl : q = 155 := by omega
                  refine g_iconst dX9_reads_71 ic_0 ?_
                  refine g_istore_n dX9_reads_72 rfl ?_
                  refine g_aload_n dX9_reads_73 rfl ?_
                  refine g_iconst dX9_reads_74 ic_0 ?_
                  refine q_puti dX9_reads_75 f_R_304 ck_84 (by decide) ty_8_13 fi_8_13 ?_
                  refine g_aload_n dX9_reads_78 rfl ?_
                  refine g_iconst dX9_reads_79 ic_0 ?_
                  refine q_puti dX9_reads_80 f_R_332 ck_84 (by decide) ty_8_15 fi_8_15 ?_
                  refine g_heap (show _ = HH (ρ 0) δ from by rw [← h0]) ?_
                  have H83 : ∀ (N : Nat) (y : Nat), y ≤ j → 61 - y < N → G sc KR_reads 83 (aL [some (.ref 84), none, some (.int (nI y))]) [] (HH (ρ y) δ) (0, 0) R := by
                    intro N
                    induction N with
                    | zero => intro y y1 hN83; exact absurd hN83 (Nat.not_lt_zero _)
                    | succ N ih83 =>
                      intro y y1 hN83
                      refine g_aload_n dX9_reads_83 rfl ?_
                      refine g_v0 (M' := KR_here) dX9_reads_84 l_R_311 v_KR_here (hH y (by omega)) rc_84 HH_len rfl ⟨rfl, rfl⟩ ?_
                      refine g_iconst dX9_reads_87 ic_m1 ?_
                      refine g_icmp_eq (tgt := 143) dX9_reads_88 rfl (fun zc88 => ?_) (fun zc88 => ?_)
                      · exact absurd zc88 (hr_nm hT (hq y (by omega)).2)
                      · refine g_aload_n dX9_reads_91 rfl ?_
                        refine g_iconst dX9_reads_92 ic_1 ?_
                        refine g_v1 (M' := KR_readsOrder) dX9_reads_93 l_R_338 v_KR_readsOrder (hO y (by omega)) rc_84 HH_len rfl ⟨rfl, rfl⟩ ?_
                        refine g_istore_n dX9_reads_96 rfl ?_
                        refine g_aload_n dX9_reads_97 rfl ?_
                        refine q_geti dX9_reads_98 f_R_332 ck_84 (by decide) ty_8_15 ?_
                        refine g_if_ge (tgt := 137) dX9_reads_101 rfl (fun zc101 => ?_) (fun zc101 => ?_)
                        · have hyj : y < j := Nat.lt_of_le_of_ne y1 (fun e => by rw [e, hvv] at zc101; exact hv zc101)
                          refine n_iinc (b := 1) dX9_reads_137 rfl rfl rfl ?_
                          refine g_goto (tgt := 83) dX9_reads_140 rfl ?_
                          exact g_can _ (by exact ⟨rfl, rfl, trivial⟩) (ih83 (y + 1) (by omega) (by omega))
                        · have hyj : y = j := Nat.le_antisymm y1 (Nat.le_of_not_lt fun hlt => by rw [hN y hlt] at zc101; exact zc101 (by decide))
                          refine g_iconst dX9_reads_104 ic_0 ?_
                          refine g_istore_n dX9_reads_105 rfl ?_
                          refine g_heap (show _ = HH (fill (ρ (y + 1)) 85 (ρ (y + 1) 87) 0) δ from by rw [fill_0]) ?_
                          have H106 : ∀ (N : Nat) (q : Nat), q ≤ 155 → 155 - q < N → G sc KR_reads 106 (aL [some (.ref 84), none, some (.int (nI y)), some (.int (nI q))]) [] (HH (fill (ρ (y + 1)) 85 (ρ (y + 1) 87) q) δ) (0, 0) R := by
                            intro N
                            induction N with
                            | zero => intro q g1 hN106; exact absurd hN106 (Nat.not_lt_zero _)
                            | succ N ih106 =>
                              intro q g1 hN106
                              refine g_iload_n dX9_reads_106 rfl ?_
                              refine g_sipush dX9_reads_107 sp_155 ?_
                              refine n_icmp_ge (tgt := 131) (by omega) (by omega) dX9_reads_110 rfl (fun zc110 => ?_) (fun zc110 => ?_)
                              · obtain rfl : q = 155 := by omega
                                refine g_sipush dX9_reads_131 sp_m1000 ?_
                                refine g_iload_n dX9_reads_134 rfl ?_
                                refine g_isub dX9_reads_135 ?_
                                exact g_iret (S := []) dX9_reads_136 rfl (by rw [← hRz]; exact ⟨congrArg (fun zz => some (Value.int zz)) (show _ = _ by rw [hyj]), by rw [hyj]⟩) (Nat.zero_le _) (Nat.zero_le _)
                              · refine g_aload_n dX9_reads_113 rfl ?_
                                refine q_getq dX9_reads_114 f_R_7 ck_84 (by decide) ty_8_0 rf_84_0 ?_
                                refine g_iload_n dX9_reads_117 rfl ?_
                                refine g_aload_n dX9_reads_118 rfl ?_
                                refine q_getq dX9_reads_119 f_R_16 ck_84 (by decide) ty_8_2 rf_84_2 ?_
                                refine g_iload_n dX9_reads_122 rfl ?_
                                refine q_iald dX9_reads_123 ck_87 (ixD_nI (by omega) (by decide)) ?_
                                refine g_top (show _ = ρ (y + 1) 87 q by rw [fill_ne (by decide)]) ?_
                                refine q_iast dX9_reads_124 ck_85 (ixD_nI (by omega) (by decide)) ?_
                                refine n_iinc (b := 1) dX9_reads_125 rfl rfl rfl ?_
                                refine g_goto (tgt := 106) dX9_reads_128 rfl ?_
                                refine g_heap (show _ = HH (fill (ρ (y + 1)) 85 (ρ (y + 1) 87) (q + 1)) δ from by rw [fill_succ]) ?_
                                exact g_can _ (by exact ⟨rfl, rfl, rfl, trivial⟩) (ih106 (q + 1) (by omega) (by omega))
                          exact g_can _ (by exact ⟨rfl, rfl, rfl, trivial⟩) (H106 _ 0 (by omega) (Nat.lt_succ_self _))
                  exact g_can _ (by exact ⟨rfl, rfl, trivial⟩) (H83 _ 0 (by omega) (Nat.lt_succ_self _))
                · refine g_aload_n dX9_reads_53 rfl ?_
                  refine q_getq dX9_reads_54 f_R_16 ck_84 (by decide) ty_8_2 rf_84_2 ?_
                  refine g_iload_n dX9_reads_57 rfl ?_
                  refine g_aload_n dX9_reads_58 rfl ?_
                  refine q_getq dX9_reads_59 f_R_7 ck_84 (by decide) ty_8_0 rf_84_0 ?_
                  refine g_iload_n dX9_reads_62 rfl ?_
                  refine q_iald dX9_reads_63 ck_85 (ixD_nI (by omega) (by decide)) ?_
                  refine g_top (show _ = σ 85 q by rw [fill_ne (by decide), rS_c (by decide)]) ?_
                  refine q_iast dX9_reads_64 ck_87 (ixD_nI (by omega) (by decide)) ?_
                  refine n_iinc (b := 1) dX9_reads_65 rfl rfl rfl ?_
                  refine g_goto (tgt := 46) dX9_reads_68 rfl ?_
                  refine g_heap (show _ = HH (fill (rS σ (sqP tc tl k) (sqM tc tl (σ 93) k)) 87 (σ 85) (q + 1)) δ from by rw [fill_succ]) ?_
                  exact g_can _ (by exact ⟨rfl, rfl, trivial⟩) (ih46 (q + 1) (by omega) (by omega))
            exact g_can _ (by exact ⟨rfl, rfl, trivial⟩) (H46 _ 0 (by omega) (Nat.lt_succ_self _))
          · exact absurd zc33 (by rw [(hq i (by omega)).1]; decide)
        · have hik : i + 1 < k := Nat.lt_of_le_of_ne (by omega) (fun e => zc20 (by rw [← e] at hkl; exact hr_n hkl))
          refine g_aload_n dX9_reads_23 rfl ?_
          refine g_iconst dX9_reads_24 ic_0 ?_
          refine g_v1 (M' := KR_readsOrder) dX9_reads_25 l_R_338 v_KR_readsOrder (c_KR_rO hT (sq_leR hT (i + 1)) (skP_at (skP_end htl))) rc_84 HH_len rfl ⟨rfl, rfl⟩ ?_
          refine g_istore_n dX9_reads_28 rfl ?_
          refine g_goto (tgt := 11) dX9_reads_29 rfl ?_
          refine g_heap (show _ = HH (rS σ ((odE tc tl (sqP tc tl (i + 1))).1) (sqM tc tl (σ 93) (i + 1 + 1))) δ from rfl) ?_
          exact g_can _ (by exact ⟨rfl, rfl, trivial⟩) (ih11 (i + 1) (by omega) (by omega))
  exact g_can _ (by exact ⟨rfl, rfl, trivial⟩) (H11 _ 0 (by omega) (Nat.lt_succ_self _))
