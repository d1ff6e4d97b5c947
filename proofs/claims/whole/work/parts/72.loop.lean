/-! THE LAW: its loop -/
set_option maxRecDepth 100000 in
set_option maxHeartbeats 200000 in
theorem z_one {sc : XS} {R : Option Value → XH → Prop} {σ : SI} {δ : SD} {i : Nat} (hi : i + 5 ≤ sc.1) (hs : sc.1 ≤ 2560) (hT : InvT σ) (kk : ∀ σ' δ', InvT σ' → G sc KZ_law 960 (aL [some (.ref 0), some (.ref 5), some (.ref 84), some (.int (nI i))]) [] (HH σ' δ') (89, 4247) R) : G sc KZ_law 26 (aL [some (.ref 0), some (.ref 5), some (.ref 84), some (.int (nI i))]) [] (HH σ δ) (89, 4247) R := by
  refine g_aload_n dL_law_26 rfl ?_
  refine g_iload_n dL_law_27 rfl ?_
  refine g_sald (j := i) dL_law_28 (ixD_nI (by omega) (by omega)) ?_
  refine g_bipush dL_law_29 bp_31 ?_
  refine g_iand dL_law_31 ?_
  obtain ⟨c, hc, e⟩ := and_31 (sc.2 i)
  refine g_top e ?_
  rcases (show c = 0 ∨ c = 1 ∨ c = 2 ∨ c = 3 ∨ c = 4 ∨ c = 5 ∨ c = 6 ∨ c = 7 ∨ c = 8 ∨ c = 9 ∨ c = 10 ∨ c = 11 ∨ c = 12 ∨ c = 13 ∨ c = 14 ∨ c = 15 ∨ c = 16 ∨ c = 17 ∨ c = 18 ∨ c = 19 ∨ c = 20 ∨ c = 21 ∨ c = 22 ∨ c = 23 ∨ c = 24 ∨ c = 25 ∨ c = 26 ∨ c = 27 ∨ c = 28 ∨ c = 29 ∨ c = 30 ∨ c = 31 by omega) with rfl | rfl | rfl | rfl | rfl | rfl | rfl | rfl | rfl | rfl | rfl | rfl | rfl | rfl | rfl | rfl | rfl | rfl | rfl | rfl | rfl | rfl | rfl | rfl | rfl | rfl | rfl | rfl | rfl | rfl | rfl | rfl
  · refine g_tsw (tgt := 168) dL_law_32 (by decide +kernel) (by decide) ?_
    exact z_sheet hi hs hT kk
  · refine g_tsw (tgt := 201) dL_law_32 (by decide +kernel) (by decide) ?_
    exact z_sets hi hs hT kk
  · refine g_tsw (tgt := 234) dL_law_32 (by decide +kernel) (by decide) ?_
    exact z_item hi hs hT kk
  · refine g_tsw (tgt := 287) dL_law_32 (by decide +kernel) (by decide) ?_
    exact z_drops hi hs hT kk
  · refine g_tsw (tgt := 310) dL_law_32 (by decide +kernel) (by decide) ?_
    exact z_becomes hi hs hT kk
  · refine g_tsw (tgt := 353) dL_law_32 (by decide +kernel) (by decide) ?_
    exact z_of hi hs hT kk
  · refine g_tsw (tgt := 386) dL_law_32 (by decide +kernel) (by decide) ?_
    exact z_side hi hs hT kk
  · refine g_tsw (tgt := 409) dL_law_32 (by decide +kernel) (by decide) ?_
    exact z_line hi hs hT kk
  · refine g_tsw (tgt := 432) dL_law_32 (by decide +kernel) (by decide) ?_
    exact z_lays hi hs hT kk
  · refine g_tsw (tgt := 475) dL_law_32 (by decide +kernel) (by decide) ?_
    exact z_off hi hs hT kk
  · refine g_tsw (tgt := 498) dL_law_32 (by decide +kernel) (by decide) ?_
    exact z_swaps hi hs hT kk
  · refine g_tsw (tgt := 531) dL_law_32 (by decide +kernel) (by decide) ?_
    exact z_fits hi hs hT kk
  · refine g_tsw (tgt := 574) dL_law_32 (by decide +kernel) (by decide) ?_
    exact z_free hi hs hT kk
  · refine g_tsw (tgt := 607) dL_law_32 (by decide +kernel) (by decide) ?_
    exact z_packs hi hs hT kk
  · refine g_tsw (tgt := 620) dL_law_32 (by decide +kernel) (by decide) ?_
    exact z_tidies hi hs hT kk
  · refine g_tsw (tgt := 633) dL_law_32 (by decide +kernel) (by decide) ?_
    exact z_stays hi hs hT kk
  · refine g_tsw (tgt := 646) dL_law_32 (by decide +kernel) (by decide) ?_
    exact z_at hi hs hT kk
  · refine g_tsw (tgt := 679) dL_law_32 (by decide +kernel) (by decide) ?_
    exact z_white hi hs hT kk
  · refine g_tsw (tgt := 702) dL_law_32 (by decide +kernel) (by decide) ?_
    exact z_centre hi hs hT kk
  · refine g_tsw (tgt := 726) dL_law_32 (by decide +kernel) (by decide) ?_
    exact z_all hi hs hT kk
  · refine g_tsw (tgt := 749) dL_law_32 (by decide +kernel) (by decide) ?_
    exact z_sorted hi hs hT kk
  · refine g_tsw (tgt := 782) dL_law_32 (by decide +kernel) (by decide) ?_
    exact z_keeps hi hs hT kk
  · refine g_tsw (tgt := 805) dL_law_32 (by decide +kernel) (by decide) ?_
    exact z_takes hi hs hT kk
  · refine g_tsw (tgt := 828) dL_law_32 (by decide +kernel) (by decide) ?_
    exact z_otherwise hi hs hT kk
  · refine g_tsw (tgt := 861) dL_law_32 (by decide +kernel) (by decide) ?_
    exact z_type hi hs hT kk
  · refine g_tsw (tgt := 884) dL_law_32 (by decide +kernel) (by decide) ?_
    exact z_clear hi hs hT kk
  · refine g_tsw (tgt := 897) dL_law_32 (by decide +kernel) (by decide) ?_
    exact z_reads hi hs hT kk
  · refine g_tsw (tgt := 910) dL_law_32 (by decide +kernel) (by decide) ?_
    exact z_back hi hs hT kk
  · refine g_tsw (tgt := 923) dL_law_32 (by decide +kernel) (by decide) ?_
    exact z_told hi hs hT kk
  · refine g_tsw (tgt := 946) dL_law_32 (by decide +kernel) (by decide) ?_
    exact z_digest hi hs hT kk
  · refine g_tsw (tgt := 960) dL_law_32 (by decide +kernel) (by decide) ?_
    exact kk σ δ hT
  · refine g_tsw (tgt := 960) dL_law_32 (by decide +kernel) (by decide) ?_
    exact kk σ δ hT
set_option maxRecDepth 100000 in
set_option maxHeartbeats 200000 in
theorem z_loop {sc : XS} {R : Option Value → XH → Prop} (hs : sc.1 ≤ 2560) (hR : ∀ h, R (some (.int 1)) h) : ∀ (N i : Nat) (σ : SI) (δ : SD), InvT σ → i ≤ sc.1 → sc.1 - i < N → G sc KZ_law 18 (aL [some (.ref 0), some (.ref 5), some (.ref 84), some (.int (nI i))]) [] (HH σ δ) (89, 4247) R := by
  intro N
  induction N with
  | zero => intro i σ δ hT hi hN; exact absurd hN (Nat.not_lt_zero _)
  | succ N ih =>
    intro i σ δ hT hi hN
    refine g_iload_n dL_law_18 rfl ?_
    refine g_aload_n dL_law_19 rfl ?_
    refine g_slen dL_law_20 ?_
    refine g_iconst dL_law_21 ic_5 ?_
    refine g_isub dL_law_22 ?_
    refine g_icmp_gt (tgt := 966) dL_law_23 rfl (fun _ => ?_) (fun hz => ?_)
    · refine g_iconst dL_law_966 ic_1 ?_
      exact g_zret (S := []) dL_law_967 rfl (Or.inr rfl) (hR _) (by decide) (by decide)
    · have h5 : i + 5 ≤ sc.1 := by
        rw [Int32.lt_iff_toInt_lt, pk_sub_toInt (by omega) (by omega), nI_int (by omega)] at hz
        omega
      refine z_one h5 hs hT (fun σ' δ' hT' => ?_)
      refine n_iinc (b := 5) dL_law_960 rfl rfl rfl ?_
      refine g_goto (tgt := 18) dL_law_963 rfl ?_
      exact g_can _ (by exact ⟨rfl, rfl, rfl, rfl, trivial⟩) (ih (i + 5) σ' δ' hT' h5 (by omega))
set_option maxRecDepth 100000 in
set_option maxHeartbeats 200000 in
theorem z_law {sc : XS} {R : Option Value → XH → Prop} (hs : sc.1 ≤ 2560) (hR : ∀ h, R (some (.int 1)) h) : G sc KZ_law 0 (aL [some (.ref 0)]) [] (HP 0 (fun _ _ => 0) (fun _ _ => 0) (fun _ _ => 0)) (0, 0) R := by
  refine p_new (ci := 7) (c := 5) dL_law_0 rfl n_Z_7 in_P ini_P hty_7 ck_5 (by omega) rfl ?_
  refine g_w (w' := (1, 10)) rfl ?_
  refine g_dup dL_law_3 rfl ?_
  refine p_init (M' := KP_init) dL_law_4 l_Z_9 i_KP_init c_KP_init rfl (by omega) rfl ?_
  refine g_w (w' := (79, 2499)) rfl ?_
  refine g_astore_n dL_law_7 rfl ?_
  refine p_new (ci := 8) (c := 84) dL_law_8 rfl n_Z_10 in_R ini_R hty_8 ck_84 (by omega) rfl ?_
  refine g_w (w' := (80, 2515)) rfl ?_
  refine g_dup dL_law_11 rfl ?_
  refine p_init (M' := KR_init) dL_law_12 l_Z_12 i_KR_init c_KR_init rfl (by omega) rfl ?_
  refine g_w (w' := (89, 4247)) rfl ?_
  refine g_astore_n dL_law_15 rfl ?_
  refine g_made ?_
  refine g_iconst dL_law_16 ic_0 ?_
  refine g_istore_n dL_law_17 rfl ?_
  exact g_can _ (by exact ⟨rfl, rfl, rfl, rfl, trivial⟩) (z_loop hs hR _ 0 mdS mdD inv_made (Nat.zero_le _) (Nat.lt_succ_self _))
