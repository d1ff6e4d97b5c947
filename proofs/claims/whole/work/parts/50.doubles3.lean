/-! DOUBLES: both sides' centre and balance -/
theorem weights_sum {a : Nat → Int32} {n : Nat} (hW : WF a n) : ∀ k, k ≤ n → sumI (fun k => if liesA a k then wgtF a k else nI 0) k = nI (swN (liesA a) (wgN a) k)
  | 0, _ => rfl
  | k + 1, hk => by
    unfold sumI
    rw [weights_sum hW k (by omega)]
    cases e : liesA a k with
    | true =>
      rw [sw_y e, if_pos rfl, (wg_nI hW (by omega)).2.2, nI_add]
    | false =>
      rw [sw_n e, if_neg (by decide), nI_add, Nat.add_zero]
theorem weights_nI {a : Nat → Int32} {n : Nat} (hW : WF a n) : weightsA a n = nI (swN (liesA a) (wgN a) n) := weights_sum hW n (Nat.le_refl n)
theorem sw_fin {a : Nat → Int32} {n : Nat} {q : Nat → Bool} (hW : WF a n) (hq : ∀ k, k < n → q k = true → liesA a k = true) : swN q (wgN a) n < 2 ^ 24 ∧ swN q (fun j => wgN a j * (2 * xN' a j + wN a j)) n < 2 ^ 30 ∧ swN q (fun j => wgN a j * (2 * yN' a j + hN' a j)) n < 2 ^ 30 ∧
    (0 < swN q (wgN a) n → swN q (wgN a) n ≤ swN q (fun j => wgN a j * (2 * xN' a j + wN a j)) n ∧ swN q (fun j => wgN a j * (2 * xN' a j + wN a j)) n ≤ 200 * swN q (wgN a) n) ∧ (0 < swN q (wgN a) n → swN q (wgN a) n ≤ swN q (fun j => wgN a j * (2 * yN' a j + hN' a j)) n ∧ swN q (fun j => wgN a j * (2 * yN' a j + hN' a j)) n ≤ 200 * swN q (wgN a) n) := by
  have h1 := sw_all (q := q) hW hq n (Nat.le_refl n)
  have h2 := sw_rl (q := q) hW hq n (Nat.le_refl n)
  refine ⟨by omega, by omega, by omega, fun _ => ⟨h2.1, h2.2.1⟩, fun _ => ⟨h2.2.2.1, h2.2.2.2⟩⟩
set_option maxRecDepth 100000 in
theorem c_KR_middle0 {σ : SI} {δ : SD} {n : Nat} (hW : WF (σ 85) n) {W Hh : Nat} (hwz : (σ 85 0).toNatClampNeg = W) (hhz : (σ 85 1).toNatClampNeg = Hh) : E KR_middle [.ref 84, .int (nI 0)] (HH σ δ) (some (.double (hfD W))) (HH σ δ) := by
  have hWd := hW.wid
  have hHd := hW.hei
  rw [hwz] at hWd
  rw [hhz] at hHd
  refine E.ofL [some (.ref 84), some (.int (nI 0))] rfl pn_RX9 rfl (fun sc => ?_)
  refine g_iload_n dX9_middle_0 rfl ?_
  refine n_if_eq (tgt := 13) (by omega) dX9_middle_1 rfl (fun _ => ?_) (fun zc1 => absurd zc1 (by decide))
  refine g_aload_n dX9_middle_13 rfl ?_
  refine q_getq dX9_middle_14 f_R_7 ck_84 (by decide) ty_8_0 rf_84_0 ?_
  refine g_iconst dX9_middle_17 ic_0 ?_
  refine q_iald dX9_middle_18 ck_85 (ixD_nI (by omega) (by decide)) ?_
  refine g_top hWd.2.2 ?_
  refine g_i2d dX9_middle_19 ?_
  refine g_ldcd dX9_middle_20 c_R_259 ?_
  refine g_ddiv dX9_middle_23 (n64_lt (Nat.le_of_lt (hfD_u (j := W) (by omega)).2)) ?_
  refine g_topd (show _ = hfD W from rfl) ?_
  exact e_dret dX9_middle_24 rfl (by rfl) (by rfl)
set_option maxRecDepth 100000 in
theorem c_KR_centreOf0 {σ : SI} {δ : SD} {n : Nat} (hW : WF (σ 85) n) {W Hh : Nat} (hwz : (σ 85 0).toNatClampNeg = W) (hhz : (σ 85 1).toNatClampNeg = Hh) : E KR_centreOf [.ref 84, .int (nI 0)] (HH σ δ) (some (.double (cnD (swN (liesA (σ 85)) (wgN (σ 85)) n) (swN (liesA (σ 85)) (fun j => wgN (σ 85) j * (2 * xN' (σ 85) j + wN (σ 85) j)) n) W))) (HH σ δ) := by
  have h8 := hW.n8
  have hWd := hW.wid
  have hHd := hW.hei
  rw [hwz] at hWd
  rw [hhz] at hHd
  have hwt := weights_nI hW
  have hal := sw_all (q := liesA (σ 85)) hW (fun _ _ h => h) n (Nat.le_refl n)
  obtain ⟨wt, hwtz⟩ : ∃ wt, swN (liesA (σ 85)) (wgN (σ 85)) n = wt := ⟨_, rfl⟩
  rw [hwtz] at hwt hal
  refine E.ofL [some (.ref 84), some (.int (nI 0))] rfl pn_RX9 rfl (fun sc => ?_)
  generalize hRz : (fun (zr : Option Value) (zk : XH) => zr = some (.double (cnD (swN (liesA (σ 85)) (wgN (σ 85)) n) (swN (liesA (σ 85)) (fun j => wgN (σ 85) j * (2 * xN' (σ 85) j + wN (σ 85) j)) n) W)) ∧ zk = HH σ δ) = R
  refine g_dconst0 dX9_centreOf_0 ?_
  refine g_topd hfD_0.symm ?_
  refine g_dstore_n dX9_centreOf_1 rfl ?_
  refine g_aload_n dX9_centreOf_2 rfl ?_
  refine g_v0 (M' := KR_weights) dX9_centreOf_3 l_R_256 v_KR_weights (c_KR_weights hW) rc_84 rfl rfl ⟨rfl, rfl⟩ ?_
  refine g_top hwt ?_
  refine g_istore dX9_centreOf_6 rfl ?_
  refine g_iconst dX9_centreOf_8 ic_0 ?_
  refine g_istore dX9_centreOf_9 rfl ?_
  have H11 : ∀ (N : Nat) (k s : Nat), k ≤ n → s = swN (liesA (σ 85)) (fun j => wgN (σ 85) j * (2 * xN' (σ 85) j + wN (σ 85) j)) k → s < 2 ^ 29 → n - k < N → G sc KR_centreOf 11 (aL [some (.ref 84), some (.int (nI 0)), some (.double (hfD s)), none, some (.int (nI wt)), some (.int (nI k))]) [] (HH σ δ) (0, 0) R := by
    intro N
    induction N with
    | zero => intro k s h1 hs hs2 hN11; exact absurd hN11 (Nat.not_lt_zero _)
    | succ N ih11 =>
      intro k s h1 hs hs2 hN11
      refine g_iload dX9_centreOf_11 rfl ?_
      refine g_aload_n dX9_centreOf_13 rfl ?_
      refine g_v0 (M' := KR_many) dX9_centreOf_14 l_R_42 v_KR_many c_KR_many rc_84 rfl rfl ⟨rfl, rfl⟩ ?_
      refine g_top hW.a7 ?_
      refine n_icmp_ge (tgt := 91) (by omega) (by omega) dX9_centreOf_17 rfl (fun zc17 => ?_) (fun zc17 => ?_)
      · refine g_iload dX9_centreOf_91 rfl ?_
        refine n_if_ne (tgt := 104) (by omega) dX9_centreOf_93 rfl (fun zc93 => ?_) (fun zc93 => ?_)
        · refine g_dload_n dX9_centreOf_104 rfl ?_
          refine g_iload dX9_centreOf_105 rfl ?_
          refine g_i2d dX9_centreOf_107 ?_
          refine g_ddiv dX9_centreOf_108 (cn_fp (by omega) (by omega) zc93) ?_
          exact g_dret (S := []) dX9_centreOf_109 rfl (by rw [← hRz]; exact ⟨congrArg (fun zz => some (Value.double zz)) (show _ = _ by rw [hwtz, show n = k by omega, ← hs]; first | exact (cn_0 zc93).symm | exact (cn_1 zc93).symm), by rfl⟩) (Nat.zero_le _) (Nat.zero_le _)
        · refine g_aload_n dX9_centreOf_96 rfl ?_
          refine g_iload_n dX9_centreOf_97 rfl ?_
          refine g_v1 (M' := KR_middle) dX9_centreOf_98 l_R_261 v_KR_middle (c_KR_middle0 hW hwz hhz) rc_84 rfl rfl ⟨rfl, rfl⟩ ?_
          refine g_goto (tgt := 109) dX9_centreOf_101 rfl ?_
          exact g_dret (S := []) dX9_centreOf_109 rfl (by rw [← hRz]; exact ⟨congrArg (fun zz => some (Value.double zz)) (show _ = _ by rw [hwtz, show n = k by omega, ← hs]; first | exact (cn_0 zc93).symm | exact (cn_1 zc93).symm), by rfl⟩) (Nat.zero_le _) (Nat.zero_le _)
      · have hk : k < n := by omega
        have hwg := wg_nI hW hk
        have hwd := hW.wide hk
        have hhg := hW.high hk
        have hak := sw_all (q := liesA (σ 85)) hW (fun _ _ h => h) k h1
        refine g_aload_n dX9_centreOf_20 rfl ?_
        refine g_iload dX9_centreOf_21 rfl ?_
        refine g_v1 (M' := KR_lies) dX9_centreOf_23 l_R_82 v_KR_lies (c_KR_lies (by omega)) rc_84 rfl rfl ⟨rfl, rfl⟩ ?_
        refine b_if_eq (tgt := 85) dX9_centreOf_26 rfl (fun zc26 => ?_) (fun zc26 => ?_)
        · refine n_iinc (b := 1) dX9_centreOf_85 rfl rfl rfl ?_
          refine g_goto (tgt := 11) dX9_centreOf_88 rfl ?_
          exact g_can _ (by exact ⟨rfl, rfl, rfl, rfl, rfl, trivial⟩) (ih11 (k + 1) _ (by omega) (by rw [hs]; first | exact (sw_y zc26).symm | exact (sw_n zc26).symm) (by omega) (by omega))
        · have hgb := g_bd hW hk zc26
          have hxy := hW.xy hk zc26
          refine g_iload_n dX9_centreOf_29 rfl ?_
          refine n_if_eq (tgt := 42) (by omega) dX9_centreOf_30 rfl (fun _ => ?_) (fun zc30 => absurd zc30 (by decide))
          refine g_aload_n dX9_centreOf_42 rfl ?_
          refine g_iload dX9_centreOf_43 rfl ?_
          refine g_v1 (M' := KR_wide) dX9_centreOf_45 l_R_64 v_KR_wide (c_KR_wide hW (by omega)) rc_84 rfl rfl ⟨rfl, rfl⟩ ?_
          refine g_top (hW.wide hk).2.2 ?_
          refine g_i2d dX9_centreOf_48 ?_
          refine g_ldcd dX9_centreOf_49 c_R_259 ?_
          refine g_ddiv dX9_centreOf_52 (n64_lt (Nat.le_of_lt (hfD_u (j := wN (σ 85) k) (by omega)).2)) ?_
          refine g_topd (show _ = hfD (wN (σ 85) k) from rfl) ?_
          refine g_dstore dX9_centreOf_53 rfl ?_
          refine g_dload_n dX9_centreOf_55 rfl ?_
          refine g_aload_n dX9_centreOf_56 rfl ?_
          refine g_iload dX9_centreOf_57 rfl ?_
          refine g_v1 (M' := KR_weight) dX9_centreOf_59 l_R_149 v_KR_weight (c_KR_weight hW (by omega)) rc_84 rfl rfl ⟨rfl, rfl⟩ ?_
          refine g_top hwg.2.2 ?_
          refine g_i2d dX9_centreOf_62 ?_
          refine g_aload_n dX9_centreOf_63 rfl ?_
          refine g_iload dX9_centreOf_64 rfl ?_
          refine g_iload_n dX9_centreOf_66 rfl ?_
          refine n_if_eq (tgt := 74) (by omega) dX9_centreOf_67 rfl (fun _ => ?_) (fun zc67 => absurd zc67 (by decide))
          refine g_iconst dX9_centreOf_74 ic_4 ?_
          refine g_v2 (M' := KR_its) dX9_centreOf_75 l_R_50 v_KR_its (c_KR_its (by omega) (by omega)) rc_84 rfl rfl ⟨rfl, rfl⟩ ?_
          refine g_top (hW.xy hk zc26).2.2.1 ?_
          refine g_i2d dX9_centreOf_78 ?_
          refine g_dload dX9_centreOf_79 rfl ?_
          refine g_dadd dX9_centreOf_81 (n64_lt (by rw [hfD_ia (by omega)]; exact Nat.le_of_lt (hfD_u (by omega)).2)) ?_
          refine g_topd (hfD_ia (by omega)) ?_
          refine g_dmul dX9_centreOf_82 (n64_lt (by rw [hfD_mul (by omega) (by omega)]; exact Nat.le_of_lt (hfD_u (by omega)).2)) ?_
          refine g_topd (hfD_mul (by omega) (by omega)) ?_
          refine g_dadd dX9_centreOf_83 (n64_lt (by rw [hfD_add (by omega)]; exact Nat.le_of_lt (hfD_u (by omega)).2)) ?_
          refine g_topd (hfD_add (by omega)) ?_
          refine g_dstore_n dX9_centreOf_84 rfl ?_
          refine n_iinc (b := 1) dX9_centreOf_85 rfl rfl rfl ?_
          refine g_goto (tgt := 11) dX9_centreOf_88 rfl ?_
          exact g_can _ (by exact ⟨rfl, rfl, rfl, rfl, rfl, trivial⟩) (ih11 (k + 1) _ (by omega) (by rw [hs]; first | exact (sw_y zc26).symm | exact (sw_n zc26).symm) (by omega) (by omega))
  exact g_can _ (by exact ⟨rfl, rfl, rfl, rfl, rfl, trivial⟩) (H11 _ 0 0 (by omega) rfl (by omega) (Nat.lt_succ_self _))
set_option maxRecDepth 100000 in
theorem c_KR_middle1 {σ : SI} {δ : SD} {n : Nat} (hW : WF (σ 85) n) {W Hh : Nat} (hwz : (σ 85 0).toNatClampNeg = W) (hhz : (σ 85 1).toNatClampNeg = Hh) : E KR_middle [.ref 84, .int (nI 1)] (HH σ δ) (some (.double (hfD Hh))) (HH σ δ) := by
  have hWd := hW.wid
  have hHd := hW.hei
  rw [hwz] at hWd
  rw [hhz] at hHd
  refine E.ofL [some (.ref 84), some (.int (nI 1))] rfl pn_RX9 rfl (fun sc => ?_)
  refine g_iload_n dX9_middle_0 rfl ?_
  refine n_if_eq (tgt := 13) (by omega) dX9_middle_1 rfl (fun zc1 => absurd zc1 (by decide)) (fun _ => ?_)
  refine g_aload_n dX9_middle_4 rfl ?_
  refine q_getq dX9_middle_5 f_R_7 ck_84 (by decide) ty_8_0 rf_84_0 ?_
  refine g_iconst dX9_middle_8 ic_1 ?_
  refine q_iald dX9_middle_9 ck_85 (ixD_nI (by omega) (by decide)) ?_
  refine g_top hHd.2.2 ?_
  refine g_goto (tgt := 19) dX9_middle_10 rfl ?_
  refine g_i2d dX9_middle_19 ?_
  refine g_ldcd dX9_middle_20 c_R_259 ?_
  refine g_ddiv dX9_middle_23 (n64_lt (Nat.le_of_lt (hfD_u (j := Hh) (by omega)).2)) ?_
  refine g_topd (show _ = hfD Hh from rfl) ?_
  exact e_dret dX9_middle_24 rfl (by rfl) (by rfl)
set_option maxRecDepth 100000 in
theorem c_KR_centreOf1 {σ : SI} {δ : SD} {n : Nat} (hW : WF (σ 85) n) {W Hh : Nat} (hwz : (σ 85 0).toNatClampNeg = W) (hhz : (σ 85 1).toNatClampNeg = Hh) : E KR_centreOf [.ref 84, .int (nI 1)] (HH σ δ) (some (.double (cnD (swN (liesA (σ 85)) (wgN (σ 85)) n) (swN (liesA (σ 85)) (fun j => wgN (σ 85) j * (2 * yN' (σ 85) j + hN' (σ 85) j)) n) Hh))) (HH σ δ) := by
  have h8 := hW.n8
  have hWd := hW.wid
  have hHd := hW.hei
  rw [hwz] at hWd
  rw [hhz] at hHd
  have hwt := weights_nI hW
  have hal := sw_all (q := liesA (σ 85)) hW (fun _ _ h => h) n (Nat.le_refl n)
  obtain ⟨wt, hwtz⟩ : ∃ wt, swN (liesA (σ 85)) (wgN (σ 85)) n = wt := ⟨_, rfl⟩
  rw [hwtz] at hwt hal
  refine E.ofL [some (.ref 84), some (.int (nI 1))] rfl pn_RX9 rfl (fun sc => ?_)
  generalize hRz : (fun (zr : Option Value) (zk : XH) => zr = some (.double (cnD (swN (liesA (σ 85)) (wgN (σ 85)) n) (swN (liesA (σ 85)) (fun j => wgN (σ 85) j * (2 * yN' (σ 85) j + hN' (σ 85) j)) n) Hh)) ∧ zk = HH σ δ) = R
  refine g_dconst0 dX9_centreOf_0 ?_
  refine g_topd hfD_0.symm ?_
  refine g_dstore_n dX9_centreOf_1 rfl ?_
  refine g_aload_n dX9_centreOf_2 rfl ?_
  refine g_v0 (M' := KR_weights) dX9_centreOf_3 l_R_256 v_KR_weights (c_KR_weights hW) rc_84 rfl rfl ⟨rfl, rfl⟩ ?_
  refine g_top hwt ?_
  refine g_istore dX9_centreOf_6 rfl ?_
  refine g_iconst dX9_centreOf_8 ic_0 ?_
  refine g_istore dX9_centreOf_9 rfl ?_
  have H11 : ∀ (N : Nat) (k s : Nat), k ≤ n → s = swN (liesA (σ 85)) (fun j => wgN (σ 85) j * (2 * yN' (σ 85) j + hN' (σ 85) j)) k → s < 2 ^ 29 → n - k < N → G sc KR_centreOf 11 (aL [some (.ref 84), some (.int (nI 1)), some (.double (hfD s)), none, some (.int (nI wt)), some (.int (nI k))]) [] (HH σ δ) (0, 0) R := by
    intro N
    induction N with
    | zero => intro k s h1 hs hs2 hN11; exact absurd hN11 (Nat.not_lt_zero _)
    | succ N ih11 =>
      intro k s h1 hs hs2 hN11
      refine g_iload dX9_centreOf_11 rfl ?_
      refine g_aload_n dX9_centreOf_13 rfl ?_
      refine g_v0 (M' := KR_many) dX9_centreOf_14 l_R_42 v_KR_many c_KR_many rc_84 rfl rfl ⟨rfl, rfl⟩ ?_
      refine g_top hW.a7 ?_
      refine n_icmp_ge (tgt := 91) (by omega) (by omega) dX9_centreOf_17 rfl (fun zc17 => ?_) (fun zc17 => ?_)
      · refine g_iload dX9_centreOf_91 rfl ?_
        refine n_if_ne (tgt := 104) (by omega) dX9_centreOf_93 rfl (fun zc93 => ?_) (fun zc93 => ?_)
        · refine g_dload_n dX9_centreOf_104 rfl ?_
          refine g_iload dX9_centreOf_105 rfl ?_
          refine g_i2d dX9_centreOf_107 ?_
          refine g_ddiv dX9_centreOf_108 (cn_fp (by omega) (by omega) zc93) ?_
          exact g_dret (S := []) dX9_centreOf_109 rfl (by rw [← hRz]; exact ⟨congrArg (fun zz => some (Value.double zz)) (show _ = _ by rw [hwtz, show n = k by omega, ← hs]; first | exact (cn_0 zc93).symm | exact (cn_1 zc93).symm), by rfl⟩) (Nat.zero_le _) (Nat.zero_le _)
        · refine g_aload_n dX9_centreOf_96 rfl ?_
          refine g_iload_n dX9_centreOf_97 rfl ?_
          refine g_v1 (M' := KR_middle) dX9_centreOf_98 l_R_261 v_KR_middle (c_KR_middle1 hW hwz hhz) rc_84 rfl rfl ⟨rfl, rfl⟩ ?_
          refine g_goto (tgt := 109) dX9_centreOf_101 rfl ?_
          exact g_dret (S := []) dX9_centreOf_109 rfl (by rw [← hRz]; exact ⟨congrArg (fun zz => some (Value.double zz)) (show _ = _ by rw [hwtz, show n = k by omega, ← hs]; first | exact (cn_0 zc93).symm | exact (cn_1 zc93).symm), by rfl⟩) (Nat.zero_le _) (Nat.zero_le _)
      · have hk : k < n := by omega
        have hwg := wg_nI hW hk
        have hwd := hW.wide hk
        have hhg := hW.high hk
        have hak := sw_all (q := liesA (σ 85)) hW (fun _ _ h => h) k h1
        refine g_aload_n dX9_centreOf_20 rfl ?_
        refine g_iload dX9_centreOf_21 rfl ?_
        refine g_v1 (M' := KR_lies) dX9_centreOf_23 l_R_82 v_KR_lies (c_KR_lies (by omega)) rc_84 rfl rfl ⟨rfl, rfl⟩ ?_
        refine b_if_eq (tgt := 85) dX9_centreOf_26 rfl (fun zc26 => ?_) (fun zc26 => ?_)
        · refine n_iinc (b := 1) dX9_centreOf_85 rfl rfl rfl ?_
          refine g_goto (tgt := 11) dX9_centreOf_88 rfl ?_
          exact g_can _ (by exact ⟨rfl, rfl, rfl, rfl, rfl, trivial⟩) (ih11 (k + 1) _ (by omega) (by rw [hs]; first | exact (sw_y zc26).symm | exact (sw_n zc26).symm) (by omega) (by omega))
        · have hgb := g_bd hW hk zc26
          have hxy := hW.xy hk zc26
          refine g_iload_n dX9_centreOf_29 rfl ?_
          refine n_if_eq (tgt := 42) (by omega) dX9_centreOf_30 rfl (fun zc30 => absurd zc30 (by decide)) (fun _ => ?_)
          refine g_aload_n dX9_centreOf_33 rfl ?_
          refine g_iload dX9_centreOf_34 rfl ?_
          refine g_v1 (M' := KR_high) dX9_centreOf_36 l_R_68 v_KR_high (c_KR_high hW (by omega)) rc_84 rfl rfl ⟨rfl, rfl⟩ ?_
          refine g_top (hW.high hk).2.2 ?_
          refine g_goto (tgt := 48) dX9_centreOf_39 rfl ?_
          refine g_i2d dX9_centreOf_48 ?_
          refine g_ldcd dX9_centreOf_49 c_R_259 ?_
          refine g_ddiv dX9_centreOf_52 (n64_lt (Nat.le_of_lt (hfD_u (j := hN' (σ 85) k) (by omega)).2)) ?_
          refine g_topd (show _ = hfD (hN' (σ 85) k) from rfl) ?_
          refine g_dstore dX9_centreOf_53 rfl ?_
          refine g_dload_n dX9_centreOf_55 rfl ?_
          refine g_aload_n dX9_centreOf_56 rfl ?_
          refine g_iload dX9_centreOf_57 rfl ?_
          refine g_v1 (M' := KR_weight) dX9_centreOf_59 l_R_149 v_KR_weight (c_KR_weight hW (by omega)) rc_84 rfl rfl ⟨rfl, rfl⟩ ?_
          refine g_top hwg.2.2 ?_
          refine g_i2d dX9_centreOf_62 ?_
          refine g_aload_n dX9_centreOf_63 rfl ?_
          refine g_iload dX9_centreOf_64 rfl ?_
          refine g_iload_n dX9_centreOf_66 rfl ?_
          refine n_if_eq (tgt := 74) (by omega) dX9_centreOf_67 rfl (fun zc67 => absurd zc67 (by decide)) (fun _ => ?_)
          refine g_iconst dX9_centreOf_70 ic_5 ?_
          refine g_goto (tgt := 75) dX9_centreOf_71 rfl ?_
          refine g_v2 (M' := KR_its) dX9_centreOf_75 l_R_50 v_KR_its (c_KR_its (by omega) (by omega)) rc_84 rfl rfl ⟨rfl, rfl⟩ ?_
          refine g_top (hW.xy hk zc26).2.2.2 ?_
          refine g_i2d dX9_centreOf_78 ?_
          refine g_dload dX9_centreOf_79 rfl ?_
          refine g_dadd dX9_centreOf_81 (n64_lt (by rw [hfD_ia (by omega)]; exact Nat.le_of_lt (hfD_u (by omega)).2)) ?_
          refine g_topd (hfD_ia (by omega)) ?_
          refine g_dmul dX9_centreOf_82 (n64_lt (by rw [hfD_mul (by omega) (by omega)]; exact Nat.le_of_lt (hfD_u (by omega)).2)) ?_
          refine g_topd (hfD_mul (by omega) (by omega)) ?_
          refine g_dadd dX9_centreOf_83 (n64_lt (by rw [hfD_add (by omega)]; exact Nat.le_of_lt (hfD_u (by omega)).2)) ?_
          refine g_topd (hfD_add (by omega)) ?_
          refine g_dstore_n dX9_centreOf_84 rfl ?_
          refine n_iinc (b := 1) dX9_centreOf_85 rfl rfl rfl ?_
          refine g_goto (tgt := 11) dX9_centreOf_88 rfl ?_
          exact g_can _ (by exact ⟨rfl, rfl, rfl, rfl, rfl, trivial⟩) (ih11 (k + 1) _ (by omega) (by rw [hs]; first | exact (sw_y zc26).symm | exact (sw_n zc26).symm) (by omega) (by omega))
  exact g_can _ (by exact ⟨rfl, rfl, rfl, rfl, rfl, trivial⟩) (H11 _ 0 0 (by omega) rfl (by omega) (Nat.lt_succ_self _))
set_option maxRecDepth 100000 in
theorem c_KR_balance {σ : SI} {δ : SD} {n : Nat} (hW : WF (σ 85) n) {W Hh : Nat} (hwz : (σ 85 0).toNatClampNeg = W) (hhz : (σ 85 1).toNatClampNeg = Hh) : E KR_balance [.ref 84] (HH σ δ) (some (.double (blD (swN (liesA (σ 85)) (wgN (σ 85)) n) (swN (liesA (σ 85)) (fun j => wgN (σ 85) j * (2 * xN' (σ 85) j + wN (σ 85) j)) n) (swN (liesA (σ 85)) (fun j => wgN (σ 85) j * (2 * yN' (σ 85) j + hN' (σ 85) j)) n) W Hh))) (HH σ δ) := by
  have hWd := hW.wid
  have hHd := hW.hei
  rw [hwz] at hWd
  rw [hhz] at hHd
  obtain ⟨bw, bx, by2, gx, gy⟩ := sw_fin (q := liesA (σ 85)) hW (fun _ _ h => h)
  refine E.ofL [some (.ref 84)] rfl pn_RX9 rfl (fun sc => ?_)
  refine g_aload_n dX9_balance_0 rfl ?_
  refine g_iconst dX9_balance_1 ic_0 ?_
  refine g_v1 (M' := KR_centreOf) dX9_balance_2 l_R_265 v_KR_centreOf (c_KR_centreOf0 hW hwz hhz) rc_84 rfl rfl ⟨rfl, rfl⟩ ?_
  refine g_aload_n dX9_balance_5 rfl ?_
  refine g_iconst dX9_balance_6 ic_0 ?_
  refine g_v1 (M' := KR_middle) dX9_balance_7 l_R_261 v_KR_middle (c_KR_middle0 hW hwz hhz) rc_84 rfl rfl ⟨rfl, rfl⟩ ?_
  refine g_dsub dX9_balance_10 (df_fp (by omega) bw bx gx) ?_
  refine g_dstore_n dX9_balance_11 rfl ?_
  refine g_aload_n dX9_balance_12 rfl ?_
  refine g_iconst dX9_balance_13 ic_1 ?_
  refine g_v1 (M' := KR_centreOf) dX9_balance_14 l_R_265 v_KR_centreOf (c_KR_centreOf1 hW hwz hhz) rc_84 rfl rfl ⟨rfl, rfl⟩ ?_
  refine g_aload_n dX9_balance_17 rfl ?_
  refine g_iconst dX9_balance_18 ic_1 ?_
  refine g_v1 (M' := KR_middle) dX9_balance_19 l_R_261 v_KR_middle (c_KR_middle1 hW hwz hhz) rc_84 rfl rfl ⟨rfl, rfl⟩ ?_
  refine g_dsub dX9_balance_22 (df_fp (by omega) bw by2 gy) ?_
  refine g_dstore_n dX9_balance_23 rfl ?_
  refine g_dload_n dX9_balance_24 rfl ?_
  refine g_dload_n dX9_balance_25 rfl ?_
  refine g_dmul dX9_balance_26 (n64_lt (Nat.le_trans (df_sq (by omega) bw bx gx).1 (by decide))) ?_
  refine g_dload_n dX9_balance_27 rfl ?_
  refine g_dload_n dX9_balance_28 rfl ?_
  refine g_dmul dX9_balance_29 (n64_lt (Nat.le_trans (df_sq (by omega) bw by2 gy).1 (by decide))) ?_
  refine g_dadd dX9_balance_30 (n64_lt (Nat.le_trans (bl_fp (by omega) (by omega) bw bx by2 gx gy).1 (by decide))) ?_
  exact e_dret dX9_balance_31 rfl (by rfl) (by rfl)
set_option maxRecDepth 100000 in
theorem c_KR_centreBits0 {σ : SI} {δ : SD} {n : Nat} (hW : WF (σ 85) n) {W Hh : Nat} (hwz : (σ 85 0).toNatClampNeg = W) (hhz : (σ 85 1).toNatClampNeg = Hh) : E KR_centreBits [.ref 84, .int (nI 0)] (HH σ δ) (some (.long (cnD (swN (liesA (σ 85)) (wgN (σ 85)) n) (swN (liesA (σ 85)) (fun j => wgN (σ 85) j * (2 * xN' (σ 85) j + wN (σ 85) j)) n) W).toInt64)) (HH σ δ) := by
  have hWd := hW.wid
  have hHd := hW.hei
  rw [hwz] at hWd
  rw [hhz] at hHd
  obtain ⟨bw, bx, by2, gx, gy⟩ := sw_fin (q := liesA (σ 85)) hW (fun _ _ h => h)
  refine E.ofL [some (.ref 84), some (.int (nI 0))] rfl pn_RX9 rfl (fun sc => ?_)
  refine g_iload_n dX9_centreBits_0 rfl ?_
  refine n_if_ne (tgt := 12) (by omega) dX9_centreBits_1 rfl (fun zc1 => absurd zc1 (by decide)) (fun _ => ?_)
  refine g_aload_n dX9_centreBits_4 rfl ?_
  refine g_iconst dX9_centreBits_5 ic_0 ?_
  refine g_v1 (M' := KR_centreOf) dX9_centreBits_6 l_R_265 v_KR_centreOf (c_KR_centreOf0 hW hwz hhz) rc_84 rfl rfl ⟨rfl, rfl⟩ ?_
  refine g_goto (tgt := 29) dX9_centreBits_9 rfl ?_
  refine g_s1 (M' := KJ_doubleToLongBits) dX9_centreBits_29 l_R_268 s_KJ_doubleToLongBits (c_KJ_doubleToLongBits (by have := (cn_b bw bx (by omega) gx : _ ∧ (cnD _ _ W).toNat ≤ _).2; omega)) rfl rfl ⟨rfl, rfl⟩ ?_
  exact e_lret dX9_centreBits_32 rfl (by rfl) (by rfl)
set_option maxRecDepth 100000 in
theorem c_KR_centreBits1 {σ : SI} {δ : SD} {n : Nat} (hW : WF (σ 85) n) {W Hh : Nat} (hwz : (σ 85 0).toNatClampNeg = W) (hhz : (σ 85 1).toNatClampNeg = Hh) : E KR_centreBits [.ref 84, .int (nI 1)] (HH σ δ) (some (.long (cnD (swN (liesA (σ 85)) (wgN (σ 85)) n) (swN (liesA (σ 85)) (fun j => wgN (σ 85) j * (2 * yN' (σ 85) j + hN' (σ 85) j)) n) Hh).toInt64)) (HH σ δ) := by
  have hWd := hW.wid
  have hHd := hW.hei
  rw [hwz] at hWd
  rw [hhz] at hHd
  obtain ⟨bw, bx, by2, gx, gy⟩ := sw_fin (q := liesA (σ 85)) hW (fun _ _ h => h)
  refine E.ofL [some (.ref 84), some (.int (nI 1))] rfl pn_RX9 rfl (fun sc => ?_)
  refine g_iload_n dX9_centreBits_0 rfl ?_
  refine n_if_ne (tgt := 12) (by omega) dX9_centreBits_1 rfl (fun _ => ?_) (fun zc1 => absurd zc1 (by decide))
  refine g_iload_n dX9_centreBits_12 rfl ?_
  refine g_iconst dX9_centreBits_13 ic_1 ?_
  refine n_icmp_ne (tgt := 25) (by omega) (by omega) dX9_centreBits_14 rfl (fun zc14 => ?_) (fun zc14 => ?_)
  · exact absurd rfl zc14
  · refine g_aload_n dX9_centreBits_17 rfl ?_
    refine g_iconst dX9_centreBits_18 ic_1 ?_
    refine g_v1 (M' := KR_centreOf) dX9_centreBits_19 l_R_265 v_KR_centreOf (c_KR_centreOf1 hW hwz hhz) rc_84 rfl rfl ⟨rfl, rfl⟩ ?_
    refine g_goto (tgt := 29) dX9_centreBits_22 rfl ?_
    refine g_s1 (M' := KJ_doubleToLongBits) dX9_centreBits_29 l_R_268 s_KJ_doubleToLongBits (c_KJ_doubleToLongBits (by have := (cn_b bw by2 (by omega) gy : _ ∧ (cnD _ _ Hh).toNat ≤ _).2; omega)) rfl rfl ⟨rfl, rfl⟩ ?_
    exact e_lret dX9_centreBits_32 rfl (by rfl) (by rfl)
set_option maxRecDepth 100000 in
theorem c_KR_centreBits2 {σ : SI} {δ : SD} {n : Nat} (hW : WF (σ 85) n) {W Hh : Nat} (hwz : (σ 85 0).toNatClampNeg = W) (hhz : (σ 85 1).toNatClampNeg = Hh) : E KR_centreBits [.ref 84, .int (nI 2)] (HH σ δ) (some (.long (blD (swN (liesA (σ 85)) (wgN (σ 85)) n) (swN (liesA (σ 85)) (fun j => wgN (σ 85) j * (2 * xN' (σ 85) j + wN (σ 85) j)) n) (swN (liesA (σ 85)) (fun j => wgN (σ 85) j * (2 * yN' (σ 85) j + hN' (σ 85) j)) n) W Hh).toInt64)) (HH σ δ) := by
  have hWd := hW.wid
  have hHd := hW.hei
  rw [hwz] at hWd
  rw [hhz] at hHd
  obtain ⟨bw, bx, by2, gx, gy⟩ := sw_fin (q := liesA (σ 85)) hW (fun _ _ h => h)
  refine E.ofL [some (.ref 84), some (.int (nI 2))] rfl pn_RX9 rfl (fun sc => ?_)
  refine g_iload_n dX9_centreBits_0 rfl ?_
  refine n_if_ne (tgt := 12) (by omega) dX9_centreBits_1 rfl (fun _ => ?_) (fun zc1 => absurd zc1 (by decide))
  refine g_iload_n dX9_centreBits_12 rfl ?_
  refine g_iconst dX9_centreBits_13 ic_1 ?_
  refine n_icmp_ne (tgt := 25) (by omega) (by omega) dX9_centreBits_14 rfl (fun zc14 => ?_) (fun zc14 => ?_)
  · refine g_aload_n dX9_centreBits_25 rfl ?_
    refine g_v0 (M' := KR_balance) dX9_centreBits_26 l_R_184 v_KR_balance (c_KR_balance hW hwz hhz) rc_84 rfl rfl ⟨rfl, rfl⟩ ?_
    refine g_s1 (M' := KJ_doubleToLongBits) dX9_centreBits_29 l_R_268 s_KJ_doubleToLongBits (c_KJ_doubleToLongBits (by have := (bl_fp (W := W) (Hh := Hh) (by omega) (by omega) bw bx by2 gx gy).1; omega)) rfl rfl ⟨rfl, rfl⟩ ?_
    exact e_lret dX9_centreBits_32 rfl (by rfl) (by rfl)
  · exact absurd zc14 (by decide)
