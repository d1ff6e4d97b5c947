/-! CONTRACTS of a layout: measure and what changes it -/
def mea (σ : SI) (B : Nat) (a : Nat → Int32) (n : Nat) : SI := uI (fill (fill σ (B + 8) (highF a) n) (B + 7) (wideF a) n) B 10 (lbF a (colN a))
theorem uI_uI {σ : SI} {c k : Nat} {v w : Int32} : uI (uI σ c k v) c k w = uI σ c k w := by
  funext a b
  unfold uI
  by_cases h : a = c ∧ b = k
  · rw [if_pos h, if_pos h]
  · rw [if_neg h, if_neg h, if_neg h]
theorem mea_step {σ : SI} {B k : Nat} {a : Nat → Int32} {v1 v2 : Int32} (e1 : v1 = highF a k) (e2 : v2 = wideF a k) : uI (uI (fill (fill σ (B + 8) (highF a) k) (B + 7) (wideF a) k) (B + 8) k v1) (B + 7) k v2 = fill (fill σ (B + 8) (highF a) (k + 1)) (B + 7) (wideF a) (k + 1) := by
  subst e1; subst e2
  rw [uI_fill _ _ _ _ _ (by omega), fill_succ, fill_succ]
theorem RB.cong {σ σ' : SI} {B n : Nat} {a : Nat → Int32} (h : RB σ B a n) (h0 : ∀ j, j < 3 → σ' B j = σ B j) (h1 : ∀ i, 3 ≤ i → i < 7 → σ' (B + i) = σ (B + i)) : RB σ' B a n := by
  obtain ⟨g1, g2, g3, g4, g5, g6, g7⟩ := h
  refine ⟨by rw [h0 0 (by decide)]; exact g1, by rw [h0 1 (by decide)]; exact g2, by rw [h0 2 (by decide)]; exact g3, fun i hi => by rw [h1 3 (by decide) (by decide)]; exact g4 i hi, fun k hk j hj => by rw [h1 4 (by decide) (by decide)]; exact g5 k hk j hj, fun k hk => by rw [h1 5 (by decide) (by decide)]; exact g6 k hk, fun k hk => by rw [h1 6 (by decide) (by decide)]; exact g7 k hk⟩
theorem fill_row {σ : SI} {c a k : Nat} {f : Nat → Int32} (h : a ≠ c) : fill σ c f k a = σ a := funext fun _ => fill_ne h
theorem RB_mea {σ : SI} {B n k : Nat} {a f g : Nat → Int32} (h : RB σ B a n) : RB (fill (fill σ (B + 8) f k) (B + 7) g k) B a n :=
  h.cong (fun j _ => by rw [fill_ne (by omega), fill_ne (by omega)]) (fun i _ _ => by rw [fill_row (by omega), fill_row (by omega)])
theorem RB_lb {σ : SI} {B n : Nat} {a : Nat → Int32} {v : Int32} (h : RB σ B a n) : RB (uI σ B 10 v) B a n :=
  h.cong (fun j _ => by rw [uI_oth (by omega)]) (fun i _ _ => uI_ne (by omega))
theorem mea_RB {σ : SI} {B n : Nat} {a : Nat → Int32} (h : RB σ B a n) : RB (mea σ B a n) B a n := RB_lb (RB_mea h)
theorem mea_RD {σ : SI} {B n : Nat} {a : Nat → Int32} : RD (mea σ B a n) B a n := by
  refine ⟨fun k hk => ?_, fun k hk => ?_, uI_same⟩
  · unfold mea
    rw [uI_oth (by omega), fill_in hk]
  · unfold mea
    rw [uI_oth (by omega), fill_ne (by omega), fill_in hk]
set_option maxRecDepth 100000 in
theorem c_KL_measure {σ : SI} {δ : SD} {B n : Nat} {a : Nat → Int32} (hB : LB B) (hW : WF a n) (hR : RB σ B a n) : E KL_measure [.ref B] (HH σ δ) (none) (HH (mea σ B a n) δ) := by
  have h8 := hW.n8
  have h2 := hR.c
  have hc := hW.col
  refine E.ofL [some (.ref B)] rfl pn_RX1 rfl (fun sc => ?_)
  generalize hRz : (fun (zr : Option Value) (zk : XH) => zr = none ∧ zk = HH (mea σ B a n) δ) = R
  refine g_iconst dX1_measure_0 ic_0 ?_
  refine g_istore_n dX1_measure_1 rfl ?_
  refine g_heap (show HH σ δ = HH (fill (fill σ (B + 8) (highF a) 0) (B + 7) (wideF a) 0) δ by rw [fill_0, fill_0]) ?_
  have H2 : ∀ (N : Nat) (k : Nat), k ≤ n → n - k < N → G sc KL_measure 2 (aL [some (.ref B), some (.int (nI k))]) [] (HH (fill (fill σ (B + 8) (highF a) k) (B + 7) (wideF a) k) δ) (0, 0) R := by
    intro N
    induction N with
    | zero => intro k h1 hN2; exact absurd hN2 (Nat.not_lt_zero _)
    | succ N ih2 =>
      intro k h1 hN2
      have hRk : RB (fill (fill σ (B + 8) (highF a) k) (B + 7) (wideF a) k) B a n := RB_mea hR
      refine g_iload_n dX1_measure_2 rfl ?_
      refine g_aload_n dX1_measure_3 rfl ?_
      refine q_geti dX1_measure_4 f_L_44 (ckL_0 hB) (by decide) ty_0_2 ?_
      refine g_top (show (fill (fill σ (B + 8) (highF a) k) (B + 7) (wideF a) k) B 2 = nI n by rw [fill_ne (by omega), fill_ne (by omega)]; exact h2) ?_
      refine n_icmp_ge (tgt := 93) (by omega) (by omega) dX1_measure_7 rfl (fun zc7 => ?_) (fun zc7 => ?_)
      · refine g_aload_n dX1_measure_93 rfl ?_
        refine g_iconst dX1_measure_94 ic_0 ?_
        refine q_puti dX1_measure_95 f_L_47 (ckL_0 hB) (by decide) ty_0_10 fi_0_10 ?_
        refine g_iconst dX1_measure_98 ic_0 ?_
        refine g_istore_n dX1_measure_99 rfl ?_
        refine g_heap (show _ = HH (uI (fill (fill σ (B + 8) (highF a) n) (B + 7) (wideF a) n) B 10 (lbF a 0)) δ by rw [show n = k by omega]; rfl) ?_
        have H100 : ∀ (N : Nat) (k : Nat), k ≤ colN a → colN a - k < N → G sc KL_measure 100 (aL [some (.ref B), some (.int (nI k))]) [] (HH (uI (fill (fill σ (B + 8) (highF a) n) (B + 7) (wideF a) n) B 10 (lbF a k)) δ) (0, 0) R := by
          intro N
          induction N with
          | zero => intro k h3 hN100; exact absurd hN100 (Nat.not_lt_zero _)
          | succ N ih100 =>
            intro k h3 hN100
            have hRk : RB (uI (fill (fill σ (B + 8) (highF a) n) (B + 7) (wideF a) n) B 10 (lbF a k)) B a n := RB_lb (RB_mea hR)
            refine g_iload_n dX1_measure_100 rfl ?_
            refine g_aload_n dX1_measure_101 rfl ?_
            refine q_getq dX1_measure_102 f_L_25 (ckL_0 hB) (by decide) ty_0_4 (rfL_4 hB) ?_
            refine g_iconst dX1_measure_105 ic_4 ?_
            refine q_iald dX1_measure_106 (ckL_3 hB) (ixD_nI (by omega) (by decide)) ?_
            refine g_top (show (uI (fill (fill σ (B + 8) (highF a) n) (B + 7) (wideF a) n) B 10 (lbF a k)) (B + 3) 4 = nI (colN a) by rw [uI_oth (by omega), fill_ne (by omega), fill_ne (by omega)]; exact (hR.s 4 (by decide)).trans hc.2.2) ?_
            refine n_icmp_ge (tgt := 132) (by omega) (by omega) dX1_measure_107 rfl (fun zc107 => ?_) (fun zc107 => ?_)
            · exact g_vret (S := []) dX1_measure_132 rfl (by rw [← hRz]; exact ⟨rfl, by rw [show k = colN a by omega]; rfl⟩) (Nat.zero_le _) (Nat.zero_le _)
            · refine g_aload_n dX1_measure_110 rfl ?_
              refine g_dup dX1_measure_111 rfl ?_
              refine q_geti dX1_measure_112 f_L_47 (ckL_0 hB) (by decide) ty_0_10 ?_
              refine g_top uI_same ?_
              refine g_iconst dX1_measure_115 ic_1 ?_
              refine g_aload_n dX1_measure_116 rfl ?_
              refine g_iload_n dX1_measure_117 rfl ?_
              refine g_v1 (M' := KL_lineOf) dX1_measure_118 l_L_110 v_KL_lineOf (c_KL_lineOf hB hW hRk (by omega)) (rcL hB) rfl rfl ⟨rfl, rfl⟩ ?_
              refine g_ishl dX1_measure_121 ?_
              refine g_ior dX1_measure_122 ?_
              refine q_puti dX1_measure_123 f_L_47 (ckL_0 hB) (by decide) ty_0_10 fi_0_10 ?_
              refine n_iinc (b := 1) dX1_measure_126 rfl rfl rfl ?_
              refine g_goto (tgt := 100) dX1_measure_129 rfl ?_
              refine g_heap (congrArg (fun z => HH z δ) uI_uI) ?_
              exact g_can _ (by exact ⟨rfl, rfl, trivial⟩) (ih100 (k + 1) (by omega) (by omega))
        exact g_can _ (by exact ⟨rfl, rfl, trivial⟩) (H100 _ 0 (by omega) (Nat.lt_succ_self _))
      · refine g_iload_n dX1_measure_10 rfl ?_
        refine g_bipush dX1_measure_11 bp_8 ?_
        refine n_icmp_ge (tgt := 93) (by omega) (by omega) dX1_measure_13 rfl (fun zc13 => ?_) (fun zc13 => ?_)
        · exact absurd zc13 (by omega)
        · refine g_aload_n dX1_measure_16 rfl ?_
          refine g_aload_n dX1_measure_17 rfl ?_
          refine g_iload_n dX1_measure_18 rfl ?_
          refine g_iconst dX1_measure_19 ic_1 ?_
          have hk : k < n := zc7
          have i1 := hW.it1 hk
          have i2 := hW.it2 hk
          have i3 := hW.it3 hk
          have i0 := hW.it0 hk
          refine g_v2 (M' := KL_trait) dX1_measure_20 l_L_99 v_KL_trait (c_KL_trait hB hW hRk (by omega) (by decide)) (rcL hB) rfl rfl ⟨rfl, rfl⟩ ?_
          refine g_top (hW.it1 hk).2.2 ?_
          refine g_v1 (M' := KL_sideOf) dX1_measure_23 l_L_102 v_KL_sideOf (c_KL_sideOf hB hW hRk i1.1 i1.2.1) (rcL hB) rfl rfl ⟨rfl, rfl⟩ ?_
          refine g_fstore_n dX1_measure_26 rfl ?_
          refine g_aload_n dX1_measure_27 rfl ?_
          refine g_iload_n dX1_measure_28 rfl ?_
          refine g_iconst dX1_measure_29 ic_3 ?_
          refine g_v2 (M' := KL_trait) dX1_measure_30 l_L_99 v_KL_trait (c_KL_trait hB hW hRk (by omega) (by decide)) (rcL hB) rfl rfl ⟨rfl, rfl⟩ ?_
          refine g_top (hW.it3 hk).2.2 ?_
          refine g_istore_n dX1_measure_33 rfl ?_
          refine g_fload_n dX1_measure_34 rfl ?_
          refine g_aload_n dX1_measure_35 rfl ?_
          refine g_iload_n dX1_measure_36 rfl ?_
          refine g_iconst dX1_measure_37 ic_2 ?_
          refine g_v2 (M' := KL_trait) dX1_measure_38 l_L_99 v_KL_trait (c_KL_trait hB hW hRk (by omega) (by decide)) (rcL hB) rfl rfl ⟨rfl, rfl⟩ ?_
          refine g_top (hW.it2 hk).2.2 ?_
          refine g_i2f dX1_measure_41 ?_
          refine g_fmul dX1_measure_42 (fl_mul hW.big.1 hW.big.2.1 hW.rat.1 hW.rat.2.1 i2.1 i2.2.1) ?_
          refine g_fstore dX1_measure_43 rfl ?_
          refine g_aload_n dX1_measure_45 rfl ?_
          refine g_iload_n dX1_measure_46 rfl ?_
          refine g_iconst dX1_measure_47 ic_0 ?_
          refine g_v2 (M' := KL_trait) dX1_measure_48 l_L_99 v_KL_trait (c_KL_trait hB hW hRk (by omega) (by decide)) (rcL hB) rfl rfl ⟨rfl, rfl⟩ ?_
          refine g_top (hW.it0 hk).2.2 ?_
          refine g_iconst dX1_measure_51 ic_1 ?_
          refine n_icmp_ne (tgt := 66) (by omega) (by omega) dX1_measure_52 rfl (fun zc52 => ?_) (fun zc52 => ?_)
          · refine g_aload_n dX1_measure_66 rfl ?_
            refine q_getq dX1_measure_67 f_L_41 (ckL_0 hB) (by decide) ty_0_9 (rfL_9 hB) ?_
            refine g_iload_n dX1_measure_70 rfl ?_
            refine g_fload_n dX1_measure_71 rfl ?_
            refine g_s1 (M' := KL_cutToCells) dX1_measure_72 l_L_106 s_KL_cutToCells (c_KL_cutToCells (fl_half hW.big.1 hW.big.2.1 hW.rat.1 hW.rat.2.1)) rfl rfl ⟨rfl, rfl⟩ ?_
            refine q_iast dX1_measure_75 (ckL_8 hB) (ixD_nI (by omega) (by decide)) ?_
            refine g_aload_n dX1_measure_76 rfl ?_
            refine q_getq dX1_measure_77 f_L_38 (ckL_0 hB) (by decide) ty_0_8 (rfL_8 hB) ?_
            refine g_iload_n dX1_measure_80 rfl ?_
            refine g_fload dX1_measure_81 rfl ?_
            refine g_s1 (M' := KL_cutToCells) dX1_measure_83 l_L_106 s_KL_cutToCells (c_KL_cutToCells (by have := fl_halfW (so := itN a k 0) (r := itN a k 1) hW.big.1 hW.big.2.1 hW.rat.1 hW.rat.2.1 i2.1 i2.2.1 i3.1 i3.2.1; simp only [zc52, if_true, if_false] at this; exact this)) rfl rfl ⟨rfl, rfl⟩ ?_
            refine q_iast dX1_measure_86 (ckL_7 hB) (ixD_nI (by omega) (by decide)) ?_
            refine n_iinc (b := 1) dX1_measure_87 rfl rfl rfl ?_
            refine g_goto (tgt := 2) dX1_measure_90 rfl ?_
            refine g_heap (congrArg (fun z => HH z δ) (mea_step (a := a) (by rfl) (by simp only [wideF, wideN, zc52, if_true, if_false]; rfl))) ?_
            exact g_can _ (by exact ⟨rfl, rfl, trivial⟩) (ih2 (k + 1) (by omega) (by omega))
          · refine g_iload_n dX1_measure_55 rfl ?_
            refine n_if_le (tgt := 66) (by omega) dX1_measure_56 rfl (fun zc56 => ?_) (fun zc56 => ?_)
            · exact absurd zc56 (by omega)
            · refine g_fload dX1_measure_59 rfl ?_
              refine g_iload_n dX1_measure_61 rfl ?_
              refine g_i2f dX1_measure_62 ?_
              refine g_fdiv dX1_measure_63 (fl_div hW.big.1 hW.big.2.1 hW.rat.1 hW.rat.2.1 i2.1 i2.2.1 i3.1 i3.2.1) ?_
              refine g_fstore dX1_measure_64 rfl ?_
              refine g_aload_n dX1_measure_66 rfl ?_
              refine q_getq dX1_measure_67 f_L_41 (ckL_0 hB) (by decide) ty_0_9 (rfL_9 hB) ?_
              refine g_iload_n dX1_measure_70 rfl ?_
              refine g_fload_n dX1_measure_71 rfl ?_
              refine g_s1 (M' := KL_cutToCells) dX1_measure_72 l_L_106 s_KL_cutToCells (c_KL_cutToCells (fl_half hW.big.1 hW.big.2.1 hW.rat.1 hW.rat.2.1)) rfl rfl ⟨rfl, rfl⟩ ?_
              refine q_iast dX1_measure_75 (ckL_8 hB) (ixD_nI (by omega) (by decide)) ?_
              refine g_aload_n dX1_measure_76 rfl ?_
              refine q_getq dX1_measure_77 f_L_38 (ckL_0 hB) (by decide) ty_0_8 (rfL_8 hB) ?_
              refine g_iload_n dX1_measure_80 rfl ?_
              refine g_fload dX1_measure_81 rfl ?_
              refine g_s1 (M' := KL_cutToCells) dX1_measure_83 l_L_106 s_KL_cutToCells (c_KL_cutToCells (by have := fl_halfW (so := itN a k 0) (r := itN a k 1) hW.big.1 hW.big.2.1 hW.rat.1 hW.rat.2.1 i2.1 i2.2.1 i3.1 i3.2.1; simp only [zc52, if_true, if_false] at this; exact this)) rfl rfl ⟨rfl, rfl⟩ ?_
              refine q_iast dX1_measure_86 (ckL_7 hB) (ixD_nI (by omega) (by decide)) ?_
              refine n_iinc (b := 1) dX1_measure_87 rfl rfl rfl ?_
              refine g_goto (tgt := 2) dX1_measure_90 rfl ?_
              refine g_heap (congrArg (fun z => HH z δ) (mea_step (a := a) (by rfl) (by simp only [wideF, wideN, zc52, if_true, if_false]; rfl))) ?_
              exact g_can _ (by exact ⟨rfl, rfl, trivial⟩) (ih2 (k + 1) (by omega) (by omega))
  exact g_can _ (by exact ⟨rfl, rfl, trivial⟩) (H2 _ 0 (by omega) (Nat.lt_succ_self _))
