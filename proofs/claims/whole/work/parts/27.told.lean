/-! CALLS: told -/
/-- the kept ones as bits -/
def bsA (a : Nat → Int32) : Int32 := nI (kbN a 0 + 2 * kbN a 1 + 4 * kbN a 2)
theorem kb_01 (a : Nat → Int32) (s : Nat) : kbN a s = 0 ∨ kbN a s = 1 := by unfold kbN; split <;> simp
theorem ks_eq {a : Nat → Int32} {p q r : Bool} (h0 : decide (kbN a 0 = 1) = p) (h1 : decide (kbN a 1 = 1) = q) (h2 : decide (kbN a 2 = 1) = r) : bsA a = (if p then nI 1 else nI 0) ||| (if q then nI 2 else nI 0) ||| (if r then nI 4 else nI 0) := by
  unfold bsA
  subst h0; subst h1; subst h2
  rcases kb_01 a 0 with e0 | e0 <;> rcases kb_01 a 1 with e1 | e1 <;> rcases kb_01 a 2 with e2 | e2 <;> rw [e0, e1, e2] <;> rfl
set_option maxRecDepth 100000 in
theorem c_KR_isKept {σ : SI} {δ : SD} {s : Nat} (hs : s < 3) : E KR_isKept [.ref 84, .int (nI s)] (HH σ δ) (some (.int (bI (decide (kbN (σ 85) s = 1))))) (HH σ δ) := by
  refine E.ofL [some (.ref 84), some (.int (nI s))] rfl pn_RX9 rfl (fun sc => ?_)
  refine g_aload_n dX9_isKept_0 rfl ?_
  refine q_getq dX9_isKept_1 f_R_7 ck_84 (by decide) ty_8_0 rf_84_0 ?_
  refine g_bipush dX9_isKept_4 bp_56 ?_
  refine g_bipush dX9_isKept_6 bp_33 ?_
  refine g_iload_n dX9_isKept_8 rfl ?_
  refine n_imul dX9_isKept_9 ?_
  refine n_iadd dX9_isKept_10 ?_
  refine q_iald dX9_isKept_11 ck_85 (ixD_nI (by omega) (by decide)) ?_
  refine g_iconst dX9_isKept_12 ic_1 ?_
  refine g_icmp_ne (tgt := 20) dX9_isKept_13 rfl (fun zc13 => ?_) (fun zc13 => ?_)
  · refine g_iconst dX9_isKept_20 ic_0 ?_
    exact e_z0 dX9_isKept_21 rfl (by unfold kbN; simp [zc13]) (by rfl)
  · refine g_iconst dX9_isKept_16 ic_1 ?_
    refine g_goto (tgt := 21) dX9_isKept_17 rfl ?_
    exact e_z1 dX9_isKept_21 rfl (by unfold kbN; simp [zc13]) (by rfl)
set_option maxRecDepth 100000 in
theorem c_KR_keptSet {σ : SI} {δ : SD} : E KR_keptSet [.ref 84] (HH σ δ) (some (.int (bsA (σ 85)))) (HH σ δ) := by
  refine E.ofL [some (.ref 84)] rfl pn_RX9 rfl (fun sc => ?_)
  refine g_aload_n dX9_keptSet_0 rfl ?_
  refine g_iconst dX9_keptSet_1 ic_0 ?_
  refine g_v1 (M' := KR_isKept) dX9_keptSet_2 l_R_290 v_KR_isKept (c_KR_isKept (by omega)) rc_84 rfl rfl ⟨rfl, rfl⟩ ?_
  refine b_if_eq (tgt := 12) dX9_keptSet_5 rfl (fun zc5 => ?_) (fun zc5 => ?_)
  · refine g_iconst dX9_keptSet_12 ic_0 ?_
    refine g_aload_n dX9_keptSet_13 rfl ?_
    refine g_iconst dX9_keptSet_14 ic_1 ?_
    refine g_v1 (M' := KR_isKept) dX9_keptSet_15 l_R_290 v_KR_isKept (c_KR_isKept (by omega)) rc_84 rfl rfl ⟨rfl, rfl⟩ ?_
    refine b_if_eq (tgt := 25) dX9_keptSet_18 rfl (fun zc18 => ?_) (fun zc18 => ?_)
    · refine g_iconst dX9_keptSet_25 ic_0 ?_
      refine g_ior dX9_keptSet_26 ?_
      refine g_aload_n dX9_keptSet_27 rfl ?_
      refine g_iconst dX9_keptSet_28 ic_2 ?_
      refine g_v1 (M' := KR_isKept) dX9_keptSet_29 l_R_290 v_KR_isKept (c_KR_isKept (by omega)) rc_84 rfl rfl ⟨rfl, rfl⟩ ?_
      refine b_if_eq (tgt := 39) dX9_keptSet_32 rfl (fun zc32 => ?_) (fun zc32 => ?_)
      · refine g_iconst dX9_keptSet_39 ic_0 ?_
        refine g_ior dX9_keptSet_40 ?_
        exact e_iret dX9_keptSet_41 rfl (by exact (ks_eq zc5 zc18 zc32).symm) (by rfl)
      · refine g_iconst dX9_keptSet_35 ic_4 ?_
        refine g_goto (tgt := 40) dX9_keptSet_36 rfl ?_
        refine g_ior dX9_keptSet_40 ?_
        exact e_iret dX9_keptSet_41 rfl (by exact (ks_eq zc5 zc18 zc32).symm) (by rfl)
    · refine g_iconst dX9_keptSet_21 ic_2 ?_
      refine g_goto (tgt := 26) dX9_keptSet_22 rfl ?_
      refine g_ior dX9_keptSet_26 ?_
      refine g_aload_n dX9_keptSet_27 rfl ?_
      refine g_iconst dX9_keptSet_28 ic_2 ?_
      refine g_v1 (M' := KR_isKept) dX9_keptSet_29 l_R_290 v_KR_isKept (c_KR_isKept (by omega)) rc_84 rfl rfl ⟨rfl, rfl⟩ ?_
      refine b_if_eq (tgt := 39) dX9_keptSet_32 rfl (fun zc32 => ?_) (fun zc32 => ?_)
      · refine g_iconst dX9_keptSet_39 ic_0 ?_
        refine g_ior dX9_keptSet_40 ?_
        exact e_iret dX9_keptSet_41 rfl (by exact (ks_eq zc5 zc18 zc32).symm) (by rfl)
      · refine g_iconst dX9_keptSet_35 ic_4 ?_
        refine g_goto (tgt := 40) dX9_keptSet_36 rfl ?_
        refine g_ior dX9_keptSet_40 ?_
        exact e_iret dX9_keptSet_41 rfl (by exact (ks_eq zc5 zc18 zc32).symm) (by rfl)
  · refine g_iconst dX9_keptSet_8 ic_1 ?_
    refine g_goto (tgt := 13) dX9_keptSet_9 rfl ?_
    refine g_aload_n dX9_keptSet_13 rfl ?_
    refine g_iconst dX9_keptSet_14 ic_1 ?_
    refine g_v1 (M' := KR_isKept) dX9_keptSet_15 l_R_290 v_KR_isKept (c_KR_isKept (by omega)) rc_84 rfl rfl ⟨rfl, rfl⟩ ?_
    refine b_if_eq (tgt := 25) dX9_keptSet_18 rfl (fun zc18 => ?_) (fun zc18 => ?_)
    · refine g_iconst dX9_keptSet_25 ic_0 ?_
      refine g_ior dX9_keptSet_26 ?_
      refine g_aload_n dX9_keptSet_27 rfl ?_
      refine g_iconst dX9_keptSet_28 ic_2 ?_
      refine g_v1 (M' := KR_isKept) dX9_keptSet_29 l_R_290 v_KR_isKept (c_KR_isKept (by omega)) rc_84 rfl rfl ⟨rfl, rfl⟩ ?_
      refine b_if_eq (tgt := 39) dX9_keptSet_32 rfl (fun zc32 => ?_) (fun zc32 => ?_)
      · refine g_iconst dX9_keptSet_39 ic_0 ?_
        refine g_ior dX9_keptSet_40 ?_
        exact e_iret dX9_keptSet_41 rfl (by exact (ks_eq zc5 zc18 zc32).symm) (by rfl)
      · refine g_iconst dX9_keptSet_35 ic_4 ?_
        refine g_goto (tgt := 40) dX9_keptSet_36 rfl ?_
        refine g_ior dX9_keptSet_40 ?_
        exact e_iret dX9_keptSet_41 rfl (by exact (ks_eq zc5 zc18 zc32).symm) (by rfl)
    · refine g_iconst dX9_keptSet_21 ic_2 ?_
      refine g_goto (tgt := 26) dX9_keptSet_22 rfl ?_
      refine g_ior dX9_keptSet_26 ?_
      refine g_aload_n dX9_keptSet_27 rfl ?_
      refine g_iconst dX9_keptSet_28 ic_2 ?_
      refine g_v1 (M' := KR_isKept) dX9_keptSet_29 l_R_290 v_KR_isKept (c_KR_isKept (by omega)) rc_84 rfl rfl ⟨rfl, rfl⟩ ?_
      refine b_if_eq (tgt := 39) dX9_keptSet_32 rfl (fun zc32 => ?_) (fun zc32 => ?_)
      · refine g_iconst dX9_keptSet_39 ic_0 ?_
        refine g_ior dX9_keptSet_40 ?_
        exact e_iret dX9_keptSet_41 rfl (by exact (ks_eq zc5 zc18 zc32).symm) (by rfl)
      · refine g_iconst dX9_keptSet_35 ic_4 ?_
        refine g_goto (tgt := 40) dX9_keptSet_36 rfl ?_
        refine g_ior dX9_keptSet_40 ?_
        exact e_iret dX9_keptSet_41 rfl (by exact (ks_eq zc5 zc18 zc32).symm) (by rfl)
set_option maxRecDepth 100000 in
theorem c_KP_told_ok0 {σ : SI} {δ : SD} {a : Nat → Int32} {n s o tl : Nat} {P : Nat → Nat → Int32} {tx rf : Nat → Int32} (hI : IC σ a n s o P tl tx rf)  : E KP_told [.ref 5, .int (nI 0)] (HH σ δ) (some (.int (rf 0))) (HH σ δ) := by
  have hW := hI.hl.wf
  have hR := hI.hl.rb
  have hD := hI.hl.rd
  have h2 := hR.c
  have h8 := hW.n8
  have hB := LB_6
  refine E.ofL [some (.ref 5), some (.int (nI 0))] rfl pn_RX8 rfl (fun sc => ?_)
  refine g_iload_n dX8_told_0 rfl ?_
  refine g_iconst dX8_told_1 ic_0 ?_
  refine g_bipush dX8_told_2 bp_13 ?_
  refine g_s3 (M' := KP_within) dX8_told_4 l_P_96 s_KP_within c_KP_within rfl rfl ⟨rfl, rfl⟩ ?_
  refine g_top (show _ = bI true by decide +kernel) ?_
  refine g_s1 (M' := KP_goodIf) dX8_told_7 l_P_81 s_KP_goodIf c_KP_goodIf rfl rfl ⟨rfl, rfl⟩ ?_
  refine g_top (if_pos rfl) ?_
  refine g_istore_n dX8_told_10 rfl ?_
  refine g_aload_n dX8_told_11 rfl ?_
  refine g_iload_n dX8_told_12 rfl ?_
  refine g_v1 (M' := KP_mayAnswer) dX8_told_13 l_P_100 v_KP_mayAnswer c_KP_mayAnswer0 rc_5 rfl rfl ⟨rfl, rfl⟩ ?_
  refine b_if_ne (tgt := 21) dX8_told_16 rfl (fun zc16 => ?_) (fun zc16 => ?_)
  · refine g_iload_n dX8_told_21 rfl ?_
    refine g_tsw (tgt := 92) dX8_told_22 (by decide +kernel) (by decide) ?_
    refine g_aload_n dX8_told_92 rfl ?_
    refine q_geti dX8_told_93 f_P_255 ck_5 (by decide) ty_7_7 ?_
    refine g_top (hI.rz (j := 0) (by decide)) ?_
    exact e_iret dX8_told_96 rfl (by rfl) (by rfl)
  · exact absurd zc16 (by decide)
set_option maxRecDepth 100000 in
theorem c_KR_toldOf0 {σ : SI} {δ : SD} {a : Nat → Int32} {n s tl : Nat} {P : Nat → Nat → Int32} {tx rf : Nat → Int32} (hJ : IR σ a s P tl tx rf) (hs : s ≤ 5) (hW : WF a n) : E KR_toldOf [.ref 84, .int (nI 0)] (HH σ δ) (some (.int (rf 0))) (HH σ δ) := by
  obtain rfl := hJ.row
  have h3 := hJ.sd
  have h7 := hW.a7
  refine E.ofL [some (.ref 84), some (.int (nI 0))] rfl pn_RX9 rfl (fun sc => ?_)
  refine g_iload_n dX9_toldOf_0 rfl ?_
  refine g_lsw (tgt := 64) dX9_toldOf_1 (by decide +kernel) (by decide +kernel) ?_
  refine g_iload_n dX9_toldOf_64 rfl ?_
  refine g_iconst dX9_toldOf_65 ic_3 ?_
  refine n_icmp_ge (tgt := 78) (by omega) (by omega) dX9_toldOf_66 rfl (fun zc66 => ?_) (fun zc66 => ?_)
  · exact absurd zc66 (by decide)
  · refine g_aload_n dX9_toldOf_69 rfl ?_
    refine q_getq dX9_toldOf_70 f_R_19 ck_84 (by decide) ty_8_4 rf_84_4 ?_
    refine g_iload_n dX9_toldOf_73 rfl ?_
    refine q_iald dX9_toldOf_74 ck_88 (ixD_nI (by omega) (by decide)) ?_
    refine g_top (hJ.rz (j := 0) (by decide)) ?_
    refine g_goto (tgt := 86) dX9_toldOf_75 rfl ?_
    exact e_iret dX9_toldOf_86 rfl (by rfl) (by rfl)
set_option maxRecDepth 100000 in
theorem c_KR_told_ok0 {σ : SI} {δ : SD} {a : Nat → Int32} {n s tl : Nat} {P : Nat → Nat → Int32} {tx rf : Nat → Int32} (hJ : IR σ a s P tl tx rf) (hs : s ≤ 5) (hW : WF a n)  : E KR_told [.ref 84, .int (nI 0)] (HH σ δ) (some (.int (rf 0))) (HH σ δ) := by
  obtain rfl := hJ.row
  have h3 := hJ.sd
  have hn := hW.n8
  have h7 := hW.a7
  have h8 := hW.n8
  refine E.ofL [some (.ref 84), some (.int (nI 0))] rfl pn_RX9 rfl (fun sc => ?_)
  refine g_iload_n dX9_told_0 rfl ?_
  refine g_i2l dX9_told_1 ?_
  refine g_lconst (v := 0) dX9_told_2 rfl ?_
  refine g_ldcl dX9_told_3 c_R_348 ?_
  refine g_s3 (M' := KR_in) dX9_told_6 l_R_46 s_KR_in c_KR_in rfl rfl ⟨rfl, rfl⟩ ?_
  refine g_top (show _ = nI 1 by decide +kernel) ?_
  refine n_if_eq (tgt := 20) (by omega) dX9_told_9 rfl (fun zc9 => absurd zc9 (by decide)) (fun _ => ?_)
  refine g_aload_n dX9_told_12 rfl ?_
  refine g_iload_n dX9_told_13 rfl ?_
  refine g_v1 (M' := KR_toldOf) dX9_told_14 l_R_350 v_KR_toldOf (c_KR_toldOf0 hJ hs hW) rc_84 rfl rfl ⟨rfl, rfl⟩ ?_
  refine g_goto (tgt := 26) dX9_told_17 rfl ?_
  exact e_iret dX9_told_26 rfl (by rfl) (by rfl)
set_option maxRecDepth 100000 in
theorem c_KP_told_ok1 {σ : SI} {δ : SD} {a : Nat → Int32} {n s o tl : Nat} {P : Nat → Nat → Int32} {tx rf : Nat → Int32} (hI : IC σ a n s o P tl tx rf)  : E KP_told [.ref 5, .int (nI 1)] (HH σ δ) (some (.int (rf 1))) (HH σ δ) := by
  have hW := hI.hl.wf
  have hR := hI.hl.rb
  have hD := hI.hl.rd
  have h2 := hR.c
  have h8 := hW.n8
  have hB := LB_6
  refine E.ofL [some (.ref 5), some (.int (nI 1))] rfl pn_RX8 rfl (fun sc => ?_)
  refine g_iload_n dX8_told_0 rfl ?_
  refine g_iconst dX8_told_1 ic_0 ?_
  refine g_bipush dX8_told_2 bp_13 ?_
  refine g_s3 (M' := KP_within) dX8_told_4 l_P_96 s_KP_within c_KP_within rfl rfl ⟨rfl, rfl⟩ ?_
  refine g_top (show _ = bI true by decide +kernel) ?_
  refine g_s1 (M' := KP_goodIf) dX8_told_7 l_P_81 s_KP_goodIf c_KP_goodIf rfl rfl ⟨rfl, rfl⟩ ?_
  refine g_top (if_pos rfl) ?_
  refine g_istore_n dX8_told_10 rfl ?_
  refine g_aload_n dX8_told_11 rfl ?_
  refine g_iload_n dX8_told_12 rfl ?_
  refine g_v1 (M' := KP_mayAnswer) dX8_told_13 l_P_100 v_KP_mayAnswer c_KP_mayAnswer0 rc_5 rfl rfl ⟨rfl, rfl⟩ ?_
  refine b_if_ne (tgt := 21) dX8_told_16 rfl (fun zc16 => ?_) (fun zc16 => ?_)
  · refine g_iload_n dX8_told_21 rfl ?_
    refine g_tsw (tgt := 97) dX8_told_22 (by decide +kernel) (by decide) ?_
    refine g_aload_n dX8_told_97 rfl ?_
    refine q_geti dX8_told_98 f_P_258 ck_5 (by decide) ty_7_8 ?_
    refine g_top (hI.rz (j := 1) (by decide)) ?_
    exact e_iret dX8_told_101 rfl (by rfl) (by rfl)
  · exact absurd zc16 (by decide)
set_option maxRecDepth 100000 in
theorem c_KR_toldOf1 {σ : SI} {δ : SD} {a : Nat → Int32} {n s tl : Nat} {P : Nat → Nat → Int32} {tx rf : Nat → Int32} (hJ : IR σ a s P tl tx rf) (hs : s ≤ 5) (hW : WF a n) : E KR_toldOf [.ref 84, .int (nI 1)] (HH σ δ) (some (.int (rf 1))) (HH σ δ) := by
  obtain rfl := hJ.row
  have h3 := hJ.sd
  have h7 := hW.a7
  refine E.ofL [some (.ref 84), some (.int (nI 1))] rfl pn_RX9 rfl (fun sc => ?_)
  refine g_iload_n dX9_toldOf_0 rfl ?_
  refine g_lsw (tgt := 64) dX9_toldOf_1 (by decide +kernel) (by decide +kernel) ?_
  refine g_iload_n dX9_toldOf_64 rfl ?_
  refine g_iconst dX9_toldOf_65 ic_3 ?_
  refine n_icmp_ge (tgt := 78) (by omega) (by omega) dX9_toldOf_66 rfl (fun zc66 => ?_) (fun zc66 => ?_)
  · exact absurd zc66 (by decide)
  · refine g_aload_n dX9_toldOf_69 rfl ?_
    refine q_getq dX9_toldOf_70 f_R_19 ck_84 (by decide) ty_8_4 rf_84_4 ?_
    refine g_iload_n dX9_toldOf_73 rfl ?_
    refine q_iald dX9_toldOf_74 ck_88 (ixD_nI (by omega) (by decide)) ?_
    refine g_top (hJ.rz (j := 1) (by decide)) ?_
    refine g_goto (tgt := 86) dX9_toldOf_75 rfl ?_
    exact e_iret dX9_toldOf_86 rfl (by rfl) (by rfl)
set_option maxRecDepth 100000 in
theorem c_KR_told_ok1 {σ : SI} {δ : SD} {a : Nat → Int32} {n s tl : Nat} {P : Nat → Nat → Int32} {tx rf : Nat → Int32} (hJ : IR σ a s P tl tx rf) (hs : s ≤ 5) (hW : WF a n)  : E KR_told [.ref 84, .int (nI 1)] (HH σ δ) (some (.int (rf 1))) (HH σ δ) := by
  obtain rfl := hJ.row
  have h3 := hJ.sd
  have hn := hW.n8
  have h7 := hW.a7
  have h8 := hW.n8
  refine E.ofL [some (.ref 84), some (.int (nI 1))] rfl pn_RX9 rfl (fun sc => ?_)
  refine g_iload_n dX9_told_0 rfl ?_
  refine g_i2l dX9_told_1 ?_
  refine g_lconst (v := 0) dX9_told_2 rfl ?_
  refine g_ldcl dX9_told_3 c_R_348 ?_
  refine g_s3 (M' := KR_in) dX9_told_6 l_R_46 s_KR_in c_KR_in rfl rfl ⟨rfl, rfl⟩ ?_
  refine g_top (show _ = nI 1 by decide +kernel) ?_
  refine n_if_eq (tgt := 20) (by omega) dX9_told_9 rfl (fun zc9 => absurd zc9 (by decide)) (fun _ => ?_)
  refine g_aload_n dX9_told_12 rfl ?_
  refine g_iload_n dX9_told_13 rfl ?_
  refine g_v1 (M' := KR_toldOf) dX9_told_14 l_R_350 v_KR_toldOf (c_KR_toldOf1 hJ hs hW) rc_84 rfl rfl ⟨rfl, rfl⟩ ?_
  refine g_goto (tgt := 26) dX9_told_17 rfl ?_
  exact e_iret dX9_told_26 rfl (by rfl) (by rfl)
set_option maxRecDepth 100000 in
theorem c_KP_told_ok2 {σ : SI} {δ : SD} {a : Nat → Int32} {n s o tl : Nat} {P : Nat → Nat → Int32} {tx rf : Nat → Int32} (hI : IC σ a n s o P tl tx rf)  : E KP_told [.ref 5, .int (nI 2)] (HH σ δ) (some (.int (rf 2))) (HH σ δ) := by
  have hW := hI.hl.wf
  have hR := hI.hl.rb
  have hD := hI.hl.rd
  have h2 := hR.c
  have h8 := hW.n8
  have hB := LB_6
  refine E.ofL [some (.ref 5), some (.int (nI 2))] rfl pn_RX8 rfl (fun sc => ?_)
  refine g_iload_n dX8_told_0 rfl ?_
  refine g_iconst dX8_told_1 ic_0 ?_
  refine g_bipush dX8_told_2 bp_13 ?_
  refine g_s3 (M' := KP_within) dX8_told_4 l_P_96 s_KP_within c_KP_within rfl rfl ⟨rfl, rfl⟩ ?_
  refine g_top (show _ = bI true by decide +kernel) ?_
  refine g_s1 (M' := KP_goodIf) dX8_told_7 l_P_81 s_KP_goodIf c_KP_goodIf rfl rfl ⟨rfl, rfl⟩ ?_
  refine g_top (if_pos rfl) ?_
  refine g_istore_n dX8_told_10 rfl ?_
  refine g_aload_n dX8_told_11 rfl ?_
  refine g_iload_n dX8_told_12 rfl ?_
  refine g_v1 (M' := KP_mayAnswer) dX8_told_13 l_P_100 v_KP_mayAnswer c_KP_mayAnswer0 rc_5 rfl rfl ⟨rfl, rfl⟩ ?_
  refine b_if_ne (tgt := 21) dX8_told_16 rfl (fun zc16 => ?_) (fun zc16 => ?_)
  · refine g_iload_n dX8_told_21 rfl ?_
    refine g_tsw (tgt := 102) dX8_told_22 (by decide +kernel) (by decide) ?_
    refine g_aload_n dX8_told_102 rfl ?_
    refine q_geti dX8_told_103 f_P_261 ck_5 (by decide) ty_7_9 ?_
    refine g_top (hI.rz (j := 2) (by decide)) ?_
    exact e_iret dX8_told_106 rfl (by rfl) (by rfl)
  · exact absurd zc16 (by decide)
set_option maxRecDepth 100000 in
theorem c_KR_toldOf2 {σ : SI} {δ : SD} {a : Nat → Int32} {n s tl : Nat} {P : Nat → Nat → Int32} {tx rf : Nat → Int32} (hJ : IR σ a s P tl tx rf) (hs : s ≤ 5) (hW : WF a n) : E KR_toldOf [.ref 84, .int (nI 2)] (HH σ δ) (some (.int (rf 2))) (HH σ δ) := by
  obtain rfl := hJ.row
  have h3 := hJ.sd
  have h7 := hW.a7
  refine E.ofL [some (.ref 84), some (.int (nI 2))] rfl pn_RX9 rfl (fun sc => ?_)
  refine g_iload_n dX9_toldOf_0 rfl ?_
  refine g_lsw (tgt := 64) dX9_toldOf_1 (by decide +kernel) (by decide +kernel) ?_
  refine g_iload_n dX9_toldOf_64 rfl ?_
  refine g_iconst dX9_toldOf_65 ic_3 ?_
  refine n_icmp_ge (tgt := 78) (by omega) (by omega) dX9_toldOf_66 rfl (fun zc66 => ?_) (fun zc66 => ?_)
  · exact absurd zc66 (by decide)
  · refine g_aload_n dX9_toldOf_69 rfl ?_
    refine q_getq dX9_toldOf_70 f_R_19 ck_84 (by decide) ty_8_4 rf_84_4 ?_
    refine g_iload_n dX9_toldOf_73 rfl ?_
    refine q_iald dX9_toldOf_74 ck_88 (ixD_nI (by omega) (by decide)) ?_
    refine g_top (hJ.rz (j := 2) (by decide)) ?_
    refine g_goto (tgt := 86) dX9_toldOf_75 rfl ?_
    exact e_iret dX9_toldOf_86 rfl (by rfl) (by rfl)
set_option maxRecDepth 100000 in
theorem c_KR_told_ok2 {σ : SI} {δ : SD} {a : Nat → Int32} {n s tl : Nat} {P : Nat → Nat → Int32} {tx rf : Nat → Int32} (hJ : IR σ a s P tl tx rf) (hs : s ≤ 5) (hW : WF a n)  : E KR_told [.ref 84, .int (nI 2)] (HH σ δ) (some (.int (rf 2))) (HH σ δ) := by
  obtain rfl := hJ.row
  have h3 := hJ.sd
  have hn := hW.n8
  have h7 := hW.a7
  have h8 := hW.n8
  refine E.ofL [some (.ref 84), some (.int (nI 2))] rfl pn_RX9 rfl (fun sc => ?_)
  refine g_iload_n dX9_told_0 rfl ?_
  refine g_i2l dX9_told_1 ?_
  refine g_lconst (v := 0) dX9_told_2 rfl ?_
  refine g_ldcl dX9_told_3 c_R_348 ?_
  refine g_s3 (M' := KR_in) dX9_told_6 l_R_46 s_KR_in c_KR_in rfl rfl ⟨rfl, rfl⟩ ?_
  refine g_top (show _ = nI 1 by decide +kernel) ?_
  refine n_if_eq (tgt := 20) (by omega) dX9_told_9 rfl (fun zc9 => absurd zc9 (by decide)) (fun _ => ?_)
  refine g_aload_n dX9_told_12 rfl ?_
  refine g_iload_n dX9_told_13 rfl ?_
  refine g_v1 (M' := KR_toldOf) dX9_told_14 l_R_350 v_KR_toldOf (c_KR_toldOf2 hJ hs hW) rc_84 rfl rfl ⟨rfl, rfl⟩ ?_
  refine g_goto (tgt := 26) dX9_told_17 rfl ?_
  exact e_iret dX9_told_26 rfl (by rfl) (by rfl)
set_option maxRecDepth 100000 in
theorem c_KP_told_ok3 {σ : SI} {δ : SD} {a : Nat → Int32} {n s o tl : Nat} {P : Nat → Nat → Int32} {tx rf : Nat → Int32} (hI : IC σ a n s o P tl tx rf)  : E KP_told [.ref 5, .int (nI 3)] (HH σ δ) (some (.int (nI tl))) (HH σ δ) := by
  have hW := hI.hl.wf
  have hR := hI.hl.rb
  have hD := hI.hl.rd
  have h2 := hR.c
  have h8 := hW.n8
  have hB := LB_6
  refine E.ofL [some (.ref 5), some (.int (nI 3))] rfl pn_RX8 rfl (fun sc => ?_)
  refine g_iload_n dX8_told_0 rfl ?_
  refine g_iconst dX8_told_1 ic_0 ?_
  refine g_bipush dX8_told_2 bp_13 ?_
  refine g_s3 (M' := KP_within) dX8_told_4 l_P_96 s_KP_within c_KP_within rfl rfl ⟨rfl, rfl⟩ ?_
  refine g_top (show _ = bI true by decide +kernel) ?_
  refine g_s1 (M' := KP_goodIf) dX8_told_7 l_P_81 s_KP_goodIf c_KP_goodIf rfl rfl ⟨rfl, rfl⟩ ?_
  refine g_top (if_pos rfl) ?_
  refine g_istore_n dX8_told_10 rfl ?_
  refine g_aload_n dX8_told_11 rfl ?_
  refine g_iload_n dX8_told_12 rfl ?_
  refine g_v1 (M' := KP_mayAnswer) dX8_told_13 l_P_100 v_KP_mayAnswer c_KP_mayAnswer0 rc_5 rfl rfl ⟨rfl, rfl⟩ ?_
  refine b_if_ne (tgt := 21) dX8_told_16 rfl (fun zc16 => ?_) (fun zc16 => ?_)
  · refine g_iload_n dX8_told_21 rfl ?_
    refine g_tsw (tgt := 107) dX8_told_22 (by decide +kernel) (by decide) ?_
    refine g_aload_n dX8_told_107 rfl ?_
    refine q_getq dX8_told_108 f_P_50 ck_5 (by decide) ty_7_6 rf_5_6 ?_
    refine q_geti dX8_told_111 f_P_264 ck_80 (by decide) ty_5_0 ?_
    refine g_top hI.t.2 ?_
    exact e_iret dX8_told_114 rfl (by rfl) (by rfl)
  · exact absurd zc16 (by decide)
set_option maxRecDepth 100000 in
theorem c_KR_toldOf3 {σ : SI} {δ : SD} {a : Nat → Int32} {n s tl : Nat} {P : Nat → Nat → Int32} {tx rf : Nat → Int32} (hJ : IR σ a s P tl tx rf) (hs : s ≤ 5) (hW : WF a n) : E KR_toldOf [.ref 84, .int (nI 3)] (HH σ δ) (some (.int (nI tl))) (HH σ δ) := by
  obtain rfl := hJ.row
  have h3 := hJ.sd
  have h7 := hW.a7
  refine E.ofL [some (.ref 84), some (.int (nI 3))] rfl pn_RX9 rfl (fun sc => ?_)
  refine g_iload_n dX9_toldOf_0 rfl ?_
  refine g_lsw (tgt := 44) dX9_toldOf_1 (by decide +kernel) (by decide +kernel) ?_
  refine g_aload_n dX9_toldOf_44 rfl ?_
  refine q_geti dX9_toldOf_45 f_R_301 ck_84 (by decide) ty_8_12 ?_
  refine g_top hJ.t ?_
  exact e_iret dX9_toldOf_48 rfl (by rfl) (by rfl)
set_option maxRecDepth 100000 in
theorem c_KR_told_ok3 {σ : SI} {δ : SD} {a : Nat → Int32} {n s tl : Nat} {P : Nat → Nat → Int32} {tx rf : Nat → Int32} (hJ : IR σ a s P tl tx rf) (hs : s ≤ 5) (hW : WF a n)  : E KR_told [.ref 84, .int (nI 3)] (HH σ δ) (some (.int (nI tl))) (HH σ δ) := by
  obtain rfl := hJ.row
  have h3 := hJ.sd
  have hn := hW.n8
  have h7 := hW.a7
  have h8 := hW.n8
  refine E.ofL [some (.ref 84), some (.int (nI 3))] rfl pn_RX9 rfl (fun sc => ?_)
  refine g_iload_n dX9_told_0 rfl ?_
  refine g_i2l dX9_told_1 ?_
  refine g_lconst (v := 0) dX9_told_2 rfl ?_
  refine g_ldcl dX9_told_3 c_R_348 ?_
  refine g_s3 (M' := KR_in) dX9_told_6 l_R_46 s_KR_in c_KR_in rfl rfl ⟨rfl, rfl⟩ ?_
  refine g_top (show _ = nI 1 by decide +kernel) ?_
  refine n_if_eq (tgt := 20) (by omega) dX9_told_9 rfl (fun zc9 => absurd zc9 (by decide)) (fun _ => ?_)
  refine g_aload_n dX9_told_12 rfl ?_
  refine g_iload_n dX9_told_13 rfl ?_
  refine g_v1 (M' := KR_toldOf) dX9_told_14 l_R_350 v_KR_toldOf (c_KR_toldOf3 hJ hs hW) rc_84 rfl rfl ⟨rfl, rfl⟩ ?_
  refine g_goto (tgt := 26) dX9_told_17 rfl ?_
  exact e_iret dX9_told_26 rfl (by rfl) (by rfl)
set_option maxRecDepth 100000 in
theorem c_KP_told_ok4 {σ : SI} {δ : SD} {a : Nat → Int32} {n s o tl : Nat} {P : Nat → Nat → Int32} {tx rf : Nat → Int32} (hI : IC σ a n s o P tl tx rf)  : E KP_told [.ref 5, .int (nI 4)] (HH σ δ) (some (.int (nI n))) (HH σ δ) := by
  have hW := hI.hl.wf
  have hR := hI.hl.rb
  have hD := hI.hl.rd
  have h2 := hR.c
  have h8 := hW.n8
  have hB := LB_6
  refine E.ofL [some (.ref 5), some (.int (nI 4))] rfl pn_RX8 rfl (fun sc => ?_)
  refine g_iload_n dX8_told_0 rfl ?_
  refine g_iconst dX8_told_1 ic_0 ?_
  refine g_bipush dX8_told_2 bp_13 ?_
  refine g_s3 (M' := KP_within) dX8_told_4 l_P_96 s_KP_within c_KP_within rfl rfl ⟨rfl, rfl⟩ ?_
  refine g_top (show _ = bI true by decide +kernel) ?_
  refine g_s1 (M' := KP_goodIf) dX8_told_7 l_P_81 s_KP_goodIf c_KP_goodIf rfl rfl ⟨rfl, rfl⟩ ?_
  refine g_top (if_pos rfl) ?_
  refine g_istore_n dX8_told_10 rfl ?_
  refine g_aload_n dX8_told_11 rfl ?_
  refine g_iload_n dX8_told_12 rfl ?_
  refine g_v1 (M' := KP_mayAnswer) dX8_told_13 l_P_100 v_KP_mayAnswer c_KP_mayAnswer0 rc_5 rfl rfl ⟨rfl, rfl⟩ ?_
  refine b_if_ne (tgt := 21) dX8_told_16 rfl (fun zc16 => ?_) (fun zc16 => ?_)
  · refine g_iload_n dX8_told_21 rfl ?_
    refine g_tsw (tgt := 115) dX8_told_22 (by decide +kernel) (by decide) ?_
    refine g_aload_n dX8_told_115 rfl ?_
    refine q_getq dX8_told_116 f_P_12 ck_5 (by decide) ty_7_0 rf_5_0 ?_
    refine q_geti dX8_told_119 f_P_267 ck_6 (by decide) ty_0_2 ?_
    refine g_top h2 ?_
    exact e_iret dX8_told_122 rfl (by rfl) (by rfl)
  · exact absurd zc16 (by decide)
set_option maxRecDepth 100000 in
theorem c_KR_toldOf4 {σ : SI} {δ : SD} {a : Nat → Int32} {n s tl : Nat} {P : Nat → Nat → Int32} {tx rf : Nat → Int32} (hJ : IR σ a s P tl tx rf) (hs : s ≤ 5) (hW : WF a n) : E KR_toldOf [.ref 84, .int (nI 4)] (HH σ δ) (some (.int (nI n))) (HH σ δ) := by
  obtain rfl := hJ.row
  have h3 := hJ.sd
  have h7 := hW.a7
  refine E.ofL [some (.ref 84), some (.int (nI 4))] rfl pn_RX9 rfl (fun sc => ?_)
  refine g_iload_n dX9_toldOf_0 rfl ?_
  refine g_lsw (tgt := 49) dX9_toldOf_1 (by decide +kernel) (by decide +kernel) ?_
  refine g_aload_n dX9_toldOf_49 rfl ?_
  refine g_v0 (M' := KR_many) dX9_toldOf_50 l_R_42 v_KR_many c_KR_many rc_84 rfl rfl ⟨rfl, rfl⟩ ?_
  refine g_top h7 ?_
  exact e_iret dX9_toldOf_53 rfl (by rfl) (by rfl)
set_option maxRecDepth 100000 in
theorem c_KR_told_ok4 {σ : SI} {δ : SD} {a : Nat → Int32} {n s tl : Nat} {P : Nat → Nat → Int32} {tx rf : Nat → Int32} (hJ : IR σ a s P tl tx rf) (hs : s ≤ 5) (hW : WF a n)  : E KR_told [.ref 84, .int (nI 4)] (HH σ δ) (some (.int (nI n))) (HH σ δ) := by
  obtain rfl := hJ.row
  have h3 := hJ.sd
  have hn := hW.n8
  have h7 := hW.a7
  have h8 := hW.n8
  refine E.ofL [some (.ref 84), some (.int (nI 4))] rfl pn_RX9 rfl (fun sc => ?_)
  refine g_iload_n dX9_told_0 rfl ?_
  refine g_i2l dX9_told_1 ?_
  refine g_lconst (v := 0) dX9_told_2 rfl ?_
  refine g_ldcl dX9_told_3 c_R_348 ?_
  refine g_s3 (M' := KR_in) dX9_told_6 l_R_46 s_KR_in c_KR_in rfl rfl ⟨rfl, rfl⟩ ?_
  refine g_top (show _ = nI 1 by decide +kernel) ?_
  refine n_if_eq (tgt := 20) (by omega) dX9_told_9 rfl (fun zc9 => absurd zc9 (by decide)) (fun _ => ?_)
  refine g_aload_n dX9_told_12 rfl ?_
  refine g_iload_n dX9_told_13 rfl ?_
  refine g_v1 (M' := KR_toldOf) dX9_told_14 l_R_350 v_KR_toldOf (c_KR_toldOf4 hJ hs hW) rc_84 rfl rfl ⟨rfl, rfl⟩ ?_
  refine g_goto (tgt := 26) dX9_told_17 rfl ?_
  exact e_iret dX9_told_26 rfl (by rfl) (by rfl)
set_option maxRecDepth 100000 in
theorem c_KP_told_ok5 {σ : SI} {δ : SD} {a : Nat → Int32} {n s o tl : Nat} {P : Nat → Nat → Int32} {tx rf : Nat → Int32} (hI : IC σ a n s o P tl tx rf)  : E KP_told [.ref 5, .int (nI 5)] (HH σ δ) (some (.int (a 0))) (HH σ δ) := by
  have hW := hI.hl.wf
  have hR := hI.hl.rb
  have hD := hI.hl.rd
  have h2 := hR.c
  have h8 := hW.n8
  have hB := LB_6
  refine E.ofL [some (.ref 5), some (.int (nI 5))] rfl pn_RX8 rfl (fun sc => ?_)
  refine g_iload_n dX8_told_0 rfl ?_
  refine g_iconst dX8_told_1 ic_0 ?_
  refine g_bipush dX8_told_2 bp_13 ?_
  refine g_s3 (M' := KP_within) dX8_told_4 l_P_96 s_KP_within c_KP_within rfl rfl ⟨rfl, rfl⟩ ?_
  refine g_top (show _ = bI true by decide +kernel) ?_
  refine g_s1 (M' := KP_goodIf) dX8_told_7 l_P_81 s_KP_goodIf c_KP_goodIf rfl rfl ⟨rfl, rfl⟩ ?_
  refine g_top (if_pos rfl) ?_
  refine g_istore_n dX8_told_10 rfl ?_
  refine g_aload_n dX8_told_11 rfl ?_
  refine g_iload_n dX8_told_12 rfl ?_
  refine g_v1 (M' := KP_mayAnswer) dX8_told_13 l_P_100 v_KP_mayAnswer c_KP_mayAnswer0 rc_5 rfl rfl ⟨rfl, rfl⟩ ?_
  refine b_if_ne (tgt := 21) dX8_told_16 rfl (fun zc16 => ?_) (fun zc16 => ?_)
  · refine g_iload_n dX8_told_21 rfl ?_
    refine g_tsw (tgt := 123) dX8_told_22 (by decide +kernel) (by decide) ?_
    refine g_aload_n dX8_told_123 rfl ?_
    refine q_getq dX8_told_124 f_P_12 ck_5 (by decide) ty_7_0 rf_5_0 ?_
    refine q_geti dX8_told_127 f_P_166 ck_6 (by decide) ty_0_0 ?_
    refine g_top hR.w ?_
    exact e_iret dX8_told_130 rfl (by rfl) (by rfl)
  · exact absurd zc16 (by decide)
set_option maxRecDepth 100000 in
theorem c_KR_toldOf5 {σ : SI} {δ : SD} {a : Nat → Int32} {n s tl : Nat} {P : Nat → Nat → Int32} {tx rf : Nat → Int32} (hJ : IR σ a s P tl tx rf) (hs : s ≤ 5) (hW : WF a n) : E KR_toldOf [.ref 84, .int (nI 5)] (HH σ δ) (some (.int (a 0))) (HH σ δ) := by
  obtain rfl := hJ.row
  have h3 := hJ.sd
  have h7 := hW.a7
  refine E.ofL [some (.ref 84), some (.int (nI 5))] rfl pn_RX9 rfl (fun sc => ?_)
  refine g_iload_n dX9_toldOf_0 rfl ?_
  refine g_lsw (tgt := 64) dX9_toldOf_1 (by decide +kernel) (by decide +kernel) ?_
  refine g_iload_n dX9_toldOf_64 rfl ?_
  refine g_iconst dX9_toldOf_65 ic_3 ?_
  refine n_icmp_ge (tgt := 78) (by omega) (by omega) dX9_toldOf_66 rfl (fun zc66 => ?_) (fun zc66 => ?_)
  · refine g_aload_n dX9_toldOf_78 rfl ?_
    refine q_getq dX9_toldOf_79 f_R_7 ck_84 (by decide) ty_8_0 rf_84_0 ?_
    refine g_iload_n dX9_toldOf_82 rfl ?_
    refine g_iconst dX9_toldOf_83 ic_5 ?_
    refine n_isub dX9_toldOf_84 (by omega) ?_
    refine q_iald dX9_toldOf_85 ck_85 (ixD_nI (by omega) (by decide)) ?_
    exact e_iret dX9_toldOf_86 rfl (by rfl) (by rfl)
  · exact absurd zc66 (by decide)
set_option maxRecDepth 100000 in
theorem c_KR_told_ok5 {σ : SI} {δ : SD} {a : Nat → Int32} {n s tl : Nat} {P : Nat → Nat → Int32} {tx rf : Nat → Int32} (hJ : IR σ a s P tl tx rf) (hs : s ≤ 5) (hW : WF a n)  : E KR_told [.ref 84, .int (nI 5)] (HH σ δ) (some (.int (a 0))) (HH σ δ) := by
  obtain rfl := hJ.row
  have h3 := hJ.sd
  have hn := hW.n8
  have h7 := hW.a7
  have h8 := hW.n8
  refine E.ofL [some (.ref 84), some (.int (nI 5))] rfl pn_RX9 rfl (fun sc => ?_)
  refine g_iload_n dX9_told_0 rfl ?_
  refine g_i2l dX9_told_1 ?_
  refine g_lconst (v := 0) dX9_told_2 rfl ?_
  refine g_ldcl dX9_told_3 c_R_348 ?_
  refine g_s3 (M' := KR_in) dX9_told_6 l_R_46 s_KR_in c_KR_in rfl rfl ⟨rfl, rfl⟩ ?_
  refine g_top (show _ = nI 1 by decide +kernel) ?_
  refine n_if_eq (tgt := 20) (by omega) dX9_told_9 rfl (fun zc9 => absurd zc9 (by decide)) (fun _ => ?_)
  refine g_aload_n dX9_told_12 rfl ?_
  refine g_iload_n dX9_told_13 rfl ?_
  refine g_v1 (M' := KR_toldOf) dX9_told_14 l_R_350 v_KR_toldOf (c_KR_toldOf5 hJ hs hW) rc_84 rfl rfl ⟨rfl, rfl⟩ ?_
  refine g_goto (tgt := 26) dX9_told_17 rfl ?_
  exact e_iret dX9_told_26 rfl (by rfl) (by rfl)
set_option maxRecDepth 100000 in
theorem c_KP_told_ok6 {σ : SI} {δ : SD} {a : Nat → Int32} {n s o tl : Nat} {P : Nat → Nat → Int32} {tx rf : Nat → Int32} (hI : IC σ a n s o P tl tx rf)  : E KP_told [.ref 5, .int (nI 6)] (HH σ δ) (some (.int (a 1))) (HH σ δ) := by
  have hW := hI.hl.wf
  have hR := hI.hl.rb
  have hD := hI.hl.rd
  have h2 := hR.c
  have h8 := hW.n8
  have hB := LB_6
  refine E.ofL [some (.ref 5), some (.int (nI 6))] rfl pn_RX8 rfl (fun sc => ?_)
  refine g_iload_n dX8_told_0 rfl ?_
  refine g_iconst dX8_told_1 ic_0 ?_
  refine g_bipush dX8_told_2 bp_13 ?_
  refine g_s3 (M' := KP_within) dX8_told_4 l_P_96 s_KP_within c_KP_within rfl rfl ⟨rfl, rfl⟩ ?_
  refine g_top (show _ = bI true by decide +kernel) ?_
  refine g_s1 (M' := KP_goodIf) dX8_told_7 l_P_81 s_KP_goodIf c_KP_goodIf rfl rfl ⟨rfl, rfl⟩ ?_
  refine g_top (if_pos rfl) ?_
  refine g_istore_n dX8_told_10 rfl ?_
  refine g_aload_n dX8_told_11 rfl ?_
  refine g_iload_n dX8_told_12 rfl ?_
  refine g_v1 (M' := KP_mayAnswer) dX8_told_13 l_P_100 v_KP_mayAnswer c_KP_mayAnswer0 rc_5 rfl rfl ⟨rfl, rfl⟩ ?_
  refine b_if_ne (tgt := 21) dX8_told_16 rfl (fun zc16 => ?_) (fun zc16 => ?_)
  · refine g_iload_n dX8_told_21 rfl ?_
    refine g_tsw (tgt := 131) dX8_told_22 (by decide +kernel) (by decide) ?_
    refine g_aload_n dX8_told_131 rfl ?_
    refine q_getq dX8_told_132 f_P_12 ck_5 (by decide) ty_7_0 rf_5_0 ?_
    refine q_geti dX8_told_135 f_P_170 ck_6 (by decide) ty_0_1 ?_
    refine g_top hR.h ?_
    exact e_iret dX8_told_138 rfl (by rfl) (by rfl)
  · exact absurd zc16 (by decide)
set_option maxRecDepth 100000 in
theorem c_KR_toldOf6 {σ : SI} {δ : SD} {a : Nat → Int32} {n s tl : Nat} {P : Nat → Nat → Int32} {tx rf : Nat → Int32} (hJ : IR σ a s P tl tx rf) (hs : s ≤ 5) (hW : WF a n) : E KR_toldOf [.ref 84, .int (nI 6)] (HH σ δ) (some (.int (a 1))) (HH σ δ) := by
  obtain rfl := hJ.row
  have h3 := hJ.sd
  have h7 := hW.a7
  refine E.ofL [some (.ref 84), some (.int (nI 6))] rfl pn_RX9 rfl (fun sc => ?_)
  refine g_iload_n dX9_toldOf_0 rfl ?_
  refine g_lsw (tgt := 64) dX9_toldOf_1 (by decide +kernel) (by decide +kernel) ?_
  refine g_iload_n dX9_toldOf_64 rfl ?_
  refine g_iconst dX9_toldOf_65 ic_3 ?_
  refine n_icmp_ge (tgt := 78) (by omega) (by omega) dX9_toldOf_66 rfl (fun zc66 => ?_) (fun zc66 => ?_)
  · refine g_aload_n dX9_toldOf_78 rfl ?_
    refine q_getq dX9_toldOf_79 f_R_7 ck_84 (by decide) ty_8_0 rf_84_0 ?_
    refine g_iload_n dX9_toldOf_82 rfl ?_
    refine g_iconst dX9_toldOf_83 ic_5 ?_
    refine n_isub dX9_toldOf_84 (by omega) ?_
    refine q_iald dX9_toldOf_85 ck_85 (ixD_nI (by omega) (by decide)) ?_
    exact e_iret dX9_toldOf_86 rfl (by rfl) (by rfl)
  · exact absurd zc66 (by decide)
set_option maxRecDepth 100000 in
theorem c_KR_told_ok6 {σ : SI} {δ : SD} {a : Nat → Int32} {n s tl : Nat} {P : Nat → Nat → Int32} {tx rf : Nat → Int32} (hJ : IR σ a s P tl tx rf) (hs : s ≤ 5) (hW : WF a n)  : E KR_told [.ref 84, .int (nI 6)] (HH σ δ) (some (.int (a 1))) (HH σ δ) := by
  obtain rfl := hJ.row
  have h3 := hJ.sd
  have hn := hW.n8
  have h7 := hW.a7
  have h8 := hW.n8
  refine E.ofL [some (.ref 84), some (.int (nI 6))] rfl pn_RX9 rfl (fun sc => ?_)
  refine g_iload_n dX9_told_0 rfl ?_
  refine g_i2l dX9_told_1 ?_
  refine g_lconst (v := 0) dX9_told_2 rfl ?_
  refine g_ldcl dX9_told_3 c_R_348 ?_
  refine g_s3 (M' := KR_in) dX9_told_6 l_R_46 s_KR_in c_KR_in rfl rfl ⟨rfl, rfl⟩ ?_
  refine g_top (show _ = nI 1 by decide +kernel) ?_
  refine n_if_eq (tgt := 20) (by omega) dX9_told_9 rfl (fun zc9 => absurd zc9 (by decide)) (fun _ => ?_)
  refine g_aload_n dX9_told_12 rfl ?_
  refine g_iload_n dX9_told_13 rfl ?_
  refine g_v1 (M' := KR_toldOf) dX9_told_14 l_R_350 v_KR_toldOf (c_KR_toldOf6 hJ hs hW) rc_84 rfl rfl ⟨rfl, rfl⟩ ?_
  refine g_goto (tgt := 26) dX9_told_17 rfl ?_
  exact e_iret dX9_told_26 rfl (by rfl) (by rfl)
set_option maxRecDepth 100000 in
theorem c_KP_told_ok7 {σ : SI} {δ : SD} {a : Nat → Int32} {n s o tl : Nat} {P : Nat → Nat → Int32} {tx rf : Nat → Int32} (hI : IC σ a n s o P tl tx rf)  : E KP_told [.ref 5, .int (nI 7)] (HH σ δ) (some (.int (a 2))) (HH σ δ) := by
  have hW := hI.hl.wf
  have hR := hI.hl.rb
  have hD := hI.hl.rd
  have h2 := hR.c
  have h8 := hW.n8
  have hB := LB_6
  refine E.ofL [some (.ref 5), some (.int (nI 7))] rfl pn_RX8 rfl (fun sc => ?_)
  refine g_iload_n dX8_told_0 rfl ?_
  refine g_iconst dX8_told_1 ic_0 ?_
  refine g_bipush dX8_told_2 bp_13 ?_
  refine g_s3 (M' := KP_within) dX8_told_4 l_P_96 s_KP_within c_KP_within rfl rfl ⟨rfl, rfl⟩ ?_
  refine g_top (show _ = bI true by decide +kernel) ?_
  refine g_s1 (M' := KP_goodIf) dX8_told_7 l_P_81 s_KP_goodIf c_KP_goodIf rfl rfl ⟨rfl, rfl⟩ ?_
  refine g_top (if_pos rfl) ?_
  refine g_istore_n dX8_told_10 rfl ?_
  refine g_aload_n dX8_told_11 rfl ?_
  refine g_iload_n dX8_told_12 rfl ?_
  refine g_v1 (M' := KP_mayAnswer) dX8_told_13 l_P_100 v_KP_mayAnswer c_KP_mayAnswer0 rc_5 rfl rfl ⟨rfl, rfl⟩ ?_
  refine b_if_ne (tgt := 21) dX8_told_16 rfl (fun zc16 => ?_) (fun zc16 => ?_)
  · refine g_iload_n dX8_told_21 rfl ?_
    refine g_tsw (tgt := 158) dX8_told_22 (by decide +kernel) (by decide) ?_
    refine g_aload_n dX8_told_158 rfl ?_
    refine q_getq dX8_told_159 f_P_12 ck_5 (by decide) ty_7_0 rf_5_0 ?_
    refine g_iload_n dX8_told_162 rfl ?_
    refine g_bipush dX8_told_163 bp_7 ?_
    refine n_isub dX8_told_165 (by omega) ?_
    refine g_v1 (M' := KL_setting) dX8_told_166 l_P_271 v_KL_setting (c_KL_setting LB_6 hW hR (j := 0) (by decide)) (rcL LB_6) rfl rfl ⟨rfl, rfl⟩ ?_
    exact e_iret dX8_told_169 rfl (by rfl) (by rfl)
  · exact absurd zc16 (by decide)
set_option maxRecDepth 100000 in
theorem c_KR_toldOf7 {σ : SI} {δ : SD} {a : Nat → Int32} {n s tl : Nat} {P : Nat → Nat → Int32} {tx rf : Nat → Int32} (hJ : IR σ a s P tl tx rf) (hs : s ≤ 5) (hW : WF a n) : E KR_toldOf [.ref 84, .int (nI 7)] (HH σ δ) (some (.int (a 2))) (HH σ δ) := by
  obtain rfl := hJ.row
  have h3 := hJ.sd
  have h7 := hW.a7
  refine E.ofL [some (.ref 84), some (.int (nI 7))] rfl pn_RX9 rfl (fun sc => ?_)
  refine g_iload_n dX9_toldOf_0 rfl ?_
  refine g_lsw (tgt := 64) dX9_toldOf_1 (by decide +kernel) (by decide +kernel) ?_
  refine g_iload_n dX9_toldOf_64 rfl ?_
  refine g_iconst dX9_toldOf_65 ic_3 ?_
  refine n_icmp_ge (tgt := 78) (by omega) (by omega) dX9_toldOf_66 rfl (fun zc66 => ?_) (fun zc66 => ?_)
  · refine g_aload_n dX9_toldOf_78 rfl ?_
    refine q_getq dX9_toldOf_79 f_R_7 ck_84 (by decide) ty_8_0 rf_84_0 ?_
    refine g_iload_n dX9_toldOf_82 rfl ?_
    refine g_iconst dX9_toldOf_83 ic_5 ?_
    refine n_isub dX9_toldOf_84 (by omega) ?_
    refine q_iald dX9_toldOf_85 ck_85 (ixD_nI (by omega) (by decide)) ?_
    exact e_iret dX9_toldOf_86 rfl (by rfl) (by rfl)
  · exact absurd zc66 (by decide)
set_option maxRecDepth 100000 in
theorem c_KR_told_ok7 {σ : SI} {δ : SD} {a : Nat → Int32} {n s tl : Nat} {P : Nat → Nat → Int32} {tx rf : Nat → Int32} (hJ : IR σ a s P tl tx rf) (hs : s ≤ 5) (hW : WF a n)  : E KR_told [.ref 84, .int (nI 7)] (HH σ δ) (some (.int (a 2))) (HH σ δ) := by
  obtain rfl := hJ.row
  have h3 := hJ.sd
  have hn := hW.n8
  have h7 := hW.a7
  have h8 := hW.n8
  refine E.ofL [some (.ref 84), some (.int (nI 7))] rfl pn_RX9 rfl (fun sc => ?_)
  refine g_iload_n dX9_told_0 rfl ?_
  refine g_i2l dX9_told_1 ?_
  refine g_lconst (v := 0) dX9_told_2 rfl ?_
  refine g_ldcl dX9_told_3 c_R_348 ?_
  refine g_s3 (M' := KR_in) dX9_told_6 l_R_46 s_KR_in c_KR_in rfl rfl ⟨rfl, rfl⟩ ?_
  refine g_top (show _ = nI 1 by decide +kernel) ?_
  refine n_if_eq (tgt := 20) (by omega) dX9_told_9 rfl (fun zc9 => absurd zc9 (by decide)) (fun _ => ?_)
  refine g_aload_n dX9_told_12 rfl ?_
  refine g_iload_n dX9_told_13 rfl ?_
  refine g_v1 (M' := KR_toldOf) dX9_told_14 l_R_350 v_KR_toldOf (c_KR_toldOf7 hJ hs hW) rc_84 rfl rfl ⟨rfl, rfl⟩ ?_
  refine g_goto (tgt := 26) dX9_told_17 rfl ?_
  exact e_iret dX9_told_26 rfl (by rfl) (by rfl)
set_option maxRecDepth 100000 in
theorem c_KP_told_ok8 {σ : SI} {δ : SD} {a : Nat → Int32} {n s o tl : Nat} {P : Nat → Nat → Int32} {tx rf : Nat → Int32} (hI : IC σ a n s o P tl tx rf)  : E KP_told [.ref 5, .int (nI 8)] (HH σ δ) (some (.int (a 3))) (HH σ δ) := by
  have hW := hI.hl.wf
  have hR := hI.hl.rb
  have hD := hI.hl.rd
  have h2 := hR.c
  have h8 := hW.n8
  have hB := LB_6
  refine E.ofL [some (.ref 5), some (.int (nI 8))] rfl pn_RX8 rfl (fun sc => ?_)
  refine g_iload_n dX8_told_0 rfl ?_
  refine g_iconst dX8_told_1 ic_0 ?_
  refine g_bipush dX8_told_2 bp_13 ?_
  refine g_s3 (M' := KP_within) dX8_told_4 l_P_96 s_KP_within c_KP_within rfl rfl ⟨rfl, rfl⟩ ?_
  refine g_top (show _ = bI true by decide +kernel) ?_
  refine g_s1 (M' := KP_goodIf) dX8_told_7 l_P_81 s_KP_goodIf c_KP_goodIf rfl rfl ⟨rfl, rfl⟩ ?_
  refine g_top (if_pos rfl) ?_
  refine g_istore_n dX8_told_10 rfl ?_
  refine g_aload_n dX8_told_11 rfl ?_
  refine g_iload_n dX8_told_12 rfl ?_
  refine g_v1 (M' := KP_mayAnswer) dX8_told_13 l_P_100 v_KP_mayAnswer c_KP_mayAnswer0 rc_5 rfl rfl ⟨rfl, rfl⟩ ?_
  refine b_if_ne (tgt := 21) dX8_told_16 rfl (fun zc16 => ?_) (fun zc16 => ?_)
  · refine g_iload_n dX8_told_21 rfl ?_
    refine g_tsw (tgt := 158) dX8_told_22 (by decide +kernel) (by decide) ?_
    refine g_aload_n dX8_told_158 rfl ?_
    refine q_getq dX8_told_159 f_P_12 ck_5 (by decide) ty_7_0 rf_5_0 ?_
    refine g_iload_n dX8_told_162 rfl ?_
    refine g_bipush dX8_told_163 bp_7 ?_
    refine n_isub dX8_told_165 (by omega) ?_
    refine g_v1 (M' := KL_setting) dX8_told_166 l_P_271 v_KL_setting (c_KL_setting LB_6 hW hR (j := 1) (by decide)) (rcL LB_6) rfl rfl ⟨rfl, rfl⟩ ?_
    exact e_iret dX8_told_169 rfl (by rfl) (by rfl)
  · exact absurd zc16 (by decide)
set_option maxRecDepth 100000 in
theorem c_KR_toldOf8 {σ : SI} {δ : SD} {a : Nat → Int32} {n s tl : Nat} {P : Nat → Nat → Int32} {tx rf : Nat → Int32} (hJ : IR σ a s P tl tx rf) (hs : s ≤ 5) (hW : WF a n) : E KR_toldOf [.ref 84, .int (nI 8)] (HH σ δ) (some (.int (a 3))) (HH σ δ) := by
  obtain rfl := hJ.row
  have h3 := hJ.sd
  have h7 := hW.a7
  refine E.ofL [some (.ref 84), some (.int (nI 8))] rfl pn_RX9 rfl (fun sc => ?_)
  refine g_iload_n dX9_toldOf_0 rfl ?_
  refine g_lsw (tgt := 64) dX9_toldOf_1 (by decide +kernel) (by decide +kernel) ?_
  refine g_iload_n dX9_toldOf_64 rfl ?_
  refine g_iconst dX9_toldOf_65 ic_3 ?_
  refine n_icmp_ge (tgt := 78) (by omega) (by omega) dX9_toldOf_66 rfl (fun zc66 => ?_) (fun zc66 => ?_)
  · refine g_aload_n dX9_toldOf_78 rfl ?_
    refine q_getq dX9_toldOf_79 f_R_7 ck_84 (by decide) ty_8_0 rf_84_0 ?_
    refine g_iload_n dX9_toldOf_82 rfl ?_
    refine g_iconst dX9_toldOf_83 ic_5 ?_
    refine n_isub dX9_toldOf_84 (by omega) ?_
    refine q_iald dX9_toldOf_85 ck_85 (ixD_nI (by omega) (by decide)) ?_
    exact e_iret dX9_toldOf_86 rfl (by rfl) (by rfl)
  · exact absurd zc66 (by decide)
set_option maxRecDepth 100000 in
theorem c_KR_told_ok8 {σ : SI} {δ : SD} {a : Nat → Int32} {n s tl : Nat} {P : Nat → Nat → Int32} {tx rf : Nat → Int32} (hJ : IR σ a s P tl tx rf) (hs : s ≤ 5) (hW : WF a n)  : E KR_told [.ref 84, .int (nI 8)] (HH σ δ) (some (.int (a 3))) (HH σ δ) := by
  obtain rfl := hJ.row
  have h3 := hJ.sd
  have hn := hW.n8
  have h7 := hW.a7
  have h8 := hW.n8
  refine E.ofL [some (.ref 84), some (.int (nI 8))] rfl pn_RX9 rfl (fun sc => ?_)
  refine g_iload_n dX9_told_0 rfl ?_
  refine g_i2l dX9_told_1 ?_
  refine g_lconst (v := 0) dX9_told_2 rfl ?_
  refine g_ldcl dX9_told_3 c_R_348 ?_
  refine g_s3 (M' := KR_in) dX9_told_6 l_R_46 s_KR_in c_KR_in rfl rfl ⟨rfl, rfl⟩ ?_
  refine g_top (show _ = nI 1 by decide +kernel) ?_
  refine n_if_eq (tgt := 20) (by omega) dX9_told_9 rfl (fun zc9 => absurd zc9 (by decide)) (fun _ => ?_)
  refine g_aload_n dX9_told_12 rfl ?_
  refine g_iload_n dX9_told_13 rfl ?_
  refine g_v1 (M' := KR_toldOf) dX9_told_14 l_R_350 v_KR_toldOf (c_KR_toldOf8 hJ hs hW) rc_84 rfl rfl ⟨rfl, rfl⟩ ?_
  refine g_goto (tgt := 26) dX9_told_17 rfl ?_
  exact e_iret dX9_told_26 rfl (by rfl) (by rfl)
set_option maxRecDepth 100000 in
theorem c_KP_told_ok9 {σ : SI} {δ : SD} {a : Nat → Int32} {n s o tl : Nat} {P : Nat → Nat → Int32} {tx rf : Nat → Int32} (hI : IC σ a n s o P tl tx rf)  : E KP_told [.ref 5, .int (nI 9)] (HH σ δ) (some (.int (a 4))) (HH σ δ) := by
  have hW := hI.hl.wf
  have hR := hI.hl.rb
  have hD := hI.hl.rd
  have h2 := hR.c
  have h8 := hW.n8
  have hB := LB_6
  refine E.ofL [some (.ref 5), some (.int (nI 9))] rfl pn_RX8 rfl (fun sc => ?_)
  refine g_iload_n dX8_told_0 rfl ?_
  refine g_iconst dX8_told_1 ic_0 ?_
  refine g_bipush dX8_told_2 bp_13 ?_
  refine g_s3 (M' := KP_within) dX8_told_4 l_P_96 s_KP_within c_KP_within rfl rfl ⟨rfl, rfl⟩ ?_
  refine g_top (show _ = bI true by decide +kernel) ?_
  refine g_s1 (M' := KP_goodIf) dX8_told_7 l_P_81 s_KP_goodIf c_KP_goodIf rfl rfl ⟨rfl, rfl⟩ ?_
  refine g_top (if_pos rfl) ?_
  refine g_istore_n dX8_told_10 rfl ?_
  refine g_aload_n dX8_told_11 rfl ?_
  refine g_iload_n dX8_told_12 rfl ?_
  refine g_v1 (M' := KP_mayAnswer) dX8_told_13 l_P_100 v_KP_mayAnswer c_KP_mayAnswer0 rc_5 rfl rfl ⟨rfl, rfl⟩ ?_
  refine b_if_ne (tgt := 21) dX8_told_16 rfl (fun zc16 => ?_) (fun zc16 => ?_)
  · refine g_iload_n dX8_told_21 rfl ?_
    refine g_tsw (tgt := 158) dX8_told_22 (by decide +kernel) (by decide) ?_
    refine g_aload_n dX8_told_158 rfl ?_
    refine q_getq dX8_told_159 f_P_12 ck_5 (by decide) ty_7_0 rf_5_0 ?_
    refine g_iload_n dX8_told_162 rfl ?_
    refine g_bipush dX8_told_163 bp_7 ?_
    refine n_isub dX8_told_165 (by omega) ?_
    refine g_v1 (M' := KL_setting) dX8_told_166 l_P_271 v_KL_setting (c_KL_setting LB_6 hW hR (j := 2) (by decide)) (rcL LB_6) rfl rfl ⟨rfl, rfl⟩ ?_
    exact e_iret dX8_told_169 rfl (by rfl) (by rfl)
  · exact absurd zc16 (by decide)
set_option maxRecDepth 100000 in
theorem c_KR_toldOf9 {σ : SI} {δ : SD} {a : Nat → Int32} {n s tl : Nat} {P : Nat → Nat → Int32} {tx rf : Nat → Int32} (hJ : IR σ a s P tl tx rf) (hs : s ≤ 5) (hW : WF a n) : E KR_toldOf [.ref 84, .int (nI 9)] (HH σ δ) (some (.int (a 4))) (HH σ δ) := by
  obtain rfl := hJ.row
  have h3 := hJ.sd
  have h7 := hW.a7
  refine E.ofL [some (.ref 84), some (.int (nI 9))] rfl pn_RX9 rfl (fun sc => ?_)
  refine g_iload_n dX9_toldOf_0 rfl ?_
  refine g_lsw (tgt := 64) dX9_toldOf_1 (by decide +kernel) (by decide +kernel) ?_
  refine g_iload_n dX9_toldOf_64 rfl ?_
  refine g_iconst dX9_toldOf_65 ic_3 ?_
  refine n_icmp_ge (tgt := 78) (by omega) (by omega) dX9_toldOf_66 rfl (fun zc66 => ?_) (fun zc66 => ?_)
  · refine g_aload_n dX9_toldOf_78 rfl ?_
    refine q_getq dX9_toldOf_79 f_R_7 ck_84 (by decide) ty_8_0 rf_84_0 ?_
    refine g_iload_n dX9_toldOf_82 rfl ?_
    refine g_iconst dX9_toldOf_83 ic_5 ?_
    refine n_isub dX9_toldOf_84 (by omega) ?_
    refine q_iald dX9_toldOf_85 ck_85 (ixD_nI (by omega) (by decide)) ?_
    exact e_iret dX9_toldOf_86 rfl (by rfl) (by rfl)
  · exact absurd zc66 (by decide)
set_option maxRecDepth 100000 in
theorem c_KR_told_ok9 {σ : SI} {δ : SD} {a : Nat → Int32} {n s tl : Nat} {P : Nat → Nat → Int32} {tx rf : Nat → Int32} (hJ : IR σ a s P tl tx rf) (hs : s ≤ 5) (hW : WF a n)  : E KR_told [.ref 84, .int (nI 9)] (HH σ δ) (some (.int (a 4))) (HH σ δ) := by
  obtain rfl := hJ.row
  have h3 := hJ.sd
  have hn := hW.n8
  have h7 := hW.a7
  have h8 := hW.n8
  refine E.ofL [some (.ref 84), some (.int (nI 9))] rfl pn_RX9 rfl (fun sc => ?_)
  refine g_iload_n dX9_told_0 rfl ?_
  refine g_i2l dX9_told_1 ?_
  refine g_lconst (v := 0) dX9_told_2 rfl ?_
  refine g_ldcl dX9_told_3 c_R_348 ?_
  refine g_s3 (M' := KR_in) dX9_told_6 l_R_46 s_KR_in c_KR_in rfl rfl ⟨rfl, rfl⟩ ?_
  refine g_top (show _ = nI 1 by decide +kernel) ?_
  refine n_if_eq (tgt := 20) (by omega) dX9_told_9 rfl (fun zc9 => absurd zc9 (by decide)) (fun _ => ?_)
  refine g_aload_n dX9_told_12 rfl ?_
  refine g_iload_n dX9_told_13 rfl ?_
  refine g_v1 (M' := KR_toldOf) dX9_told_14 l_R_350 v_KR_toldOf (c_KR_toldOf9 hJ hs hW) rc_84 rfl rfl ⟨rfl, rfl⟩ ?_
  refine g_goto (tgt := 26) dX9_told_17 rfl ?_
  exact e_iret dX9_told_26 rfl (by rfl) (by rfl)
set_option maxRecDepth 100000 in
theorem c_KP_told_ok10 {σ : SI} {δ : SD} {a : Nat → Int32} {n s o tl : Nat} {P : Nat → Nat → Int32} {tx rf : Nat → Int32} (hI : IC σ a n s o P tl tx rf)  : E KP_told [.ref 5, .int (nI 10)] (HH σ δ) (some (.int (a 5))) (HH σ δ) := by
  have hW := hI.hl.wf
  have hR := hI.hl.rb
  have hD := hI.hl.rd
  have h2 := hR.c
  have h8 := hW.n8
  have hB := LB_6
  refine E.ofL [some (.ref 5), some (.int (nI 10))] rfl pn_RX8 rfl (fun sc => ?_)
  refine g_iload_n dX8_told_0 rfl ?_
  refine g_iconst dX8_told_1 ic_0 ?_
  refine g_bipush dX8_told_2 bp_13 ?_
  refine g_s3 (M' := KP_within) dX8_told_4 l_P_96 s_KP_within c_KP_within rfl rfl ⟨rfl, rfl⟩ ?_
  refine g_top (show _ = bI true by decide +kernel) ?_
  refine g_s1 (M' := KP_goodIf) dX8_told_7 l_P_81 s_KP_goodIf c_KP_goodIf rfl rfl ⟨rfl, rfl⟩ ?_
  refine g_top (if_pos rfl) ?_
  refine g_istore_n dX8_told_10 rfl ?_
  refine g_aload_n dX8_told_11 rfl ?_
  refine g_iload_n dX8_told_12 rfl ?_
  refine g_v1 (M' := KP_mayAnswer) dX8_told_13 l_P_100 v_KP_mayAnswer c_KP_mayAnswer0 rc_5 rfl rfl ⟨rfl, rfl⟩ ?_
  refine b_if_ne (tgt := 21) dX8_told_16 rfl (fun zc16 => ?_) (fun zc16 => ?_)
  · refine g_iload_n dX8_told_21 rfl ?_
    refine g_tsw (tgt := 158) dX8_told_22 (by decide +kernel) (by decide) ?_
    refine g_aload_n dX8_told_158 rfl ?_
    refine q_getq dX8_told_159 f_P_12 ck_5 (by decide) ty_7_0 rf_5_0 ?_
    refine g_iload_n dX8_told_162 rfl ?_
    refine g_bipush dX8_told_163 bp_7 ?_
    refine n_isub dX8_told_165 (by omega) ?_
    refine g_v1 (M' := KL_setting) dX8_told_166 l_P_271 v_KL_setting (c_KL_setting LB_6 hW hR (j := 3) (by decide)) (rcL LB_6) rfl rfl ⟨rfl, rfl⟩ ?_
    exact e_iret dX8_told_169 rfl (by rfl) (by rfl)
  · exact absurd zc16 (by decide)
set_option maxRecDepth 100000 in
theorem c_KR_toldOf10 {σ : SI} {δ : SD} {a : Nat → Int32} {n s tl : Nat} {P : Nat → Nat → Int32} {tx rf : Nat → Int32} (hJ : IR σ a s P tl tx rf) (hs : s ≤ 5) (hW : WF a n) : E KR_toldOf [.ref 84, .int (nI 10)] (HH σ δ) (some (.int (a 5))) (HH σ δ) := by
  obtain rfl := hJ.row
  have h3 := hJ.sd
  have h7 := hW.a7
  refine E.ofL [some (.ref 84), some (.int (nI 10))] rfl pn_RX9 rfl (fun sc => ?_)
  refine g_iload_n dX9_toldOf_0 rfl ?_
  refine g_lsw (tgt := 64) dX9_toldOf_1 (by decide +kernel) (by decide +kernel) ?_
  refine g_iload_n dX9_toldOf_64 rfl ?_
  refine g_iconst dX9_toldOf_65 ic_3 ?_
  refine n_icmp_ge (tgt := 78) (by omega) (by omega) dX9_toldOf_66 rfl (fun zc66 => ?_) (fun zc66 => ?_)
  · refine g_aload_n dX9_toldOf_78 rfl ?_
    refine q_getq dX9_toldOf_79 f_R_7 ck_84 (by decide) ty_8_0 rf_84_0 ?_
    refine g_iload_n dX9_toldOf_82 rfl ?_
    refine g_iconst dX9_toldOf_83 ic_5 ?_
    refine n_isub dX9_toldOf_84 (by omega) ?_
    refine q_iald dX9_toldOf_85 ck_85 (ixD_nI (by omega) (by decide)) ?_
    exact e_iret dX9_toldOf_86 rfl (by rfl) (by rfl)
  · exact absurd zc66 (by decide)
set_option maxRecDepth 100000 in
theorem c_KR_told_ok10 {σ : SI} {δ : SD} {a : Nat → Int32} {n s tl : Nat} {P : Nat → Nat → Int32} {tx rf : Nat → Int32} (hJ : IR σ a s P tl tx rf) (hs : s ≤ 5) (hW : WF a n)  : E KR_told [.ref 84, .int (nI 10)] (HH σ δ) (some (.int (a 5))) (HH σ δ) := by
  obtain rfl := hJ.row
  have h3 := hJ.sd
  have hn := hW.n8
  have h7 := hW.a7
  have h8 := hW.n8
  refine E.ofL [some (.ref 84), some (.int (nI 10))] rfl pn_RX9 rfl (fun sc => ?_)
  refine g_iload_n dX9_told_0 rfl ?_
  refine g_i2l dX9_told_1 ?_
  refine g_lconst (v := 0) dX9_told_2 rfl ?_
  refine g_ldcl dX9_told_3 c_R_348 ?_
  refine g_s3 (M' := KR_in) dX9_told_6 l_R_46 s_KR_in c_KR_in rfl rfl ⟨rfl, rfl⟩ ?_
  refine g_top (show _ = nI 1 by decide +kernel) ?_
  refine n_if_eq (tgt := 20) (by omega) dX9_told_9 rfl (fun zc9 => absurd zc9 (by decide)) (fun _ => ?_)
  refine g_aload_n dX9_told_12 rfl ?_
  refine g_iload_n dX9_told_13 rfl ?_
  refine g_v1 (M' := KR_toldOf) dX9_told_14 l_R_350 v_KR_toldOf (c_KR_toldOf10 hJ hs hW) rc_84 rfl rfl ⟨rfl, rfl⟩ ?_
  refine g_goto (tgt := 26) dX9_told_17 rfl ?_
  exact e_iret dX9_told_26 rfl (by rfl) (by rfl)
set_option maxRecDepth 100000 in
theorem c_KP_told_ok11 {σ : SI} {δ : SD} {a : Nat → Int32} {n s o tl : Nat} {P : Nat → Nat → Int32} {tx rf : Nat → Int32} (hI : IC σ a n s o P tl tx rf)  : E KP_told [.ref 5, .int (nI 11)] (HH σ δ) (some (.int (a 6))) (HH σ δ) := by
  have hW := hI.hl.wf
  have hR := hI.hl.rb
  have hD := hI.hl.rd
  have h2 := hR.c
  have h8 := hW.n8
  have hB := LB_6
  refine E.ofL [some (.ref 5), some (.int (nI 11))] rfl pn_RX8 rfl (fun sc => ?_)
  refine g_iload_n dX8_told_0 rfl ?_
  refine g_iconst dX8_told_1 ic_0 ?_
  refine g_bipush dX8_told_2 bp_13 ?_
  refine g_s3 (M' := KP_within) dX8_told_4 l_P_96 s_KP_within c_KP_within rfl rfl ⟨rfl, rfl⟩ ?_
  refine g_top (show _ = bI true by decide +kernel) ?_
  refine g_s1 (M' := KP_goodIf) dX8_told_7 l_P_81 s_KP_goodIf c_KP_goodIf rfl rfl ⟨rfl, rfl⟩ ?_
  refine g_top (if_pos rfl) ?_
  refine g_istore_n dX8_told_10 rfl ?_
  refine g_aload_n dX8_told_11 rfl ?_
  refine g_iload_n dX8_told_12 rfl ?_
  refine g_v1 (M' := KP_mayAnswer) dX8_told_13 l_P_100 v_KP_mayAnswer c_KP_mayAnswer0 rc_5 rfl rfl ⟨rfl, rfl⟩ ?_
  refine b_if_ne (tgt := 21) dX8_told_16 rfl (fun zc16 => ?_) (fun zc16 => ?_)
  · refine g_iload_n dX8_told_21 rfl ?_
    refine g_tsw (tgt := 158) dX8_told_22 (by decide +kernel) (by decide) ?_
    refine g_aload_n dX8_told_158 rfl ?_
    refine q_getq dX8_told_159 f_P_12 ck_5 (by decide) ty_7_0 rf_5_0 ?_
    refine g_iload_n dX8_told_162 rfl ?_
    refine g_bipush dX8_told_163 bp_7 ?_
    refine n_isub dX8_told_165 (by omega) ?_
    refine g_v1 (M' := KL_setting) dX8_told_166 l_P_271 v_KL_setting (c_KL_setting LB_6 hW hR (j := 4) (by decide)) (rcL LB_6) rfl rfl ⟨rfl, rfl⟩ ?_
    exact e_iret dX8_told_169 rfl (by rfl) (by rfl)
  · exact absurd zc16 (by decide)
set_option maxRecDepth 100000 in
theorem c_KR_toldOf11 {σ : SI} {δ : SD} {a : Nat → Int32} {n s tl : Nat} {P : Nat → Nat → Int32} {tx rf : Nat → Int32} (hJ : IR σ a s P tl tx rf) (hs : s ≤ 5) (hW : WF a n) : E KR_toldOf [.ref 84, .int (nI 11)] (HH σ δ) (some (.int (a 6))) (HH σ δ) := by
  obtain rfl := hJ.row
  have h3 := hJ.sd
  have h7 := hW.a7
  refine E.ofL [some (.ref 84), some (.int (nI 11))] rfl pn_RX9 rfl (fun sc => ?_)
  refine g_iload_n dX9_toldOf_0 rfl ?_
  refine g_lsw (tgt := 64) dX9_toldOf_1 (by decide +kernel) (by decide +kernel) ?_
  refine g_iload_n dX9_toldOf_64 rfl ?_
  refine g_iconst dX9_toldOf_65 ic_3 ?_
  refine n_icmp_ge (tgt := 78) (by omega) (by omega) dX9_toldOf_66 rfl (fun zc66 => ?_) (fun zc66 => ?_)
  · refine g_aload_n dX9_toldOf_78 rfl ?_
    refine q_getq dX9_toldOf_79 f_R_7 ck_84 (by decide) ty_8_0 rf_84_0 ?_
    refine g_iload_n dX9_toldOf_82 rfl ?_
    refine g_iconst dX9_toldOf_83 ic_5 ?_
    refine n_isub dX9_toldOf_84 (by omega) ?_
    refine q_iald dX9_toldOf_85 ck_85 (ixD_nI (by omega) (by decide)) ?_
    exact e_iret dX9_toldOf_86 rfl (by rfl) (by rfl)
  · exact absurd zc66 (by decide)
set_option maxRecDepth 100000 in
theorem c_KR_told_ok11 {σ : SI} {δ : SD} {a : Nat → Int32} {n s tl : Nat} {P : Nat → Nat → Int32} {tx rf : Nat → Int32} (hJ : IR σ a s P tl tx rf) (hs : s ≤ 5) (hW : WF a n)  : E KR_told [.ref 84, .int (nI 11)] (HH σ δ) (some (.int (a 6))) (HH σ δ) := by
  obtain rfl := hJ.row
  have h3 := hJ.sd
  have hn := hW.n8
  have h7 := hW.a7
  have h8 := hW.n8
  refine E.ofL [some (.ref 84), some (.int (nI 11))] rfl pn_RX9 rfl (fun sc => ?_)
  refine g_iload_n dX9_told_0 rfl ?_
  refine g_i2l dX9_told_1 ?_
  refine g_lconst (v := 0) dX9_told_2 rfl ?_
  refine g_ldcl dX9_told_3 c_R_348 ?_
  refine g_s3 (M' := KR_in) dX9_told_6 l_R_46 s_KR_in c_KR_in rfl rfl ⟨rfl, rfl⟩ ?_
  refine g_top (show _ = nI 1 by decide +kernel) ?_
  refine n_if_eq (tgt := 20) (by omega) dX9_told_9 rfl (fun zc9 => absurd zc9 (by decide)) (fun _ => ?_)
  refine g_aload_n dX9_told_12 rfl ?_
  refine g_iload_n dX9_told_13 rfl ?_
  refine g_v1 (M' := KR_toldOf) dX9_told_14 l_R_350 v_KR_toldOf (c_KR_toldOf11 hJ hs hW) rc_84 rfl rfl ⟨rfl, rfl⟩ ?_
  refine g_goto (tgt := 26) dX9_told_17 rfl ?_
  exact e_iret dX9_told_26 rfl (by rfl) (by rfl)
set_option maxRecDepth 100000 in
theorem c_KP_told_ok12 {σ : SI} {δ : SD} {a : Nat → Int32} {n s o tl : Nat} {P : Nat → Nat → Int32} {tx rf : Nat → Int32} (hI : IC σ a n s o P tl tx rf)  : E KP_told [.ref 5, .int (nI 12)] (HH σ δ) (some (.int (bsA a))) (HH σ δ) := by
  have hW := hI.hl.wf
  have hR := hI.hl.rb
  have hD := hI.hl.rd
  have h2 := hR.c
  have h8 := hW.n8
  have hB := LB_6
  refine E.ofL [some (.ref 5), some (.int (nI 12))] rfl pn_RX8 rfl (fun sc => ?_)
  refine g_iload_n dX8_told_0 rfl ?_
  refine g_iconst dX8_told_1 ic_0 ?_
  refine g_bipush dX8_told_2 bp_13 ?_
  refine g_s3 (M' := KP_within) dX8_told_4 l_P_96 s_KP_within c_KP_within rfl rfl ⟨rfl, rfl⟩ ?_
  refine g_top (show _ = bI true by decide +kernel) ?_
  refine g_s1 (M' := KP_goodIf) dX8_told_7 l_P_81 s_KP_goodIf c_KP_goodIf rfl rfl ⟨rfl, rfl⟩ ?_
  refine g_top (if_pos rfl) ?_
  refine g_istore_n dX8_told_10 rfl ?_
  refine g_aload_n dX8_told_11 rfl ?_
  refine g_iload_n dX8_told_12 rfl ?_
  refine g_v1 (M' := KP_mayAnswer) dX8_told_13 l_P_100 v_KP_mayAnswer c_KP_mayAnswer0 rc_5 rfl rfl ⟨rfl, rfl⟩ ?_
  refine b_if_ne (tgt := 21) dX8_told_16 rfl (fun zc16 => ?_) (fun zc16 => ?_)
  · refine g_iload_n dX8_told_21 rfl ?_
    refine g_tsw (tgt := 139) dX8_told_22 (by decide +kernel) (by decide) ?_
    refine g_aload_n dX8_told_139 rfl ?_
    refine q_getq dX8_told_140 f_P_12 ck_5 (by decide) ty_7_0 rf_5_0 ?_
    refine q_getq dX8_told_143 f_P_205 ck_6 (by decide) ty_0_3 (rfL_3 LB_6) ?_
    refine q_geti dX8_told_146 f_P_268 ck_7 (by decide) ty_3_0 ?_
    refine g_top hI.hl.rs.1 ?_
    exact e_iret dX8_told_149 rfl (by rfl) (by rfl)
  · exact absurd zc16 (by decide)
set_option maxRecDepth 100000 in
theorem c_KR_toldOf12 {σ : SI} {δ : SD} {a : Nat → Int32} {n s tl : Nat} {P : Nat → Nat → Int32} {tx rf : Nat → Int32} (hJ : IR σ a s P tl tx rf) (hs : s ≤ 5) (hW : WF a n) : E KR_toldOf [.ref 84, .int (nI 12)] (HH σ δ) (some (.int (bsA a))) (HH σ δ) := by
  obtain rfl := hJ.row
  have h3 := hJ.sd
  have h7 := hW.a7
  refine E.ofL [some (.ref 84), some (.int (nI 12))] rfl pn_RX9 rfl (fun sc => ?_)
  refine g_iload_n dX9_toldOf_0 rfl ?_
  refine g_lsw (tgt := 54) dX9_toldOf_1 (by decide +kernel) (by decide +kernel) ?_
  refine g_aload_n dX9_toldOf_54 rfl ?_
  refine g_v0 (M' := KR_keptSet) dX9_toldOf_55 l_R_345 v_KR_keptSet c_KR_keptSet rc_84 rfl rfl ⟨rfl, rfl⟩ ?_
  exact e_iret dX9_toldOf_58 rfl (by rfl) (by rfl)
set_option maxRecDepth 100000 in
theorem c_KR_told_ok12 {σ : SI} {δ : SD} {a : Nat → Int32} {n s tl : Nat} {P : Nat → Nat → Int32} {tx rf : Nat → Int32} (hJ : IR σ a s P tl tx rf) (hs : s ≤ 5) (hW : WF a n)  : E KR_told [.ref 84, .int (nI 12)] (HH σ δ) (some (.int (bsA a))) (HH σ δ) := by
  obtain rfl := hJ.row
  have h3 := hJ.sd
  have hn := hW.n8
  have h7 := hW.a7
  have h8 := hW.n8
  refine E.ofL [some (.ref 84), some (.int (nI 12))] rfl pn_RX9 rfl (fun sc => ?_)
  refine g_iload_n dX9_told_0 rfl ?_
  refine g_i2l dX9_told_1 ?_
  refine g_lconst (v := 0) dX9_told_2 rfl ?_
  refine g_ldcl dX9_told_3 c_R_348 ?_
  refine g_s3 (M' := KR_in) dX9_told_6 l_R_46 s_KR_in c_KR_in rfl rfl ⟨rfl, rfl⟩ ?_
  refine g_top (show _ = nI 1 by decide +kernel) ?_
  refine n_if_eq (tgt := 20) (by omega) dX9_told_9 rfl (fun zc9 => absurd zc9 (by decide)) (fun _ => ?_)
  refine g_aload_n dX9_told_12 rfl ?_
  refine g_iload_n dX9_told_13 rfl ?_
  refine g_v1 (M' := KR_toldOf) dX9_told_14 l_R_350 v_KR_toldOf (c_KR_toldOf12 hJ hs hW) rc_84 rfl rfl ⟨rfl, rfl⟩ ?_
  refine g_goto (tgt := 26) dX9_told_17 rfl ?_
  exact e_iret dX9_told_26 rfl (by rfl) (by rfl)
set_option maxRecDepth 100000 in
theorem c_KP_told_ok13 {σ : SI} {δ : SD} {a : Nat → Int32} {n s o tl : Nat} {P : Nat → Nat → Int32} {tx rf : Nat → Int32} (hI : IC σ a n s o P tl tx rf)  : E KP_told [.ref 5, .int (nI 13)] (HH σ δ) (some (.int (nI s))) (HH σ δ) := by
  have hW := hI.hl.wf
  have hR := hI.hl.rb
  have hD := hI.hl.rd
  have h2 := hR.c
  have h8 := hW.n8
  have hB := LB_6
  refine E.ofL [some (.ref 5), some (.int (nI 13))] rfl pn_RX8 rfl (fun sc => ?_)
  refine g_iload_n dX8_told_0 rfl ?_
  refine g_iconst dX8_told_1 ic_0 ?_
  refine g_bipush dX8_told_2 bp_13 ?_
  refine g_s3 (M' := KP_within) dX8_told_4 l_P_96 s_KP_within c_KP_within rfl rfl ⟨rfl, rfl⟩ ?_
  refine g_top (show _ = bI true by decide +kernel) ?_
  refine g_s1 (M' := KP_goodIf) dX8_told_7 l_P_81 s_KP_goodIf c_KP_goodIf rfl rfl ⟨rfl, rfl⟩ ?_
  refine g_top (if_pos rfl) ?_
  refine g_istore_n dX8_told_10 rfl ?_
  refine g_aload_n dX8_told_11 rfl ?_
  refine g_iload_n dX8_told_12 rfl ?_
  refine g_v1 (M' := KP_mayAnswer) dX8_told_13 l_P_100 v_KP_mayAnswer c_KP_mayAnswer0 rc_5 rfl rfl ⟨rfl, rfl⟩ ?_
  refine b_if_ne (tgt := 21) dX8_told_16 rfl (fun zc16 => ?_) (fun zc16 => ?_)
  · refine g_iload_n dX8_told_21 rfl ?_
    refine g_tsw (tgt := 150) dX8_told_22 (by decide +kernel) (by decide) ?_
    refine g_aload_n dX8_told_150 rfl ?_
    refine q_getq dX8_told_151 f_P_22 ck_5 (by decide) ty_7_2 rf_5_2 ?_
    refine q_geti dX8_told_154 f_P_249 ck_24 (by decide) ty_4_0 ?_
    refine g_top hI.c ?_
    exact e_iret dX8_told_157 rfl (by rfl) (by rfl)
  · exact absurd zc16 (by decide)
set_option maxRecDepth 100000 in
theorem c_KR_toldOf13 {σ : SI} {δ : SD} {a : Nat → Int32} {n s tl : Nat} {P : Nat → Nat → Int32} {tx rf : Nat → Int32} (hJ : IR σ a s P tl tx rf) (hs : s ≤ 5) (hW : WF a n) : E KR_toldOf [.ref 84, .int (nI 13)] (HH σ δ) (some (.int (nI s))) (HH σ δ) := by
  obtain rfl := hJ.row
  have h3 := hJ.sd
  have h7 := hW.a7
  refine E.ofL [some (.ref 84), some (.int (nI 13))] rfl pn_RX9 rfl (fun sc => ?_)
  refine g_iload_n dX9_toldOf_0 rfl ?_
  refine g_lsw (tgt := 59) dX9_toldOf_1 (by decide +kernel) (by decide +kernel) ?_
  refine g_aload_n dX9_toldOf_59 rfl ?_
  refine q_geti dX9_toldOf_60 f_R_38 ck_84 (by decide) ty_8_3 ?_
  refine g_top h3 ?_
  exact e_iret dX9_toldOf_63 rfl (by rfl) (by rfl)
set_option maxRecDepth 100000 in
theorem c_KR_told_ok13 {σ : SI} {δ : SD} {a : Nat → Int32} {n s tl : Nat} {P : Nat → Nat → Int32} {tx rf : Nat → Int32} (hJ : IR σ a s P tl tx rf) (hs : s ≤ 5) (hW : WF a n)  : E KR_told [.ref 84, .int (nI 13)] (HH σ δ) (some (.int (nI s))) (HH σ δ) := by
  obtain rfl := hJ.row
  have h3 := hJ.sd
  have hn := hW.n8
  have h7 := hW.a7
  have h8 := hW.n8
  refine E.ofL [some (.ref 84), some (.int (nI 13))] rfl pn_RX9 rfl (fun sc => ?_)
  refine g_iload_n dX9_told_0 rfl ?_
  refine g_i2l dX9_told_1 ?_
  refine g_lconst (v := 0) dX9_told_2 rfl ?_
  refine g_ldcl dX9_told_3 c_R_348 ?_
  refine g_s3 (M' := KR_in) dX9_told_6 l_R_46 s_KR_in c_KR_in rfl rfl ⟨rfl, rfl⟩ ?_
  refine g_top (show _ = nI 1 by decide +kernel) ?_
  refine n_if_eq (tgt := 20) (by omega) dX9_told_9 rfl (fun zc9 => absurd zc9 (by decide)) (fun _ => ?_)
  refine g_aload_n dX9_told_12 rfl ?_
  refine g_iload_n dX9_told_13 rfl ?_
  refine g_v1 (M' := KR_toldOf) dX9_told_14 l_R_350 v_KR_toldOf (c_KR_toldOf13 hJ hs hW) rc_84 rfl rfl ⟨rfl, rfl⟩ ?_
  refine g_goto (tgt := 26) dX9_told_17 rfl ?_
  exact e_iret dX9_told_26 rfl (by rfl) (by rfl)
set_option maxRecDepth 100000 in
theorem c_KP_told_no2 {σ : SI} {δ : SD} {a : Nat → Int32} {n s o tl : Nat} {P : Nat → Nat → Int32} {tx rf : Nat → Int32} (hI : IC σ a n s o P tl tx rf) {what : Int32} (hk : inB what (nI 0) (nI 13) = false) : E KP_told [.ref 5, .int what] (HH σ δ) (some (.int (-2))) (HH (rfC σ 0) δ) := by
  have hW := hI.hl.wf
  have hR := hI.hl.rb
  have hD := hI.hl.rd
  have h2 := hR.c
  have h8 := hW.n8
  have hB := LB_6
  refine E.ofL [some (.ref 5), some (.int what)] rfl pn_RX8 rfl (fun sc => ?_)
  refine g_iload_n dX8_told_0 rfl ?_
  refine g_iconst dX8_told_1 ic_0 ?_
  refine g_bipush dX8_told_2 bp_13 ?_
  refine g_s3 (M' := KP_within) dX8_told_4 l_P_96 s_KP_within c_KP_within rfl rfl ⟨rfl, rfl⟩ ?_
  refine g_top (show _ = bI false by rw [hk]) ?_
  refine g_s1 (M' := KP_goodIf) dX8_told_7 l_P_81 s_KP_goodIf c_KP_goodIf rfl rfl ⟨rfl, rfl⟩ ?_
  refine g_top (if_neg (by decide)) ?_
  refine g_istore_n dX8_told_10 rfl ?_
  refine g_aload_n dX8_told_11 rfl ?_
  refine g_iload_n dX8_told_12 rfl ?_
  refine g_v1 (M' := KP_mayAnswer) dX8_told_13 l_P_100 v_KP_mayAnswer c_KP_mayAnswer2 rc_5 rfl rfl ⟨rfl, rfl⟩ ?_
  refine b_if_ne (tgt := 21) dX8_told_16 rfl (fun zc16 => ?_) (fun zc16 => ?_)
  · exact absurd zc16 (by decide)
  · refine g_iload_n dX8_told_19 rfl ?_
    exact e_iret dX8_told_20 rfl (by rfl) (by rfl)
set_option maxRecDepth 100000 in
theorem c_KR_told_no2 {σ : SI} {δ : SD} {a : Nat → Int32} {n s tl : Nat} {P : Nat → Nat → Int32} {tx rf : Nat → Int32} (hJ : IR σ a s P tl tx rf) (hs : s ≤ 5) (hW : WF a n) {what : Int32} (hk : inB what (nI 0) (nI 13) = false) : E KR_told [.ref 84, .int what] (HH σ δ) (some (.int (-2))) (HH (rfM σ 0) δ) := by
  obtain rfl := hJ.row
  have h3 := hJ.sd
  have hn := hW.n8
  have h7 := hW.a7
  have h8 := hW.n8
  refine E.ofL [some (.ref 84), some (.int what)] rfl pn_RX9 rfl (fun sc => ?_)
  refine g_iload_n dX9_told_0 rfl ?_
  refine g_i2l dX9_told_1 ?_
  refine g_lconst (v := 0) dX9_told_2 rfl ?_
  refine g_ldcl dX9_told_3 c_R_348 ?_
  refine g_s3 (M' := KR_in) dX9_told_6 l_R_46 s_KR_in c_KR_in rfl rfl ⟨rfl, rfl⟩ ?_
  refine b_if_eq (tgt := 20) dX9_told_9 rfl (fun zc9 => ?_) (fun zc9 => ?_)
  · refine g_aload_n dX9_told_20 rfl ?_
    refine g_bipush dX9_told_21 bp_m2 ?_
    refine g_v1 (M' := KR_refuses) dX9_told_23 l_R_101 v_KR_refuses c_KR_refuses0 rc_84 rfl rfl ⟨rfl, rfl⟩ ?_
    exact e_iret dX9_told_26 rfl (by rfl) (by rfl)
  · simp only [w64_0, w64_13, inL_wide] at zc9; exact absurd zc9 (by rw [hk]; decide)
theorem step_told {σ : SI} {δ : SD} {what : Int32} (hT : InvT σ) : Step KP_told KR_told [.int what] σ δ := by
  obtain ⟨a, n, s, o, P, tl, tx, rf, hI, hJ⟩ := hT
  have hW := hI.hl.wf
  cases hk : inB what (nI 0) (nI 13) with
  | true =>
    obtain ⟨j, -, hj, rfl⟩ := (inB_iff (by decide) (by decide)).mp hk
    rcases (show j = 0 ∨ j = 1 ∨ j = 2 ∨ j = 3 ∨ j = 4 ∨ j = 5 ∨ j = 6 ∨ j = 7 ∨ j = 8 ∨ j = 9 ∨ j = 10 ∨ j = 11 ∨ j = 12 ∨ j = 13 by omega) with rfl | rfl | rfl | rfl | rfl | rfl | rfl | rfl | rfl | rfl | rfl | rfl | rfl | rfl
    · exact Step.same hI hJ (c_KP_told_ok0 hI) (c_KR_told_ok0 hJ hI.s5 hW)
    · exact Step.same hI hJ (c_KP_told_ok1 hI) (c_KR_told_ok1 hJ hI.s5 hW)
    · exact Step.same hI hJ (c_KP_told_ok2 hI) (c_KR_told_ok2 hJ hI.s5 hW)
    · exact Step.same hI hJ (c_KP_told_ok3 hI) (c_KR_told_ok3 hJ hI.s5 hW)
    · exact Step.same hI hJ (c_KP_told_ok4 hI) (c_KR_told_ok4 hJ hI.s5 hW)
    · exact Step.same hI hJ (c_KP_told_ok5 hI) (c_KR_told_ok5 hJ hI.s5 hW)
    · exact Step.same hI hJ (c_KP_told_ok6 hI) (c_KR_told_ok6 hJ hI.s5 hW)
    · exact Step.same hI hJ (c_KP_told_ok7 hI) (c_KR_told_ok7 hJ hI.s5 hW)
    · exact Step.same hI hJ (c_KP_told_ok8 hI) (c_KR_told_ok8 hJ hI.s5 hW)
    · exact Step.same hI hJ (c_KP_told_ok9 hI) (c_KR_told_ok9 hJ hI.s5 hW)
    · exact Step.same hI hJ (c_KP_told_ok10 hI) (c_KR_told_ok10 hJ hI.s5 hW)
    · exact Step.same hI hJ (c_KP_told_ok11 hI) (c_KR_told_ok11 hJ hI.s5 hW)
    · exact Step.same hI hJ (c_KP_told_ok12 hI) (c_KR_told_ok12 hJ hI.s5 hW)
    · exact Step.same hI hJ (c_KP_told_ok13 hI) (c_KR_told_ok13 hJ hI.s5 hW)
  | false => exact Step.no (by decide) hI hJ (c_KP_told_no2 hI hk) (fun h1 => c_KR_told_no2 h1 hI.s5 hW hk)

