/-! CONTRACTS: white told -/
/-- a share -/
def shrF (c m : Nat) : UInt32 := FP.fdiv (FP.i2f (nI c)) (FP.i2f (nI m))
theorem w64_5 : (5 : Int64) = (nI 5).toInt64 := by decide
theorem u32_256th : 256 * FP.Core.unitsOf FP.Core.b32 998244352 = fuP FP.Core.b32 := by decide +kernel
theorem sh_wh {W Hh : Nat} (hW : 6 ≤ W ∧ W ≤ 16) (hH : 6 ≤ Hh ∧ Hh ≤ 16) : 36 ≤ W * Hh ∧ W * Hh ≤ 256 := ⟨Nat.mul_le_mul hW.1 hH.1, Nat.mul_le_mul hW.2 hH.2⟩
theorem sh_b {c m : Nat} (hc : c ≤ 256) (hm : 36 ≤ m ∧ m ≤ 256) : (shrF c m).toNat ≤ 1132462080 ∧ ((shrF c m).toNat = 0 ∨ 998244352 ≤ (shrF c m).toNat) := by
  obtain ⟨a1, a2⟩ := u_i2f (j := c) (by omega)
  obtain ⟨b1, b2⟩ := u_i2f (j := m) (by omega)
  have h0 : 0 < (FP.i2f (nI m)).toNat := u_pos (by rw [b1]; exact Nat.le_mul_of_pos_left _ (by omega))
  have t : (shrF c m).toNat = FP.Core.div FP.Core.b32 (FP.i2f (nI c)).toNat (FP.i2f (nI m)).toNat := t_fdiv a2 b2 h0
  rw [t]
  rw [← inf32] at a2 b2
  constructor
  · refine fd_le FP.Core.good_b32 a2 b2 (un_pos h0) ?_
    rw [u32_256, a1, b1]
    generalize fuP FP.Core.b32 = P
    calc c * P * P ≤ 256 * P * P := Nat.mul_le_mul_right _ (Nat.mul_le_mul_right _ hc)
      _ ≤ 256 * P * (m * P) := Nat.mul_le_mul_left _ (Nat.le_mul_of_pos_left _ (by omega))
  · rcases Nat.eq_zero_or_pos c with h | h
    · left
      have : FP.Core.div FP.Core.b32 (FP.i2f (nI c)).toNat (FP.i2f (nI m)).toNat ≤ 0 := by
        refine fd_le FP.Core.good_b32 a2 b2 (un_pos h0) ?_
        rw [a1, h, Nat.zero_mul, Nat.zero_mul]
        exact Nat.zero_le _
      exact Nat.le_zero.mp this
    · right
      refine fd_ge FP.Core.good_b32 a2 b2 (un_pos h0) (by rw [inf32]; decide) ?_
      have hU := u32_256th
      rw [a1, b1]
      generalize fuP FP.Core.b32 = P at *
      generalize FP.Core.unitsOf FP.Core.b32 998244352 = U at *
      calc U * (m * P) ≤ U * (256 * P) := Nat.mul_le_mul_left _ (Nat.mul_le_mul_right _ hm.2)
        _ = P * P := by rw [← Nat.mul_assoc, Nat.mul_comm U, hU]
        _ ≤ c * P * P := Nat.mul_le_mul_right _ (Nat.le_mul_of_pos_left _ h)
set_option maxRecDepth 100000 in
theorem c_KW_tell0 {σ : SI} {δ : SD} {v : Int32} (hv : σ 76 2 = v) : E KW_tell [.ref 76, .int (nI 0)] (HH σ δ) (some (.int v)) (HH σ δ) := by
  refine E.ofL [some (.ref 76), some (.int (nI 0))] rfl pn_RX7 rfl (fun sc => ?_)
  refine g_iload_n dX7_tell_0 rfl ?_
  refine g_tsw (tgt := 36) dX7_tell_1 (by decide +kernel) (by decide) ?_
  refine g_aload_n dX7_tell_36 rfl ?_
  refine q_geti dX7_tell_37 f_W_64 ck_76 (by decide) ty_6_2 ?_
  refine g_top hv ?_
  exact e_iret dX7_tell_40 rfl (by rfl) (by rfl)
set_option maxRecDepth 100000 in
theorem c_KW_tell1 {σ : SI} {δ : SD} {v : Int32} (hv : σ 76 3 = v) : E KW_tell [.ref 76, .int (nI 1)] (HH σ δ) (some (.int v)) (HH σ δ) := by
  refine E.ofL [some (.ref 76), some (.int (nI 1))] rfl pn_RX7 rfl (fun sc => ?_)
  refine g_iload_n dX7_tell_0 rfl ?_
  refine g_tsw (tgt := 41) dX7_tell_1 (by decide +kernel) (by decide) ?_
  refine g_aload_n dX7_tell_41 rfl ?_
  refine q_geti dX7_tell_42 f_W_67 ck_76 (by decide) ty_6_3 ?_
  refine g_top hv ?_
  exact e_iret dX7_tell_45 rfl (by rfl) (by rfl)
set_option maxRecDepth 100000 in
theorem c_KW_tell2 {σ : SI} {δ : SD} {v : Int32} (hv : σ 76 4 = v) : E KW_tell [.ref 76, .int (nI 2)] (HH σ δ) (some (.int v)) (HH σ δ) := by
  refine E.ofL [some (.ref 76), some (.int (nI 2))] rfl pn_RX7 rfl (fun sc => ?_)
  refine g_iload_n dX7_tell_0 rfl ?_
  refine g_tsw (tgt := 46) dX7_tell_1 (by decide +kernel) (by decide) ?_
  refine g_aload_n dX7_tell_46 rfl ?_
  refine q_geti dX7_tell_47 f_W_70 ck_76 (by decide) ty_6_4 ?_
  refine g_top hv ?_
  exact e_iret dX7_tell_50 rfl (by rfl) (by rfl)
set_option maxRecDepth 100000 in
theorem c_KW_tell3 {σ : SI} {δ : SD} {v : Int32} (hv : σ 76 5 = v) : E KW_tell [.ref 76, .int (nI 3)] (HH σ δ) (some (.int v)) (HH σ δ) := by
  refine E.ofL [some (.ref 76), some (.int (nI 3))] rfl pn_RX7 rfl (fun sc => ?_)
  refine g_iload_n dX7_tell_0 rfl ?_
  refine g_tsw (tgt := 51) dX7_tell_1 (by decide +kernel) (by decide) ?_
  refine g_aload_n dX7_tell_51 rfl ?_
  refine q_geti dX7_tell_52 f_W_73 ck_76 (by decide) ty_6_5 ?_
  refine g_top hv ?_
  exact e_iret dX7_tell_55 rfl (by rfl) (by rfl)
set_option maxRecDepth 100000 in
theorem c_KW_tell4 {σ : SI} {δ : SD} {v : Int32} (hv : σ 76 6 = v) : E KW_tell [.ref 76, .int (nI 4)] (HH σ δ) (some (.int v)) (HH σ δ) := by
  refine E.ofL [some (.ref 76), some (.int (nI 4))] rfl pn_RX7 rfl (fun sc => ?_)
  refine g_iload_n dX7_tell_0 rfl ?_
  refine g_tsw (tgt := 56) dX7_tell_1 (by decide +kernel) (by decide) ?_
  refine g_aload_n dX7_tell_56 rfl ?_
  refine q_geti dX7_tell_57 f_W_76 ck_76 (by decide) ty_6_6 ?_
  refine g_top hv ?_
  exact e_iret dX7_tell_60 rfl (by rfl) (by rfl)
set_option maxRecDepth 100000 in
theorem c_KW_share {σ : SI} {δ : SD} {W Hh c : Nat} (h0 : σ 76 0 = nI W) (h1 : σ 76 1 = nI Hh) (h2 : σ 76 2 = nI c) (hW6 : 6 ≤ W ∧ W ≤ 16) (hH6 : 6 ≤ Hh ∧ Hh ≤ 16) (hc : c ≤ 256) : E KW_share [.ref 76] (HH σ δ) (some (.float (shrF c (W * Hh)))) (HH σ δ) := by
  have hm := sh_wh hW6 hH6
  refine E.ofL [some (.ref 76)] rfl pn_RX7 rfl (fun sc => ?_)
  refine g_aload_n dX7_share_0 rfl ?_
  refine q_geti dX7_share_1 f_W_33 ck_76 (by decide) ty_6_0 ?_
  refine g_top h0 ?_
  refine g_aload_n dX7_share_4 rfl ?_
  refine q_geti dX7_share_5 f_W_37 ck_76 (by decide) ty_6_1 ?_
  refine g_top h1 ?_
  refine n_imul dX7_share_8 ?_
  refine g_istore_n dX7_share_9 rfl ?_
  refine g_iload_n dX7_share_10 rfl ?_
  refine n_if_le (tgt := 25) (by omega) dX7_share_11 rfl (fun zc11 => ?_) (fun zc11 => ?_)
  · exact absurd zc11 (by omega)
  · refine g_aload_n dX7_share_14 rfl ?_
    refine q_geti dX7_share_15 f_W_64 ck_76 (by decide) ty_6_2 ?_
    refine g_top h2 ?_
    refine g_i2f dX7_share_18 ?_
    refine g_iload_n dX7_share_19 rfl ?_
    refine g_i2f dX7_share_20 ?_
    refine g_fdiv dX7_share_21 (n32_lt (Nat.le_trans (sh_b hc hm).1 (by decide))) ?_
    refine g_goto (tgt := 26) dX7_share_22 rfl ?_
    exact e_fret dX7_share_26 rfl (by rfl) (by rfl)
set_option maxRecDepth 100000 in
theorem c_KW_tell5 {σ : SI} {δ : SD} {W Hh c : Nat} (h0 : σ 76 0 = nI W) (h1 : σ 76 1 = nI Hh) (h2 : σ 76 2 = nI c) (hW6 : 6 ≤ W ∧ W ≤ 16) (hH6 : 6 ≤ Hh ∧ Hh ≤ 16) (hc : c ≤ 256) : E KW_tell [.ref 76, .int (nI 5)] (HH σ δ) (some (.int (shrF c (W * Hh)).toInt32)) (HH σ δ) := by
  have hm := sh_b hc (sh_wh hW6 hH6)
  refine E.ofL [some (.ref 76), some (.int (nI 5))] rfl pn_RX7 rfl (fun sc => ?_)
  refine g_iload_n dX7_tell_0 rfl ?_
  refine g_tsw (tgt := 61) dX7_tell_1 (by decide +kernel) (by decide) ?_
  refine g_aload_n dX7_tell_61 rfl ?_
  refine g_v0 (M' := KW_share) dX7_tell_62 l_W_79 v_KW_share (c_KW_share h0 h1 h2 hW6 hH6 hc) rc_76 rfl rfl ⟨rfl, rfl⟩ ?_
  refine g_s1 (M' := KB_ofFloat) dX7_tell_65 l_W_83 s_KB_ofFloat (c_ofF (by omega) (by omega)) rfl rfl ⟨rfl, rfl⟩ ?_
  exact e_iret dX7_tell_68 rfl (by rfl) (by rfl)
set_option maxRecDepth 100000 in
theorem c_KP_white_ok0 {σ : SI} {δ : SD} {a : Nat → Int32} {n s o tl : Nat} {P : Nat → Nat → Int32} {tx rf : Nat → Int32} (hI : IC σ a n s o P tl tx rf)  {σ1 : SI} (hσ1 : lkS σ a n (a 0).toNatClampNeg (a 1).toNatClampNeg = σ1) {v : Int32} (hv : σ1 76 2 = v) : E KP_white [.ref 5, .int (nI 0)] (HH σ δ) (some (.int (v))) (HH σ1 δ) := by
  have hW := hI.hl.wf
  have hR := hI.hl.rb
  have hD := hI.hl.rd
  have h2 := hR.c
  have h8 := hW.n8
  have hB := LB_6
  have hwd := hW.wid
  have hhg := hW.hei
  refine E.ofL [some (.ref 5), some (.int (nI 0))] rfl pn_RX8 rfl (fun sc => ?_)
  refine g_iload_n dX8_white_0 rfl ?_
  refine g_iconst dX8_white_1 ic_0 ?_
  refine g_iconst dX8_white_2 ic_5 ?_
  refine g_s3 (M' := KP_within) dX8_white_3 l_P_96 s_KP_within c_KP_within rfl rfl ⟨rfl, rfl⟩ ?_
  refine g_top (show _ = bI true by decide +kernel) ?_
  refine g_s1 (M' := KP_goodIf) dX8_white_6 l_P_81 s_KP_goodIf c_KP_goodIf rfl rfl ⟨rfl, rfl⟩ ?_
  refine g_top (if_pos rfl) ?_
  refine g_istore_n dX8_white_9 rfl ?_
  refine g_aload_n dX8_white_10 rfl ?_
  refine g_iload_n dX8_white_11 rfl ?_
  refine g_v1 (M' := KP_mayAnswer) dX8_white_12 l_P_100 v_KP_mayAnswer c_KP_mayAnswer0 rc_5 rfl rfl ⟨rfl, rfl⟩ ?_
  refine b_if_ne (tgt := 20) dX8_white_15 rfl (fun zc15 => ?_) (fun zc15 => ?_)
  · refine g_aload_n dX8_white_20 rfl ?_
    refine q_getq dX8_white_21 f_P_43 ck_5 (by decide) ty_7_5 rf_5_5 ?_
    refine g_aload_n dX8_white_24 rfl ?_
    refine q_getq dX8_white_25 f_P_12 ck_5 (by decide) ty_7_0 rf_5_0 ?_
    refine g_v1n (M' := KW_look) dX8_white_28 l_P_176 v_KW_look (by have zq := c_KW_look (δ := δ) LB_6 hI.hl rfl rfl; rw [hσ1] at zq; exact zq) rc_76 HH_len rfl ⟨rfl, rfl⟩ ?_
    refine g_aload_n dX8_white_31 rfl ?_
    refine q_getq dX8_white_32 f_P_43 ck_5 (by decide) ty_7_5 rf_5_5 ?_
    refine g_iload_n dX8_white_35 rfl ?_
    refine g_v1 (M' := KW_tell) dX8_white_36 l_P_179 v_KW_tell (c_KW_tell0 hv) rc_76 rfl rfl ⟨rfl, rfl⟩ ?_
    exact e_iret dX8_white_39 rfl (by rfl) (by rfl)
  · exact absurd zc15 (by decide)
set_option maxRecDepth 100000 in
theorem c_KP_white_ok1 {σ : SI} {δ : SD} {a : Nat → Int32} {n s o tl : Nat} {P : Nat → Nat → Int32} {tx rf : Nat → Int32} (hI : IC σ a n s o P tl tx rf)  {σ1 : SI} (hσ1 : lkS σ a n (a 0).toNatClampNeg (a 1).toNatClampNeg = σ1) {v : Int32} (hv : σ1 76 3 = v) : E KP_white [.ref 5, .int (nI 1)] (HH σ δ) (some (.int (v))) (HH σ1 δ) := by
  have hW := hI.hl.wf
  have hR := hI.hl.rb
  have hD := hI.hl.rd
  have h2 := hR.c
  have h8 := hW.n8
  have hB := LB_6
  have hwd := hW.wid
  have hhg := hW.hei
  refine E.ofL [some (.ref 5), some (.int (nI 1))] rfl pn_RX8 rfl (fun sc => ?_)
  refine g_iload_n dX8_white_0 rfl ?_
  refine g_iconst dX8_white_1 ic_0 ?_
  refine g_iconst dX8_white_2 ic_5 ?_
  refine g_s3 (M' := KP_within) dX8_white_3 l_P_96 s_KP_within c_KP_within rfl rfl ⟨rfl, rfl⟩ ?_
  refine g_top (show _ = bI true by decide +kernel) ?_
  refine g_s1 (M' := KP_goodIf) dX8_white_6 l_P_81 s_KP_goodIf c_KP_goodIf rfl rfl ⟨rfl, rfl⟩ ?_
  refine g_top (if_pos rfl) ?_
  refine g_istore_n dX8_white_9 rfl ?_
  refine g_aload_n dX8_white_10 rfl ?_
  refine g_iload_n dX8_white_11 rfl ?_
  refine g_v1 (M' := KP_mayAnswer) dX8_white_12 l_P_100 v_KP_mayAnswer c_KP_mayAnswer0 rc_5 rfl rfl ⟨rfl, rfl⟩ ?_
  refine b_if_ne (tgt := 20) dX8_white_15 rfl (fun zc15 => ?_) (fun zc15 => ?_)
  · refine g_aload_n dX8_white_20 rfl ?_
    refine q_getq dX8_white_21 f_P_43 ck_5 (by decide) ty_7_5 rf_5_5 ?_
    refine g_aload_n dX8_white_24 rfl ?_
    refine q_getq dX8_white_25 f_P_12 ck_5 (by decide) ty_7_0 rf_5_0 ?_
    refine g_v1n (M' := KW_look) dX8_white_28 l_P_176 v_KW_look (by have zq := c_KW_look (δ := δ) LB_6 hI.hl rfl rfl; rw [hσ1] at zq; exact zq) rc_76 HH_len rfl ⟨rfl, rfl⟩ ?_
    refine g_aload_n dX8_white_31 rfl ?_
    refine q_getq dX8_white_32 f_P_43 ck_5 (by decide) ty_7_5 rf_5_5 ?_
    refine g_iload_n dX8_white_35 rfl ?_
    refine g_v1 (M' := KW_tell) dX8_white_36 l_P_179 v_KW_tell (c_KW_tell1 hv) rc_76 rfl rfl ⟨rfl, rfl⟩ ?_
    exact e_iret dX8_white_39 rfl (by rfl) (by rfl)
  · exact absurd zc15 (by decide)
set_option maxRecDepth 100000 in
theorem c_KP_white_ok2 {σ : SI} {δ : SD} {a : Nat → Int32} {n s o tl : Nat} {P : Nat → Nat → Int32} {tx rf : Nat → Int32} (hI : IC σ a n s o P tl tx rf)  {σ1 : SI} (hσ1 : lkS σ a n (a 0).toNatClampNeg (a 1).toNatClampNeg = σ1) {v : Int32} (hv : σ1 76 4 = v) : E KP_white [.ref 5, .int (nI 2)] (HH σ δ) (some (.int (v))) (HH σ1 δ) := by
  have hW := hI.hl.wf
  have hR := hI.hl.rb
  have hD := hI.hl.rd
  have h2 := hR.c
  have h8 := hW.n8
  have hB := LB_6
  have hwd := hW.wid
  have hhg := hW.hei
  refine E.ofL [some (.ref 5), some (.int (nI 2))] rfl pn_RX8 rfl (fun sc => ?_)
  refine g_iload_n dX8_white_0 rfl ?_
  refine g_iconst dX8_white_1 ic_0 ?_
  refine g_iconst dX8_white_2 ic_5 ?_
  refine g_s3 (M' := KP_within) dX8_white_3 l_P_96 s_KP_within c_KP_within rfl rfl ⟨rfl, rfl⟩ ?_
  refine g_top (show _ = bI true by decide +kernel) ?_
  refine g_s1 (M' := KP_goodIf) dX8_white_6 l_P_81 s_KP_goodIf c_KP_goodIf rfl rfl ⟨rfl, rfl⟩ ?_
  refine g_top (if_pos rfl) ?_
  refine g_istore_n dX8_white_9 rfl ?_
  refine g_aload_n dX8_white_10 rfl ?_
  refine g_iload_n dX8_white_11 rfl ?_
  refine g_v1 (M' := KP_mayAnswer) dX8_white_12 l_P_100 v_KP_mayAnswer c_KP_mayAnswer0 rc_5 rfl rfl ⟨rfl, rfl⟩ ?_
  refine b_if_ne (tgt := 20) dX8_white_15 rfl (fun zc15 => ?_) (fun zc15 => ?_)
  · refine g_aload_n dX8_white_20 rfl ?_
    refine q_getq dX8_white_21 f_P_43 ck_5 (by decide) ty_7_5 rf_5_5 ?_
    refine g_aload_n dX8_white_24 rfl ?_
    refine q_getq dX8_white_25 f_P_12 ck_5 (by decide) ty_7_0 rf_5_0 ?_
    refine g_v1n (M' := KW_look) dX8_white_28 l_P_176 v_KW_look (by have zq := c_KW_look (δ := δ) LB_6 hI.hl rfl rfl; rw [hσ1] at zq; exact zq) rc_76 HH_len rfl ⟨rfl, rfl⟩ ?_
    refine g_aload_n dX8_white_31 rfl ?_
    refine q_getq dX8_white_32 f_P_43 ck_5 (by decide) ty_7_5 rf_5_5 ?_
    refine g_iload_n dX8_white_35 rfl ?_
    refine g_v1 (M' := KW_tell) dX8_white_36 l_P_179 v_KW_tell (c_KW_tell2 hv) rc_76 rfl rfl ⟨rfl, rfl⟩ ?_
    exact e_iret dX8_white_39 rfl (by rfl) (by rfl)
  · exact absurd zc15 (by decide)
set_option maxRecDepth 100000 in
theorem c_KP_white_ok3 {σ : SI} {δ : SD} {a : Nat → Int32} {n s o tl : Nat} {P : Nat → Nat → Int32} {tx rf : Nat → Int32} (hI : IC σ a n s o P tl tx rf)  {σ1 : SI} (hσ1 : lkS σ a n (a 0).toNatClampNeg (a 1).toNatClampNeg = σ1) {v : Int32} (hv : σ1 76 5 = v) : E KP_white [.ref 5, .int (nI 3)] (HH σ δ) (some (.int (v))) (HH σ1 δ) := by
  have hW := hI.hl.wf
  have hR := hI.hl.rb
  have hD := hI.hl.rd
  have h2 := hR.c
  have h8 := hW.n8
  have hB := LB_6
  have hwd := hW.wid
  have hhg := hW.hei
  refine E.ofL [some (.ref 5), some (.int (nI 3))] rfl pn_RX8 rfl (fun sc => ?_)
  refine g_iload_n dX8_white_0 rfl ?_
  refine g_iconst dX8_white_1 ic_0 ?_
  refine g_iconst dX8_white_2 ic_5 ?_
  refine g_s3 (M' := KP_within) dX8_white_3 l_P_96 s_KP_within c_KP_within rfl rfl ⟨rfl, rfl⟩ ?_
  refine g_top (show _ = bI true by decide +kernel) ?_
  refine g_s1 (M' := KP_goodIf) dX8_white_6 l_P_81 s_KP_goodIf c_KP_goodIf rfl rfl ⟨rfl, rfl⟩ ?_
  refine g_top (if_pos rfl) ?_
  refine g_istore_n dX8_white_9 rfl ?_
  refine g_aload_n dX8_white_10 rfl ?_
  refine g_iload_n dX8_white_11 rfl ?_
  refine g_v1 (M' := KP_mayAnswer) dX8_white_12 l_P_100 v_KP_mayAnswer c_KP_mayAnswer0 rc_5 rfl rfl ⟨rfl, rfl⟩ ?_
  refine b_if_ne (tgt := 20) dX8_white_15 rfl (fun zc15 => ?_) (fun zc15 => ?_)
  · refine g_aload_n dX8_white_20 rfl ?_
    refine q_getq dX8_white_21 f_P_43 ck_5 (by decide) ty_7_5 rf_5_5 ?_
    refine g_aload_n dX8_white_24 rfl ?_
    refine q_getq dX8_white_25 f_P_12 ck_5 (by decide) ty_7_0 rf_5_0 ?_
    refine g_v1n (M' := KW_look) dX8_white_28 l_P_176 v_KW_look (by have zq := c_KW_look (δ := δ) LB_6 hI.hl rfl rfl; rw [hσ1] at zq; exact zq) rc_76 HH_len rfl ⟨rfl, rfl⟩ ?_
    refine g_aload_n dX8_white_31 rfl ?_
    refine q_getq dX8_white_32 f_P_43 ck_5 (by decide) ty_7_5 rf_5_5 ?_
    refine g_iload_n dX8_white_35 rfl ?_
    refine g_v1 (M' := KW_tell) dX8_white_36 l_P_179 v_KW_tell (c_KW_tell3 hv) rc_76 rfl rfl ⟨rfl, rfl⟩ ?_
    exact e_iret dX8_white_39 rfl (by rfl) (by rfl)
  · exact absurd zc15 (by decide)
set_option maxRecDepth 100000 in
theorem c_KP_white_ok4 {σ : SI} {δ : SD} {a : Nat → Int32} {n s o tl : Nat} {P : Nat → Nat → Int32} {tx rf : Nat → Int32} (hI : IC σ a n s o P tl tx rf)  {σ1 : SI} (hσ1 : lkS σ a n (a 0).toNatClampNeg (a 1).toNatClampNeg = σ1) {v : Int32} (hv : σ1 76 6 = v) : E KP_white [.ref 5, .int (nI 4)] (HH σ δ) (some (.int (v))) (HH σ1 δ) := by
  have hW := hI.hl.wf
  have hR := hI.hl.rb
  have hD := hI.hl.rd
  have h2 := hR.c
  have h8 := hW.n8
  have hB := LB_6
  have hwd := hW.wid
  have hhg := hW.hei
  refine E.ofL [some (.ref 5), some (.int (nI 4))] rfl pn_RX8 rfl (fun sc => ?_)
  refine g_iload_n dX8_white_0 rfl ?_
  refine g_iconst dX8_white_1 ic_0 ?_
  refine g_iconst dX8_white_2 ic_5 ?_
  refine g_s3 (M' := KP_within) dX8_white_3 l_P_96 s_KP_within c_KP_within rfl rfl ⟨rfl, rfl⟩ ?_
  refine g_top (show _ = bI true by decide +kernel) ?_
  refine g_s1 (M' := KP_goodIf) dX8_white_6 l_P_81 s_KP_goodIf c_KP_goodIf rfl rfl ⟨rfl, rfl⟩ ?_
  refine g_top (if_pos rfl) ?_
  refine g_istore_n dX8_white_9 rfl ?_
  refine g_aload_n dX8_white_10 rfl ?_
  refine g_iload_n dX8_white_11 rfl ?_
  refine g_v1 (M' := KP_mayAnswer) dX8_white_12 l_P_100 v_KP_mayAnswer c_KP_mayAnswer0 rc_5 rfl rfl ⟨rfl, rfl⟩ ?_
  refine b_if_ne (tgt := 20) dX8_white_15 rfl (fun zc15 => ?_) (fun zc15 => ?_)
  · refine g_aload_n dX8_white_20 rfl ?_
    refine q_getq dX8_white_21 f_P_43 ck_5 (by decide) ty_7_5 rf_5_5 ?_
    refine g_aload_n dX8_white_24 rfl ?_
    refine q_getq dX8_white_25 f_P_12 ck_5 (by decide) ty_7_0 rf_5_0 ?_
    refine g_v1n (M' := KW_look) dX8_white_28 l_P_176 v_KW_look (by have zq := c_KW_look (δ := δ) LB_6 hI.hl rfl rfl; rw [hσ1] at zq; exact zq) rc_76 HH_len rfl ⟨rfl, rfl⟩ ?_
    refine g_aload_n dX8_white_31 rfl ?_
    refine q_getq dX8_white_32 f_P_43 ck_5 (by decide) ty_7_5 rf_5_5 ?_
    refine g_iload_n dX8_white_35 rfl ?_
    refine g_v1 (M' := KW_tell) dX8_white_36 l_P_179 v_KW_tell (c_KW_tell4 hv) rc_76 rfl rfl ⟨rfl, rfl⟩ ?_
    exact e_iret dX8_white_39 rfl (by rfl) (by rfl)
  · exact absurd zc15 (by decide)
set_option maxRecDepth 100000 in
theorem c_KP_white_ok5 {σ : SI} {δ : SD} {a : Nat → Int32} {n s o tl : Nat} {P : Nat → Nat → Int32} {tx rf : Nat → Int32} (hI : IC σ a n s o P tl tx rf)  {σ1 : SI} (hσ1 : lkS σ a n (a 0).toNatClampNeg (a 1).toNatClampNeg = σ1) {c : Nat} (h0 : σ1 76 0 = nI (a 0).toNatClampNeg) (h1 : σ1 76 1 = nI (a 1).toNatClampNeg) (h2c : σ1 76 2 = nI c) (hc : c ≤ 256) : E KP_white [.ref 5, .int (nI 5)] (HH σ δ) (some (.int ((shrF c ((a 0).toNatClampNeg * (a 1).toNatClampNeg)).toInt32))) (HH σ1 δ) := by
  have hW := hI.hl.wf
  have hR := hI.hl.rb
  have hD := hI.hl.rd
  have h2 := hR.c
  have h8 := hW.n8
  have hB := LB_6
  have hwd := hW.wid
  have hhg := hW.hei
  refine E.ofL [some (.ref 5), some (.int (nI 5))] rfl pn_RX8 rfl (fun sc => ?_)
  refine g_iload_n dX8_white_0 rfl ?_
  refine g_iconst dX8_white_1 ic_0 ?_
  refine g_iconst dX8_white_2 ic_5 ?_
  refine g_s3 (M' := KP_within) dX8_white_3 l_P_96 s_KP_within c_KP_within rfl rfl ⟨rfl, rfl⟩ ?_
  refine g_top (show _ = bI true by decide +kernel) ?_
  refine g_s1 (M' := KP_goodIf) dX8_white_6 l_P_81 s_KP_goodIf c_KP_goodIf rfl rfl ⟨rfl, rfl⟩ ?_
  refine g_top (if_pos rfl) ?_
  refine g_istore_n dX8_white_9 rfl ?_
  refine g_aload_n dX8_white_10 rfl ?_
  refine g_iload_n dX8_white_11 rfl ?_
  refine g_v1 (M' := KP_mayAnswer) dX8_white_12 l_P_100 v_KP_mayAnswer c_KP_mayAnswer0 rc_5 rfl rfl ⟨rfl, rfl⟩ ?_
  refine b_if_ne (tgt := 20) dX8_white_15 rfl (fun zc15 => ?_) (fun zc15 => ?_)
  · refine g_aload_n dX8_white_20 rfl ?_
    refine q_getq dX8_white_21 f_P_43 ck_5 (by decide) ty_7_5 rf_5_5 ?_
    refine g_aload_n dX8_white_24 rfl ?_
    refine q_getq dX8_white_25 f_P_12 ck_5 (by decide) ty_7_0 rf_5_0 ?_
    refine g_v1n (M' := KW_look) dX8_white_28 l_P_176 v_KW_look (by have zq := c_KW_look (δ := δ) LB_6 hI.hl rfl rfl; rw [hσ1] at zq; exact zq) rc_76 HH_len rfl ⟨rfl, rfl⟩ ?_
    refine g_aload_n dX8_white_31 rfl ?_
    refine q_getq dX8_white_32 f_P_43 ck_5 (by decide) ty_7_5 rf_5_5 ?_
    refine g_iload_n dX8_white_35 rfl ?_
    refine g_v1 (M' := KW_tell) dX8_white_36 l_P_179 v_KW_tell (c_KW_tell5 h0 h1 h2c ⟨hwd.1, hwd.2.1⟩ ⟨hhg.1, hhg.2.1⟩ hc) rc_76 rfl rfl ⟨rfl, rfl⟩ ?_
    exact e_iret dX8_white_39 rfl (by rfl) (by rfl)
  · exact absurd zc15 (by decide)
set_option maxRecDepth 100000 in
theorem c_KP_white_no2 {σ : SI} {δ : SD} {a : Nat → Int32} {n s o tl : Nat} {P : Nat → Nat → Int32} {tx rf : Nat → Int32} (hI : IC σ a n s o P tl tx rf) {what : Int32} (hk : inB what (nI 0) (nI 5) = false) : E KP_white [.ref 5, .int what] (HH σ δ) (some (.int (-2))) (HH (rfC σ 0) δ) := by
  have hW := hI.hl.wf
  have hR := hI.hl.rb
  have hD := hI.hl.rd
  have h2 := hR.c
  have h8 := hW.n8
  have hB := LB_6
  refine E.ofL [some (.ref 5), some (.int what)] rfl pn_RX8 rfl (fun sc => ?_)
  refine g_iload_n dX8_white_0 rfl ?_
  refine g_iconst dX8_white_1 ic_0 ?_
  refine g_iconst dX8_white_2 ic_5 ?_
  refine g_s3 (M' := KP_within) dX8_white_3 l_P_96 s_KP_within c_KP_within rfl rfl ⟨rfl, rfl⟩ ?_
  refine g_top (show _ = bI false by rw [hk]) ?_
  refine g_s1 (M' := KP_goodIf) dX8_white_6 l_P_81 s_KP_goodIf c_KP_goodIf rfl rfl ⟨rfl, rfl⟩ ?_
  refine g_top (if_neg (by decide)) ?_
  refine g_istore_n dX8_white_9 rfl ?_
  refine g_aload_n dX8_white_10 rfl ?_
  refine g_iload_n dX8_white_11 rfl ?_
  refine g_v1 (M' := KP_mayAnswer) dX8_white_12 l_P_100 v_KP_mayAnswer c_KP_mayAnswer2 rc_5 rfl rfl ⟨rfl, rfl⟩ ?_
  refine b_if_ne (tgt := 20) dX8_white_15 rfl (fun zc15 => ?_) (fun zc15 => ?_)
  · exact absurd zc15 (by decide)
  · refine g_iload_n dX8_white_18 rfl ?_
    exact e_iret dX8_white_19 rfl (by rfl) (by rfl)
set_option maxRecDepth 100000 in
theorem c_KR_whiteNow0 {σ : SI} {δ : SD} {n : Nat} (hW : WF (σ 85) n) {c : Nat} (hc : cntN (whP (σ 85) n) 256 = c) (hc2 : c ≤ 256) : E KR_whiteNow [.ref 84, .int (nI 0)] (HH σ δ) (some (.int (nI c))) (HH (fill σ 90 (fun i => bI (whP (σ 85) n i)) 256) δ) := by
  have h8 := hW.n8
  refine E.ofL [some (.ref 84), some (.int (nI 0))] rfl pn_RX9 rfl (fun sc => ?_)
  refine g_aload_n dX9_whiteNow_0 rfl ?_
  refine g_v0 (M' := KR_laysWhite) dX9_whiteNow_1 l_R_242 v_KR_laysWhite (by have zq := c_KR_laysWhite (δ := δ) hW; rw [hc] at zq; exact zq) rc_84 HH_len rfl ⟨rfl, rfl⟩ ?_
  refine g_istore_n dX9_whiteNow_4 rfl ?_
  refine g_iload_n dX9_whiteNow_5 rfl ?_
  refine n_if_ne (tgt := 11) (by omega) dX9_whiteNow_6 rfl (fun zc6 => absurd zc6 (by decide)) (fun _ => ?_)
  refine g_iload_n dX9_whiteNow_9 rfl ?_
  exact e_iret dX9_whiteNow_10 rfl (by rfl) (by rfl)
set_option maxRecDepth 100000 in
theorem c_KR_white_ok0 {σ : SI} {δ : SD} {a : Nat → Int32} {n s tl : Nat} {P : Nat → Nat → Int32} {tx rf : Nat → Int32} (hJ : IR σ a s P tl tx rf) (hs : s ≤ 5) (hW : WF a n)  {c : Nat} (hc : cntN (whP a n) 256 = c) (hc2 : c ≤ 256) : E KR_white [.ref 84, .int (nI 0)] (HH σ δ) (some (.int (nI c))) (HH (fill σ 90 (fun i => bI (whP a n i)) 256) δ) := by
  obtain rfl := hJ.row
  have h3 := hJ.sd
  have hn := hW.n8
  have h7 := hW.a7
  have h8 := hW.n8
  refine E.ofL [some (.ref 84), some (.int (nI 0))] rfl pn_RX9 rfl (fun sc => ?_)
  refine g_iload_n dX9_white_0 rfl ?_
  refine g_i2l dX9_white_1 ?_
  refine g_lconst (v := 0) dX9_white_2 rfl ?_
  refine g_ldcl dX9_white_3 c_R_251 ?_
  refine g_s3 (M' := KR_in) dX9_white_6 l_R_46 s_KR_in c_KR_in rfl rfl ⟨rfl, rfl⟩ ?_
  refine g_top (show _ = nI 1 by decide +kernel) ?_
  refine n_if_eq (tgt := 20) (by omega) dX9_white_9 rfl (fun zc9 => absurd zc9 (by decide)) (fun _ => ?_)
  refine g_aload_n dX9_white_12 rfl ?_
  refine g_iload_n dX9_white_13 rfl ?_
  refine g_v1 (M' := KR_whiteNow) dX9_white_14 l_R_253 v_KR_whiteNow (c_KR_whiteNow0 hW hc hc2) rc_84 HH_len rfl ⟨rfl, rfl⟩ ?_
  refine g_goto (tgt := 26) dX9_white_17 rfl ?_
  exact e_iret dX9_white_26 rfl (by rfl) (by rfl)
set_option maxRecDepth 100000 in
theorem c_KR_whiteNow1 {σ : SI} {δ : SD} {n : Nat} (hW : WF (σ 85) n) {c : Nat} (hc : cntN (whP (σ 85) n) 256 = c) (hc2 : c ≤ 256) {s0 : Blk} (hs0 : blA (whP (σ 85) n) 256 = s0) : E KR_whiteNow [.ref 84, .int (nI 1)] (HH σ δ) (some (.int (nI s0.1))) (HH (blR (fill σ 90 (fun i => bI (whP (σ 85) n i)) 256) s0) δ) := by
  have h8 := hW.n8
  refine E.ofL [some (.ref 84), some (.int (nI 1))] rfl pn_RX9 rfl (fun sc => ?_)
  refine g_aload_n dX9_whiteNow_0 rfl ?_
  refine g_v0 (M' := KR_laysWhite) dX9_whiteNow_1 l_R_242 v_KR_laysWhite (by have zq := c_KR_laysWhite (δ := δ) hW; rw [hc] at zq; exact zq) rc_84 HH_len rfl ⟨rfl, rfl⟩ ?_
  refine g_istore_n dX9_whiteNow_4 rfl ?_
  refine g_iload_n dX9_whiteNow_5 rfl ?_
  refine n_if_ne (tgt := 11) (by omega) dX9_whiteNow_6 rfl (fun _ => ?_) (fun zc6 => absurd zc6 (by decide))
  refine g_iload_n dX9_whiteNow_11 rfl ?_
  refine g_iconst dX9_whiteNow_12 ic_4 ?_
  refine n_icmp_ne (tgt := 21) (by omega) (by omega) dX9_whiteNow_13 rfl (fun zc13 => ?_) (fun zc13 => ?_)
  · refine g_iload_n dX9_whiteNow_21 rfl ?_
    refine g_iconst dX9_whiteNow_22 ic_5 ?_
    refine n_icmp_ne (tgt := 47) (by omega) (by omega) dX9_whiteNow_23 rfl (fun zc23 => ?_) (fun zc23 => ?_)
    · refine g_aload_n dX9_whiteNow_47 rfl ?_
      refine g_v0n (M' := KR_findsBlock) dX9_whiteNow_48 l_R_248 v_KR_findsBlock (by have zq := c_KR_findsBlock (σ := (fill σ 90 (fun i => bI (whP (σ 85) n i)) 256)) (δ := δ) (f := whP (σ 85) n) (fun p hp => fill_in hp); rw [hs0] at zq; exact zq) rc_84 HH_len rfl ⟨rfl, rfl⟩ ?_
      refine g_iload_n dX9_whiteNow_51 rfl ?_
      refine g_iconst dX9_whiteNow_52 ic_1 ?_
      refine n_icmp_ne (tgt := 63) (by omega) (by omega) dX9_whiteNow_53 rfl (fun zc53 => ?_) (fun zc53 => ?_)
      · exact absurd rfl zc53
      · refine g_aload_n dX9_whiteNow_56 rfl ?_
        refine q_geti dX9_whiteNow_57 f_R_230 ck_84 (by decide) ty_8_8 ?_
        refine g_goto (tgt := 79) dX9_whiteNow_60 rfl ?_
        exact e_iret dX9_whiteNow_79 rfl (by rfl) (by rfl)
    · exact absurd zc23 (by decide)
  · exact absurd zc13 (by decide)
set_option maxRecDepth 100000 in
theorem c_KR_white_ok1 {σ : SI} {δ : SD} {a : Nat → Int32} {n s tl : Nat} {P : Nat → Nat → Int32} {tx rf : Nat → Int32} (hJ : IR σ a s P tl tx rf) (hs : s ≤ 5) (hW : WF a n)  {c : Nat} (hc : cntN (whP a n) 256 = c) (hc2 : c ≤ 256) {s0 : Blk} (hs0 : blA (whP a n) 256 = s0) : E KR_white [.ref 84, .int (nI 1)] (HH σ δ) (some (.int (nI s0.1))) (HH (blR (fill σ 90 (fun i => bI (whP a n i)) 256) s0) δ) := by
  obtain rfl := hJ.row
  have h3 := hJ.sd
  have hn := hW.n8
  have h7 := hW.a7
  have h8 := hW.n8
  refine E.ofL [some (.ref 84), some (.int (nI 1))] rfl pn_RX9 rfl (fun sc => ?_)
  refine g_iload_n dX9_white_0 rfl ?_
  refine g_i2l dX9_white_1 ?_
  refine g_lconst (v := 0) dX9_white_2 rfl ?_
  refine g_ldcl dX9_white_3 c_R_251 ?_
  refine g_s3 (M' := KR_in) dX9_white_6 l_R_46 s_KR_in c_KR_in rfl rfl ⟨rfl, rfl⟩ ?_
  refine g_top (show _ = nI 1 by decide +kernel) ?_
  refine n_if_eq (tgt := 20) (by omega) dX9_white_9 rfl (fun zc9 => absurd zc9 (by decide)) (fun _ => ?_)
  refine g_aload_n dX9_white_12 rfl ?_
  refine g_iload_n dX9_white_13 rfl ?_
  refine g_v1 (M' := KR_whiteNow) dX9_white_14 l_R_253 v_KR_whiteNow (c_KR_whiteNow1 hW hc hc2 hs0) rc_84 HH_len rfl ⟨rfl, rfl⟩ ?_
  refine g_goto (tgt := 26) dX9_white_17 rfl ?_
  exact e_iret dX9_white_26 rfl (by rfl) (by rfl)
set_option maxRecDepth 100000 in
theorem c_KR_whiteNow2 {σ : SI} {δ : SD} {n : Nat} (hW : WF (σ 85) n) {c : Nat} (hc : cntN (whP (σ 85) n) 256 = c) (hc2 : c ≤ 256) {s0 : Blk} (hs0 : blA (whP (σ 85) n) 256 = s0) : E KR_whiteNow [.ref 84, .int (nI 2)] (HH σ δ) (some (.int (s0.2.1))) (HH (blR (fill σ 90 (fun i => bI (whP (σ 85) n i)) 256) s0) δ) := by
  have h8 := hW.n8
  refine E.ofL [some (.ref 84), some (.int (nI 2))] rfl pn_RX9 rfl (fun sc => ?_)
  refine g_aload_n dX9_whiteNow_0 rfl ?_
  refine g_v0 (M' := KR_laysWhite) dX9_whiteNow_1 l_R_242 v_KR_laysWhite (by have zq := c_KR_laysWhite (δ := δ) hW; rw [hc] at zq; exact zq) rc_84 HH_len rfl ⟨rfl, rfl⟩ ?_
  refine g_istore_n dX9_whiteNow_4 rfl ?_
  refine g_iload_n dX9_whiteNow_5 rfl ?_
  refine n_if_ne (tgt := 11) (by omega) dX9_whiteNow_6 rfl (fun _ => ?_) (fun zc6 => absurd zc6 (by decide))
  refine g_iload_n dX9_whiteNow_11 rfl ?_
  refine g_iconst dX9_whiteNow_12 ic_4 ?_
  refine n_icmp_ne (tgt := 21) (by omega) (by omega) dX9_whiteNow_13 rfl (fun zc13 => ?_) (fun zc13 => ?_)
  · refine g_iload_n dX9_whiteNow_21 rfl ?_
    refine g_iconst dX9_whiteNow_22 ic_5 ?_
    refine n_icmp_ne (tgt := 47) (by omega) (by omega) dX9_whiteNow_23 rfl (fun zc23 => ?_) (fun zc23 => ?_)
    · refine g_aload_n dX9_whiteNow_47 rfl ?_
      refine g_v0n (M' := KR_findsBlock) dX9_whiteNow_48 l_R_248 v_KR_findsBlock (by have zq := c_KR_findsBlock (σ := (fill σ 90 (fun i => bI (whP (σ 85) n i)) 256)) (δ := δ) (f := whP (σ 85) n) (fun p hp => fill_in hp); rw [hs0] at zq; exact zq) rc_84 HH_len rfl ⟨rfl, rfl⟩ ?_
      refine g_iload_n dX9_whiteNow_51 rfl ?_
      refine g_iconst dX9_whiteNow_52 ic_1 ?_
      refine n_icmp_ne (tgt := 63) (by omega) (by omega) dX9_whiteNow_53 rfl (fun zc53 => ?_) (fun zc53 => ?_)
      · refine g_iload_n dX9_whiteNow_63 rfl ?_
        refine g_iconst dX9_whiteNow_64 ic_2 ?_
        refine n_icmp_ne (tgt := 75) (by omega) (by omega) dX9_whiteNow_65 rfl (fun zc65 => ?_) (fun zc65 => ?_)
        · exact absurd rfl zc65
        · refine g_aload_n dX9_whiteNow_68 rfl ?_
          refine q_geti dX9_whiteNow_69 f_R_233 ck_84 (by decide) ty_8_9 ?_
          refine g_goto (tgt := 79) dX9_whiteNow_72 rfl ?_
          exact e_iret dX9_whiteNow_79 rfl (by rfl) (by rfl)
      · exact absurd zc53 (by decide)
    · exact absurd zc23 (by decide)
  · exact absurd zc13 (by decide)
set_option maxRecDepth 100000 in
theorem c_KR_white_ok2 {σ : SI} {δ : SD} {a : Nat → Int32} {n s tl : Nat} {P : Nat → Nat → Int32} {tx rf : Nat → Int32} (hJ : IR σ a s P tl tx rf) (hs : s ≤ 5) (hW : WF a n)  {c : Nat} (hc : cntN (whP a n) 256 = c) (hc2 : c ≤ 256) {s0 : Blk} (hs0 : blA (whP a n) 256 = s0) : E KR_white [.ref 84, .int (nI 2)] (HH σ δ) (some (.int (s0.2.1))) (HH (blR (fill σ 90 (fun i => bI (whP a n i)) 256) s0) δ) := by
  obtain rfl := hJ.row
  have h3 := hJ.sd
  have hn := hW.n8
  have h7 := hW.a7
  have h8 := hW.n8
  refine E.ofL [some (.ref 84), some (.int (nI 2))] rfl pn_RX9 rfl (fun sc => ?_)
  refine g_iload_n dX9_white_0 rfl ?_
  refine g_i2l dX9_white_1 ?_
  refine g_lconst (v := 0) dX9_white_2 rfl ?_
  refine g_ldcl dX9_white_3 c_R_251 ?_
  refine g_s3 (M' := KR_in) dX9_white_6 l_R_46 s_KR_in c_KR_in rfl rfl ⟨rfl, rfl⟩ ?_
  refine g_top (show _ = nI 1 by decide +kernel) ?_
  refine n_if_eq (tgt := 20) (by omega) dX9_white_9 rfl (fun zc9 => absurd zc9 (by decide)) (fun _ => ?_)
  refine g_aload_n dX9_white_12 rfl ?_
  refine g_iload_n dX9_white_13 rfl ?_
  refine g_v1 (M' := KR_whiteNow) dX9_white_14 l_R_253 v_KR_whiteNow (c_KR_whiteNow2 hW hc hc2 hs0) rc_84 HH_len rfl ⟨rfl, rfl⟩ ?_
  refine g_goto (tgt := 26) dX9_white_17 rfl ?_
  exact e_iret dX9_white_26 rfl (by rfl) (by rfl)
set_option maxRecDepth 100000 in
theorem c_KR_whiteNow3 {σ : SI} {δ : SD} {n : Nat} (hW : WF (σ 85) n) {c : Nat} (hc : cntN (whP (σ 85) n) 256 = c) (hc2 : c ≤ 256) {s0 : Blk} (hs0 : blA (whP (σ 85) n) 256 = s0) : E KR_whiteNow [.ref 84, .int (nI 3)] (HH σ δ) (some (.int (s0.2.2))) (HH (blR (fill σ 90 (fun i => bI (whP (σ 85) n i)) 256) s0) δ) := by
  have h8 := hW.n8
  refine E.ofL [some (.ref 84), some (.int (nI 3))] rfl pn_RX9 rfl (fun sc => ?_)
  refine g_aload_n dX9_whiteNow_0 rfl ?_
  refine g_v0 (M' := KR_laysWhite) dX9_whiteNow_1 l_R_242 v_KR_laysWhite (by have zq := c_KR_laysWhite (δ := δ) hW; rw [hc] at zq; exact zq) rc_84 HH_len rfl ⟨rfl, rfl⟩ ?_
  refine g_istore_n dX9_whiteNow_4 rfl ?_
  refine g_iload_n dX9_whiteNow_5 rfl ?_
  refine n_if_ne (tgt := 11) (by omega) dX9_whiteNow_6 rfl (fun _ => ?_) (fun zc6 => absurd zc6 (by decide))
  refine g_iload_n dX9_whiteNow_11 rfl ?_
  refine g_iconst dX9_whiteNow_12 ic_4 ?_
  refine n_icmp_ne (tgt := 21) (by omega) (by omega) dX9_whiteNow_13 rfl (fun zc13 => ?_) (fun zc13 => ?_)
  · refine g_iload_n dX9_whiteNow_21 rfl ?_
    refine g_iconst dX9_whiteNow_22 ic_5 ?_
    refine n_icmp_ne (tgt := 47) (by omega) (by omega) dX9_whiteNow_23 rfl (fun zc23 => ?_) (fun zc23 => ?_)
    · refine g_aload_n dX9_whiteNow_47 rfl ?_
      refine g_v0n (M' := KR_findsBlock) dX9_whiteNow_48 l_R_248 v_KR_findsBlock (by have zq := c_KR_findsBlock (σ := (fill σ 90 (fun i => bI (whP (σ 85) n i)) 256)) (δ := δ) (f := whP (σ 85) n) (fun p hp => fill_in hp); rw [hs0] at zq; exact zq) rc_84 HH_len rfl ⟨rfl, rfl⟩ ?_
      refine g_iload_n dX9_whiteNow_51 rfl ?_
      refine g_iconst dX9_whiteNow_52 ic_1 ?_
      refine n_icmp_ne (tgt := 63) (by omega) (by omega) dX9_whiteNow_53 rfl (fun zc53 => ?_) (fun zc53 => ?_)
      · refine g_iload_n dX9_whiteNow_63 rfl ?_
        refine g_iconst dX9_whiteNow_64 ic_2 ?_
        refine n_icmp_ne (tgt := 75) (by omega) (by omega) dX9_whiteNow_65 rfl (fun zc65 => ?_) (fun zc65 => ?_)
        · refine g_aload_n dX9_whiteNow_75 rfl ?_
          refine q_geti dX9_whiteNow_76 f_R_236 ck_84 (by decide) ty_8_10 ?_
          exact e_iret dX9_whiteNow_79 rfl (by rfl) (by rfl)
        · exact absurd zc65 (by decide)
      · exact absurd zc53 (by decide)
    · exact absurd zc23 (by decide)
  · exact absurd zc13 (by decide)
set_option maxRecDepth 100000 in
theorem c_KR_white_ok3 {σ : SI} {δ : SD} {a : Nat → Int32} {n s tl : Nat} {P : Nat → Nat → Int32} {tx rf : Nat → Int32} (hJ : IR σ a s P tl tx rf) (hs : s ≤ 5) (hW : WF a n)  {c : Nat} (hc : cntN (whP a n) 256 = c) (hc2 : c ≤ 256) {s0 : Blk} (hs0 : blA (whP a n) 256 = s0) : E KR_white [.ref 84, .int (nI 3)] (HH σ δ) (some (.int (s0.2.2))) (HH (blR (fill σ 90 (fun i => bI (whP a n i)) 256) s0) δ) := by
  obtain rfl := hJ.row
  have h3 := hJ.sd
  have hn := hW.n8
  have h7 := hW.a7
  have h8 := hW.n8
  refine E.ofL [some (.ref 84), some (.int (nI 3))] rfl pn_RX9 rfl (fun sc => ?_)
  refine g_iload_n dX9_white_0 rfl ?_
  refine g_i2l dX9_white_1 ?_
  refine g_lconst (v := 0) dX9_white_2 rfl ?_
  refine g_ldcl dX9_white_3 c_R_251 ?_
  refine g_s3 (M' := KR_in) dX9_white_6 l_R_46 s_KR_in c_KR_in rfl rfl ⟨rfl, rfl⟩ ?_
  refine g_top (show _ = nI 1 by decide +kernel) ?_
  refine n_if_eq (tgt := 20) (by omega) dX9_white_9 rfl (fun zc9 => absurd zc9 (by decide)) (fun _ => ?_)
  refine g_aload_n dX9_white_12 rfl ?_
  refine g_iload_n dX9_white_13 rfl ?_
  refine g_v1 (M' := KR_whiteNow) dX9_white_14 l_R_253 v_KR_whiteNow (c_KR_whiteNow3 hW hc hc2 hs0) rc_84 HH_len rfl ⟨rfl, rfl⟩ ?_
  refine g_goto (tgt := 26) dX9_white_17 rfl ?_
  exact e_iret dX9_white_26 rfl (by rfl) (by rfl)
set_option maxRecDepth 100000 in
theorem c_KR_whiteNow4 {σ : SI} {δ : SD} {n : Nat} (hW : WF (σ 85) n) {c : Nat} (hc : cntN (whP (σ 85) n) 256 = c) (hc2 : c ≤ 256) {FIN : Nat → Nat} {m : Nat} (hF : E KR_heaps [.ref 84] (HH (fill σ 90 (fun i => bI (whP (σ 85) n i)) 256) δ) (some (.int (nI m))) (HH (fill (fill σ 90 (fun i => bI (whP (σ 85) n i)) 256) 91 (fun i => nI (FIN i)) 256) δ)) : E KR_whiteNow [.ref 84, .int (nI 4)] (HH σ δ) (some (.int (nI m))) (HH (fill (fill σ 90 (fun i => bI (whP (σ 85) n i)) 256) 91 (fun i => nI (FIN i)) 256) δ) := by
  have h8 := hW.n8
  refine E.ofL [some (.ref 84), some (.int (nI 4))] rfl pn_RX9 rfl (fun sc => ?_)
  refine g_aload_n dX9_whiteNow_0 rfl ?_
  refine g_v0 (M' := KR_laysWhite) dX9_whiteNow_1 l_R_242 v_KR_laysWhite (by have zq := c_KR_laysWhite (δ := δ) hW; rw [hc] at zq; exact zq) rc_84 HH_len rfl ⟨rfl, rfl⟩ ?_
  refine g_istore_n dX9_whiteNow_4 rfl ?_
  refine g_iload_n dX9_whiteNow_5 rfl ?_
  refine n_if_ne (tgt := 11) (by omega) dX9_whiteNow_6 rfl (fun _ => ?_) (fun zc6 => absurd zc6 (by decide))
  refine g_iload_n dX9_whiteNow_11 rfl ?_
  refine g_iconst dX9_whiteNow_12 ic_4 ?_
  refine n_icmp_ne (tgt := 21) (by omega) (by omega) dX9_whiteNow_13 rfl (fun zc13 => ?_) (fun zc13 => ?_)
  · exact absurd rfl zc13
  · refine g_aload_n dX9_whiteNow_16 rfl ?_
    refine g_v0 (M' := KR_heaps) dX9_whiteNow_17 l_R_245 v_KR_heaps hF rc_84 HH_len rfl ⟨rfl, rfl⟩ ?_
    exact e_iret dX9_whiteNow_20 rfl (by rfl) (by rfl)
set_option maxRecDepth 100000 in
theorem c_KR_white_ok4 {σ : SI} {δ : SD} {a : Nat → Int32} {n s tl : Nat} {P : Nat → Nat → Int32} {tx rf : Nat → Int32} (hJ : IR σ a s P tl tx rf) (hs : s ≤ 5) (hW : WF a n)  {c : Nat} (hc : cntN (whP a n) 256 = c) (hc2 : c ≤ 256) {FIN : Nat → Nat} {m : Nat} (hF : E KR_heaps [.ref 84] (HH (fill σ 90 (fun i => bI (whP a n i)) 256) δ) (some (.int (nI m))) (HH (fill (fill σ 90 (fun i => bI (whP a n i)) 256) 91 (fun i => nI (FIN i)) 256) δ)) : E KR_white [.ref 84, .int (nI 4)] (HH σ δ) (some (.int (nI m))) (HH (fill (fill σ 90 (fun i => bI (whP a n i)) 256) 91 (fun i => nI (FIN i)) 256) δ) := by
  obtain rfl := hJ.row
  have h3 := hJ.sd
  have hn := hW.n8
  have h7 := hW.a7
  have h8 := hW.n8
  refine E.ofL [some (.ref 84), some (.int (nI 4))] rfl pn_RX9 rfl (fun sc => ?_)
  refine g_iload_n dX9_white_0 rfl ?_
  refine g_i2l dX9_white_1 ?_
  refine g_lconst (v := 0) dX9_white_2 rfl ?_
  refine g_ldcl dX9_white_3 c_R_251 ?_
  refine g_s3 (M' := KR_in) dX9_white_6 l_R_46 s_KR_in c_KR_in rfl rfl ⟨rfl, rfl⟩ ?_
  refine g_top (show _ = nI 1 by decide +kernel) ?_
  refine n_if_eq (tgt := 20) (by omega) dX9_white_9 rfl (fun zc9 => absurd zc9 (by decide)) (fun _ => ?_)
  refine g_aload_n dX9_white_12 rfl ?_
  refine g_iload_n dX9_white_13 rfl ?_
  refine g_v1 (M' := KR_whiteNow) dX9_white_14 l_R_253 v_KR_whiteNow (c_KR_whiteNow4 hW hc hc2 hF) rc_84 HH_len rfl ⟨rfl, rfl⟩ ?_
  refine g_goto (tgt := 26) dX9_white_17 rfl ?_
  exact e_iret dX9_white_26 rfl (by rfl) (by rfl)
set_option maxRecDepth 100000 in
theorem c_KR_whiteNow5 {σ : SI} {δ : SD} {n : Nat} (hW : WF (σ 85) n) {c : Nat} (hc : cntN (whP (σ 85) n) 256 = c) (hc2 : c ≤ 256) : E KR_whiteNow [.ref 84, .int (nI 5)] (HH σ δ) (some (.int ((shrF c ((σ 85 0).toNatClampNeg * (σ 85 1).toNatClampNeg)).toInt32))) (HH (fill σ 90 (fun i => bI (whP (σ 85) n i)) 256) δ) := by
  have h8 := hW.n8
  have hwd := hW.wid
  have hhg := hW.hei
  have hm := sh_wh ⟨hwd.1, hwd.2.1⟩ ⟨hhg.1, hhg.2.1⟩
  refine E.ofL [some (.ref 84), some (.int (nI 5))] rfl pn_RX9 rfl (fun sc => ?_)
  refine g_aload_n dX9_whiteNow_0 rfl ?_
  refine g_v0 (M' := KR_laysWhite) dX9_whiteNow_1 l_R_242 v_KR_laysWhite (by have zq := c_KR_laysWhite (δ := δ) hW; rw [hc] at zq; exact zq) rc_84 HH_len rfl ⟨rfl, rfl⟩ ?_
  refine g_istore_n dX9_whiteNow_4 rfl ?_
  refine g_iload_n dX9_whiteNow_5 rfl ?_
  refine n_if_ne (tgt := 11) (by omega) dX9_whiteNow_6 rfl (fun _ => ?_) (fun zc6 => absurd zc6 (by decide))
  refine g_iload_n dX9_whiteNow_11 rfl ?_
  refine g_iconst dX9_whiteNow_12 ic_4 ?_
  refine n_icmp_ne (tgt := 21) (by omega) (by omega) dX9_whiteNow_13 rfl (fun zc13 => ?_) (fun zc13 => ?_)
  · refine g_iload_n dX9_whiteNow_21 rfl ?_
    refine g_iconst dX9_whiteNow_22 ic_5 ?_
    refine n_icmp_ne (tgt := 47) (by omega) (by omega) dX9_whiteNow_23 rfl (fun zc23 => ?_) (fun zc23 => ?_)
    · exact absurd rfl zc23
    · refine g_iload_n dX9_whiteNow_26 rfl ?_
      refine g_i2f dX9_whiteNow_27 ?_
      refine g_aload_n dX9_whiteNow_28 rfl ?_
      refine q_getq dX9_whiteNow_29 f_R_7 ck_84 (by decide) ty_8_0 rf_84_0 ?_
      refine g_iconst dX9_whiteNow_32 ic_0 ?_
      refine q_iald dX9_whiteNow_33 ck_85 (ixD_nI (by omega) (by decide)) ?_
      refine g_top (show _ = nI (σ 85 0).toNatClampNeg from hwd.2.2) ?_
      refine g_aload_n dX9_whiteNow_34 rfl ?_
      refine q_getq dX9_whiteNow_35 f_R_7 ck_84 (by decide) ty_8_0 rf_84_0 ?_
      refine g_iconst dX9_whiteNow_38 ic_1 ?_
      refine q_iald dX9_whiteNow_39 ck_85 (ixD_nI (by omega) (by decide)) ?_
      refine g_top (show _ = nI (σ 85 1).toNatClampNeg from hhg.2.2) ?_
      refine n_imul dX9_whiteNow_40 ?_
      refine g_i2f dX9_whiteNow_41 ?_
      refine g_fdiv dX9_whiteNow_42 (n32_lt (Nat.le_trans (sh_b hc2 hm).1 (by decide))) ?_
      refine g_s1 (M' := KJ_floatToIntBits) dX9_whiteNow_43 l_R_160 s_KJ_floatToIntBits (c_KJ_floatToIntBits (Nat.lt_of_le_of_lt (sh_b hc2 hm).1 (by decide))) rfl rfl ⟨rfl, rfl⟩ ?_
      exact e_iret dX9_whiteNow_46 rfl (by rfl) (by rfl)
  · exact absurd zc13 (by decide)
set_option maxRecDepth 100000 in
theorem c_KR_white_ok5 {σ : SI} {δ : SD} {a : Nat → Int32} {n s tl : Nat} {P : Nat → Nat → Int32} {tx rf : Nat → Int32} (hJ : IR σ a s P tl tx rf) (hs : s ≤ 5) (hW : WF a n)  {c : Nat} (hc : cntN (whP a n) 256 = c) (hc2 : c ≤ 256) : E KR_white [.ref 84, .int (nI 5)] (HH σ δ) (some (.int ((shrF c ((a 0).toNatClampNeg * (a 1).toNatClampNeg)).toInt32))) (HH (fill σ 90 (fun i => bI (whP a n i)) 256) δ) := by
  obtain rfl := hJ.row
  have h3 := hJ.sd
  have hn := hW.n8
  have h7 := hW.a7
  have h8 := hW.n8
  refine E.ofL [some (.ref 84), some (.int (nI 5))] rfl pn_RX9 rfl (fun sc => ?_)
  refine g_iload_n dX9_white_0 rfl ?_
  refine g_i2l dX9_white_1 ?_
  refine g_lconst (v := 0) dX9_white_2 rfl ?_
  refine g_ldcl dX9_white_3 c_R_251 ?_
  refine g_s3 (M' := KR_in) dX9_white_6 l_R_46 s_KR_in c_KR_in rfl rfl ⟨rfl, rfl⟩ ?_
  refine g_top (show _ = nI 1 by decide +kernel) ?_
  refine n_if_eq (tgt := 20) (by omega) dX9_white_9 rfl (fun zc9 => absurd zc9 (by decide)) (fun _ => ?_)
  refine g_aload_n dX9_white_12 rfl ?_
  refine g_iload_n dX9_white_13 rfl ?_
  refine g_v1 (M' := KR_whiteNow) dX9_white_14 l_R_253 v_KR_whiteNow (c_KR_whiteNow5 hW hc hc2) rc_84 HH_len rfl ⟨rfl, rfl⟩ ?_
  refine g_goto (tgt := 26) dX9_white_17 rfl ?_
  exact e_iret dX9_white_26 rfl (by rfl) (by rfl)
set_option maxRecDepth 100000 in
theorem c_KR_white_no2 {σ : SI} {δ : SD} {a : Nat → Int32} {n s tl : Nat} {P : Nat → Nat → Int32} {tx rf : Nat → Int32} (hJ : IR σ a s P tl tx rf) (hs : s ≤ 5) (hW : WF a n) {what : Int32} (hk : inB what (nI 0) (nI 5) = false) : E KR_white [.ref 84, .int what] (HH σ δ) (some (.int (-2))) (HH (rfM σ 0) δ) := by
  obtain rfl := hJ.row
  have h3 := hJ.sd
  have hn := hW.n8
  have h7 := hW.a7
  have h8 := hW.n8
  refine E.ofL [some (.ref 84), some (.int what)] rfl pn_RX9 rfl (fun sc => ?_)
  refine g_iload_n dX9_white_0 rfl ?_
  refine g_i2l dX9_white_1 ?_
  refine g_lconst (v := 0) dX9_white_2 rfl ?_
  refine g_ldcl dX9_white_3 c_R_251 ?_
  refine g_s3 (M' := KR_in) dX9_white_6 l_R_46 s_KR_in c_KR_in rfl rfl ⟨rfl, rfl⟩ ?_
  refine b_if_eq (tgt := 20) dX9_white_9 rfl (fun zc9 => ?_) (fun zc9 => ?_)
  · refine g_aload_n dX9_white_20 rfl ?_
    refine g_bipush dX9_white_21 bp_m2 ?_
    refine g_v1 (M' := KR_refuses) dX9_white_23 l_R_101 v_KR_refuses c_KR_refuses0 rc_84 rfl rfl ⟨rfl, rfl⟩ ?_
    exact e_iret dX9_white_26 rfl (by rfl) (by rfl)
  · simp only [w64_0, w64_5, inL_wide] at zc9; exact absurd zc9 (by rw [hk]; decide)
theorem cp_same {a : Nat → Int32} {n W Hh : Nat} (hW : WF a n) (hwz : (a 0).toNatClampNeg = W) (hhz : (a 1).toNatClampNeg = Hh) {k : Nat} (hk : k = 256) : (cpA (whP a n) W Hh k).2 = cntN (minB (whP a n)) k := by
  have hw := hW.wid
  have hh := hW.hei
  rw [hwz] at hw
  rw [hhz] at hh
  exact (cp_all (fun p hp => by have := wh_in hp; rw [hwz, hhz] at this; exact this) hw.2.1 hh.2.1 k).2.2.2.2.2
theorem step_white {σ : SI} {δ : SD} {what : Int32} (hT : InvT σ) : Step KP_white KR_white [.int what] σ δ := by
  obtain ⟨a, n, s, o, P, tl, tx, rf, hI, hJ⟩ := hT
  have hW := hI.hl.wf
  have hwd := hW.wid
  have hhg := hW.hei
  obtain ⟨k, hk256⟩ : ∃ k, k = 256 := ⟨_, rfl⟩
  have hcp := cp_same hW rfl rfl hk256
  obtain ⟨σ1, hσ1⟩ : ∃ z, lkS σ a n (a 0).toNatClampNeg (a 1).toNatClampNeg = z := ⟨_, rfl⟩
  have c2 : σ1 76 2 = nI (cntN (whP a n) k) := by rw [← hσ1, hk256]; exact lk_2
  have c3 : σ1 76 3 = nI (blA (whP a n) k).1 := by rw [← hσ1, hk256]; exact lk_3
  have c4 : σ1 76 4 = (blA (whP a n) k).2.1 := by rw [← hσ1, hk256]; exact lk_4
  have c5 : σ1 76 5 = (blA (whP a n) k).2.2 := by rw [← hσ1, hk256]; exact lk_5
  have c6 : σ1 76 6 = nI (cntN (minB (whP a n)) k) := by rw [← hcp, ← hσ1, hk256]; exact lk_6
  have c0 : σ1 76 0 = nI (a 0).toNatClampNeg := by rw [← hσ1]; exact lk_0
  have c1 : σ1 76 1 = nI (a 1).toNatClampNeg := by rw [← hσ1]; exact lk_1
  have f1 : ∀ c, c < 71 ∨ c = 81 ∨ 84 ≤ c → c < 15 ∨ 23 < c → σ1 c = σ c := fun c h1 h2 => by rw [← hσ1]; exact lk_c (by omega)
  have g1 : σ1 80 0 = σ 80 0 := by rw [← hσ1, lk_c (by omega)]
  have hcl := cntN_le (p := whP a n) k
  obtain ⟨c, hc⟩ : ∃ c, cntN (whP a n) k = c := ⟨_, rfl⟩
  obtain ⟨s0, hs0⟩ : ∃ s, blA (whP a n) k = s := ⟨_, rfl⟩
  obtain ⟨m, hm⟩ : ∃ m, cntN (minB (whP a n)) k = m := ⟨_, rfl⟩
  rw [hs0] at c3 c4 c5
  rw [hm] at c6
  rw [hc] at c2 hcl
  rw [hk256] at hc hs0 hm hcl
  have f2 : ∀ (τ : SI) (g : Nat → Int32) (c : Nat), c < 84 ∨ c = 85 ∨ c = 86 ∨ c = 88 ∨ c = 92 → fill τ 90 g 256 c = τ c := fun τ g c hc => fill_row (by omega)
  cases hk : inB what (nI 0) (nI 5) with
  | true =>
    obtain ⟨j, -, hj, rfl⟩ := (inB_iff (by decide) (by decide)).mp hk
    rcases (show j = 0 ∨ j = 1 ∨ j = 2 ∨ j = 3 ∨ j = 4 ∨ j = 5 by omega) with rfl | rfl | rfl | rfl | rfl | rfl
    · exact Step.oth hI hJ (c_KP_white_ok0 hI hσ1 c2) f1 g1 (fun h1 => c_KR_white_ok0 h1 hI.s5 hW hc hcl) (fun c hc => f2 _ _ c hc) (by rw [fill_row (by omega)]) (by rw [fill_row (by omega)])
    · exact Step.oth hI hJ (c_KP_white_ok1 hI hσ1 c3) f1 g1 (fun h1 => c_KR_white_ok1 h1 hI.s5 hW hc hcl hs0) (fun c hc => by rw [blR_c (by omega)]; exact f2 _ _ c hc) (by rw [blR_o (by omega) (by omega) (by omega), fill_row (by omega)]) (by rw [blR_o (by omega) (by omega) (by omega), fill_row (by omega)])
    · exact Step.oth hI hJ (c_KP_white_ok2 hI hσ1 c4) f1 g1 (fun h1 => c_KR_white_ok2 h1 hI.s5 hW hc hcl hs0) (fun c hc => by rw [blR_c (by omega)]; exact f2 _ _ c hc) (by rw [blR_o (by omega) (by omega) (by omega), fill_row (by omega)]) (by rw [blR_o (by omega) (by omega) (by omega), fill_row (by omega)])
    · exact Step.oth hI hJ (c_KP_white_ok3 hI hσ1 c5) f1 g1 (fun h1 => c_KR_white_ok3 h1 hI.s5 hW hc hcl hs0) (fun c hc => by rw [blR_c (by omega)]; exact f2 _ _ c hc) (by rw [blR_o (by omega) (by omega) (by omega), fill_row (by omega)]) (by rw [blR_o (by omega) (by omega) (by omega), fill_row (by omega)])
    · have hin : ∀ p, whP a n p = true → p < 256 := fun p hp => by have := wh_in hp; omega
      obtain ⟨FIN, hF⟩ := c_KR_heaps_min (σ := fill σ1 90 (fun i => bI (whP a n i)) 256) (δ := δ) (f := whP a n) (fun p hp => fill_in hp) hin
      rw [hm] at hF
      exact Step.oth hI hJ (c_KP_white_ok4 hI hσ1 c6) f1 g1 (fun h1 => c_KR_white_ok4 h1 hI.s5 hW hc hcl hF) (fun c hc => by rw [fill_row (by omega)]; exact f2 _ _ c hc) (by rw [fill_row (by omega), fill_row (by omega)]) (by rw [fill_row (by omega), fill_row (by omega)])
    · exact Step.oth hI hJ (c_KP_white_ok5 hI hσ1 c0 c1 c2 hcl) f1 g1 (fun h1 => c_KR_white_ok5 h1 hI.s5 hW hc hcl) (fun c hc => f2 _ _ c hc) (by rw [fill_row (by omega)]) (by rw [fill_row (by omega)])
  | false => exact Step.no (by decide) hI hJ (c_KP_white_no2 hI hk) (fun h1 => c_KR_white_no2 h1 hI.s5 hW hk)
