/-! CALLS: otherwise -/
theorem ab_all : ∀ p, p < 16 → ∀ q, q < 16 → absI (nI p - nI q) = nI (if p < q then q - p else p - q) ∧ dsI (nI p) (nI q) = nI (if p < q then q - p else p - q) := by decide +kernel
theorem by_0 {p q x y : Nat} (hp : p < 16) (hq : q < 16) (hx : x < 16) (hy : y < 16) : absI (nI p - nI q) + absI (nI x - nI y) = 0 ↔ (nI p = nI q ∧ nI x = nI y) := by
  rw [(ab_all p hp q hq).1, (ab_all x hx y hy).1, nI_add, nI_eq (by omega) (by omega), nI_eq (by omega) (by omega), show (0 : Int32) = nI 0 from rfl, nI_eq (by split <;> split <;> omega) (by omega)]
  split <;> split <;> omega
section OTW
variable {σ : SI} {B n s k : Nat} {a : Nat → Int32}
theorem lK_t (h : lK a n k = true) : k < n ∧ liesA a k = true := by
  unfold lK at h
  rw [Bool.and_eq_true, decide_eq_true_eq] at h
  exact h
theorem lK_f (h : lK a n k = false) : xK a n k = -1 := by
  unfold xK
  unfold lK at h
  by_cases q : k < n
  · rw [decide_eq_true q, Bool.true_and] at h
    rw [if_pos q]
    unfold liesA at h
    exact Decidable.of_not_not (of_decide_eq_false h)
  · rw [if_neg q]
theorem ot_places (hL : HL σ B a n) (hs : s < 3) (hk : k < 8) (h1 : k < n) (h2 : liesA a k = true) (h3 : ¬ kpA a s k 0 = -1) : ∃ p q x y, p < 16 ∧ q < 16 ∧ x < 16 ∧ y < 16 ∧ its a k 4 = nI p ∧ kpA a s k 0 = nI q ∧ its a k 5 = nI x ∧ kpA a s k 1 = nI y := by
  have e := hL.wf.xy h1 h2
  rcases hL.wf.kp hs hk with g | ⟨⟨q, -, q2, q3⟩, ⟨y, -, y2, y3⟩⟩
  · exact absurd g.1 h3
  · exact ⟨_, q, _, y, by omega, by omega, by omega, by omega, e.2.2.1, q3, e.2.2.2, y3⟩
theorem un_eq (hL : HL σ B a n) (hs : s < 3) (hq : kbN a s = 1) (hk : k < 8) : unC σ B a n s k = unR a n s k := by
  obtain ⟨r0, r1, r2⟩ := hL.rs.2 s hs hq k hk
  unfold unC unR thB alikeC
  rw [r0, r1]
  cases hl : lK a n k with
  | true =>
    obtain ⟨h1, h2⟩ := lK_t hl
    by_cases h3 : kpA a s k 0 = -1
    · have hx : ¬ xK a n k = kpA a s k 0 := by
        unfold xK
        rw [if_pos h1, h3]
        unfold liesA at h2
        exact of_decide_eq_true h2
      rw [decide_eq_false hx, h3]
      rfl
    · obtain ⟨p, q, x, y, b1, b2, b3, b4, e1, e2, e3, e4⟩ := ot_places hL hs hk h1 h2 h3
      obtain ⟨r3, r4⟩ := r2 h3
      rw [decide_eq_true h3, r3, r4]
      unfold xK yK wK hK byA
      rw [if_pos h1, if_pos h1, if_pos h1, if_pos h1, e1, e2, e3, e4]
      have := by_0 b1 b2 b3 b4
      rw [show decide (absI (nI p - nI q) + absI (nI x - nI y) = 0) = (decide (nI p = nI q) && decide (nI x = nI y)) by rw [Bool.eq_iff_iff]; simp only [decide_eq_true_eq, Bool.and_eq_true]; exact this]
      rfl
  | false =>
    have hx := lK_f hl
    by_cases h3 : kpA a s k 0 = -1
    · rw [h3]; rfl
    · rw [hx, decide_eq_true h3, decide_eq_false (show ¬ (-1 : Int32) = kpA a s k 0 from fun q => h3 q.symm)]
      rfl
theorem fr_eq (hL : HL σ B a n) (hs : s < 3) (hq : kbN a s = 1) (hk : k < 8) : frC σ B a n s k = frR a n s k := by
  obtain ⟨r0, r1, r2⟩ := hL.rs.2 s hs hq k hk
  unfold frC frR thB
  rw [r0, r1]
  by_cases h : (lK a n k && decide (¬ kpA a s k 0 = -1)) = true
  · rw [if_pos h, if_pos h]
    rw [Bool.and_eq_true] at h
    obtain ⟨h1, h2⟩ := lK_t h.1
    have h3 := of_decide_eq_true h.2
    obtain ⟨p, q, x, y, b1, b2, b3, b4, e1, e2, e3, e4⟩ := ot_places hL hs hk h1 h2 h3
    unfold xK yK byA
    rw [if_pos h1, if_pos h1, e1, e2, e3, e4, (ab_all p b1 q b2).1, (ab_all x b3 y b4).1, (ab_all p b1 q b2).2, (ab_all x b3 y b4).2]
  · rw [if_neg h, if_neg h]
theorem sumI_cong {f g : Nat → Int32} : ∀ {m : Nat}, (∀ k, k < m → f k = g k) → sumI f m = sumI g m
  | 0, _ => rfl
  | m + 1, h => by unfold sumI; rw [sumI_cong (fun k hk => h k (by omega)), h m (by omega)]
end OTW
set_option maxRecDepth 100000 in
theorem c_KP_otherwise_ok0 {σ : SI} {δ : SD} {a : Nat → Int32} {n s o tl : Nat} {P : Nat → Nat → Int32} {tx rf : Nat → Int32} (hI : IC σ a n s o P tl tx rf) {q : Nat} (hq3 : q < 3) (hk : kbN a q = 1) : E KP_otherwise [.ref 5, .int (nI q), .int (nI 0)] (HH σ δ) (some (.int (nI (cntN (unC σ 6 a n q) 8)))) (HH σ δ) := by
  have hW := hI.hl.wf
  have hR := hI.hl.rb
  have hD := hI.hl.rd
  have h2 := hR.c
  have h8 := hW.n8
  have hB := LB_6
  refine E.ofL [some (.ref 5), some (.int (nI q)), some (.int (nI 0))] rfl pn_RX8 rfl (fun sc => ?_)
  refine g_iload_n dX8_otherwise_0 rfl ?_
  refine g_iconst dX8_otherwise_1 ic_0 ?_
  refine g_iconst dX8_otherwise_2 ic_1 ?_
  refine g_s3 (M' := KP_within) dX8_otherwise_3 l_P_96 s_KP_within c_KP_within rfl rfl ⟨rfl, rfl⟩ ?_
  refine g_top (in1 (Nat.zero_le _) (by omega) (by decide)) ?_
  refine n_if_eq (tgt := 23) (by omega) dX8_otherwise_6 rfl (fun zc6 => absurd zc6 (by decide)) (fun _ => ?_)
  refine g_aload_n dX8_otherwise_9 rfl ?_
  refine q_getq dX8_otherwise_10 f_P_12 ck_5 (by decide) ty_7_0 rf_5_0 ?_
  refine q_getq dX8_otherwise_13 f_P_205 ck_6 (by decide) ty_0_3 (rfL_3 LB_6) ?_
  refine g_iload_n dX8_otherwise_16 rfl ?_
  refine g_v1 (M' := KE_againstUse) dX8_otherwise_17 l_P_215 v_KE_againstUse (c_KE_againstUse LB_6 hI.hl.rs hq3) (rcE LB_6) rfl rfl ⟨rfl, rfl⟩ ?_
  refine g_top (if_pos hk) ?_
  refine g_goto (tgt := 25) dX8_otherwise_20 rfl ?_
  refine g_istore_n dX8_otherwise_25 rfl ?_
  refine g_aload_n dX8_otherwise_26 rfl ?_
  refine g_iload_n dX8_otherwise_27 rfl ?_
  refine g_v1 (M' := KP_mayAnswer) dX8_otherwise_28 l_P_100 v_KP_mayAnswer c_KP_mayAnswer0 rc_5 rfl rfl ⟨rfl, rfl⟩ ?_
  refine b_if_ne (tgt := 36) dX8_otherwise_31 rfl (fun zc31 => ?_) (fun zc31 => ?_)
  · refine g_iload_n dX8_otherwise_36 rfl ?_
    refine n_if_ne (tgt := 58) (by omega) dX8_otherwise_37 rfl (fun zc37 => absurd zc37 (by decide)) (fun _ => ?_)
    refine g_aload_n dX8_otherwise_40 rfl ?_
    refine q_getq dX8_otherwise_41 f_P_12 ck_5 (by decide) ty_7_0 rf_5_0 ?_
    refine q_getq dX8_otherwise_44 f_P_205 ck_6 (by decide) ty_0_3 (rfL_3 LB_6) ?_
    refine g_aload_n dX8_otherwise_47 rfl ?_
    refine q_getq dX8_otherwise_48 f_P_12 ck_5 (by decide) ty_7_0 rf_5_0 ?_
    refine g_iload_n dX8_otherwise_51 rfl ?_
    refine g_v2 (M' := KE_unlike) dX8_otherwise_52 l_P_221 v_KE_unlike (c_KE_unlike LB_6 hI.hl hq3) (rcE LB_6) rfl rfl ⟨rfl, rfl⟩ ?_
    refine g_goto (tgt := 73) dX8_otherwise_55 rfl ?_
    exact e_iret dX8_otherwise_73 rfl (by rfl) (by rfl)
  · exact absurd zc31 (by decide)
set_option maxRecDepth 100000 in
theorem c_KP_otherwise_no30 {σ : SI} {δ : SD} {a : Nat → Int32} {n s o tl : Nat} {P : Nat → Nat → Int32} {tx rf : Nat → Int32} (hI : IC σ a n s o P tl tx rf) {q : Nat} (hq3 : q < 3) (hk : ¬ kbN a q = 1) : E KP_otherwise [.ref 5, .int (nI q), .int (nI 0)] (HH σ δ) (some (.int (-3))) (HH (rfC σ 1) δ) := by
  have hW := hI.hl.wf
  have hR := hI.hl.rb
  have hD := hI.hl.rd
  have h2 := hR.c
  have h8 := hW.n8
  have hB := LB_6
  refine E.ofL [some (.ref 5), some (.int (nI q)), some (.int (nI 0))] rfl pn_RX8 rfl (fun sc => ?_)
  refine g_iload_n dX8_otherwise_0 rfl ?_
  refine g_iconst dX8_otherwise_1 ic_0 ?_
  refine g_iconst dX8_otherwise_2 ic_1 ?_
  refine g_s3 (M' := KP_within) dX8_otherwise_3 l_P_96 s_KP_within c_KP_within rfl rfl ⟨rfl, rfl⟩ ?_
  refine g_top (in1 (Nat.zero_le _) (by omega) (by decide)) ?_
  refine n_if_eq (tgt := 23) (by omega) dX8_otherwise_6 rfl (fun zc6 => absurd zc6 (by decide)) (fun _ => ?_)
  refine g_aload_n dX8_otherwise_9 rfl ?_
  refine q_getq dX8_otherwise_10 f_P_12 ck_5 (by decide) ty_7_0 rf_5_0 ?_
  refine q_getq dX8_otherwise_13 f_P_205 ck_6 (by decide) ty_0_3 (rfL_3 LB_6) ?_
  refine g_iload_n dX8_otherwise_16 rfl ?_
  refine g_v1 (M' := KE_againstUse) dX8_otherwise_17 l_P_215 v_KE_againstUse (c_KE_againstUse LB_6 hI.hl.rs hq3) (rcE LB_6) rfl rfl ⟨rfl, rfl⟩ ?_
  refine g_top (if_neg hk) ?_
  refine g_goto (tgt := 25) dX8_otherwise_20 rfl ?_
  refine g_istore_n dX8_otherwise_25 rfl ?_
  refine g_aload_n dX8_otherwise_26 rfl ?_
  refine g_iload_n dX8_otherwise_27 rfl ?_
  refine g_v1 (M' := KP_mayAnswer) dX8_otherwise_28 l_P_100 v_KP_mayAnswer c_KP_mayAnswer3 rc_5 rfl rfl ⟨rfl, rfl⟩ ?_
  refine b_if_ne (tgt := 36) dX8_otherwise_31 rfl (fun zc31 => ?_) (fun zc31 => ?_)
  · exact absurd zc31 (by decide)
  · refine g_iload_n dX8_otherwise_34 rfl ?_
    exact e_iret dX8_otherwise_35 rfl (by rfl) (by rfl)
set_option maxRecDepth 100000 in
theorem c_KR_otherwise_ok0 {σ : SI} {δ : SD} {a : Nat → Int32} {n s tl : Nat} {P : Nat → Nat → Int32} {tx rf : Nat → Int32} (hJ : IR σ a s P tl tx rf) (hs : s ≤ 5) (hW : WF a n) {q : Nat} (hq3 : q < 3) (hk : kbN a q = 1) : E KR_otherwise [.ref 84, .int (nI q), .int (nI 0)] (HH σ δ) (some (.int (nI (cntN (unR a n q) 8)))) (HH σ δ) := by
  obtain rfl := hJ.row
  have h3 := hJ.sd
  have hn := hW.n8
  have h7 := hW.a7
  have h8 := hW.n8
  refine E.ofL [some (.ref 84), some (.int (nI q)), some (.int (nI 0))] rfl pn_RX9 rfl (fun sc => ?_)
  refine g_iload_n dX9_otherwise_0 rfl ?_
  refine g_i2l dX9_otherwise_1 ?_
  refine g_lconst (v := 0) dX9_otherwise_2 rfl ?_
  refine g_ldcl dX9_otherwise_3 c_R_117 ?_
  refine g_s3 (M' := KR_in) dX9_otherwise_6 l_R_46 s_KR_in c_KR_in rfl rfl ⟨rfl, rfl⟩ ?_
  refine g_top (show _ = nI 1 by rw [w64_0, w64_2, inL_wide]; exact in1 (Nat.zero_le _) (by omega) (by decide)) ?_
  refine n_if_eq (tgt := 22) (by omega) dX9_otherwise_9 rfl (fun zc9 => absurd zc9 (by decide)) (fun _ => ?_)
  refine g_iload_n dX9_otherwise_12 rfl ?_
  refine g_i2l dX9_otherwise_13 ?_
  refine g_lconst (v := 0) dX9_otherwise_14 rfl ?_
  refine g_lconst (v := 1) dX9_otherwise_15 rfl ?_
  refine g_s3 (M' := KR_in) dX9_otherwise_16 l_R_46 s_KR_in c_KR_in rfl rfl ⟨rfl, rfl⟩ ?_
  refine g_top (show _ = nI 1 by decide +kernel) ?_
  refine n_if_ne (tgt := 29) (by omega) dX9_otherwise_19 rfl (fun _ => ?_) (fun zc19 => absurd zc19 (by decide))
  refine g_aload_n dX9_otherwise_29 rfl ?_
  refine g_iload_n dX9_otherwise_30 rfl ?_
  refine g_v1 (M' := KR_isKept) dX9_otherwise_31 l_R_290 v_KR_isKept (c_KR_isKept (by omega)) rc_84 rfl rfl ⟨rfl, rfl⟩ ?_
  refine b_if_eq (tgt := 46) dX9_otherwise_34 rfl (fun zc34 => ?_) (fun zc34 => ?_)
  · exact absurd hk (of_decide_eq_false zc34)
  · refine g_aload_n dX9_otherwise_37 rfl ?_
    refine g_iload_n dX9_otherwise_38 rfl ?_
    refine g_iload_n dX9_otherwise_39 rfl ?_
    refine g_v2 (M' := KR_otherwiseNow) dX9_otherwise_40 l_R_296 v_KR_otherwiseNow (c_KR_otherwiseNow0 hW hq3) rc_84 rfl rfl ⟨rfl, rfl⟩ ?_
    refine g_goto (tgt := 52) dX9_otherwise_43 rfl ?_
    exact e_iret dX9_otherwise_52 rfl (by rfl) (by rfl)
set_option maxRecDepth 100000 in
theorem c_KR_otherwise_no30 {σ : SI} {δ : SD} {a : Nat → Int32} {n s tl : Nat} {P : Nat → Nat → Int32} {tx rf : Nat → Int32} (hJ : IR σ a s P tl tx rf) (hs : s ≤ 5) (hW : WF a n) {q : Nat} (hq3 : q < 3) (hk : ¬ kbN a q = 1) : E KR_otherwise [.ref 84, .int (nI q), .int (nI 0)] (HH σ δ) (some (.int (-3))) (HH (rfM σ 1) δ) := by
  obtain rfl := hJ.row
  have h3 := hJ.sd
  have hn := hW.n8
  have h7 := hW.a7
  have h8 := hW.n8
  refine E.ofL [some (.ref 84), some (.int (nI q)), some (.int (nI 0))] rfl pn_RX9 rfl (fun sc => ?_)
  refine g_iload_n dX9_otherwise_0 rfl ?_
  refine g_i2l dX9_otherwise_1 ?_
  refine g_lconst (v := 0) dX9_otherwise_2 rfl ?_
  refine g_ldcl dX9_otherwise_3 c_R_117 ?_
  refine g_s3 (M' := KR_in) dX9_otherwise_6 l_R_46 s_KR_in c_KR_in rfl rfl ⟨rfl, rfl⟩ ?_
  refine g_top (show _ = nI 1 by rw [w64_0, w64_2, inL_wide]; exact in1 (Nat.zero_le _) (by omega) (by decide)) ?_
  refine n_if_eq (tgt := 22) (by omega) dX9_otherwise_9 rfl (fun zc9 => absurd zc9 (by decide)) (fun _ => ?_)
  refine g_iload_n dX9_otherwise_12 rfl ?_
  refine g_i2l dX9_otherwise_13 ?_
  refine g_lconst (v := 0) dX9_otherwise_14 rfl ?_
  refine g_lconst (v := 1) dX9_otherwise_15 rfl ?_
  refine g_s3 (M' := KR_in) dX9_otherwise_16 l_R_46 s_KR_in c_KR_in rfl rfl ⟨rfl, rfl⟩ ?_
  refine g_top (show _ = nI 1 by decide +kernel) ?_
  refine n_if_ne (tgt := 29) (by omega) dX9_otherwise_19 rfl (fun _ => ?_) (fun zc19 => absurd zc19 (by decide))
  refine g_aload_n dX9_otherwise_29 rfl ?_
  refine g_iload_n dX9_otherwise_30 rfl ?_
  refine g_v1 (M' := KR_isKept) dX9_otherwise_31 l_R_290 v_KR_isKept (c_KR_isKept (by omega)) rc_84 rfl rfl ⟨rfl, rfl⟩ ?_
  refine b_if_eq (tgt := 46) dX9_otherwise_34 rfl (fun zc34 => ?_) (fun zc34 => ?_)
  · refine g_aload_n dX9_otherwise_46 rfl ?_
    refine g_bipush dX9_otherwise_47 bp_m3 ?_
    refine g_v1 (M' := KR_refuses) dX9_otherwise_49 l_R_101 v_KR_refuses c_KR_refuses1 rc_84 rfl rfl ⟨rfl, rfl⟩ ?_
    exact e_iret dX9_otherwise_52 rfl (by rfl) (by rfl)
  · exact absurd (of_decide_eq_true zc34) hk
set_option maxRecDepth 100000 in
theorem c_KP_otherwise_ok1 {σ : SI} {δ : SD} {a : Nat → Int32} {n s o tl : Nat} {P : Nat → Nat → Int32} {tx rf : Nat → Int32} (hI : IC σ a n s o P tl tx rf) {q : Nat} (hq3 : q < 3) (hk : kbN a q = 1) : E KP_otherwise [.ref 5, .int (nI q), .int (nI 1)] (HH σ δ) (some (.int (sumI (frC σ 6 a n q) 8))) (HH σ δ) := by
  have hW := hI.hl.wf
  have hR := hI.hl.rb
  have hD := hI.hl.rd
  have h2 := hR.c
  have h8 := hW.n8
  have hB := LB_6
  refine E.ofL [some (.ref 5), some (.int (nI q)), some (.int (nI 1))] rfl pn_RX8 rfl (fun sc => ?_)
  refine g_iload_n dX8_otherwise_0 rfl ?_
  refine g_iconst dX8_otherwise_1 ic_0 ?_
  refine g_iconst dX8_otherwise_2 ic_1 ?_
  refine g_s3 (M' := KP_within) dX8_otherwise_3 l_P_96 s_KP_within c_KP_within rfl rfl ⟨rfl, rfl⟩ ?_
  refine g_top (in1 (Nat.zero_le _) (by omega) (by decide)) ?_
  refine n_if_eq (tgt := 23) (by omega) dX8_otherwise_6 rfl (fun zc6 => absurd zc6 (by decide)) (fun _ => ?_)
  refine g_aload_n dX8_otherwise_9 rfl ?_
  refine q_getq dX8_otherwise_10 f_P_12 ck_5 (by decide) ty_7_0 rf_5_0 ?_
  refine q_getq dX8_otherwise_13 f_P_205 ck_6 (by decide) ty_0_3 (rfL_3 LB_6) ?_
  refine g_iload_n dX8_otherwise_16 rfl ?_
  refine g_v1 (M' := KE_againstUse) dX8_otherwise_17 l_P_215 v_KE_againstUse (c_KE_againstUse LB_6 hI.hl.rs hq3) (rcE LB_6) rfl rfl ⟨rfl, rfl⟩ ?_
  refine g_top (if_pos hk) ?_
  refine g_goto (tgt := 25) dX8_otherwise_20 rfl ?_
  refine g_istore_n dX8_otherwise_25 rfl ?_
  refine g_aload_n dX8_otherwise_26 rfl ?_
  refine g_iload_n dX8_otherwise_27 rfl ?_
  refine g_v1 (M' := KP_mayAnswer) dX8_otherwise_28 l_P_100 v_KP_mayAnswer c_KP_mayAnswer0 rc_5 rfl rfl ⟨rfl, rfl⟩ ?_
  refine b_if_ne (tgt := 36) dX8_otherwise_31 rfl (fun zc31 => ?_) (fun zc31 => ?_)
  · refine g_iload_n dX8_otherwise_36 rfl ?_
    refine n_if_ne (tgt := 58) (by omega) dX8_otherwise_37 rfl (fun _ => ?_) (fun zc37 => absurd zc37 (by decide))
    refine g_aload_n dX8_otherwise_58 rfl ?_
    refine q_getq dX8_otherwise_59 f_P_12 ck_5 (by decide) ty_7_0 rf_5_0 ?_
    refine q_getq dX8_otherwise_62 f_P_205 ck_6 (by decide) ty_0_3 (rfL_3 LB_6) ?_
    refine g_aload_n dX8_otherwise_65 rfl ?_
    refine q_getq dX8_otherwise_66 f_P_12 ck_5 (by decide) ty_7_0 rf_5_0 ?_
    refine g_iload_n dX8_otherwise_69 rfl ?_
    refine g_v2 (M' := KE_far) dX8_otherwise_70 l_P_224 v_KE_far (c_KE_far LB_6 hI.hl hq3) (rcE LB_6) rfl rfl ⟨rfl, rfl⟩ ?_
    exact e_iret dX8_otherwise_73 rfl (by rfl) (by rfl)
  · exact absurd zc31 (by decide)
set_option maxRecDepth 100000 in
theorem c_KP_otherwise_no31 {σ : SI} {δ : SD} {a : Nat → Int32} {n s o tl : Nat} {P : Nat → Nat → Int32} {tx rf : Nat → Int32} (hI : IC σ a n s o P tl tx rf) {q : Nat} (hq3 : q < 3) (hk : ¬ kbN a q = 1) : E KP_otherwise [.ref 5, .int (nI q), .int (nI 1)] (HH σ δ) (some (.int (-3))) (HH (rfC σ 1) δ) := by
  have hW := hI.hl.wf
  have hR := hI.hl.rb
  have hD := hI.hl.rd
  have h2 := hR.c
  have h8 := hW.n8
  have hB := LB_6
  refine E.ofL [some (.ref 5), some (.int (nI q)), some (.int (nI 1))] rfl pn_RX8 rfl (fun sc => ?_)
  refine g_iload_n dX8_otherwise_0 rfl ?_
  refine g_iconst dX8_otherwise_1 ic_0 ?_
  refine g_iconst dX8_otherwise_2 ic_1 ?_
  refine g_s3 (M' := KP_within) dX8_otherwise_3 l_P_96 s_KP_within c_KP_within rfl rfl ⟨rfl, rfl⟩ ?_
  refine g_top (in1 (Nat.zero_le _) (by omega) (by decide)) ?_
  refine n_if_eq (tgt := 23) (by omega) dX8_otherwise_6 rfl (fun zc6 => absurd zc6 (by decide)) (fun _ => ?_)
  refine g_aload_n dX8_otherwise_9 rfl ?_
  refine q_getq dX8_otherwise_10 f_P_12 ck_5 (by decide) ty_7_0 rf_5_0 ?_
  refine q_getq dX8_otherwise_13 f_P_205 ck_6 (by decide) ty_0_3 (rfL_3 LB_6) ?_
  refine g_iload_n dX8_otherwise_16 rfl ?_
  refine g_v1 (M' := KE_againstUse) dX8_otherwise_17 l_P_215 v_KE_againstUse (c_KE_againstUse LB_6 hI.hl.rs hq3) (rcE LB_6) rfl rfl ⟨rfl, rfl⟩ ?_
  refine g_top (if_neg hk) ?_
  refine g_goto (tgt := 25) dX8_otherwise_20 rfl ?_
  refine g_istore_n dX8_otherwise_25 rfl ?_
  refine g_aload_n dX8_otherwise_26 rfl ?_
  refine g_iload_n dX8_otherwise_27 rfl ?_
  refine g_v1 (M' := KP_mayAnswer) dX8_otherwise_28 l_P_100 v_KP_mayAnswer c_KP_mayAnswer3 rc_5 rfl rfl ⟨rfl, rfl⟩ ?_
  refine b_if_ne (tgt := 36) dX8_otherwise_31 rfl (fun zc31 => ?_) (fun zc31 => ?_)
  · exact absurd zc31 (by decide)
  · refine g_iload_n dX8_otherwise_34 rfl ?_
    exact e_iret dX8_otherwise_35 rfl (by rfl) (by rfl)
set_option maxRecDepth 100000 in
theorem c_KR_otherwise_ok1 {σ : SI} {δ : SD} {a : Nat → Int32} {n s tl : Nat} {P : Nat → Nat → Int32} {tx rf : Nat → Int32} (hJ : IR σ a s P tl tx rf) (hs : s ≤ 5) (hW : WF a n) {q : Nat} (hq3 : q < 3) (hk : kbN a q = 1) : E KR_otherwise [.ref 84, .int (nI q), .int (nI 1)] (HH σ δ) (some (.int (sumI (frR a n q) 8))) (HH σ δ) := by
  obtain rfl := hJ.row
  have h3 := hJ.sd
  have hn := hW.n8
  have h7 := hW.a7
  have h8 := hW.n8
  refine E.ofL [some (.ref 84), some (.int (nI q)), some (.int (nI 1))] rfl pn_RX9 rfl (fun sc => ?_)
  refine g_iload_n dX9_otherwise_0 rfl ?_
  refine g_i2l dX9_otherwise_1 ?_
  refine g_lconst (v := 0) dX9_otherwise_2 rfl ?_
  refine g_ldcl dX9_otherwise_3 c_R_117 ?_
  refine g_s3 (M' := KR_in) dX9_otherwise_6 l_R_46 s_KR_in c_KR_in rfl rfl ⟨rfl, rfl⟩ ?_
  refine g_top (show _ = nI 1 by rw [w64_0, w64_2, inL_wide]; exact in1 (Nat.zero_le _) (by omega) (by decide)) ?_
  refine n_if_eq (tgt := 22) (by omega) dX9_otherwise_9 rfl (fun zc9 => absurd zc9 (by decide)) (fun _ => ?_)
  refine g_iload_n dX9_otherwise_12 rfl ?_
  refine g_i2l dX9_otherwise_13 ?_
  refine g_lconst (v := 0) dX9_otherwise_14 rfl ?_
  refine g_lconst (v := 1) dX9_otherwise_15 rfl ?_
  refine g_s3 (M' := KR_in) dX9_otherwise_16 l_R_46 s_KR_in c_KR_in rfl rfl ⟨rfl, rfl⟩ ?_
  refine g_top (show _ = nI 1 by decide +kernel) ?_
  refine n_if_ne (tgt := 29) (by omega) dX9_otherwise_19 rfl (fun _ => ?_) (fun zc19 => absurd zc19 (by decide))
  refine g_aload_n dX9_otherwise_29 rfl ?_
  refine g_iload_n dX9_otherwise_30 rfl ?_
  refine g_v1 (M' := KR_isKept) dX9_otherwise_31 l_R_290 v_KR_isKept (c_KR_isKept (by omega)) rc_84 rfl rfl ⟨rfl, rfl⟩ ?_
  refine b_if_eq (tgt := 46) dX9_otherwise_34 rfl (fun zc34 => ?_) (fun zc34 => ?_)
  · exact absurd hk (of_decide_eq_false zc34)
  · refine g_aload_n dX9_otherwise_37 rfl ?_
    refine g_iload_n dX9_otherwise_38 rfl ?_
    refine g_iload_n dX9_otherwise_39 rfl ?_
    refine g_v2 (M' := KR_otherwiseNow) dX9_otherwise_40 l_R_296 v_KR_otherwiseNow (c_KR_otherwiseNow1 hW hq3) rc_84 rfl rfl ⟨rfl, rfl⟩ ?_
    refine g_goto (tgt := 52) dX9_otherwise_43 rfl ?_
    exact e_iret dX9_otherwise_52 rfl (by rfl) (by rfl)
set_option maxRecDepth 100000 in
theorem c_KR_otherwise_no31 {σ : SI} {δ : SD} {a : Nat → Int32} {n s tl : Nat} {P : Nat → Nat → Int32} {tx rf : Nat → Int32} (hJ : IR σ a s P tl tx rf) (hs : s ≤ 5) (hW : WF a n) {q : Nat} (hq3 : q < 3) (hk : ¬ kbN a q = 1) : E KR_otherwise [.ref 84, .int (nI q), .int (nI 1)] (HH σ δ) (some (.int (-3))) (HH (rfM σ 1) δ) := by
  obtain rfl := hJ.row
  have h3 := hJ.sd
  have hn := hW.n8
  have h7 := hW.a7
  have h8 := hW.n8
  refine E.ofL [some (.ref 84), some (.int (nI q)), some (.int (nI 1))] rfl pn_RX9 rfl (fun sc => ?_)
  refine g_iload_n dX9_otherwise_0 rfl ?_
  refine g_i2l dX9_otherwise_1 ?_
  refine g_lconst (v := 0) dX9_otherwise_2 rfl ?_
  refine g_ldcl dX9_otherwise_3 c_R_117 ?_
  refine g_s3 (M' := KR_in) dX9_otherwise_6 l_R_46 s_KR_in c_KR_in rfl rfl ⟨rfl, rfl⟩ ?_
  refine g_top (show _ = nI 1 by rw [w64_0, w64_2, inL_wide]; exact in1 (Nat.zero_le _) (by omega) (by decide)) ?_
  refine n_if_eq (tgt := 22) (by omega) dX9_otherwise_9 rfl (fun zc9 => absurd zc9 (by decide)) (fun _ => ?_)
  refine g_iload_n dX9_otherwise_12 rfl ?_
  refine g_i2l dX9_otherwise_13 ?_
  refine g_lconst (v := 0) dX9_otherwise_14 rfl ?_
  refine g_lconst (v := 1) dX9_otherwise_15 rfl ?_
  refine g_s3 (M' := KR_in) dX9_otherwise_16 l_R_46 s_KR_in c_KR_in rfl rfl ⟨rfl, rfl⟩ ?_
  refine g_top (show _ = nI 1 by decide +kernel) ?_
  refine n_if_ne (tgt := 29) (by omega) dX9_otherwise_19 rfl (fun _ => ?_) (fun zc19 => absurd zc19 (by decide))
  refine g_aload_n dX9_otherwise_29 rfl ?_
  refine g_iload_n dX9_otherwise_30 rfl ?_
  refine g_v1 (M' := KR_isKept) dX9_otherwise_31 l_R_290 v_KR_isKept (c_KR_isKept (by omega)) rc_84 rfl rfl ⟨rfl, rfl⟩ ?_
  refine b_if_eq (tgt := 46) dX9_otherwise_34 rfl (fun zc34 => ?_) (fun zc34 => ?_)
  · refine g_aload_n dX9_otherwise_46 rfl ?_
    refine g_bipush dX9_otherwise_47 bp_m3 ?_
    refine g_v1 (M' := KR_refuses) dX9_otherwise_49 l_R_101 v_KR_refuses c_KR_refuses1 rc_84 rfl rfl ⟨rfl, rfl⟩ ?_
    exact e_iret dX9_otherwise_52 rfl (by rfl) (by rfl)
  · exact absurd (of_decide_eq_true zc34) hk
set_option maxRecDepth 100000 in
theorem c_KP_otherwise_no2 {σ : SI} {δ : SD} {a : Nat → Int32} {n s o tl : Nat} {P : Nat → Nat → Int32} {tx rf : Nat → Int32} (hI : IC σ a n s o P tl tx rf) {q w : Int32} (hk : ¬ (inB q (nI 0) (nI 2) && inB w (nI 0) (nI 1)) = true) : E KP_otherwise [.ref 5, .int q, .int w] (HH σ δ) (some (.int (-2))) (HH (rfC σ 0) δ) := by
  have hW := hI.hl.wf
  have hR := hI.hl.rb
  have hD := hI.hl.rd
  have h2 := hR.c
  have h8 := hW.n8
  have hB := LB_6
  refine E.ofL [some (.ref 5), some (.int q), some (.int w)] rfl pn_RX8 rfl (fun sc => ?_)
  refine g_iload_n dX8_otherwise_0 rfl ?_
  refine g_iconst dX8_otherwise_1 ic_0 ?_
  refine g_iconst dX8_otherwise_2 ic_1 ?_
  refine g_s3 (M' := KP_within) dX8_otherwise_3 l_P_96 s_KP_within c_KP_within rfl rfl ⟨rfl, rfl⟩ ?_
  refine b_if_eq (tgt := 23) dX8_otherwise_6 rfl (fun zc6 => ?_) (fun zc6 => ?_)
  · refine g_bipush dX8_otherwise_23 bp_m2 ?_
    refine g_istore_n dX8_otherwise_25 rfl ?_
    refine g_aload_n dX8_otherwise_26 rfl ?_
    refine g_iload_n dX8_otherwise_27 rfl ?_
    refine g_v1 (M' := KP_mayAnswer) dX8_otherwise_28 l_P_100 v_KP_mayAnswer c_KP_mayAnswer2 rc_5 rfl rfl ⟨rfl, rfl⟩ ?_
    refine b_if_ne (tgt := 36) dX8_otherwise_31 rfl (fun zc31 => ?_) (fun zc31 => ?_)
    · exact absurd zc31 (by decide)
    · refine g_iload_n dX8_otherwise_34 rfl ?_
      exact e_iret dX8_otherwise_35 rfl (by rfl) (by rfl)
  · refine g_aload_n dX8_otherwise_9 rfl ?_
    refine q_getq dX8_otherwise_10 f_P_12 ck_5 (by decide) ty_7_0 rf_5_0 ?_
    refine q_getq dX8_otherwise_13 f_P_205 ck_6 (by decide) ty_0_3 (rfL_3 LB_6) ?_
    refine g_iload_n dX8_otherwise_16 rfl ?_
    refine g_v1 (M' := KE_againstUse) dX8_otherwise_17 l_P_215 v_KE_againstUse (c_KE_againstUse_no LB_6 (Bool.eq_false_iff.mpr (fun h => hk (by rw [h, zc6]; rfl)))) (rcE LB_6) rfl rfl ⟨rfl, rfl⟩ ?_
    refine g_goto (tgt := 25) dX8_otherwise_20 rfl ?_
    refine g_istore_n dX8_otherwise_25 rfl ?_
    refine g_aload_n dX8_otherwise_26 rfl ?_
    refine g_iload_n dX8_otherwise_27 rfl ?_
    refine g_v1 (M' := KP_mayAnswer) dX8_otherwise_28 l_P_100 v_KP_mayAnswer c_KP_mayAnswer2 rc_5 rfl rfl ⟨rfl, rfl⟩ ?_
    refine b_if_ne (tgt := 36) dX8_otherwise_31 rfl (fun zc31 => ?_) (fun zc31 => ?_)
    · exact absurd zc31 (by decide)
    · refine g_iload_n dX8_otherwise_34 rfl ?_
      exact e_iret dX8_otherwise_35 rfl (by rfl) (by rfl)
set_option maxRecDepth 100000 in
theorem c_KR_otherwise_no2 {σ : SI} {δ : SD} {a : Nat → Int32} {n s tl : Nat} {P : Nat → Nat → Int32} {tx rf : Nat → Int32} (hJ : IR σ a s P tl tx rf) (hs : s ≤ 5) (hW : WF a n) {q w : Int32} (hk : ¬ (inB q (nI 0) (nI 2) && inB w (nI 0) (nI 1)) = true) : E KR_otherwise [.ref 84, .int q, .int w] (HH σ δ) (some (.int (-2))) (HH (rfM σ 0) δ) := by
  obtain rfl := hJ.row
  have h3 := hJ.sd
  have hn := hW.n8
  have h7 := hW.a7
  have h8 := hW.n8
  refine E.ofL [some (.ref 84), some (.int q), some (.int w)] rfl pn_RX9 rfl (fun sc => ?_)
  refine g_iload_n dX9_otherwise_0 rfl ?_
  refine g_i2l dX9_otherwise_1 ?_
  refine g_lconst (v := 0) dX9_otherwise_2 rfl ?_
  refine g_ldcl dX9_otherwise_3 c_R_117 ?_
  refine g_s3 (M' := KR_in) dX9_otherwise_6 l_R_46 s_KR_in c_KR_in rfl rfl ⟨rfl, rfl⟩ ?_
  refine b_if_eq (tgt := 22) dX9_otherwise_9 rfl (fun zc9 => ?_) (fun zc9 => ?_)
  · refine g_aload_n dX9_otherwise_22 rfl ?_
    refine g_bipush dX9_otherwise_23 bp_m2 ?_
    refine g_v1 (M' := KR_refuses) dX9_otherwise_25 l_R_101 v_KR_refuses c_KR_refuses0 rc_84 rfl rfl ⟨rfl, rfl⟩ ?_
    exact e_iret dX9_otherwise_28 rfl (by rfl) (by rfl)
  · refine g_iload_n dX9_otherwise_12 rfl ?_
    refine g_i2l dX9_otherwise_13 ?_
    refine g_lconst (v := 0) dX9_otherwise_14 rfl ?_
    refine g_lconst (v := 1) dX9_otherwise_15 rfl ?_
    refine g_s3 (M' := KR_in) dX9_otherwise_16 l_R_46 s_KR_in c_KR_in rfl rfl ⟨rfl, rfl⟩ ?_
    refine b_if_ne (tgt := 29) dX9_otherwise_19 rfl (fun zc19 => ?_) (fun zc19 => ?_)
    · simp only [w64_0, w64_1, w64_2, inL_wide] at zc9 zc19; exact absurd (show (inB q (nI 0) (nI 2) && inB w (nI 0) (nI 1)) = true by rw [zc9, zc19]; rfl) hk
    · refine g_aload_n dX9_otherwise_22 rfl ?_
      refine g_bipush dX9_otherwise_23 bp_m2 ?_
      refine g_v1 (M' := KR_refuses) dX9_otherwise_25 l_R_101 v_KR_refuses c_KR_refuses0 rc_84 rfl rfl ⟨rfl, rfl⟩ ?_
      exact e_iret dX9_otherwise_28 rfl (by rfl) (by rfl)
theorem step_otherwise {σ : SI} {δ : SD} {q w : Int32} (hT : InvT σ) : Step KP_otherwise KR_otherwise [.int q, .int w] σ δ := by
  obtain ⟨a, n, s, o, P, tl, tx, rf, hI, hJ⟩ := hT
  have hW := hI.hl.wf
  by_cases hk : (inB q (nI 0) (nI 2) && inB w (nI 0) (nI 1)) = true
  · have hq := hk
    rw [Bool.and_eq_true] at hq
    obtain ⟨j, -, hj, rfl⟩ := (inB_iff (by decide) (by decide)).mp hq.1
    obtain ⟨v, -, hv, rfl⟩ := (inB_iff (by decide) (by decide)).mp hq.2
    have hj3 : j < 3 := by omega
    rcases (show v = 0 ∨ v = 1 by omega) with rfl | rfl
    · by_cases hb : kbN a j = 1
      · have e := c_KP_otherwise_ok0 (δ := δ) hI hj3 hb
        rw [cntN_cong (fun k hk => un_eq hI.hl hj3 hb hk)] at e
        exact Step.same hI hJ e (c_KR_otherwise_ok0 hJ hI.s5 hW hj3 hb)
      · exact Step.no (j := 1) (by decide) hI hJ (c_KP_otherwise_no30 hI hj3 hb) (fun h1 => c_KR_otherwise_no30 h1 hI.s5 hW hj3 hb)
    · by_cases hb : kbN a j = 1
      · have e := c_KP_otherwise_ok1 (δ := δ) hI hj3 hb
        rw [sumI_cong (fun k hk => fr_eq hI.hl hj3 hb hk)] at e
        exact Step.same hI hJ e (c_KR_otherwise_ok1 hJ hI.s5 hW hj3 hb)
      · exact Step.no (j := 1) (by decide) hI hJ (c_KP_otherwise_no31 hI hj3 hb) (fun h1 => c_KR_otherwise_no31 h1 hI.s5 hW hj3 hb)
  · exact Step.no (by decide) hI hJ (c_KP_otherwise_no2 hI hk) (fun h1 => c_KR_otherwise_no2 h1 hI.s5 hW hk)

