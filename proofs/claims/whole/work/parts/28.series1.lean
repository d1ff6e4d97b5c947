/-! CONTRACTS: the series -/
theorem kb_bit {a : Nat → Int32} {s : Nat} (hs : s < 3) : ((nI (kbN a 0 + 2 * kbN a 1 + 4 * kbN a 2) >>> (nI s &&& 31)) &&& nI 1 = nI 1) ↔ kbN a s = 1 := by
  rcases (show s = 0 ∨ s = 1 ∨ s = 2 by omega) with rfl | rfl | rfl <;>
    rcases kb_01 a 0 with e0 | e0 <;> rcases kb_01 a 1 with e1 | e1 <;> rcases kb_01 a 2 with e2 | e2 <;> rw [e0, e1, e2] <;> decide
/-- laid as then, the first k -/
def tkS (σ : SI) (B : Nat) (a : Nat → Int32) (s : Nat) : Nat → SI
  | 0 => σ
  | k + 1 => sLay (tkS σ B a s k) B k (kpA a s k 0) (kpA a s k 1)
def tkA (a : Nat → Int32) (s : Nat) : Nat → Nat → Int32
  | 0 => a
  | k + 1 => aLay (tkA a s k) k (kpA a s k 0) (kpA a s k 1)
section TK
variable {σ : SI} {B n s : Nat} {a : Nat → Int32}
theorem WF.kp (h : WF a n) (hs : s < 3) {k : Nat} (hk : k < 8) : plc (kpA a s k 0) (kpA a s k 1) := by
  have := (h.2.2.2.2.2.2.2.2.2.2 s hs).2 k hk
  unfold kpA
  rw [show 56 + 33 * s + 1 + 4 * k + 0 = 56 + 33 * s + 1 + 4 * k by omega, show 56 + 33 * s + 1 + 4 * k + 1 = 56 + 33 * s + 2 + 4 * k by omega]
  exact this
theorem tk_hi : ∀ {k : Nat}, k ≤ 8 → ∀ j, 56 ≤ j → tkA a s k j = a j
  | 0, _, _, _ => rfl
  | k + 1, hk, j, hj => by
    unfold tkA
    rw [aLay_oth (by omega)]
    exact tk_hi (by omega) j hj
theorem tk_HL (hL : HL σ B a n) (hs : s < 3) : ∀ {k : Nat}, k ≤ n → HL (tkS σ B a s k) B (tkA a s k) n
  | 0, _ => hL
  | k + 1, hk => HL_lay (tk_HL hL hs (by omega)) (by omega) (hL.wf.kp hs (by have := hL.wf.n8; omega))
theorem tk_kp {k i j : Nat} (hk : k ≤ 8) : kpA (tkA a s k) s i j = kpA a s i j := tk_hi hk _ (by omega)
theorem tk_kb {k : Nat} (hk : k ≤ 8) : kbN (tkA a s k) s = kbN a s := by unfold kbN; rw [tk_hi hk _ (by omega)]
theorem tk_x (hL : HL σ B a n) (hs : s < 3) (hq : kbN a s = 1) {k : Nat} (h1 : k ≤ n) (hk : k < 8) : tkS σ B a s k (B + 2) ((s * 8 + k) * 4 + 0) = kpA a s k 0 := by
  have h := ((tk_HL hL hs h1).rs.2 s hs (by rw [tk_kb (by omega)]; exact hq) k hk).1
  rw [h, tk_kp (by omega)]
theorem tk_y (hL : HL σ B a n) (hs : s < 3) (hq : kbN a s = 1) {k : Nat} (h1 : k ≤ n) (hk : k < 8) : tkS σ B a s k (B + 2) ((s * 8 + k) * 4 + 1) = kpA a s k 1 := by
  have h := ((tk_HL hL hs h1).rs.2 s hs (by rw [tk_kb (by omega)]; exact hq) k hk).2.1
  rw [h, tk_kp (by omega)]
theorem tkS_ne {c : Nat} (h5 : c ≠ B + 5) (h6 : c ≠ B + 6) : ∀ k, tkS σ B a s k c = σ c
  | 0 => rfl
  | k + 1 => by
    unfold tkS
    rw [slay_ne h5 h6]
    exact tkS_ne h5 h6 k
theorem tk_WF (hW : WF a n) (hs : s < 3) : ∀ {k : Nat}, k ≤ n → WF (tkA a s k) n
  | 0, _ => hW
  | k + 1, hk => WF_lay (tk_WF hW hs (by omega)) (by omega) (hW.kp hs (by have := hW.n8; omega))
theorem kp_uI {i k j j0 : Nat} {v : Int32} (h : j0 < 56) : kpA (uI σ 85 j0 v 85) i k j = kpA (σ 85) i k j := by
  unfold kpA
  rw [uI_oth (by omega)]
end TK
def mtS (σ : SI) (a : Nat → Int32) (s : Nat) : Nat → SI
  | 0 => σ
  | k + 1 => mLay (mtS σ a s k) k (kpA a s k 0) (kpA a s k 1)
theorem mt_row {σ : SI} {a : Nat → Int32} {s : Nat} (h : σ 85 = a) : ∀ {k : Nat}, mtS σ a s k 85 = tkA a s k
  | 0 => h
  | k + 1 => by
    unfold mtS tkA
    rw [mLay_row, mt_row h]
theorem mtS_ne {σ : SI} {a : Nat → Int32} {s c : Nat} (h : c ≠ 85) : ∀ k, mtS σ a s k c = σ c
  | 0 => rfl
  | k + 1 => by
    unfold mtS
    rw [mlay_ne h]
    exact mtS_ne h k
set_option maxRecDepth 100000 in
theorem c_KE_isRow {σ : SI} {δ : SD} {s k : Nat} (hs : s < 3) (hk : k < 8) : E KE_isRow [.int (nI s), .int (nI k)] (HH σ δ) (some (.int (bI true))) (HH σ δ) := by
  refine E.ofL [some (.int (nI s)), some (.int (nI k))] rfl pn_RX4 rfl (fun sc => ?_)
  refine g_iload_n dX4_isRow_0 rfl ?_
  refine g_iconst dX4_isRow_1 ic_0 ?_
  refine g_iconst dX4_isRow_2 ic_2 ?_
  refine g_s3N (M' := KP_within) dX4_isRow_3 l_E_25 s_KP_within c_KP_within rfl rfl ⟨rfl, rfl⟩ ?_
  refine g_top (in1 (Nat.zero_le _) (by omega) (by decide)) ?_
  refine n_if_eq (tgt := 23) (by omega) dX4_isRow_6 rfl (fun zc6 => absurd zc6 (by decide)) (fun _ => ?_)
  refine g_iload_n dX4_isRow_9 rfl ?_
  refine g_iconst dX4_isRow_10 ic_0 ?_
  refine g_bipush dX4_isRow_11 bp_7 ?_
  refine g_s3N (M' := KP_within) dX4_isRow_13 l_E_25 s_KP_within c_KP_within rfl rfl ⟨rfl, rfl⟩ ?_
  refine g_top (in1 (Nat.zero_le _) (by omega) (by decide)) ?_
  refine n_if_eq (tgt := 23) (by omega) dX4_isRow_16 rfl (fun zc16 => absurd zc16 (by decide)) (fun _ => ?_)
  refine g_iconst dX4_isRow_19 ic_1 ?_
  refine g_goto (tgt := 24) dX4_isRow_20 rfl ?_
  exact e_z1 dX4_isRow_24 rfl (by rfl) (by rfl)
set_option maxRecDepth 100000 in
theorem c_KE_then {σ : SI} {δ : SD} {B : Nat} (hB : LB B) {s k j : Nat} (hs : s < 3) (hk : k < 8) (hj : j < 4) : E KE_then [.ref (B + 1), .int (nI s), .int (nI k), .int (nI j)] (HH σ δ) (some (.int (σ (B + 2) ((s * 8 + k) * 4 + j)))) (HH σ δ) := by
  refine E.ofL [some (.ref (B + 1)), some (.int (nI s)), some (.int (nI k)), some (.int (nI j))] rfl pn_RX4 rfl (fun sc => ?_)
  refine g_iload_n dX4_then_0 rfl ?_
  refine g_iload_n dX4_then_1 rfl ?_
  refine g_s2 (M' := KE_isRow) dX4_then_2 l_E_29 s_KE_isRow (c_KE_isRow (by omega) (by omega)) rfl rfl ⟨rfl, rfl⟩ ?_
  refine g_top bI_t ?_
  refine n_if_eq (tgt := 21) (by omega) dX4_then_5 rfl (fun zc5 => absurd zc5 (by decide)) (fun _ => ?_)
  refine g_iload_n dX4_then_8 rfl ?_
  refine g_iconst dX4_then_9 ic_0 ?_
  refine g_iconst dX4_then_10 ic_3 ?_
  refine g_s3N (M' := KP_within) dX4_then_11 l_E_25 s_KP_within c_KP_within rfl rfl ⟨rfl, rfl⟩ ?_
  refine g_top (in1 (Nat.zero_le _) (by omega) (by decide)) ?_
  refine n_if_eq (tgt := 21) (by omega) dX4_then_14 rfl (fun zc14 => absurd zc14 (by decide)) (fun _ => ?_)
  refine g_iconst dX4_then_17 ic_1 ?_
  refine g_goto (tgt := 22) dX4_then_18 rfl ?_
  refine g_istore dX4_then_22 rfl ?_
  refine g_iload dX4_then_24 rfl ?_
  refine n_if_eq (tgt := 47) (by omega) dX4_then_26 rfl (fun zc26 => absurd zc26 (by decide)) (fun _ => ?_)
  refine g_aload_n dX4_then_29 rfl ?_
  refine q_getq dX4_then_30 f_E_11 (ckL_1 hB) (by decide) ty_3_1 (rfE_1 hB) ?_
  refine g_iload_n dX4_then_33 rfl ?_
  refine g_bipush dX4_then_34 bp_8 ?_
  refine n_imul dX4_then_36 ?_
  refine g_iload_n dX4_then_37 rfl ?_
  refine n_iadd dX4_then_38 ?_
  refine g_iconst dX4_then_39 ic_4 ?_
  refine n_imul dX4_then_40 ?_
  refine g_iload_n dX4_then_41 rfl ?_
  refine n_iadd dX4_then_42 ?_
  refine q_iald dX4_then_43 (ckL_2 hB) (ixD_nI (by omega) (by decide)) ?_
  refine g_goto (tgt := 48) dX4_then_44 rfl ?_
  exact e_iret dX4_then_48 rfl (by rfl) (by rfl)
set_option maxRecDepth 100000 in
theorem c_KE_lay {σ : SI} {δ : SD} {B : Nat} (hB : LB B) {s k : Nat} (hs : s < 3) (hk : k < 8) : E KE_lay [.ref (B + 1), .int (nI s), .int (nI k)] (HH σ δ) (some (.int (bI (decide (¬ σ (B + 2) ((s * 8 + k) * 4 + 0) = -1))))) (HH σ δ) := by
  refine E.ofL [some (.ref (B + 1)), some (.int (nI s)), some (.int (nI k))] rfl pn_RX4 rfl (fun sc => ?_)
  refine g_aload_n dX4_lay_0 rfl ?_
  refine g_iload_n dX4_lay_1 rfl ?_
  refine g_iload_n dX4_lay_2 rfl ?_
  refine g_iconst dX4_lay_3 ic_0 ?_
  refine g_v3 (M' := KE_then) dX4_lay_4 l_E_33 v_KE_then (c_KE_then hB (by omega) (by omega) (by omega)) (rcE hB) rfl rfl ⟨rfl, rfl⟩ ?_
  refine g_iconst dX4_lay_7 ic_m1 ?_
  refine g_icmp_eq (tgt := 15) dX4_lay_8 rfl (fun zc8 => ?_) (fun zc8 => ?_)
  · refine g_iconst dX4_lay_15 ic_0 ?_
    exact e_z0 dX4_lay_16 rfl (by first | exact decide_eq_false (fun q => q zc8) | exact decide_eq_true zc8) (by rfl)
  · refine g_iconst dX4_lay_11 ic_1 ?_
    refine g_goto (tgt := 16) dX4_lay_12 rfl ?_
    exact e_z1 dX4_lay_16 rfl (by first | exact decide_eq_false (fun q => q zc8) | exact decide_eq_true zc8) (by rfl)
set_option maxRecDepth 100000 in
theorem c_KE_againstUse {σ : SI} {δ : SD} {B : Nat} (hB : LB B) {a : Nat → Int32} (hS : RS σ B a) {s : Nat} (hs : s < 3) : E KE_againstUse [.ref (B + 1), .int (nI s)] (HH σ δ) (some (.int (if kbN a s = 1 then nI 0 else -3))) (HH σ δ) := by
  refine E.ofL [some (.ref (B + 1)), some (.int (nI s))] rfl pn_RX4 rfl (fun sc => ?_)
  refine g_iload_n dX4_againstUse_0 rfl ?_
  refine g_iconst dX4_againstUse_1 ic_0 ?_
  refine g_iconst dX4_againstUse_2 ic_2 ?_
  refine g_s3N (M' := KP_within) dX4_againstUse_3 l_E_25 s_KP_within c_KP_within rfl rfl ⟨rfl, rfl⟩ ?_
  refine g_top (in1 (Nat.zero_le _) (by omega) (by decide)) ?_
  refine n_if_ne (tgt := 12) (by omega) dX4_againstUse_6 rfl (fun _ => ?_) (fun zc6 => absurd zc6 (by decide))
  refine g_aload_n dX4_againstUse_12 rfl ?_
  refine q_geti dX4_againstUse_13 f_E_15 (ckL_1 hB) (by decide) ty_3_0 ?_
  refine g_top hS.1 ?_
  refine g_iload_n dX4_againstUse_16 rfl ?_
  refine g_ishr dX4_againstUse_17 ?_
  refine g_iconst dX4_againstUse_18 ic_1 ?_
  refine g_iand dX4_againstUse_19 ?_
  refine g_iconst dX4_againstUse_20 ic_1 ?_
  refine g_icmp_ne (tgt := 28) dX4_againstUse_21 rfl (fun zc21 => ?_) (fun zc21 => ?_)
  · refine g_bipush dX4_againstUse_28 bp_m3 ?_
    exact e_iret dX4_againstUse_30 rfl (by first | exact (if_pos ((kb_bit hs).mp zc21)).symm | exact (if_neg (fun q => zc21 ((kb_bit hs).mpr q))).symm) (by rfl)
  · refine g_iconst dX4_againstUse_24 ic_0 ?_
    refine g_goto (tgt := 30) dX4_againstUse_25 rfl ?_
    exact e_iret dX4_againstUse_30 rfl (by first | exact (if_pos ((kb_bit hs).mp zc21)).symm | exact (if_neg (fun q => zc21 ((kb_bit hs).mpr q))).symm) (by rfl)
set_option maxRecDepth 100000 in
theorem c_KE_againstUse_no {σ : SI} {δ : SD} {B : Nat} (hB : LB B) {s : Int32} (hs : inB s (nI 0) (nI 2) = false) : E KE_againstUse [.ref (B + 1), .int s] (HH σ δ) (some (.int (-2))) (HH σ δ) := by
  refine E.ofL [some (.ref (B + 1)), some (.int s)] rfl pn_RX4 rfl (fun sc => ?_)
  refine g_iload_n dX4_againstUse_0 rfl ?_
  refine g_iconst dX4_againstUse_1 ic_0 ?_
  refine g_iconst dX4_againstUse_2 ic_2 ?_
  refine g_s3N (M' := KP_within) dX4_againstUse_3 l_E_25 s_KP_within c_KP_within rfl rfl ⟨rfl, rfl⟩ ?_
  refine b_if_ne (tgt := 12) dX4_againstUse_6 rfl (fun zc6 => ?_) (fun zc6 => ?_)
  · exact absurd zc6 (by rw [hs]; decide)
  · refine g_bipush dX4_againstUse_9 bp_m2 ?_
    exact e_iret dX4_againstUse_11 rfl (by rfl) (by rfl)
set_option maxRecDepth 100000 in
theorem c_KE_layAgain {σ : SI} {δ : SD} {B : Nat} (hB : LB B) {n s : Nat} {a : Nat → Int32} (hL : HL σ B a n) (hs : s < 3) (hq : kbN a s = 1) : E KE_layAgain [.ref (B + 1), .ref B, .int (nI s)] (HH σ δ) (some (.int (nI (cntN (liesA (tkA a s n)) n)))) (HH (tkS σ B a s n) δ) := by
  have h8 := hL.wf.n8
  refine E.ofL [some (.ref (B + 1)), some (.ref B), some (.int (nI s))] rfl pn_RX4 rfl (fun sc => ?_)
  generalize hRz : (fun (zr : Option Value) (zk : XH) => zr = some (.int (nI (cntN (liesA (tkA a s n)) n))) ∧ zk = HH (tkS σ B a s n) δ) = R
  refine g_iconst dX4_layAgain_0 ic_0 ?_
  refine g_istore_n dX4_layAgain_1 rfl ?_
  have H2 : ∀ (N : Nat) (k : Nat), k ≤ n → n - k < N → G sc KE_layAgain 2 (aL [some (.ref (B + 1)), some (.ref B), some (.int (nI s)), some (.int (nI k))]) [] (HH (tkS σ B a s k) δ) (0, 0) R := by
    intro N
    induction N with
    | zero => intro k h1 hN2; exact absurd hN2 (Nat.not_lt_zero _)
    | succ N ih2 =>
      intro k h1 hN2
      refine g_iload_n dX4_layAgain_2 rfl ?_
      refine g_aload_n dX4_layAgain_3 rfl ?_
      refine q_geti dX4_layAgain_4 f_E_56 (ckL_0 hB) (by decide) ty_0_2 ?_
      refine g_top (tk_HL hL hs h1).rb.c ?_
      refine n_icmp_ge (tgt := 35) (by omega) (by omega) dX4_layAgain_7 rfl (fun zc7 => ?_) (fun zc7 => ?_)
      · refine g_aload_n dX4_layAgain_35 rfl ?_
        obtain rfl : k = n := (by omega)
        refine g_v0 (M' := KL_lying) dX4_layAgain_36 l_E_52 v_KL_lying (c_KL_lying hB (tk_HL hL hs (Nat.le_refl k)).wf (tk_HL hL hs (Nat.le_refl k)).rb) (rcL hB) rfl rfl ⟨rfl, rfl⟩ ?_
        exact g_iret (S := []) dX4_layAgain_39 rfl (by rw [← hRz]; exact ⟨congrArg (fun zz => some (Value.int zz)) (show _ = _ by rfl), by rfl⟩) (Nat.zero_le _) (Nat.zero_le _)
      · refine g_aload_n dX4_layAgain_10 rfl ?_
        refine g_iload_n dX4_layAgain_11 rfl ?_
        refine g_aload_n dX4_layAgain_12 rfl ?_
        refine g_iload_n dX4_layAgain_13 rfl ?_
        refine g_iload_n dX4_layAgain_14 rfl ?_
        refine g_iconst dX4_layAgain_15 ic_0 ?_
        refine g_v3 (M' := KE_then) dX4_layAgain_16 l_E_33 v_KE_then (c_KE_then hB (by omega) (by omega) (by omega)) (rcE hB) rfl rfl ⟨rfl, rfl⟩ ?_
        refine g_top (tk_x hL hs hq h1 (by omega)) ?_
        refine g_aload_n dX4_layAgain_19 rfl ?_
        refine g_iload_n dX4_layAgain_20 rfl ?_
        refine g_iload_n dX4_layAgain_21 rfl ?_
        refine g_iconst dX4_layAgain_22 ic_1 ?_
        refine g_v3 (M' := KE_then) dX4_layAgain_23 l_E_33 v_KE_then (c_KE_then hB (by omega) (by omega) (by omega)) (rcE hB) rfl rfl ⟨rfl, rfl⟩ ?_
        refine g_top (tk_y hL hs hq h1 (by omega)) ?_
        refine g_v3n (M' := KL_put) dX4_layAgain_26 l_E_59 v_KL_put (c_KL_put hB (tk_HL hL hs h1).wf (tk_HL hL hs h1).rb (by omega)) (rcL hB) rfl rfl ⟨rfl, rfl⟩ ?_
        refine n_iinc (b := 1) dX4_layAgain_29 rfl rfl rfl ?_
        refine g_goto (tgt := 2) dX4_layAgain_32 rfl ?_
        exact g_can _ (by exact ⟨rfl, rfl, rfl, rfl, trivial⟩) (ih2 (k + 1) (by omega) (by omega))
  exact g_can _ (by exact ⟨rfl, rfl, rfl, rfl, trivial⟩) (H2 _ 0 (by omega) (Nat.lt_succ_self _))
set_option maxRecDepth 100000 in
theorem c_KR_kept {σ : SI} {δ : SD} {s k j : Nat} (hs : s < 3) (hk : k < 8) (hj : j < 4) : E KR_kept [.ref 84, .int (nI s), .int (nI k), .int (nI j)] (HH σ δ) (some (.int (kpA (σ 85) s k j))) (HH σ δ) := by
  refine E.ofL [some (.ref 84), some (.int (nI s)), some (.int (nI k)), some (.int (nI j))] rfl pn_RX9 rfl (fun sc => ?_)
  refine g_aload_n dX9_kept_0 rfl ?_
  refine q_getq dX9_kept_1 f_R_7 ck_84 (by decide) ty_8_0 rf_84_0 ?_
  refine g_bipush dX9_kept_4 bp_56 ?_
  refine g_bipush dX9_kept_6 bp_33 ?_
  refine g_iload_n dX9_kept_8 rfl ?_
  refine n_imul dX9_kept_9 ?_
  refine n_iadd dX9_kept_10 ?_
  refine g_iconst dX9_kept_11 ic_1 ?_
  refine n_iadd dX9_kept_12 ?_
  refine g_iconst dX9_kept_13 ic_4 ?_
  refine g_iload_n dX9_kept_14 rfl ?_
  refine n_imul dX9_kept_15 ?_
  refine n_iadd dX9_kept_16 ?_
  refine g_iload_n dX9_kept_17 rfl ?_
  refine n_iadd dX9_kept_18 ?_
  refine q_iald dX9_kept_19 ck_85 (ixD_nI (by omega) (by decide)) ?_
  exact e_iret dX9_kept_20 rfl (by rfl) (by rfl)
set_option maxRecDepth 100000 in
theorem c_KP_takes_ok {σ : SI} {δ : SD} {a : Nat → Int32} {n s o tl : Nat} {P : Nat → Nat → Int32} {tx rf : Nat → Int32} (hI : IC σ a n s o P tl tx rf) {q : Nat} (hq3 : q < 3) (hk : kbN a q = 1) : E KP_takes [.ref 5, .int (nI q)] (HH σ δ) (some (.int (nI (cntN (liesA (tkA a q n)) n)))) (HH (tkS (sPush σ s o) 6 a q n) δ) := by
  have hI1 := hI.push
  have hW := hI.hl.wf
  have hR := hI.hl.rb
  have hD := hI.hl.rd
  have h2 := hR.c
  have h8 := hW.n8
  have hB := LB_6
  refine E.ofL [some (.ref 5), some (.int (nI q))] rfl pn_RX8 rfl (fun sc => ?_)
  refine g_aload_n dX8_takes_0 rfl ?_
  refine q_getq dX8_takes_1 f_P_12 ck_5 (by decide) ty_7_0 rf_5_0 ?_
  refine q_getq dX8_takes_4 f_P_205 ck_6 (by decide) ty_0_3 (rfL_3 LB_6) ?_
  refine g_iload_n dX8_takes_7 rfl ?_
  refine g_v1 (M' := KE_againstUse) dX8_takes_8 l_P_215 v_KE_againstUse (c_KE_againstUse LB_6 hI.hl.rs hq3) (rcE LB_6) rfl rfl ⟨rfl, rfl⟩ ?_
  refine g_top (if_pos hk) ?_
  refine g_istore_n dX8_takes_11 rfl ?_
  refine g_aload_n dX8_takes_12 rfl ?_
  refine g_iload_n dX8_takes_13 rfl ?_
  refine g_v1 (M' := KP_mayChange) dX8_takes_14 l_P_58 v_KP_mayChange (c_KP_mayChange0 hI) rc_5 rfl rfl ⟨rfl, rfl⟩ ?_
  refine b_if_eq (tgt := 38) dX8_takes_17 rfl (fun zc17 => ?_) (fun zc17 => ?_)
  · exact absurd zc17 (by decide)
  · refine g_aload_n dX8_takes_20 rfl ?_
    refine q_getq dX8_takes_21 f_P_12 ck_5 (by decide) ty_7_0 rf_5_0 ?_
    refine q_getq dX8_takes_24 f_P_205 ck_6 (by decide) ty_0_3 (rfL_3 LB_6) ?_
    refine g_aload_n dX8_takes_27 rfl ?_
    refine q_getq dX8_takes_28 f_P_12 ck_5 (by decide) ty_7_0 rf_5_0 ?_
    refine g_iload_n dX8_takes_31 rfl ?_
    refine g_v2 (M' := KE_layAgain) dX8_takes_32 l_P_218 v_KE_layAgain (c_KE_layAgain LB_6 hI1.hl hq3 hk) (rcE LB_6) rfl rfl ⟨rfl, rfl⟩ ?_
    refine g_goto (tgt := 39) dX8_takes_35 rfl ?_
    exact e_iret dX8_takes_39 rfl (by rfl) (by rfl)
set_option maxRecDepth 100000 in
theorem c_KP_takes_no3 {σ : SI} {δ : SD} {a : Nat → Int32} {n s o tl : Nat} {P : Nat → Nat → Int32} {tx rf : Nat → Int32} (hI : IC σ a n s o P tl tx rf) {q : Nat} (hq3 : q < 3) (hk : ¬ kbN a q = 1) : E KP_takes [.ref 5, .int (nI q)] (HH σ δ) (some (.int (-3))) (HH (rfC σ 1) δ) := by
  have hI1 := hI.push
  have hW := hI.hl.wf
  have hR := hI.hl.rb
  have hD := hI.hl.rd
  have h2 := hR.c
  have h8 := hW.n8
  have hB := LB_6
  refine E.ofL [some (.ref 5), some (.int (nI q))] rfl pn_RX8 rfl (fun sc => ?_)
  refine g_aload_n dX8_takes_0 rfl ?_
  refine q_getq dX8_takes_1 f_P_12 ck_5 (by decide) ty_7_0 rf_5_0 ?_
  refine q_getq dX8_takes_4 f_P_205 ck_6 (by decide) ty_0_3 (rfL_3 LB_6) ?_
  refine g_iload_n dX8_takes_7 rfl ?_
  refine g_v1 (M' := KE_againstUse) dX8_takes_8 l_P_215 v_KE_againstUse (c_KE_againstUse LB_6 hI.hl.rs hq3) (rcE LB_6) rfl rfl ⟨rfl, rfl⟩ ?_
  refine g_top (if_neg hk) ?_
  refine g_istore_n dX8_takes_11 rfl ?_
  refine g_aload_n dX8_takes_12 rfl ?_
  refine g_iload_n dX8_takes_13 rfl ?_
  refine g_v1 (M' := KP_mayChange) dX8_takes_14 l_P_58 v_KP_mayChange c_KP_mayChange3 rc_5 rfl rfl ⟨rfl, rfl⟩ ?_
  refine b_if_eq (tgt := 38) dX8_takes_17 rfl (fun zc17 => ?_) (fun zc17 => ?_)
  · refine g_iload_n dX8_takes_38 rfl ?_
    exact e_iret dX8_takes_39 rfl (by rfl) (by rfl)
  · exact absurd zc17 (by decide)
set_option maxRecDepth 100000 in
theorem c_KP_takes_no2 {σ : SI} {δ : SD} {a : Nat → Int32} {n s o tl : Nat} {P : Nat → Nat → Int32} {tx rf : Nat → Int32} (hI : IC σ a n s o P tl tx rf) {q : Int32} (hq3 : inB q (nI 0) (nI 2) = false) : E KP_takes [.ref 5, .int q] (HH σ δ) (some (.int (-2))) (HH (rfC σ 0) δ) := by
  have hI1 := hI.push
  have hW := hI.hl.wf
  have hR := hI.hl.rb
  have hD := hI.hl.rd
  have h2 := hR.c
  have h8 := hW.n8
  have hB := LB_6
  refine E.ofL [some (.ref 5), some (.int q)] rfl pn_RX8 rfl (fun sc => ?_)
  refine g_aload_n dX8_takes_0 rfl ?_
  refine q_getq dX8_takes_1 f_P_12 ck_5 (by decide) ty_7_0 rf_5_0 ?_
  refine q_getq dX8_takes_4 f_P_205 ck_6 (by decide) ty_0_3 (rfL_3 LB_6) ?_
  refine g_iload_n dX8_takes_7 rfl ?_
  refine g_v1 (M' := KE_againstUse) dX8_takes_8 l_P_215 v_KE_againstUse (c_KE_againstUse_no LB_6 hq3) (rcE LB_6) rfl rfl ⟨rfl, rfl⟩ ?_
  refine g_top rfl ?_
  refine g_istore_n dX8_takes_11 rfl ?_
  refine g_aload_n dX8_takes_12 rfl ?_
  refine g_iload_n dX8_takes_13 rfl ?_
  refine g_v1 (M' := KP_mayChange) dX8_takes_14 l_P_58 v_KP_mayChange c_KP_mayChange2 rc_5 rfl rfl ⟨rfl, rfl⟩ ?_
  refine b_if_eq (tgt := 38) dX8_takes_17 rfl (fun zc17 => ?_) (fun zc17 => ?_)
  · refine g_iload_n dX8_takes_38 rfl ?_
    exact e_iret dX8_takes_39 rfl (by rfl) (by rfl)
  · exact absurd zc17 (by decide)
set_option maxRecDepth 100000 in
theorem c_KR_takes_ok {σ : SI} {δ : SD} {a : Nat → Int32} {n s tl : Nat} {P : Nat → Nat → Int32} {tx rf : Nat → Int32} (hJ : IR σ a s P tl tx rf) (hs : s ≤ 5) (hW : WF a n) {q : Nat} (hq3 : q < 3) (hk : kbN a q = 1) : E KR_takes [.ref 84, .int (nI q)] (HH σ δ) (some (.int (nI (cntN (liesA (tkA (σ 85) q n)) n)))) (HH (mtS (sKeep σ s) (σ 85) q n) δ) := by
  obtain rfl := hJ.row
  have h3 := hJ.sd
  have hJ1 := hJ.keep hs
  have hn := hW.n8
  have h7 := hW.a7
  have hW1 : WF (sKeep σ s 85) n := by rw [hJ1.row]; exact hW
  refine E.ofL [some (.ref 84), some (.int (nI q))] rfl pn_RX9 rfl (fun sc => ?_)
  generalize hRz : (fun (zr : Option Value) (zk : XH) => zr = some (.int (nI (cntN (liesA (tkA (σ 85) q n)) n))) ∧ zk = HH (mtS (sKeep σ s) (σ 85) q n) δ) = R
  refine g_iload_n dX9_takes_0 rfl ?_
  refine g_i2l dX9_takes_1 ?_
  refine g_lconst (v := 0) dX9_takes_2 rfl ?_
  refine g_ldcl dX9_takes_3 c_R_117 ?_
  refine g_s3 (M' := KR_in) dX9_takes_6 l_R_46 s_KR_in c_KR_in rfl rfl ⟨rfl, rfl⟩ ?_
  refine g_top (show _ = nI 1 by rw [w64_0, w64_2, inL_wide]; exact in1 (Nat.zero_le _) (by omega) (by decide)) ?_
  refine n_if_ne (tgt := 19) (by omega) dX9_takes_9 rfl (fun _ => ?_) (fun zc9 => absurd zc9 (by decide))
  refine g_aload_n dX9_takes_19 rfl ?_
  refine g_iload_n dX9_takes_20 rfl ?_
  refine g_v1 (M' := KR_isKept) dX9_takes_21 l_R_290 v_KR_isKept (c_KR_isKept (by omega)) rc_84 rfl rfl ⟨rfl, rfl⟩ ?_
  refine b_if_ne (tgt := 34) dX9_takes_24 rfl (fun zc24 => ?_) (fun zc24 => ?_)
  · refine g_aload_n dX9_takes_34 rfl ?_
    refine g_v0n (M' := KR_keep) dX9_takes_35 l_R_111 v_KR_keep (c_KR_keep hs h3) rc_84 rfl rfl ⟨rfl, rfl⟩ ?_
    refine g_iconst dX9_takes_38 ic_0 ?_
    refine g_istore_n dX9_takes_39 rfl ?_
    have H40 : ∀ (N : Nat) (k : Nat), k ≤ n → n - k < N → G sc KR_takes 40 (aL [some (.ref 84), some (.int (nI q)), some (.int (nI k))]) [] (HH (mtS (sKeep σ s) (σ 85) q k) δ) (0, 0) R := by
      intro N
      induction N with
      | zero => intro k h1 hN40; exact absurd hN40 (Nat.not_lt_zero _)
      | succ N ih40 =>
        intro k h1 hN40
        refine g_iload_n dX9_takes_40 rfl ?_
        refine g_aload_n dX9_takes_41 rfl ?_
        refine g_v0 (M' := KR_many) dX9_takes_42 l_R_42 v_KR_many c_KR_many rc_84 rfl rfl ⟨rfl, rfl⟩ ?_
        refine g_top (show mtS (sKeep σ s) (σ 85) q k 85 7 = nI n by rw [mt_row hJ1.row]; exact (tk_WF hW hq3 h1).a7) ?_
        refine n_icmp_ge (tgt := 80) (by omega) (by omega) dX9_takes_45 rfl (fun zc45 => ?_) (fun zc45 => ?_)
        · refine g_aload_n dX9_takes_80 rfl ?_
          obtain rfl : k = n := (by omega)
          refine g_v0 (M' := KR_liesMany) dX9_takes_81 l_R_175 v_KR_liesMany (c_KR_liesMany (n := k) (by rw [mt_row hJ1.row]; exact tk_WF hW hq3 (Nat.le_refl k))) rc_84 rfl rfl ⟨rfl, rfl⟩ ?_
          exact g_iret (S := []) dX9_takes_84 rfl (by rw [← hRz]; exact ⟨congrArg (fun zz => some (Value.int zz)) (show _ = _ by rw [mt_row hJ1.row]), by rfl⟩) (Nat.zero_le _) (Nat.zero_le _)
        · refine g_aload_n dX9_takes_48 rfl ?_
          refine g_iload_n dX9_takes_49 rfl ?_
          refine g_iconst dX9_takes_50 ic_4 ?_
          refine g_aload_n dX9_takes_51 rfl ?_
          refine g_iload_n dX9_takes_52 rfl ?_
          refine g_iload_n dX9_takes_53 rfl ?_
          refine g_iconst dX9_takes_54 ic_0 ?_
          refine g_v3 (M' := KR_kept) dX9_takes_55 l_R_293 v_KR_kept (c_KR_kept (by omega) (by omega) (by omega)) rc_84 rfl rfl ⟨rfl, rfl⟩ ?_
          refine g_top (show kpA (mtS (sKeep σ s) (σ 85) q k 85) q k 0 = kpA (σ 85) q k 0 by rw [mt_row hJ1.row, tk_kp (by omega)]) ?_
          refine g_v3n (M' := KR_puts) dX9_takes_58 l_R_138 v_KR_puts (c_KR_puts (by omega) (by omega)) rc_84 rfl rfl ⟨rfl, rfl⟩ ?_
          refine g_aload_n dX9_takes_61 rfl ?_
          refine g_iload_n dX9_takes_62 rfl ?_
          refine g_iconst dX9_takes_63 ic_5 ?_
          refine g_aload_n dX9_takes_64 rfl ?_
          refine g_iload_n dX9_takes_65 rfl ?_
          refine g_iload_n dX9_takes_66 rfl ?_
          refine g_iconst dX9_takes_67 ic_1 ?_
          refine g_v3 (M' := KR_kept) dX9_takes_68 l_R_293 v_KR_kept (c_KR_kept (by omega) (by omega) (by omega)) rc_84 rfl rfl ⟨rfl, rfl⟩ ?_
          refine g_top (show kpA (uI (mtS (sKeep σ s) (σ 85) q k) 85 (8 + 6 * k + 4) (kpA (σ 85) q k 0) 85) q k 1 = kpA (σ 85) q k 1 by rw [kp_uI (by omega), mt_row hJ1.row, tk_kp (by omega)]) ?_
          refine g_v3n (M' := KR_puts) dX9_takes_71 l_R_138 v_KR_puts (c_KR_puts (by omega) (by omega)) rc_84 rfl rfl ⟨rfl, rfl⟩ ?_
          refine n_iinc (b := 1) dX9_takes_74 rfl rfl rfl ?_
          refine g_goto (tgt := 40) dX9_takes_77 rfl ?_
          exact g_can _ (by exact ⟨rfl, rfl, rfl, trivial⟩) (ih40 (k + 1) (by omega) (by omega))
    exact g_can _ (by exact ⟨rfl, rfl, rfl, trivial⟩) (H40 _ 0 (by omega) (Nat.lt_succ_self _))
  · exact absurd hk (of_decide_eq_false zc24)
set_option maxRecDepth 100000 in
theorem c_KR_takes_no3 {σ : SI} {δ : SD} {a : Nat → Int32} {n s tl : Nat} {P : Nat → Nat → Int32} {tx rf : Nat → Int32} (hJ : IR σ a s P tl tx rf) (hs : s ≤ 5) (hW : WF a n) {q : Nat} (hq3 : q < 3) (hk : ¬ kbN a q = 1) : E KR_takes [.ref 84, .int (nI q)] (HH σ δ) (some (.int (-3))) (HH (rfM σ 1) δ) := by
  obtain rfl := hJ.row
  have h3 := hJ.sd
  have hJ1 := hJ.keep hs
  have hn := hW.n8
  have h7 := hW.a7
  have hW1 : WF (sKeep σ s 85) n := by rw [hJ1.row]; exact hW
  refine E.ofL [some (.ref 84), some (.int (nI q))] rfl pn_RX9 rfl (fun sc => ?_)
  refine g_iload_n dX9_takes_0 rfl ?_
  refine g_i2l dX9_takes_1 ?_
  refine g_lconst (v := 0) dX9_takes_2 rfl ?_
  refine g_ldcl dX9_takes_3 c_R_117 ?_
  refine g_s3 (M' := KR_in) dX9_takes_6 l_R_46 s_KR_in c_KR_in rfl rfl ⟨rfl, rfl⟩ ?_
  refine g_top (show _ = nI 1 by rw [w64_0, w64_2, inL_wide]; exact in1 (Nat.zero_le _) (by omega) (by decide)) ?_
  refine n_if_ne (tgt := 19) (by omega) dX9_takes_9 rfl (fun _ => ?_) (fun zc9 => absurd zc9 (by decide))
  refine g_aload_n dX9_takes_19 rfl ?_
  refine g_iload_n dX9_takes_20 rfl ?_
  refine g_v1 (M' := KR_isKept) dX9_takes_21 l_R_290 v_KR_isKept (c_KR_isKept (by omega)) rc_84 rfl rfl ⟨rfl, rfl⟩ ?_
  refine b_if_ne (tgt := 34) dX9_takes_24 rfl (fun zc24 => ?_) (fun zc24 => ?_)
  · exact absurd (of_decide_eq_true zc24) hk
  · refine g_aload_n dX9_takes_27 rfl ?_
    refine g_bipush dX9_takes_28 bp_m3 ?_
    refine g_v1 (M' := KR_refuses) dX9_takes_30 l_R_101 v_KR_refuses c_KR_refuses1 rc_84 rfl rfl ⟨rfl, rfl⟩ ?_
    exact e_iret dX9_takes_33 rfl (by rfl) (by rfl)
set_option maxRecDepth 100000 in
theorem c_KR_takes_no2 {σ : SI} {δ : SD} {a : Nat → Int32} {n s tl : Nat} {P : Nat → Nat → Int32} {tx rf : Nat → Int32} (hJ : IR σ a s P tl tx rf) (hs : s ≤ 5) (hW : WF a n) {q : Int32} (hq3 : inB q (nI 0) (nI 2) = false) : E KR_takes [.ref 84, .int q] (HH σ δ) (some (.int (-2))) (HH (rfM σ 0) δ) := by
  obtain rfl := hJ.row
  have h3 := hJ.sd
  have hJ1 := hJ.keep hs
  have hn := hW.n8
  have h7 := hW.a7
  have hW1 : WF (sKeep σ s 85) n := by rw [hJ1.row]; exact hW
  refine E.ofL [some (.ref 84), some (.int q)] rfl pn_RX9 rfl (fun sc => ?_)
  refine g_iload_n dX9_takes_0 rfl ?_
  refine g_i2l dX9_takes_1 ?_
  refine g_lconst (v := 0) dX9_takes_2 rfl ?_
  refine g_ldcl dX9_takes_3 c_R_117 ?_
  refine g_s3 (M' := KR_in) dX9_takes_6 l_R_46 s_KR_in c_KR_in rfl rfl ⟨rfl, rfl⟩ ?_
  refine b_if_ne (tgt := 19) dX9_takes_9 rfl (fun zc9 => ?_) (fun zc9 => ?_)
  · rw [w64_0, w64_2, inL_wide] at zc9; exact absurd zc9 (by rw [hq3]; decide)
  · refine g_aload_n dX9_takes_12 rfl ?_
    refine g_bipush dX9_takes_13 bp_m2 ?_
    refine g_v1 (M' := KR_refuses) dX9_takes_15 l_R_101 v_KR_refuses c_KR_refuses0 rc_84 rfl rfl ⟨rfl, rfl⟩ ?_
    exact e_iret dX9_takes_18 rfl (by rfl) (by rfl)
theorem step_takes {σ : SI} {δ : SD} {q : Int32} (hT : InvT σ) : Step KP_takes KR_takes [.int q] σ δ := by
  obtain ⟨a, n, s, o, P, tl, tx, rf, hI, hJ⟩ := hT
  have hW := hI.hl.wf
  have hI1 := hI.push
  cases hq : inB q (nI 0) (nI 2) with
  | false => exact Step.no (by decide) hI hJ (c_KP_takes_no2 hI hq) (fun h1 => c_KR_takes_no2 h1 hI.s5 hW hq)
  | true =>
    obtain ⟨j, -, hj, rfl⟩ := (inB_iff (by decide) (by decide)).mp hq
    by_cases hk : kbN a j = 1
    · obtain rfl := hJ.row
      have e85 : ∀ {τ : SI}, (∀ c, c < 6 ∨ 14 < c → τ c = sPush σ s o c) → τ 85 = σ 85 := fun h => by rw [h _ (by omega), push_hi (by omega)]
      have f1 : ∀ c, c < 6 ∨ 14 < c → tkS (sPush σ s o) 6 (σ 85) j n c = sPush σ s o c := fun c hc => tkS_ne (by omega) (by omega) n
      refine Step.ly (σ2 := mtS (sKeep (tkS (sPush σ s o) 6 (σ 85) j n) s) (σ 85) j n) hI hJ (c_KP_takes_ok hI (by omega) hk) f1 (fun h1 => ?_) (tk_HL hI1.hl (by omega) (Nat.le_refl n)) (fun c hc => mtS_ne hc n) (fun hr => mt_row hr)
      have := c_KR_takes_ok (δ := δ) h1 hI.s5 hW (q := j) (by omega) hk
      rwa [e85 f1] at this
    · exact Step.no (j := 1) (by decide) hI hJ (c_KP_takes_no3 hI (by omega) hk) (fun h1 => c_KR_takes_no3 h1 hI.s5 hW (by omega) hk)

