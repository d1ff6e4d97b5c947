/-! CONTRACTS: otherwise -/
def xK (a : Nat → Int32) (n k : Nat) : Int32 := if k < n then its a k 4 else -1
def yK (a : Nat → Int32) (n k : Nat) : Int32 := if k < n then its a k 5 else -1
def wK (a : Nat → Int32) (n k : Nat) : Int32 := if k < n then wideF a k else -1
def hK (a : Nat → Int32) (n k : Nat) : Int32 := if k < n then highF a k else -1
def lK (a : Nat → Int32) (n k : Nat) : Bool := decide (k < n) && liesA a k
def thB (a : Nat → Int32) (s k : Nat) : Bool := decide (¬ kpA a s k 0 = -1)
def alikeC (σ : SI) (B : Nat) (a : Nat → Int32) (n s k : Nat) : Bool := decide (xK a n k = σ (B + 2) ((s * 8 + k) * 4 + 0)) && decide (yK a n k = σ (B + 2) ((s * 8 + k) * 4 + 1)) && decide (wK a n k = σ (B + 2) ((s * 8 + k) * 4 + 2)) && decide (hK a n k = σ (B + 2) ((s * 8 + k) * 4 + 3))
def unC (σ : SI) (B : Nat) (a : Nat → Int32) (n s k : Nat) : Bool := (lK a n k || decide (¬ σ (B + 2) ((s * 8 + k) * 4 + 0) = -1)) && !alikeC σ B a n s k
section UC
variable {σ : SI} {B n s k : Nat} {a : Nat → Int32} {r : Bool}
theorem uc1 (h : lK a n k = true) (h3 : alikeC σ B a n s k = r) : unC σ B a n s k = !r := by unfold unC; rw [h, h3]; rfl
theorem uc2 (h : decide (¬ σ (B + 2) ((s * 8 + k) * 4 + 0) = -1) = true) (h3 : alikeC σ B a n s k = r) : unC σ B a n s k = !r := by unfold unC; rw [h, h3, Bool.or_true]; rfl
theorem uc3 (h : lK a n k = false) (h2 : decide (¬ σ (B + 2) ((s * 8 + k) * 4 + 0) = -1) = false) : unC σ B a n s k = false := by unfold unC; rw [h, h2]; rfl
end UC
def dsI (p q : Int32) : Int32 := if p < q then q - p else p - q
def frC (σ : SI) (B : Nat) (a : Nat → Int32) (n s k : Nat) : Int32 := if (lK a n k && decide (¬ σ (B + 2) ((s * 8 + k) * 4 + 0) = -1)) = true then dsI (xK a n k) (σ (B + 2) ((s * 8 + k) * 4 + 0)) + dsI (yK a n k) (σ (B + 2) ((s * 8 + k) * 4 + 1)) else nI 0
def byA (a : Nat → Int32) (s k : Nat) : Int32 := absI (its a k 4 - kpA a s k 0) + absI (its a k 5 - kpA a s k 1)
def unR (a : Nat → Int32) (n s k : Nat) : Bool := if (lK a n k && thB a s k) = true then !(decide (byA a s k = 0) && decide (wideF a k = kpA a s k 2) && decide (highF a k = kpA a s k 3)) else (lK a n k || thB a s k)
def frR (a : Nat → Int32) (n s k : Nat) : Int32 := if (lK a n k && thB a s k) = true then byA a s k else nI 0
theorem c1_KL_xOf {σ : SI} {δ : SD} {B n k : Nat} {a : Nat → Int32} (hB : LB B) (hL : HL σ B a n) (hk : k < 8) : E KL_xOf [.ref B, .int (nI k)] (HH σ δ) (some (.int (xK a n k))) (HH σ δ) := by
  unfold xK
  by_cases h : k < n
  · rw [if_pos h]; exact c_KL_xOf hB hL.wf hL.rb h
  · rw [if_neg h]; exact c0_KL_xOf hB hL.wf hL.rb (by omega) hk
theorem c1_KL_yOf {σ : SI} {δ : SD} {B n k : Nat} {a : Nat → Int32} (hB : LB B) (hL : HL σ B a n) (hk : k < 8) : E KL_yOf [.ref B, .int (nI k)] (HH σ δ) (some (.int (yK a n k))) (HH σ δ) := by
  unfold yK
  by_cases h : k < n
  · rw [if_pos h]; exact c_KL_yOf hB hL.wf hL.rb h
  · rw [if_neg h]; exact c0_KL_yOf hB hL.wf hL.rb (by omega) hk
theorem c1_KL_wide {σ : SI} {δ : SD} {B n k : Nat} {a : Nat → Int32} (hB : LB B) (hL : HL σ B a n) (hk : k < 8) : E KL_wide [.ref B, .int (nI k)] (HH σ δ) (some (.int (wK a n k))) (HH σ δ) := by
  unfold wK
  by_cases h : k < n
  · rw [if_pos h]; exact c_KL_wide hB hL.wf hL.rb hL.rd h
  · rw [if_neg h]; exact c0_KL_wide hB hL.wf hL.rb (by omega) hk
theorem c1_KL_high {σ : SI} {δ : SD} {B n k : Nat} {a : Nat → Int32} (hB : LB B) (hL : HL σ B a n) (hk : k < 8) : E KL_high [.ref B, .int (nI k)] (HH σ δ) (some (.int (hK a n k))) (HH σ δ) := by
  unfold hK
  by_cases h : k < n
  · rw [if_pos h]; exact c_KL_high hB hL.wf hL.rb hL.rd h
  · rw [if_neg h]; exact c0_KL_high hB hL.wf hL.rb (by omega) hk
theorem c1_KL_lies {σ : SI} {δ : SD} {B n k : Nat} {a : Nat → Int32} (hB : LB B) (hL : HL σ B a n) (hk : k < 8) : E KL_lies [.ref B, .int (nI k)] (HH σ δ) (some (.int (bI (lK a n k)))) (HH σ δ) := by
  unfold lK
  by_cases h : k < n
  · rw [decide_eq_true h, Bool.true_and]; exact c_KL_lies hB hL.wf hL.rb h
  · rw [decide_eq_false h, Bool.false_and]; exact c0_KL_lies hB hL.wf hL.rb (by omega) hk
set_option maxRecDepth 100000 in
theorem c_KE_isAlike {σ : SI} {δ : SD} {B n s : Nat} {a : Nat → Int32} (hB : LB B) (hL : HL σ B a n) (hs : s < 3) {k : Nat} (hk : k < 8) : E KE_isAlike [.ref (B + 1), .ref B, .int (nI s), .int (nI k)] (HH σ δ) (some (.int (bI (alikeC σ B a n s k)))) (HH σ δ) := by
  refine E.ofL [some (.ref (B + 1)), some (.ref B), some (.int (nI s)), some (.int (nI k))] rfl pn_RX4 rfl (fun sc => ?_)
  refine g_aload_n dX4_isAlike_0 rfl ?_
  refine g_iload_n dX4_isAlike_1 rfl ?_
  refine g_v1 (M' := KL_xOf) dX4_isAlike_2 l_E_37 v_KL_xOf (c1_KL_xOf hB hL (by omega)) (rcL hB) rfl rfl ⟨rfl, rfl⟩ ?_
  refine g_aload_n dX4_isAlike_5 rfl ?_
  refine g_iload_n dX4_isAlike_6 rfl ?_
  refine g_iload_n dX4_isAlike_7 rfl ?_
  refine g_iconst dX4_isAlike_8 ic_0 ?_
  refine g_v3 (M' := KE_then) dX4_isAlike_9 l_E_33 v_KE_then (c_KE_then hB (by omega) (by omega) (by omega)) (rcE hB) rfl rfl ⟨rfl, rfl⟩ ?_
  refine g_icmp_ne (tgt := 64) dX4_isAlike_12 rfl (fun zc12 => ?_) (fun zc12 => ?_)
  · refine g_iconst dX4_isAlike_64 ic_0 ?_
    exact e_z0 dX4_isAlike_65 rfl (by unfold alikeC; first | (rw [decide_eq_true zc12, decide_eq_true zc27, decide_eq_true zc42, decide_eq_true zc57]; rfl) | (rw [decide_eq_true zc12, decide_eq_true zc27, decide_eq_true zc42, decide_eq_false zc57]; rfl) | (rw [decide_eq_true zc12, decide_eq_true zc27, decide_eq_false zc42]; rfl) | (rw [decide_eq_true zc12, decide_eq_false zc27]; rfl) | (rw [decide_eq_false zc12]; rfl)) (by rfl)
  · refine g_aload_n dX4_isAlike_15 rfl ?_
    refine g_iload_n dX4_isAlike_16 rfl ?_
    refine g_v1 (M' := KL_yOf) dX4_isAlike_17 l_E_43 v_KL_yOf (c1_KL_yOf hB hL (by omega)) (rcL hB) rfl rfl ⟨rfl, rfl⟩ ?_
    refine g_aload_n dX4_isAlike_20 rfl ?_
    refine g_iload_n dX4_isAlike_21 rfl ?_
    refine g_iload_n dX4_isAlike_22 rfl ?_
    refine g_iconst dX4_isAlike_23 ic_1 ?_
    refine g_v3 (M' := KE_then) dX4_isAlike_24 l_E_33 v_KE_then (c_KE_then hB (by omega) (by omega) (by omega)) (rcE hB) rfl rfl ⟨rfl, rfl⟩ ?_
    refine g_icmp_ne (tgt := 64) dX4_isAlike_27 rfl (fun zc27 => ?_) (fun zc27 => ?_)
    · refine g_iconst dX4_isAlike_64 ic_0 ?_
      exact e_z0 dX4_isAlike_65 rfl (by unfold alikeC; first | (rw [decide_eq_true zc12, decide_eq_true zc27, decide_eq_true zc42, decide_eq_true zc57]; rfl) | (rw [decide_eq_true zc12, decide_eq_true zc27, decide_eq_true zc42, decide_eq_false zc57]; rfl) | (rw [decide_eq_true zc12, decide_eq_true zc27, decide_eq_false zc42]; rfl) | (rw [decide_eq_true zc12, decide_eq_false zc27]; rfl) | (rw [decide_eq_false zc12]; rfl)) (by rfl)
    · refine g_aload_n dX4_isAlike_30 rfl ?_
      refine g_iload_n dX4_isAlike_31 rfl ?_
      refine g_v1 (M' := KL_wide) dX4_isAlike_32 l_E_46 v_KL_wide (c1_KL_wide hB hL (by omega)) (rcL hB) rfl rfl ⟨rfl, rfl⟩ ?_
      refine g_aload_n dX4_isAlike_35 rfl ?_
      refine g_iload_n dX4_isAlike_36 rfl ?_
      refine g_iload_n dX4_isAlike_37 rfl ?_
      refine g_iconst dX4_isAlike_38 ic_2 ?_
      refine g_v3 (M' := KE_then) dX4_isAlike_39 l_E_33 v_KE_then (c_KE_then hB (by omega) (by omega) (by omega)) (rcE hB) rfl rfl ⟨rfl, rfl⟩ ?_
      refine g_icmp_ne (tgt := 64) dX4_isAlike_42 rfl (fun zc42 => ?_) (fun zc42 => ?_)
      · refine g_iconst dX4_isAlike_64 ic_0 ?_
        exact e_z0 dX4_isAlike_65 rfl (by unfold alikeC; first | (rw [decide_eq_true zc12, decide_eq_true zc27, decide_eq_true zc42, decide_eq_true zc57]; rfl) | (rw [decide_eq_true zc12, decide_eq_true zc27, decide_eq_true zc42, decide_eq_false zc57]; rfl) | (rw [decide_eq_true zc12, decide_eq_true zc27, decide_eq_false zc42]; rfl) | (rw [decide_eq_true zc12, decide_eq_false zc27]; rfl) | (rw [decide_eq_false zc12]; rfl)) (by rfl)
      · refine g_aload_n dX4_isAlike_45 rfl ?_
        refine g_iload_n dX4_isAlike_46 rfl ?_
        refine g_v1 (M' := KL_high) dX4_isAlike_47 l_E_49 v_KL_high (c1_KL_high hB hL (by omega)) (rcL hB) rfl rfl ⟨rfl, rfl⟩ ?_
        refine g_aload_n dX4_isAlike_50 rfl ?_
        refine g_iload_n dX4_isAlike_51 rfl ?_
        refine g_iload_n dX4_isAlike_52 rfl ?_
        refine g_iconst dX4_isAlike_53 ic_3 ?_
        refine g_v3 (M' := KE_then) dX4_isAlike_54 l_E_33 v_KE_then (c_KE_then hB (by omega) (by omega) (by omega)) (rcE hB) rfl rfl ⟨rfl, rfl⟩ ?_
        refine g_icmp_ne (tgt := 64) dX4_isAlike_57 rfl (fun zc57 => ?_) (fun zc57 => ?_)
        · refine g_iconst dX4_isAlike_64 ic_0 ?_
          exact e_z0 dX4_isAlike_65 rfl (by unfold alikeC; first | (rw [decide_eq_true zc12, decide_eq_true zc27, decide_eq_true zc42, decide_eq_true zc57]; rfl) | (rw [decide_eq_true zc12, decide_eq_true zc27, decide_eq_true zc42, decide_eq_false zc57]; rfl) | (rw [decide_eq_true zc12, decide_eq_true zc27, decide_eq_false zc42]; rfl) | (rw [decide_eq_true zc12, decide_eq_false zc27]; rfl) | (rw [decide_eq_false zc12]; rfl)) (by rfl)
        · refine g_iconst dX4_isAlike_60 ic_1 ?_
          refine g_goto (tgt := 65) dX4_isAlike_61 rfl ?_
          exact e_z1 dX4_isAlike_65 rfl (by unfold alikeC; first | (rw [decide_eq_true zc12, decide_eq_true zc27, decide_eq_true zc42, decide_eq_true zc57]; rfl) | (rw [decide_eq_true zc12, decide_eq_true zc27, decide_eq_true zc42, decide_eq_false zc57]; rfl) | (rw [decide_eq_true zc12, decide_eq_true zc27, decide_eq_false zc42]; rfl) | (rw [decide_eq_true zc12, decide_eq_false zc27]; rfl) | (rw [decide_eq_false zc12]; rfl)) (by rfl)
set_option maxRecDepth 100000 in
theorem c_KE_unlike {σ : SI} {δ : SD} {B n s : Nat} {a : Nat → Int32} (hB : LB B) (hL : HL σ B a n) (hs : s < 3) : E KE_unlike [.ref (B + 1), .ref B, .int (nI s)] (HH σ δ) (some (.int (nI (cntN (unC σ B a n s) 8)))) (HH σ δ) := by
  refine E.ofL [some (.ref (B + 1)), some (.ref B), some (.int (nI s))] rfl pn_RX4 rfl (fun sc => ?_)
  generalize hRz : (fun (zr : Option Value) (zk : XH) => zr = some (.int (nI (cntN (unC σ B a n s) 8))) ∧ zk = HH σ δ) = R
  refine g_iconst dX4_unlike_0 ic_0 ?_
  refine g_istore_n dX4_unlike_1 rfl ?_
  refine g_iconst dX4_unlike_2 ic_0 ?_
  refine g_istore dX4_unlike_3 rfl ?_
  have H5 : ∀ (N : Nat) (k c : Nat), k ≤ 8 → c = cntN (unC σ B a n s) k → 8 - k < N → G sc KE_unlike 5 (aL [some (.ref (B + 1)), some (.ref B), some (.int (nI s)), some (.int (nI c)), some (.int (nI k))]) [] (HH σ δ) (0, 0) R := by
    intro N
    induction N with
    | zero => intro k c h1 hb hN5; exact absurd hN5 (Nat.not_lt_zero _)
    | succ N ih5 =>
      intro k c h1 hb hN5
      refine g_iload dX4_unlike_5 rfl ?_
      refine g_bipush dX4_unlike_7 bp_8 ?_
      refine n_icmp_ge (tgt := 51) (by omega) (by omega) dX4_unlike_9 rfl (fun zc9 => ?_) (fun zc9 => ?_)
      · refine g_iload_n dX4_unlike_51 rfl ?_
        exact g_iret (S := []) dX4_unlike_52 rfl (by rw [← hRz]; exact ⟨congrArg (fun zz => some (Value.int zz)) (show _ = _ by rw [hb, show k = 8 by omega]), by rfl⟩) (Nat.zero_le _) (Nat.zero_le _)
      · refine g_aload_n dX4_unlike_12 rfl ?_
        refine g_iload dX4_unlike_13 rfl ?_
        refine g_v1 (M' := KL_lies) dX4_unlike_15 l_E_63 v_KL_lies (c1_KL_lies hB hL (by omega)) (rcL hB) rfl rfl ⟨rfl, rfl⟩ ?_
        refine b_if_ne (tgt := 31) dX4_unlike_18 rfl (fun zc18 => ?_) (fun zc18 => ?_)
        · refine g_aload_n dX4_unlike_31 rfl ?_
          refine g_aload_n dX4_unlike_32 rfl ?_
          refine g_iload_n dX4_unlike_33 rfl ?_
          refine g_iload dX4_unlike_34 rfl ?_
          refine g_v3 (M' := KE_isAlike) dX4_unlike_36 l_E_70 v_KE_isAlike (c_KE_isAlike hB hL hs (by omega)) (rcE hB) rfl rfl ⟨rfl, rfl⟩ ?_
          refine b_if_ne (tgt := 45) dX4_unlike_39 rfl (fun zc39 => ?_) (fun zc39 => ?_)
          · refine n_iinc (b := 1) dX4_unlike_45 rfl rfl rfl ?_
            refine g_goto (tgt := 5) dX4_unlike_48 rfl ?_
            exact g_can _ (by exact ⟨rfl, rfl, rfl, rfl, rfl, trivial⟩) (ih5 (k + 1) _ (by omega) (by rw [hb, cntN]; (first | rw [uc1 zc18 zc39] | rw [uc2 zc28 zc39] | rw [uc3 zc18 zc28]); (try rfl)) (by omega))
          · refine n_iinc (b := 1) dX4_unlike_42 rfl rfl rfl ?_
            refine n_iinc (b := 1) dX4_unlike_45 rfl rfl rfl ?_
            refine g_goto (tgt := 5) dX4_unlike_48 rfl ?_
            exact g_can _ (by exact ⟨rfl, rfl, rfl, rfl, rfl, trivial⟩) (ih5 (k + 1) _ (by omega) (by rw [hb, cntN]; (first | rw [uc1 zc18 zc39] | rw [uc2 zc28 zc39] | rw [uc3 zc18 zc28]); (try rfl)) (by omega))
        · refine g_aload_n dX4_unlike_21 rfl ?_
          refine g_iload_n dX4_unlike_22 rfl ?_
          refine g_iload dX4_unlike_23 rfl ?_
          refine g_v2 (M' := KE_lay) dX4_unlike_25 l_E_67 v_KE_lay (c_KE_lay hB (by omega) (by omega)) (rcE hB) rfl rfl ⟨rfl, rfl⟩ ?_
          refine b_if_eq (tgt := 45) dX4_unlike_28 rfl (fun zc28 => ?_) (fun zc28 => ?_)
          · refine n_iinc (b := 1) dX4_unlike_45 rfl rfl rfl ?_
            refine g_goto (tgt := 5) dX4_unlike_48 rfl ?_
            exact g_can _ (by exact ⟨rfl, rfl, rfl, rfl, rfl, trivial⟩) (ih5 (k + 1) _ (by omega) (by rw [hb, cntN]; (first | rw [uc1 zc18 zc39] | rw [uc2 zc28 zc39] | rw [uc3 zc18 zc28]); (try rfl)) (by omega))
          · refine g_aload_n dX4_unlike_31 rfl ?_
            refine g_aload_n dX4_unlike_32 rfl ?_
            refine g_iload_n dX4_unlike_33 rfl ?_
            refine g_iload dX4_unlike_34 rfl ?_
            refine g_v3 (M' := KE_isAlike) dX4_unlike_36 l_E_70 v_KE_isAlike (c_KE_isAlike hB hL hs (by omega)) (rcE hB) rfl rfl ⟨rfl, rfl⟩ ?_
            refine b_if_ne (tgt := 45) dX4_unlike_39 rfl (fun zc39 => ?_) (fun zc39 => ?_)
            · refine n_iinc (b := 1) dX4_unlike_45 rfl rfl rfl ?_
              refine g_goto (tgt := 5) dX4_unlike_48 rfl ?_
              exact g_can _ (by exact ⟨rfl, rfl, rfl, rfl, rfl, trivial⟩) (ih5 (k + 1) _ (by omega) (by rw [hb, cntN]; (first | rw [uc1 zc18 zc39] | rw [uc2 zc28 zc39] | rw [uc3 zc18 zc28]); (try rfl)) (by omega))
            · refine n_iinc (b := 1) dX4_unlike_42 rfl rfl rfl ?_
              refine n_iinc (b := 1) dX4_unlike_45 rfl rfl rfl ?_
              refine g_goto (tgt := 5) dX4_unlike_48 rfl ?_
              exact g_can _ (by exact ⟨rfl, rfl, rfl, rfl, rfl, trivial⟩) (ih5 (k + 1) _ (by omega) (by rw [hb, cntN]; (first | rw [uc1 zc18 zc39] | rw [uc2 zc28 zc39] | rw [uc3 zc18 zc28]); (try rfl)) (by omega))
  exact g_can _ (by exact ⟨rfl, rfl, rfl, rfl, rfl, trivial⟩) (H5 _ 0 0 (by omega) rfl (Nat.lt_succ_self _))
set_option maxRecDepth 100000 in
theorem c_KE_far {σ : SI} {δ : SD} {B n s : Nat} {a : Nat → Int32} (hB : LB B) (hL : HL σ B a n) (hs : s < 3) : E KE_far [.ref (B + 1), .ref B, .int (nI s)] (HH σ δ) (some (.int (sumI (frC σ B a n s) 8))) (HH σ δ) := by
  refine E.ofL [some (.ref (B + 1)), some (.ref B), some (.int (nI s))] rfl pn_RX4 rfl (fun sc => ?_)
  generalize hRz : (fun (zr : Option Value) (zk : XH) => zr = some (.int (sumI (frC σ B a n s) 8)) ∧ zk = HH σ δ) = R
  refine g_iconst dX4_far_0 ic_0 ?_
  refine g_istore_n dX4_far_1 rfl ?_
  refine g_iconst dX4_far_2 ic_0 ?_
  refine g_istore dX4_far_3 rfl ?_
  have H5 : ∀ (N : Nat) (k : Nat) (z : Int32), k ≤ 8 → z = sumI (frC σ B a n s) k → 8 - k < N → G sc KE_far 5 (aL [some (.ref (B + 1)), some (.ref B), some (.int (nI s)), some (.int z), some (.int (nI k))]) [] (HH σ δ) (0, 0) R := by
    intro N
    induction N with
    | zero => intro k z h1 hb hN5; exact absurd hN5 (Nat.not_lt_zero _)
    | succ N ih5 =>
      intro k z h1 hb hN5
      refine g_iload dX4_far_5 rfl ?_
      refine g_bipush dX4_far_7 bp_8 ?_
      refine n_icmp_ge (tgt := 75) (by omega) (by omega) dX4_far_9 rfl (fun zc9 => ?_) (fun zc9 => ?_)
      · refine g_iload_n dX4_far_75 rfl ?_
        exact g_iret (S := []) dX4_far_76 rfl (by rw [← hRz]; exact ⟨congrArg (fun zz => some (Value.int zz)) (show _ = _ by rw [hb, show k = 8 by omega]), by rfl⟩) (Nat.zero_le _) (Nat.zero_le _)
      · refine g_aload_n dX4_far_12 rfl ?_
        refine g_iload dX4_far_13 rfl ?_
        refine g_v1 (M' := KL_lies) dX4_far_15 l_E_63 v_KL_lies (c1_KL_lies hB hL (by omega)) (rcL hB) rfl rfl ⟨rfl, rfl⟩ ?_
        refine b_if_eq (tgt := 69) dX4_far_18 rfl (fun zc18 => ?_) (fun zc18 => ?_)
        · refine n_iinc (b := 1) dX4_far_69 rfl rfl rfl ?_
          refine g_goto (tgt := 5) dX4_far_72 rfl ?_
          exact g_can _ (by exact ⟨rfl, rfl, rfl, rfl, rfl, trivial⟩) (ih5 (k + 1) _ (by omega) (by rw [hb, sumI]; unfold frC; first | (rw [zc18, zc28]; rfl) | (rw [zc18, zc28]; simp [nI_0]) | (rw [zc18]; simp [nI_0])) (by omega))
        · refine g_aload_n dX4_far_21 rfl ?_
          refine g_iload_n dX4_far_22 rfl ?_
          refine g_iload dX4_far_23 rfl ?_
          refine g_v2 (M' := KE_lay) dX4_far_25 l_E_67 v_KE_lay (c_KE_lay hB (by omega) (by omega)) (rcE hB) rfl rfl ⟨rfl, rfl⟩ ?_
          refine b_if_eq (tgt := 69) dX4_far_28 rfl (fun zc28 => ?_) (fun zc28 => ?_)
          · refine n_iinc (b := 1) dX4_far_69 rfl rfl rfl ?_
            refine g_goto (tgt := 5) dX4_far_72 rfl ?_
            exact g_can _ (by exact ⟨rfl, rfl, rfl, rfl, rfl, trivial⟩) (ih5 (k + 1) _ (by omega) (by rw [hb, sumI]; unfold frC; first | (rw [zc18, zc28]; rfl) | (rw [zc18, zc28]; simp [nI_0]) | (rw [zc18]; simp [nI_0])) (by omega))
          · refine g_iload_n dX4_far_31 rfl ?_
            refine g_aload_n dX4_far_32 rfl ?_
            refine g_iload dX4_far_33 rfl ?_
            refine g_v1 (M' := KL_xOf) dX4_far_35 l_E_37 v_KL_xOf (c1_KL_xOf hB hL (by omega)) (rcL hB) rfl rfl ⟨rfl, rfl⟩ ?_
            refine g_aload_n dX4_far_38 rfl ?_
            refine g_iload_n dX4_far_39 rfl ?_
            refine g_iload dX4_far_40 rfl ?_
            refine g_iconst dX4_far_42 ic_0 ?_
            refine g_v3 (M' := KE_then) dX4_far_43 l_E_33 v_KE_then (c_KE_then hB (by omega) (by omega) (by omega)) (rcE hB) rfl rfl ⟨rfl, rfl⟩ ?_
            refine g_s2N (M' := KP_distance) dX4_far_46 l_E_74 s_KP_distance c_KP_distance rfl rfl ⟨rfl, rfl⟩ ?_
            refine g_aload_n dX4_far_49 rfl ?_
            refine g_iload dX4_far_50 rfl ?_
            refine g_v1 (M' := KL_yOf) dX4_far_52 l_E_43 v_KL_yOf (c1_KL_yOf hB hL (by omega)) (rcL hB) rfl rfl ⟨rfl, rfl⟩ ?_
            refine g_aload_n dX4_far_55 rfl ?_
            refine g_iload_n dX4_far_56 rfl ?_
            refine g_iload dX4_far_57 rfl ?_
            refine g_iconst dX4_far_59 ic_1 ?_
            refine g_v3 (M' := KE_then) dX4_far_60 l_E_33 v_KE_then (c_KE_then hB (by omega) (by omega) (by omega)) (rcE hB) rfl rfl ⟨rfl, rfl⟩ ?_
            refine g_s2N (M' := KP_distance) dX4_far_63 l_E_74 s_KP_distance c_KP_distance rfl rfl ⟨rfl, rfl⟩ ?_
            refine g_iadd dX4_far_66 ?_
            refine g_iadd dX4_far_67 ?_
            refine g_istore_n dX4_far_68 rfl ?_
            refine n_iinc (b := 1) dX4_far_69 rfl rfl rfl ?_
            refine g_goto (tgt := 5) dX4_far_72 rfl ?_
            exact g_can _ (by exact ⟨rfl, rfl, rfl, rfl, rfl, trivial⟩) (ih5 (k + 1) _ (by omega) (by rw [hb, sumI]; unfold frC; first | (rw [zc18, zc28]; rfl) | (rw [zc18, zc28]; simp [nI_0]) | (rw [zc18]; simp [nI_0])) (by omega))
  exact g_can _ (by exact ⟨rfl, rfl, rfl, rfl, rfl, trivial⟩) (H5 _ 0 _ (by omega) rfl (Nat.lt_succ_self _))
set_option maxRecDepth 100000 in
theorem c_KR_otherwiseNow0 {σ : SI} {δ : SD} {n : Nat} (hW : WF (σ 85) n) {s : Nat} (hs : s < 3) : E KR_otherwiseNow [.ref 84, .int (nI s), .int (nI 0)] (HH σ δ) (some (.int (nI (cntN (unR (σ 85) n s) 8)))) (HH σ δ) := by
  have h8 := hW.n8
  refine E.ofL [some (.ref 84), some (.int (nI s)), some (.int (nI 0))] rfl pn_RX9 rfl (fun sc => ?_)
  generalize hRz : (fun (zr : Option Value) (zk : XH) => zr = some (.int (nI (cntN (unR (σ 85) n s) 8))) ∧ zk = HH σ δ) = R
  refine g_iconst dX9_otherwiseNow_0 ic_0 ?_
  refine g_istore_n dX9_otherwiseNow_1 rfl ?_
  refine g_iconst dX9_otherwiseNow_2 ic_0 ?_
  refine g_istore dX9_otherwiseNow_3 rfl ?_
  refine g_iconst dX9_otherwiseNow_5 ic_0 ?_
  refine g_istore dX9_otherwiseNow_6 rfl ?_
  have H8 : ∀ (N : Nat) (k c : Nat) (z : Int32), k ≤ 8 → c = cntN (unR (σ 85) n s) k → z = sumI (frR (σ 85) n s) k → 8 - k < N → G sc KR_otherwiseNow 8 (aL [some (.ref 84), some (.int (nI s)), some (.int (nI 0)), some (.int (nI c)), some (.int z), some (.int (nI k))]) [] (HH σ δ) (0, 0) R := by
    intro N
    induction N with
    | zero => intro k c z h1 hb hz hN8; exact absurd hN8 (Nat.not_lt_zero _)
    | succ N ih8 =>
      intro k c z h1 hb hz hN8
      refine g_iload dX9_otherwiseNow_8 rfl ?_
      refine g_bipush dX9_otherwiseNow_10 bp_8 ?_
      refine n_icmp_ge (tgt := 191) (by omega) (by omega) dX9_otherwiseNow_12 rfl (fun zc12 => ?_) (fun zc12 => ?_)
      · refine g_iload_n dX9_otherwiseNow_191 rfl ?_
        refine n_if_ne (tgt := 199) (by omega) dX9_otherwiseNow_192 rfl (fun zc192 => absurd zc192 (by decide)) (fun _ => ?_)
        refine g_iload_n dX9_otherwiseNow_195 rfl ?_
        refine g_goto (tgt := 201) dX9_otherwiseNow_196 rfl ?_
        exact g_iret (S := []) dX9_otherwiseNow_201 rfl (by rw [← hRz]; exact ⟨congrArg (fun zz => some (Value.int zz)) (show _ = _ by rw [hb, show k = 8 by omega]), by rfl⟩) (Nat.zero_le _) (Nat.zero_le _)
      · refine g_iload dX9_otherwiseNow_15 rfl ?_
        refine g_aload_n dX9_otherwiseNow_17 rfl ?_
        refine g_v0 (M' := KR_many) dX9_otherwiseNow_18 l_R_42 v_KR_many c_KR_many rc_84 rfl rfl ⟨rfl, rfl⟩ ?_
        refine g_top hW.a7 ?_
        refine n_icmp_ge (tgt := 37) (by omega) (by omega) dX9_otherwiseNow_21 rfl (fun zc21 => ?_) (fun zc21 => ?_)
        · refine g_iconst dX9_otherwiseNow_37 ic_0 ?_
          refine g_istore dX9_otherwiseNow_38 rfl ?_
          refine g_aload_n dX9_otherwiseNow_40 rfl ?_
          refine g_iload_n dX9_otherwiseNow_41 rfl ?_
          refine g_iload dX9_otherwiseNow_42 rfl ?_
          refine g_iconst dX9_otherwiseNow_44 ic_0 ?_
          refine g_v3 (M' := KR_kept) dX9_otherwiseNow_45 l_R_293 v_KR_kept (c_KR_kept (by omega) (by omega) (by omega)) rc_84 rfl rfl ⟨rfl, rfl⟩ ?_
          refine g_iconst dX9_otherwiseNow_48 ic_m1 ?_
          refine g_icmp_eq (tgt := 56) dX9_otherwiseNow_49 rfl (fun zc49 => ?_) (fun zc49 => ?_)
          · refine g_iconst dX9_otherwiseNow_56 ic_0 ?_
            refine g_istore dX9_otherwiseNow_57 rfl ?_
            refine g_iload dX9_otherwiseNow_59 rfl ?_
            refine n_if_eq (tgt := 167) (by omega) dX9_otherwiseNow_61 rfl (fun _ => ?_) (fun zc61 => absurd zc61 (by decide))
            refine g_iload_n dX9_otherwiseNow_167 rfl ?_
            refine g_iload dX9_otherwiseNow_168 rfl ?_
            refine n_if_ne (tgt := 178) (by omega) dX9_otherwiseNow_170 rfl (fun zc170 => absurd zc170 (by decide)) (fun _ => ?_)
            refine g_iload dX9_otherwiseNow_173 rfl ?_
            refine n_if_eq (tgt := 182) (by omega) dX9_otherwiseNow_175 rfl (fun _ => ?_) (fun zc175 => absurd zc175 (by decide))
            refine g_iconst dX9_otherwiseNow_182 ic_0 ?_
            refine n_iadd dX9_otherwiseNow_183 ?_
            refine g_istore_n dX9_otherwiseNow_184 rfl ?_
            refine n_iinc (b := 1) dX9_otherwiseNow_185 rfl rfl rfl ?_
            refine g_goto (tgt := 8) dX9_otherwiseNow_188 rfl ?_
            exact g_can _ (by exact ⟨rfl, rfl, rfl, rfl, rfl, rfl, trivial⟩) (ih8 (k + 1) _ _ (by omega) (by rw [hb, cntN]; (have hz0 : nI 0 = 0 := rfl; clear ih8 hb hz; (first | have hkn : k < n := (by omega) | have hkn : ¬ k < n := (by omega)); simp [unR, lK, thB, byA, *] at *; try simp [*])) (by rw [hz, sumI]; (have hz0 : nI 0 = 0 := rfl; clear ih8 hb hz; (first | have hkn : k < n := (by omega) | have hkn : ¬ k < n := (by omega)); simp [frR, lK, thB, byA, *])) (by omega))
          · refine g_iconst dX9_otherwiseNow_52 ic_1 ?_
            refine g_goto (tgt := 57) dX9_otherwiseNow_53 rfl ?_
            refine g_istore dX9_otherwiseNow_57 rfl ?_
            refine g_iload dX9_otherwiseNow_59 rfl ?_
            refine n_if_eq (tgt := 167) (by omega) dX9_otherwiseNow_61 rfl (fun _ => ?_) (fun zc61 => absurd zc61 (by decide))
            refine g_iload_n dX9_otherwiseNow_167 rfl ?_
            refine g_iload dX9_otherwiseNow_168 rfl ?_
            refine n_if_ne (tgt := 178) (by omega) dX9_otherwiseNow_170 rfl (fun zc170 => absurd zc170 (by decide)) (fun _ => ?_)
            refine g_iload dX9_otherwiseNow_173 rfl ?_
            refine n_if_eq (tgt := 182) (by omega) dX9_otherwiseNow_175 rfl (fun zc175 => absurd zc175 (by decide)) (fun _ => ?_)
            refine g_iconst dX9_otherwiseNow_178 ic_1 ?_
            refine g_goto (tgt := 183) dX9_otherwiseNow_179 rfl ?_
            refine n_iadd dX9_otherwiseNow_183 ?_
            refine g_istore_n dX9_otherwiseNow_184 rfl ?_
            refine n_iinc (b := 1) dX9_otherwiseNow_185 rfl rfl rfl ?_
            refine g_goto (tgt := 8) dX9_otherwiseNow_188 rfl ?_
            exact g_can _ (by exact ⟨rfl, rfl, rfl, rfl, rfl, rfl, trivial⟩) (ih8 (k + 1) _ _ (by omega) (by rw [hb, cntN]; (have hz0 : nI 0 = 0 := rfl; clear ih8 hb hz; (first | have hkn : k < n := (by omega) | have hkn : ¬ k < n := (by omega)); simp [unR, lK, thB, byA, *] at *; try simp [*])) (by rw [hz, sumI]; (have hz0 : nI 0 = 0 := rfl; clear ih8 hb hz; (first | have hkn : k < n := (by omega) | have hkn : ¬ k < n := (by omega)); simp [frR, lK, thB, byA, *])) (by omega))
        · refine g_aload_n dX9_otherwiseNow_24 rfl ?_
          refine g_iload dX9_otherwiseNow_25 rfl ?_
          refine g_v1 (M' := KR_lies) dX9_otherwiseNow_27 l_R_82 v_KR_lies (c_KR_lies (by omega)) rc_84 rfl rfl ⟨rfl, rfl⟩ ?_
          refine b_if_eq (tgt := 37) dX9_otherwiseNow_30 rfl (fun zc30 => ?_) (fun zc30 => ?_)
          · refine g_iconst dX9_otherwiseNow_37 ic_0 ?_
            refine g_istore dX9_otherwiseNow_38 rfl ?_
            refine g_aload_n dX9_otherwiseNow_40 rfl ?_
            refine g_iload_n dX9_otherwiseNow_41 rfl ?_
            refine g_iload dX9_otherwiseNow_42 rfl ?_
            refine g_iconst dX9_otherwiseNow_44 ic_0 ?_
            refine g_v3 (M' := KR_kept) dX9_otherwiseNow_45 l_R_293 v_KR_kept (c_KR_kept (by omega) (by omega) (by omega)) rc_84 rfl rfl ⟨rfl, rfl⟩ ?_
            refine g_iconst dX9_otherwiseNow_48 ic_m1 ?_
            refine g_icmp_eq (tgt := 56) dX9_otherwiseNow_49 rfl (fun zc49 => ?_) (fun zc49 => ?_)
            · refine g_iconst dX9_otherwiseNow_56 ic_0 ?_
              refine g_istore dX9_otherwiseNow_57 rfl ?_
              refine g_iload dX9_otherwiseNow_59 rfl ?_
              refine n_if_eq (tgt := 167) (by omega) dX9_otherwiseNow_61 rfl (fun _ => ?_) (fun zc61 => absurd zc61 (by decide))
              refine g_iload_n dX9_otherwiseNow_167 rfl ?_
              refine g_iload dX9_otherwiseNow_168 rfl ?_
              refine n_if_ne (tgt := 178) (by omega) dX9_otherwiseNow_170 rfl (fun zc170 => absurd zc170 (by decide)) (fun _ => ?_)
              refine g_iload dX9_otherwiseNow_173 rfl ?_
              refine n_if_eq (tgt := 182) (by omega) dX9_otherwiseNow_175 rfl (fun _ => ?_) (fun zc175 => absurd zc175 (by decide))
              refine g_iconst dX9_otherwiseNow_182 ic_0 ?_
              refine n_iadd dX9_otherwiseNow_183 ?_
              refine g_istore_n dX9_otherwiseNow_184 rfl ?_
              refine n_iinc (b := 1) dX9_otherwiseNow_185 rfl rfl rfl ?_
              refine g_goto (tgt := 8) dX9_otherwiseNow_188 rfl ?_
              exact g_can _ (by exact ⟨rfl, rfl, rfl, rfl, rfl, rfl, trivial⟩) (ih8 (k + 1) _ _ (by omega) (by rw [hb, cntN]; (have hz0 : nI 0 = 0 := rfl; clear ih8 hb hz; (first | have hkn : k < n := (by omega) | have hkn : ¬ k < n := (by omega)); simp [unR, lK, thB, byA, *] at *; try simp [*])) (by rw [hz, sumI]; (have hz0 : nI 0 = 0 := rfl; clear ih8 hb hz; (first | have hkn : k < n := (by omega) | have hkn : ¬ k < n := (by omega)); simp [frR, lK, thB, byA, *])) (by omega))
            · refine g_iconst dX9_otherwiseNow_52 ic_1 ?_
              refine g_goto (tgt := 57) dX9_otherwiseNow_53 rfl ?_
              refine g_istore dX9_otherwiseNow_57 rfl ?_
              refine g_iload dX9_otherwiseNow_59 rfl ?_
              refine n_if_eq (tgt := 167) (by omega) dX9_otherwiseNow_61 rfl (fun _ => ?_) (fun zc61 => absurd zc61 (by decide))
              refine g_iload_n dX9_otherwiseNow_167 rfl ?_
              refine g_iload dX9_otherwiseNow_168 rfl ?_
              refine n_if_ne (tgt := 178) (by omega) dX9_otherwiseNow_170 rfl (fun zc170 => absurd zc170 (by decide)) (fun _ => ?_)
              refine g_iload dX9_otherwiseNow_173 rfl ?_
              refine n_if_eq (tgt := 182) (by omega) dX9_otherwiseNow_175 rfl (fun zc175 => absurd zc175 (by decide)) (fun _ => ?_)
              refine g_iconst dX9_otherwiseNow_178 ic_1 ?_
              refine g_goto (tgt := 183) dX9_otherwiseNow_179 rfl ?_
              refine n_iadd dX9_otherwiseNow_183 ?_
              refine g_istore_n dX9_otherwiseNow_184 rfl ?_
              refine n_iinc (b := 1) dX9_otherwiseNow_185 rfl rfl rfl ?_
              refine g_goto (tgt := 8) dX9_otherwiseNow_188 rfl ?_
              exact g_can _ (by exact ⟨rfl, rfl, rfl, rfl, rfl, rfl, trivial⟩) (ih8 (k + 1) _ _ (by omega) (by rw [hb, cntN]; (have hz0 : nI 0 = 0 := rfl; clear ih8 hb hz; (first | have hkn : k < n := (by omega) | have hkn : ¬ k < n := (by omega)); simp [unR, lK, thB, byA, *] at *; try simp [*])) (by rw [hz, sumI]; (have hz0 : nI 0 = 0 := rfl; clear ih8 hb hz; (first | have hkn : k < n := (by omega) | have hkn : ¬ k < n := (by omega)); simp [frR, lK, thB, byA, *])) (by omega))
          · refine g_iconst dX9_otherwiseNow_33 ic_1 ?_
            refine g_goto (tgt := 38) dX9_otherwiseNow_34 rfl ?_
            refine g_istore dX9_otherwiseNow_38 rfl ?_
            refine g_aload_n dX9_otherwiseNow_40 rfl ?_
            refine g_iload_n dX9_otherwiseNow_41 rfl ?_
            refine g_iload dX9_otherwiseNow_42 rfl ?_
            refine g_iconst dX9_otherwiseNow_44 ic_0 ?_
            refine g_v3 (M' := KR_kept) dX9_otherwiseNow_45 l_R_293 v_KR_kept (c_KR_kept (by omega) (by omega) (by omega)) rc_84 rfl rfl ⟨rfl, rfl⟩ ?_
            refine g_iconst dX9_otherwiseNow_48 ic_m1 ?_
            refine g_icmp_eq (tgt := 56) dX9_otherwiseNow_49 rfl (fun zc49 => ?_) (fun zc49 => ?_)
            · refine g_iconst dX9_otherwiseNow_56 ic_0 ?_
              refine g_istore dX9_otherwiseNow_57 rfl ?_
              refine g_iload dX9_otherwiseNow_59 rfl ?_
              refine n_if_eq (tgt := 167) (by omega) dX9_otherwiseNow_61 rfl (fun zc61 => absurd zc61 (by decide)) (fun _ => ?_)
              refine g_iload dX9_otherwiseNow_64 rfl ?_
              refine n_if_eq (tgt := 167) (by omega) dX9_otherwiseNow_66 rfl (fun _ => ?_) (fun zc66 => absurd zc66 (by decide))
              refine g_iload_n dX9_otherwiseNow_167 rfl ?_
              refine g_iload dX9_otherwiseNow_168 rfl ?_
              refine n_if_ne (tgt := 178) (by omega) dX9_otherwiseNow_170 rfl (fun _ => ?_) (fun zc170 => absurd zc170 (by decide))
              refine g_iconst dX9_otherwiseNow_178 ic_1 ?_
              refine g_goto (tgt := 183) dX9_otherwiseNow_179 rfl ?_
              refine n_iadd dX9_otherwiseNow_183 ?_
              refine g_istore_n dX9_otherwiseNow_184 rfl ?_
              refine n_iinc (b := 1) dX9_otherwiseNow_185 rfl rfl rfl ?_
              refine g_goto (tgt := 8) dX9_otherwiseNow_188 rfl ?_
              exact g_can _ (by exact ⟨rfl, rfl, rfl, rfl, rfl, rfl, trivial⟩) (ih8 (k + 1) _ _ (by omega) (by rw [hb, cntN]; (have hz0 : nI 0 = 0 := rfl; clear ih8 hb hz; (first | have hkn : k < n := (by omega) | have hkn : ¬ k < n := (by omega)); simp [unR, lK, thB, byA, *] at *; try simp [*])) (by rw [hz, sumI]; (have hz0 : nI 0 = 0 := rfl; clear ih8 hb hz; (first | have hkn : k < n := (by omega) | have hkn : ¬ k < n := (by omega)); simp [frR, lK, thB, byA, *])) (by omega))
            · refine g_iconst dX9_otherwiseNow_52 ic_1 ?_
              refine g_goto (tgt := 57) dX9_otherwiseNow_53 rfl ?_
              refine g_istore dX9_otherwiseNow_57 rfl ?_
              refine g_iload dX9_otherwiseNow_59 rfl ?_
              refine n_if_eq (tgt := 167) (by omega) dX9_otherwiseNow_61 rfl (fun zc61 => absurd zc61 (by decide)) (fun _ => ?_)
              refine g_iload dX9_otherwiseNow_64 rfl ?_
              refine n_if_eq (tgt := 167) (by omega) dX9_otherwiseNow_66 rfl (fun zc66 => absurd zc66 (by decide)) (fun _ => ?_)
              refine g_aload_n dX9_otherwiseNow_69 rfl ?_
              refine g_iload dX9_otherwiseNow_70 rfl ?_
              refine g_iconst dX9_otherwiseNow_72 ic_4 ?_
              refine g_v2 (M' := KR_its) dX9_otherwiseNow_73 l_R_50 v_KR_its (c_KR_its (by omega) (by omega)) rc_84 rfl rfl ⟨rfl, rfl⟩ ?_
              refine g_aload_n dX9_otherwiseNow_76 rfl ?_
              refine g_iload_n dX9_otherwiseNow_77 rfl ?_
              refine g_iload dX9_otherwiseNow_78 rfl ?_
              refine g_iconst dX9_otherwiseNow_80 ic_0 ?_
              refine g_v3 (M' := KR_kept) dX9_otherwiseNow_81 l_R_293 v_KR_kept (c_KR_kept (by omega) (by omega) (by omega)) rc_84 rfl rfl ⟨rfl, rfl⟩ ?_
              refine g_isub dX9_otherwiseNow_84 ?_
              refine g_s1 (M' := KR_abs) dX9_otherwiseNow_85 l_R_215 s_KR_abs c_KR_abs rfl rfl ⟨rfl, rfl⟩ ?_
              refine g_aload_n dX9_otherwiseNow_88 rfl ?_
              refine g_iload dX9_otherwiseNow_89 rfl ?_
              refine g_iconst dX9_otherwiseNow_91 ic_5 ?_
              refine g_v2 (M' := KR_its) dX9_otherwiseNow_92 l_R_50 v_KR_its (c_KR_its (by omega) (by omega)) rc_84 rfl rfl ⟨rfl, rfl⟩ ?_
              refine g_aload_n dX9_otherwiseNow_95 rfl ?_
              refine g_iload_n dX9_otherwiseNow_96 rfl ?_
              refine g_iload dX9_otherwiseNow_97 rfl ?_
              refine g_iconst dX9_otherwiseNow_99 ic_1 ?_
              refine g_v3 (M' := KR_kept) dX9_otherwiseNow_100 l_R_293 v_KR_kept (c_KR_kept (by omega) (by omega) (by omega)) rc_84 rfl rfl ⟨rfl, rfl⟩ ?_
              refine g_isub dX9_otherwiseNow_103 ?_
              refine g_s1 (M' := KR_abs) dX9_otherwiseNow_104 l_R_215 s_KR_abs c_KR_abs rfl rfl ⟨rfl, rfl⟩ ?_
              refine g_iadd dX9_otherwiseNow_107 ?_
              refine g_istore dX9_otherwiseNow_108 rfl ?_
              refine g_iload dX9_otherwiseNow_110 rfl ?_
              refine g_iload dX9_otherwiseNow_112 rfl ?_
              refine g_iadd dX9_otherwiseNow_114 ?_
              refine g_istore dX9_otherwiseNow_115 rfl ?_
              refine g_iload_n dX9_otherwiseNow_117 rfl ?_
              refine g_iload dX9_otherwiseNow_118 rfl ?_
              refine g_if_ne (tgt := 161) dX9_otherwiseNow_120 rfl (fun zc120 => ?_) (fun zc120 => ?_)
              · refine g_iconst dX9_otherwiseNow_161 ic_1 ?_
                refine n_iadd dX9_otherwiseNow_162 ?_
                refine g_istore_n dX9_otherwiseNow_163 rfl ?_
                refine g_goto (tgt := 185) dX9_otherwiseNow_164 rfl ?_
                refine n_iinc (b := 1) dX9_otherwiseNow_185 rfl rfl rfl ?_
                refine g_goto (tgt := 8) dX9_otherwiseNow_188 rfl ?_
                exact g_can _ (by exact ⟨rfl, rfl, rfl, rfl, rfl, rfl, trivial⟩) (ih8 (k + 1) _ _ (by omega) (by rw [hb, cntN]; (have hz0 : nI 0 = 0 := rfl; clear ih8 hb hz; (first | have hkn : k < n := (by omega) | have hkn : ¬ k < n := (by omega)); simp [unR, lK, thB, byA, *] at *; try simp [*])) (by rw [hz, sumI]; (have hz0 : nI 0 = 0 := rfl; clear ih8 hb hz; (first | have hkn : k < n := (by omega) | have hkn : ¬ k < n := (by omega)); simp [frR, lK, thB, byA, *])) (by omega))
              · refine g_aload_n dX9_otherwiseNow_123 rfl ?_
                refine g_iload dX9_otherwiseNow_124 rfl ?_
                refine g_v1 (M' := KR_wide) dX9_otherwiseNow_126 l_R_64 v_KR_wide (c_KR_wide hW (by omega)) rc_84 rfl rfl ⟨rfl, rfl⟩ ?_
                refine g_aload_n dX9_otherwiseNow_129 rfl ?_
                refine g_iload_n dX9_otherwiseNow_130 rfl ?_
                refine g_iload dX9_otherwiseNow_131 rfl ?_
                refine g_iconst dX9_otherwiseNow_133 ic_2 ?_
                refine g_v3 (M' := KR_kept) dX9_otherwiseNow_134 l_R_293 v_KR_kept (c_KR_kept (by omega) (by omega) (by omega)) rc_84 rfl rfl ⟨rfl, rfl⟩ ?_
                refine g_icmp_ne (tgt := 161) dX9_otherwiseNow_137 rfl (fun zc137 => ?_) (fun zc137 => ?_)
                · refine g_iconst dX9_otherwiseNow_161 ic_1 ?_
                  refine n_iadd dX9_otherwiseNow_162 ?_
                  refine g_istore_n dX9_otherwiseNow_163 rfl ?_
                  refine g_goto (tgt := 185) dX9_otherwiseNow_164 rfl ?_
                  refine n_iinc (b := 1) dX9_otherwiseNow_185 rfl rfl rfl ?_
                  refine g_goto (tgt := 8) dX9_otherwiseNow_188 rfl ?_
                  exact g_can _ (by exact ⟨rfl, rfl, rfl, rfl, rfl, rfl, trivial⟩) (ih8 (k + 1) _ _ (by omega) (by rw [hb, cntN]; (have hz0 : nI 0 = 0 := rfl; clear ih8 hb hz; (first | have hkn : k < n := (by omega) | have hkn : ¬ k < n := (by omega)); simp [unR, lK, thB, byA, *] at *; try simp [*])) (by rw [hz, sumI]; (have hz0 : nI 0 = 0 := rfl; clear ih8 hb hz; (first | have hkn : k < n := (by omega) | have hkn : ¬ k < n := (by omega)); simp [frR, lK, thB, byA, *])) (by omega))
                · refine g_aload_n dX9_otherwiseNow_140 rfl ?_
                  refine g_iload dX9_otherwiseNow_141 rfl ?_
                  refine g_v1 (M' := KR_high) dX9_otherwiseNow_143 l_R_68 v_KR_high (c_KR_high hW (by omega)) rc_84 rfl rfl ⟨rfl, rfl⟩ ?_
                  refine g_aload_n dX9_otherwiseNow_146 rfl ?_
                  refine g_iload_n dX9_otherwiseNow_147 rfl ?_
                  refine g_iload dX9_otherwiseNow_148 rfl ?_
                  refine g_iconst dX9_otherwiseNow_150 ic_3 ?_
                  refine g_v3 (M' := KR_kept) dX9_otherwiseNow_151 l_R_293 v_KR_kept (c_KR_kept (by omega) (by omega) (by omega)) rc_84 rfl rfl ⟨rfl, rfl⟩ ?_
                  refine g_icmp_ne (tgt := 161) dX9_otherwiseNow_154 rfl (fun zc154 => ?_) (fun zc154 => ?_)
                  · refine g_iconst dX9_otherwiseNow_161 ic_1 ?_
                    refine n_iadd dX9_otherwiseNow_162 ?_
                    refine g_istore_n dX9_otherwiseNow_163 rfl ?_
                    refine g_goto (tgt := 185) dX9_otherwiseNow_164 rfl ?_
                    refine n_iinc (b := 1) dX9_otherwiseNow_185 rfl rfl rfl ?_
                    refine g_goto (tgt := 8) dX9_otherwiseNow_188 rfl ?_
                    exact g_can _ (by exact ⟨rfl, rfl, rfl, rfl, rfl, rfl, trivial⟩) (ih8 (k + 1) _ _ (by omega) (by rw [hb, cntN]; (have hz0 : nI 0 = 0 := rfl; clear ih8 hb hz; (first | have hkn : k < n := (by omega) | have hkn : ¬ k < n := (by omega)); simp [unR, lK, thB, byA, *] at *; try simp [*])) (by rw [hz, sumI]; (have hz0 : nI 0 = 0 := rfl; clear ih8 hb hz; (first | have hkn : k < n := (by omega) | have hkn : ¬ k < n := (by omega)); simp [frR, lK, thB, byA, *])) (by omega))
                  · refine g_iconst dX9_otherwiseNow_157 ic_0 ?_
                    refine g_goto (tgt := 162) dX9_otherwiseNow_158 rfl ?_
                    refine n_iadd dX9_otherwiseNow_162 ?_
                    refine g_istore_n dX9_otherwiseNow_163 rfl ?_
                    refine g_goto (tgt := 185) dX9_otherwiseNow_164 rfl ?_
                    refine n_iinc (b := 1) dX9_otherwiseNow_185 rfl rfl rfl ?_
                    refine g_goto (tgt := 8) dX9_otherwiseNow_188 rfl ?_
                    exact g_can _ (by exact ⟨rfl, rfl, rfl, rfl, rfl, rfl, trivial⟩) (ih8 (k + 1) _ _ (by omega) (by rw [hb, cntN]; (have hz0 : nI 0 = 0 := rfl; clear ih8 hb hz; (first | have hkn : k < n := (by omega) | have hkn : ¬ k < n := (by omega)); simp [unR, lK, thB, byA, *] at *; try simp [*])) (by rw [hz, sumI]; (have hz0 : nI 0 = 0 := rfl; clear ih8 hb hz; (first | have hkn : k < n := (by omega) | have hkn : ¬ k < n := (by omega)); simp [frR, lK, thB, byA, *])) (by omega))
  exact g_can _ (by exact ⟨rfl, rfl, rfl, rfl, rfl, rfl, trivial⟩) (H8 _ 0 0 _ (by omega) rfl rfl (Nat.lt_succ_self _))
set_option maxRecDepth 100000 in
theorem c_KR_otherwiseNow1 {σ : SI} {δ : SD} {n : Nat} (hW : WF (σ 85) n) {s : Nat} (hs : s < 3) : E KR_otherwiseNow [.ref 84, .int (nI s), .int (nI 1)] (HH σ δ) (some (.int (sumI (frR (σ 85) n s) 8))) (HH σ δ) := by
  have h8 := hW.n8
  refine E.ofL [some (.ref 84), some (.int (nI s)), some (.int (nI 1))] rfl pn_RX9 rfl (fun sc => ?_)
  generalize hRz : (fun (zr : Option Value) (zk : XH) => zr = some (.int (sumI (frR (σ 85) n s) 8)) ∧ zk = HH σ δ) = R
  refine g_iconst dX9_otherwiseNow_0 ic_0 ?_
  refine g_istore_n dX9_otherwiseNow_1 rfl ?_
  refine g_iconst dX9_otherwiseNow_2 ic_0 ?_
  refine g_istore dX9_otherwiseNow_3 rfl ?_
  refine g_iconst dX9_otherwiseNow_5 ic_0 ?_
  refine g_istore dX9_otherwiseNow_6 rfl ?_
  have H8 : ∀ (N : Nat) (k c : Nat) (z : Int32), k ≤ 8 → c = cntN (unR (σ 85) n s) k → z = sumI (frR (σ 85) n s) k → 8 - k < N → G sc KR_otherwiseNow 8 (aL [some (.ref 84), some (.int (nI s)), some (.int (nI 1)), some (.int (nI c)), some (.int z), some (.int (nI k))]) [] (HH σ δ) (0, 0) R := by
    intro N
    induction N with
    | zero => intro k c z h1 hb hz hN8; exact absurd hN8 (Nat.not_lt_zero _)
    | succ N ih8 =>
      intro k c z h1 hb hz hN8
      refine g_iload dX9_otherwiseNow_8 rfl ?_
      refine g_bipush dX9_otherwiseNow_10 bp_8 ?_
      refine n_icmp_ge (tgt := 191) (by omega) (by omega) dX9_otherwiseNow_12 rfl (fun zc12 => ?_) (fun zc12 => ?_)
      · refine g_iload_n dX9_otherwiseNow_191 rfl ?_
        refine n_if_ne (tgt := 199) (by omega) dX9_otherwiseNow_192 rfl (fun _ => ?_) (fun zc192 => absurd zc192 (by decide))
        refine g_iload dX9_otherwiseNow_199 rfl ?_
        exact g_iret (S := []) dX9_otherwiseNow_201 rfl (by rw [← hRz]; exact ⟨congrArg (fun zz => some (Value.int zz)) (show _ = _ by rw [hz, show k = 8 by omega]), by rfl⟩) (Nat.zero_le _) (Nat.zero_le _)
      · refine g_iload dX9_otherwiseNow_15 rfl ?_
        refine g_aload_n dX9_otherwiseNow_17 rfl ?_
        refine g_v0 (M' := KR_many) dX9_otherwiseNow_18 l_R_42 v_KR_many c_KR_many rc_84 rfl rfl ⟨rfl, rfl⟩ ?_
        refine g_top hW.a7 ?_
        refine n_icmp_ge (tgt := 37) (by omega) (by omega) dX9_otherwiseNow_21 rfl (fun zc21 => ?_) (fun zc21 => ?_)
        · refine g_iconst dX9_otherwiseNow_37 ic_0 ?_
          refine g_istore dX9_otherwiseNow_38 rfl ?_
          refine g_aload_n dX9_otherwiseNow_40 rfl ?_
          refine g_iload_n dX9_otherwiseNow_41 rfl ?_
          refine g_iload dX9_otherwiseNow_42 rfl ?_
          refine g_iconst dX9_otherwiseNow_44 ic_0 ?_
          refine g_v3 (M' := KR_kept) dX9_otherwiseNow_45 l_R_293 v_KR_kept (c_KR_kept (by omega) (by omega) (by omega)) rc_84 rfl rfl ⟨rfl, rfl⟩ ?_
          refine g_iconst dX9_otherwiseNow_48 ic_m1 ?_
          refine g_icmp_eq (tgt := 56) dX9_otherwiseNow_49 rfl (fun zc49 => ?_) (fun zc49 => ?_)
          · refine g_iconst dX9_otherwiseNow_56 ic_0 ?_
            refine g_istore dX9_otherwiseNow_57 rfl ?_
            refine g_iload dX9_otherwiseNow_59 rfl ?_
            refine n_if_eq (tgt := 167) (by omega) dX9_otherwiseNow_61 rfl (fun _ => ?_) (fun zc61 => absurd zc61 (by decide))
            refine g_iload_n dX9_otherwiseNow_167 rfl ?_
            refine g_iload dX9_otherwiseNow_168 rfl ?_
            refine n_if_ne (tgt := 178) (by omega) dX9_otherwiseNow_170 rfl (fun zc170 => absurd zc170 (by decide)) (fun _ => ?_)
            refine g_iload dX9_otherwiseNow_173 rfl ?_
            refine n_if_eq (tgt := 182) (by omega) dX9_otherwiseNow_175 rfl (fun _ => ?_) (fun zc175 => absurd zc175 (by decide))
            refine g_iconst dX9_otherwiseNow_182 ic_0 ?_
            refine n_iadd dX9_otherwiseNow_183 ?_
            refine g_istore_n dX9_otherwiseNow_184 rfl ?_
            refine n_iinc (b := 1) dX9_otherwiseNow_185 rfl rfl rfl ?_
            refine g_goto (tgt := 8) dX9_otherwiseNow_188 rfl ?_
            exact g_can _ (by exact ⟨rfl, rfl, rfl, rfl, rfl, rfl, trivial⟩) (ih8 (k + 1) _ _ (by omega) (by rw [hb, cntN]; (have hz0 : nI 0 = 0 := rfl; clear ih8 hb hz; (first | have hkn : k < n := (by omega) | have hkn : ¬ k < n := (by omega)); simp [unR, lK, thB, byA, *] at *; try simp [*])) (by rw [hz, sumI]; (have hz0 : nI 0 = 0 := rfl; clear ih8 hb hz; (first | have hkn : k < n := (by omega) | have hkn : ¬ k < n := (by omega)); simp [frR, lK, thB, byA, *])) (by omega))
          · refine g_iconst dX9_otherwiseNow_52 ic_1 ?_
            refine g_goto (tgt := 57) dX9_otherwiseNow_53 rfl ?_
            refine g_istore dX9_otherwiseNow_57 rfl ?_
            refine g_iload dX9_otherwiseNow_59 rfl ?_
            refine n_if_eq (tgt := 167) (by omega) dX9_otherwiseNow_61 rfl (fun _ => ?_) (fun zc61 => absurd zc61 (by decide))
            refine g_iload_n dX9_otherwiseNow_167 rfl ?_
            refine g_iload dX9_otherwiseNow_168 rfl ?_
            refine n_if_ne (tgt := 178) (by omega) dX9_otherwiseNow_170 rfl (fun zc170 => absurd zc170 (by decide)) (fun _ => ?_)
            refine g_iload dX9_otherwiseNow_173 rfl ?_
            refine n_if_eq (tgt := 182) (by omega) dX9_otherwiseNow_175 rfl (fun zc175 => absurd zc175 (by decide)) (fun _ => ?_)
            refine g_iconst dX9_otherwiseNow_178 ic_1 ?_
            refine g_goto (tgt := 183) dX9_otherwiseNow_179 rfl ?_
            refine n_iadd dX9_otherwiseNow_183 ?_
            refine g_istore_n dX9_otherwiseNow_184 rfl ?_
            refine n_iinc (b := 1) dX9_otherwiseNow_185 rfl rfl rfl ?_
            refine g_goto (tgt := 8) dX9_otherwiseNow_188 rfl ?_
            exact g_can _ (by exact ⟨rfl, rfl, rfl, rfl, rfl, rfl, trivial⟩) (ih8 (k + 1) _ _ (by omega) (by rw [hb, cntN]; (have hz0 : nI 0 = 0 := rfl; clear ih8 hb hz; (first | have hkn : k < n := (by omega) | have hkn : ¬ k < n := (by omega)); simp [unR, lK, thB, byA, *] at *; try simp [*])) (by rw [hz, sumI]; (have hz0 : nI 0 = 0 := rfl; clear ih8 hb hz; (first | have hkn : k < n := (by omega) | have hkn : ¬ k < n := (by omega)); simp [frR, lK, thB, byA, *])) (by omega))
        · refine g_aload_n dX9_otherwiseNow_24 rfl ?_
          refine g_iload dX9_otherwiseNow_25 rfl ?_
          refine g_v1 (M' := KR_lies) dX9_otherwiseNow_27 l_R_82 v_KR_lies (c_KR_lies (by omega)) rc_84 rfl rfl ⟨rfl, rfl⟩ ?_
          refine b_if_eq (tgt := 37) dX9_otherwiseNow_30 rfl (fun zc30 => ?_) (fun zc30 => ?_)
          · refine g_iconst dX9_otherwiseNow_37 ic_0 ?_
            refine g_istore dX9_otherwiseNow_38 rfl ?_
            refine g_aload_n dX9_otherwiseNow_40 rfl ?_
            refine g_iload_n dX9_otherwiseNow_41 rfl ?_
            refine g_iload dX9_otherwiseNow_42 rfl ?_
            refine g_iconst dX9_otherwiseNow_44 ic_0 ?_
            refine g_v3 (M' := KR_kept) dX9_otherwiseNow_45 l_R_293 v_KR_kept (c_KR_kept (by omega) (by omega) (by omega)) rc_84 rfl rfl ⟨rfl, rfl⟩ ?_
            refine g_iconst dX9_otherwiseNow_48 ic_m1 ?_
            refine g_icmp_eq (tgt := 56) dX9_otherwiseNow_49 rfl (fun zc49 => ?_) (fun zc49 => ?_)
            · refine g_iconst dX9_otherwiseNow_56 ic_0 ?_
              refine g_istore dX9_otherwiseNow_57 rfl ?_
              refine g_iload dX9_otherwiseNow_59 rfl ?_
              refine n_if_eq (tgt := 167) (by omega) dX9_otherwiseNow_61 rfl (fun _ => ?_) (fun zc61 => absurd zc61 (by decide))
              refine g_iload_n dX9_otherwiseNow_167 rfl ?_
              refine g_iload dX9_otherwiseNow_168 rfl ?_
              refine n_if_ne (tgt := 178) (by omega) dX9_otherwiseNow_170 rfl (fun zc170 => absurd zc170 (by decide)) (fun _ => ?_)
              refine g_iload dX9_otherwiseNow_173 rfl ?_
              refine n_if_eq (tgt := 182) (by omega) dX9_otherwiseNow_175 rfl (fun _ => ?_) (fun zc175 => absurd zc175 (by decide))
              refine g_iconst dX9_otherwiseNow_182 ic_0 ?_
              refine n_iadd dX9_otherwiseNow_183 ?_
              refine g_istore_n dX9_otherwiseNow_184 rfl ?_
              refine n_iinc (b := 1) dX9_otherwiseNow_185 rfl rfl rfl ?_
              refine g_goto (tgt := 8) dX9_otherwiseNow_188 rfl ?_
              exact g_can _ (by exact ⟨rfl, rfl, rfl, rfl, rfl, rfl, trivial⟩) (ih8 (k + 1) _ _ (by omega) (by rw [hb, cntN]; (have hz0 : nI 0 = 0 := rfl; clear ih8 hb hz; (first | have hkn : k < n := (by omega) | have hkn : ¬ k < n := (by omega)); simp [unR, lK, thB, byA, *] at *; try simp [*])) (by rw [hz, sumI]; (have hz0 : nI 0 = 0 := rfl; clear ih8 hb hz; (first | have hkn : k < n := (by omega) | have hkn : ¬ k < n := (by omega)); simp [frR, lK, thB, byA, *])) (by omega))
            · refine g_iconst dX9_otherwiseNow_52 ic_1 ?_
              refine g_goto (tgt := 57) dX9_otherwiseNow_53 rfl ?_
              refine g_istore dX9_otherwiseNow_57 rfl ?_
              refine g_iload dX9_otherwiseNow_59 rfl ?_
              refine n_if_eq (tgt := 167) (by omega) dX9_otherwiseNow_61 rfl (fun _ => ?_) (fun zc61 => absurd zc61 (by decide))
              refine g_iload_n dX9_otherwiseNow_167 rfl ?_
              refine g_iload dX9_otherwiseNow_168 rfl ?_
              refine n_if_ne (tgt := 178) (by omega) dX9_otherwiseNow_170 rfl (fun zc170 => absurd zc170 (by decide)) (fun _ => ?_)
              refine g_iload dX9_otherwiseNow_173 rfl ?_
              refine n_if_eq (tgt := 182) (by omega) dX9_otherwiseNow_175 rfl (fun zc175 => absurd zc175 (by decide)) (fun _ => ?_)
              refine g_iconst dX9_otherwiseNow_178 ic_1 ?_
              refine g_goto (tgt := 183) dX9_otherwiseNow_179 rfl ?_
              refine n_iadd dX9_otherwiseNow_183 ?_
              refine g_istore_n dX9_otherwiseNow_184 rfl ?_
              refine n_iinc (b := 1) dX9_otherwiseNow_185 rfl rfl rfl ?_
              refine g_goto (tgt := 8) dX9_otherwiseNow_188 rfl ?_
              exact g_can _ (by exact ⟨rfl, rfl, rfl, rfl, rfl, rfl, trivial⟩) (ih8 (k + 1) _ _ (by omega) (by rw [hb, cntN]; (have hz0 : nI 0 = 0 := rfl; clear ih8 hb hz; (first | have hkn : k < n := (by omega) | have hkn : ¬ k < n := (by omega)); simp [unR, lK, thB, byA, *] at *; try simp [*])) (by rw [hz, sumI]; (have hz0 : nI 0 = 0 := rfl; clear ih8 hb hz; (first | have hkn : k < n := (by omega) | have hkn : ¬ k < n := (by omega)); simp [frR, lK, thB, byA, *])) (by omega))
          · refine g_iconst dX9_otherwiseNow_33 ic_1 ?_
            refine g_goto (tgt := 38) dX9_otherwiseNow_34 rfl ?_
            refine g_istore dX9_otherwiseNow_38 rfl ?_
            refine g_aload_n dX9_otherwiseNow_40 rfl ?_
            refine g_iload_n dX9_otherwiseNow_41 rfl ?_
            refine g_iload dX9_otherwiseNow_42 rfl ?_
            refine g_iconst dX9_otherwiseNow_44 ic_0 ?_
            refine g_v3 (M' := KR_kept) dX9_otherwiseNow_45 l_R_293 v_KR_kept (c_KR_kept (by omega) (by omega) (by omega)) rc_84 rfl rfl ⟨rfl, rfl⟩ ?_
            refine g_iconst dX9_otherwiseNow_48 ic_m1 ?_
            refine g_icmp_eq (tgt := 56) dX9_otherwiseNow_49 rfl (fun zc49 => ?_) (fun zc49 => ?_)
            · refine g_iconst dX9_otherwiseNow_56 ic_0 ?_
              refine g_istore dX9_otherwiseNow_57 rfl ?_
              refine g_iload dX9_otherwiseNow_59 rfl ?_
              refine n_if_eq (tgt := 167) (by omega) dX9_otherwiseNow_61 rfl (fun zc61 => absurd zc61 (by decide)) (fun _ => ?_)
              refine g_iload dX9_otherwiseNow_64 rfl ?_
              refine n_if_eq (tgt := 167) (by omega) dX9_otherwiseNow_66 rfl (fun _ => ?_) (fun zc66 => absurd zc66 (by decide))
              refine g_iload_n dX9_otherwiseNow_167 rfl ?_
              refine g_iload dX9_otherwiseNow_168 rfl ?_
              refine n_if_ne (tgt := 178) (by omega) dX9_otherwiseNow_170 rfl (fun _ => ?_) (fun zc170 => absurd zc170 (by decide))
              refine g_iconst dX9_otherwiseNow_178 ic_1 ?_
              refine g_goto (tgt := 183) dX9_otherwiseNow_179 rfl ?_
              refine n_iadd dX9_otherwiseNow_183 ?_
              refine g_istore_n dX9_otherwiseNow_184 rfl ?_
              refine n_iinc (b := 1) dX9_otherwiseNow_185 rfl rfl rfl ?_
              refine g_goto (tgt := 8) dX9_otherwiseNow_188 rfl ?_
              exact g_can _ (by exact ⟨rfl, rfl, rfl, rfl, rfl, rfl, trivial⟩) (ih8 (k + 1) _ _ (by omega) (by rw [hb, cntN]; (have hz0 : nI 0 = 0 := rfl; clear ih8 hb hz; (first | have hkn : k < n := (by omega) | have hkn : ¬ k < n := (by omega)); simp [unR, lK, thB, byA, *] at *; try simp [*])) (by rw [hz, sumI]; (have hz0 : nI 0 = 0 := rfl; clear ih8 hb hz; (first | have hkn : k < n := (by omega) | have hkn : ¬ k < n := (by omega)); simp [frR, lK, thB, byA, *])) (by omega))
            · refine g_iconst dX9_otherwiseNow_52 ic_1 ?_
              refine g_goto (tgt := 57) dX9_otherwiseNow_53 rfl ?_
              refine g_istore dX9_otherwiseNow_57 rfl ?_
              refine g_iload dX9_otherwiseNow_59 rfl ?_
              refine n_if_eq (tgt := 167) (by omega) dX9_otherwiseNow_61 rfl (fun zc61 => absurd zc61 (by decide)) (fun _ => ?_)
              refine g_iload dX9_otherwiseNow_64 rfl ?_
              refine n_if_eq (tgt := 167) (by omega) dX9_otherwiseNow_66 rfl (fun zc66 => absurd zc66 (by decide)) (fun _ => ?_)
              refine g_aload_n dX9_otherwiseNow_69 rfl ?_
              refine g_iload dX9_otherwiseNow_70 rfl ?_
              refine g_iconst dX9_otherwiseNow_72 ic_4 ?_
              refine g_v2 (M' := KR_its) dX9_otherwiseNow_73 l_R_50 v_KR_its (c_KR_its (by omega) (by omega)) rc_84 rfl rfl ⟨rfl, rfl⟩ ?_
              refine g_aload_n dX9_otherwiseNow_76 rfl ?_
              refine g_iload_n dX9_otherwiseNow_77 rfl ?_
              refine g_iload dX9_otherwiseNow_78 rfl ?_
              refine g_iconst dX9_otherwiseNow_80 ic_0 ?_
              refine g_v3 (M' := KR_kept) dX9_otherwiseNow_81 l_R_293 v_KR_kept (c_KR_kept (by omega) (by omega) (by omega)) rc_84 rfl rfl ⟨rfl, rfl⟩ ?_
              refine g_isub dX9_otherwiseNow_84 ?_
              refine g_s1 (M' := KR_abs) dX9_otherwiseNow_85 l_R_215 s_KR_abs c_KR_abs rfl rfl ⟨rfl, rfl⟩ ?_
              refine g_aload_n dX9_otherwiseNow_88 rfl ?_
              refine g_iload dX9_otherwiseNow_89 rfl ?_
              refine g_iconst dX9_otherwiseNow_91 ic_5 ?_
              refine g_v2 (M' := KR_its) dX9_otherwiseNow_92 l_R_50 v_KR_its (c_KR_its (by omega) (by omega)) rc_84 rfl rfl ⟨rfl, rfl⟩ ?_
              refine g_aload_n dX9_otherwiseNow_95 rfl ?_
              refine g_iload_n dX9_otherwiseNow_96 rfl ?_
              refine g_iload dX9_otherwiseNow_97 rfl ?_
              refine g_iconst dX9_otherwiseNow_99 ic_1 ?_
              refine g_v3 (M' := KR_kept) dX9_otherwiseNow_100 l_R_293 v_KR_kept (c_KR_kept (by omega) (by omega) (by omega)) rc_84 rfl rfl ⟨rfl, rfl⟩ ?_
              refine g_isub dX9_otherwiseNow_103 ?_
              refine g_s1 (M' := KR_abs) dX9_otherwiseNow_104 l_R_215 s_KR_abs c_KR_abs rfl rfl ⟨rfl, rfl⟩ ?_
              refine g_iadd dX9_otherwiseNow_107 ?_
              refine g_istore dX9_otherwiseNow_108 rfl ?_
              refine g_iload dX9_otherwiseNow_110 rfl ?_
              refine g_iload dX9_otherwiseNow_112 rfl ?_
              refine g_iadd dX9_otherwiseNow_114 ?_
              refine g_istore dX9_otherwiseNow_115 rfl ?_
              refine g_iload_n dX9_otherwiseNow_117 rfl ?_
              refine g_iload dX9_otherwiseNow_118 rfl ?_
              refine g_if_ne (tgt := 161) dX9_otherwiseNow_120 rfl (fun zc120 => ?_) (fun zc120 => ?_)
              · refine g_iconst dX9_otherwiseNow_161 ic_1 ?_
                refine n_iadd dX9_otherwiseNow_162 ?_
                refine g_istore_n dX9_otherwiseNow_163 rfl ?_
                refine g_goto (tgt := 185) dX9_otherwiseNow_164 rfl ?_
                refine n_iinc (b := 1) dX9_otherwiseNow_185 rfl rfl rfl ?_
                refine g_goto (tgt := 8) dX9_otherwiseNow_188 rfl ?_
                exact g_can _ (by exact ⟨rfl, rfl, rfl, rfl, rfl, rfl, trivial⟩) (ih8 (k + 1) _ _ (by omega) (by rw [hb, cntN]; (have hz0 : nI 0 = 0 := rfl; clear ih8 hb hz; (first | have hkn : k < n := (by omega) | have hkn : ¬ k < n := (by omega)); simp [unR, lK, thB, byA, *] at *; try simp [*])) (by rw [hz, sumI]; (have hz0 : nI 0 = 0 := rfl; clear ih8 hb hz; (first | have hkn : k < n := (by omega) | have hkn : ¬ k < n := (by omega)); simp [frR, lK, thB, byA, *])) (by omega))
              · refine g_aload_n dX9_otherwiseNow_123 rfl ?_
                refine g_iload dX9_otherwiseNow_124 rfl ?_
                refine g_v1 (M' := KR_wide) dX9_otherwiseNow_126 l_R_64 v_KR_wide (c_KR_wide hW (by omega)) rc_84 rfl rfl ⟨rfl, rfl⟩ ?_
                refine g_aload_n dX9_otherwiseNow_129 rfl ?_
                refine g_iload_n dX9_otherwiseNow_130 rfl ?_
                refine g_iload dX9_otherwiseNow_131 rfl ?_
                refine g_iconst dX9_otherwiseNow_133 ic_2 ?_
                refine g_v3 (M' := KR_kept) dX9_otherwiseNow_134 l_R_293 v_KR_kept (c_KR_kept (by omega) (by omega) (by omega)) rc_84 rfl rfl ⟨rfl, rfl⟩ ?_
                refine g_icmp_ne (tgt := 161) dX9_otherwiseNow_137 rfl (fun zc137 => ?_) (fun zc137 => ?_)
                · refine g_iconst dX9_otherwiseNow_161 ic_1 ?_
                  refine n_iadd dX9_otherwiseNow_162 ?_
                  refine g_istore_n dX9_otherwiseNow_163 rfl ?_
                  refine g_goto (tgt := 185) dX9_otherwiseNow_164 rfl ?_
                  refine n_iinc (b := 1) dX9_otherwiseNow_185 rfl rfl rfl ?_
                  refine g_goto (tgt := 8) dX9_otherwiseNow_188 rfl ?_
                  exact g_can _ (by exact ⟨rfl, rfl, rfl, rfl, rfl, rfl, trivial⟩) (ih8 (k + 1) _ _ (by omega) (by rw [hb, cntN]; (have hz0 : nI 0 = 0 := rfl; clear ih8 hb hz; (first | have hkn : k < n := (by omega) | have hkn : ¬ k < n := (by omega)); simp [unR, lK, thB, byA, *] at *; try simp [*])) (by rw [hz, sumI]; (have hz0 : nI 0 = 0 := rfl; clear ih8 hb hz; (first | have hkn : k < n := (by omega) | have hkn : ¬ k < n := (by omega)); simp [frR, lK, thB, byA, *])) (by omega))
                · refine g_aload_n dX9_otherwiseNow_140 rfl ?_
                  refine g_iload dX9_otherwiseNow_141 rfl ?_
                  refine g_v1 (M' := KR_high) dX9_otherwiseNow_143 l_R_68 v_KR_high (c_KR_high hW (by omega)) rc_84 rfl rfl ⟨rfl, rfl⟩ ?_
                  refine g_aload_n dX9_otherwiseNow_146 rfl ?_
                  refine g_iload_n dX9_otherwiseNow_147 rfl ?_
                  refine g_iload dX9_otherwiseNow_148 rfl ?_
                  refine g_iconst dX9_otherwiseNow_150 ic_3 ?_
                  refine g_v3 (M' := KR_kept) dX9_otherwiseNow_151 l_R_293 v_KR_kept (c_KR_kept (by omega) (by omega) (by omega)) rc_84 rfl rfl ⟨rfl, rfl⟩ ?_
                  refine g_icmp_ne (tgt := 161) dX9_otherwiseNow_154 rfl (fun zc154 => ?_) (fun zc154 => ?_)
                  · refine g_iconst dX9_otherwiseNow_161 ic_1 ?_
                    refine n_iadd dX9_otherwiseNow_162 ?_
                    refine g_istore_n dX9_otherwiseNow_163 rfl ?_
                    refine g_goto (tgt := 185) dX9_otherwiseNow_164 rfl ?_
                    refine n_iinc (b := 1) dX9_otherwiseNow_185 rfl rfl rfl ?_
                    refine g_goto (tgt := 8) dX9_otherwiseNow_188 rfl ?_
                    exact g_can _ (by exact ⟨rfl, rfl, rfl, rfl, rfl, rfl, trivial⟩) (ih8 (k + 1) _ _ (by omega) (by rw [hb, cntN]; (have hz0 : nI 0 = 0 := rfl; clear ih8 hb hz; (first | have hkn : k < n := (by omega) | have hkn : ¬ k < n := (by omega)); simp [unR, lK, thB, byA, *] at *; try simp [*])) (by rw [hz, sumI]; (have hz0 : nI 0 = 0 := rfl; clear ih8 hb hz; (first | have hkn : k < n := (by omega) | have hkn : ¬ k < n := (by omega)); simp [frR, lK, thB, byA, *])) (by omega))
                  · refine g_iconst dX9_otherwiseNow_157 ic_0 ?_
                    refine g_goto (tgt := 162) dX9_otherwiseNow_158 rfl ?_
                    refine n_iadd dX9_otherwiseNow_162 ?_
                    refine g_istore_n dX9_otherwiseNow_163 rfl ?_
                    refine g_goto (tgt := 185) dX9_otherwiseNow_164 rfl ?_
                    refine n_iinc (b := 1) dX9_otherwiseNow_185 rfl rfl rfl ?_
                    refine g_goto (tgt := 8) dX9_otherwiseNow_188 rfl ?_
                    exact g_can _ (by exact ⟨rfl, rfl, rfl, rfl, rfl, rfl, trivial⟩) (ih8 (k + 1) _ _ (by omega) (by rw [hb, cntN]; (have hz0 : nI 0 = 0 := rfl; clear ih8 hb hz; (first | have hkn : k < n := (by omega) | have hkn : ¬ k < n := (by omega)); simp [unR, lK, thB, byA, *] at *; try simp [*])) (by rw [hz, sumI]; (have hz0 : nI 0 = 0 := rfl; clear ih8 hb hz; (first | have hkn : k < n := (by omega) | have hkn : ¬ k < n := (by omega)); simp [frR, lK, thB, byA, *])) (by omega))
  exact g_can _ (by exact ⟨rfl, rfl, rfl, rfl, rfl, rfl, trivial⟩) (H8 _ 0 0 _ (by omega) rfl rfl (Nat.lt_succ_self _))
