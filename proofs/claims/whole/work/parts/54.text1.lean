/-! THE TEXT: what the class reads in it -/
/-- a text: tl bytes -/
def TX (σ : SI) (tc : Nat → Nat) (tl : Nat) : Prop := σ 80 0 = nI tl ∧ tl ≤ 120 ∧ ∀ i, i < tl → σ 81 i = nI (tc i) ∧ tc i < 128
/-- reading stands at p, o orders found, letters L, numbers N -/
def tS (σ : SI) (p o : Nat) (Lr Nr : Nat → Int32) : SI := uR (uR (uI (uI σ 80 1 (nI o)) 80 2 (nI p)) 82 Lr) 83 Nr
section TS
variable {σ : SI} {p q o i : Nat} {Lr Nr : Nat → Int32} {v : Int32}
theorem tS_p : tS σ p o Lr Nr 80 2 = nI p := by unfold tS; rw [uR_ne (by decide), uR_ne (by decide), uI_same]
theorem tS_o : tS σ p o Lr Nr 80 1 = nI o := by unfold tS; rw [uR_ne (by decide), uR_ne (by decide), uI_oth (by omega), uI_same]
theorem tS_len : tS σ p o Lr Nr 80 0 = σ 80 0 := by unfold tS; rw [uR_ne (by decide), uR_ne (by decide), uI_oth (by omega), uI_oth (by omega)]
theorem tS_c {c : Nat} (h : c ≠ 80 ∧ c ≠ 82 ∧ c ≠ 83) : tS σ p o Lr Nr c = σ c := by unfold tS; rw [uR_ne (by omega), uR_ne (by omega), uI_ne (by omega), uI_ne (by omega)]
theorem tS_by : tS σ p o Lr Nr 81 i = σ 81 i := by rw [tS_c (by decide)]
theorem tS_L : tS σ p o Lr Nr 82 i = Lr i := by unfold tS; rw [uR_ne (by decide), uR_eq]
theorem tS_N : tS σ p o Lr Nr 83 i = Nr i := by unfold tS; rw [uR_eq]
theorem tS_put : uI (tS σ p o Lr Nr) 80 2 (nI q) = tS σ q o Lr Nr := by
  funext x y
  by_cases h : x = 80
  · subst h
    by_cases h2 : y = 2
    · subst h2; rw [uI_same, tS_p]
    · rw [uI_oth (by omega)]
      unfold tS
      rw [uR_ne (by decide), uR_ne (by decide), uR_ne (by decide), uR_ne (by decide), uI_oth (k := 2) (by omega), uI_oth (k := 2) (by omega)]
  · rw [uI_ne h]
    unfold tS uR
    rw [uI_ne h, uI_ne h, uI_ne h, uI_ne h]
theorem tS_ord : uI (tS σ p o Lr Nr) 80 1 (nI q) = tS σ p q Lr Nr := by
  funext x y
  by_cases h : x = 80
  · subst h
    by_cases h2 : y = 1
    · subst h2; rw [uI_same, tS_o]
    · rw [uI_oth (by omega)]
      unfold tS
      rw [uR_ne (by decide), uR_ne (by decide), uR_ne (by decide), uR_ne (by decide)]
      by_cases h3 : y = 2
      · subst h3; rw [uI_same, uI_same]
      · rw [uI_oth (k := 2) (by omega), uI_oth (k := 2) (by omega), uI_oth (by omega), uI_oth (by omega)]
  · rw [uI_ne h]
    unfold tS uR
    rw [uI_ne h, uI_ne h, uI_ne h, uI_ne h]
theorem tS_pL : uI (tS σ p o Lr Nr) 82 i v = tS σ p o (upd Lr i v) Nr := by
  funext x y
  by_cases h : x = 82
  · subst h
    rw [tS_L]
    unfold upd
    by_cases h2 : y = i
    · subst h2; rw [uI_same, if_pos rfl]
    · rw [uI_oth (by omega), if_neg h2, tS_L]
  · rw [uI_ne h]
    unfold tS uR
    by_cases h3 : x = 83
    · rw [if_pos h3, if_pos h3]
    · rw [if_neg h3, if_neg h3, if_neg h, if_neg h]
theorem tS_pN : uI (tS σ p o Lr Nr) 83 i v = tS σ p o Lr (upd Nr i v) := by
  funext x y
  by_cases h : x = 83
  · subst h
    rw [tS_N]
    unfold upd
    by_cases h2 : y = i
    · subst h2; rw [uI_same, if_pos rfl]
    · rw [uI_oth (by omega), if_neg h2, tS_N]
  · rw [uI_ne h]
    unfold tS uR
    rw [if_neg h, if_neg h]
theorem tS_0 : uI (uI σ 80 2 (nI 0)) 80 1 (nI 0) = tS σ 0 0 (σ 82) (σ 83) := by
  funext x y
  by_cases h : x = 80
  · subst h
    by_cases h1 : y = 1
    · subst h1; rw [uI_same, tS_o]
    · rw [uI_oth (by omega)]
      by_cases h2 : y = 2
      · subst h2; rw [uI_same, tS_p]
      · rw [uI_oth (by omega)]
        unfold tS
        rw [uR_ne (by decide), uR_ne (by decide), uI_oth (by omega), uI_oth (by omega)]
  · rw [uI_ne h, uI_ne h]
    unfold tS uR
    by_cases h3 : x = 83
    · rw [if_pos h3, h3]
    · rw [if_neg h3]
      by_cases h4 : x = 82
      · rw [if_pos h4, h4]
      · rw [if_neg h4, uI_ne h, uI_ne h]
end TS
def hrV (tc : Nat → Nat) (tl p : Nat) : Int32 := if p < tl then nI (tc p) else -1
/-- after i steps over blanks -/
def skI (tc : Nat → Nat) (tl p : Nat) : Nat → Nat
  | 0 => p
  | i + 1 => if hrV tc tl (skI tc tl p i) = nI 32 then skI tc tl p i + 1 else skI tc tl p i
def skP (tc : Nat → Nat) (tl p : Nat) : Nat := skI tc tl p 120
def dgB (tc : Nat → Nat) (tl p : Nat) : Bool := inB (hrV tc tl p) (nI 48) (nI 57)
/-- a number at p: its end, whether it is one, its value -/
def nmE (tc : Nat → Nat) (tl p : Nat) : Nat := if dgB tc tl p = true then (if dgB tc tl (p + 1) = true then p + 1 + 1 else p + 1) else p
def nmK (tc : Nat → Nat) (tl p : Nat) : Bool := dgB tc tl p && !dgB tc tl (nmE tc tl p)
def nmV (tc : Nat → Nat) (tl p : Nat) : Nat := if dgB tc tl (p + 1) = true then 10 * (tc p - 48) + tc (p + 1) - 48 else tc p - 48
section SK
variable {tc : Nat → Nat} {tl p q i : Nat} {σ : SI}
theorem hr_y (h : p < tl) : hrV tc tl p = nI (tc p) := if_pos h
theorem hr_n (h : ¬ p < tl) : hrV tc tl p = -1 := if_neg h
theorem sk_P : skI tc tl p 120 = skP tc tl p := rfl
theorem sk_y (h : hrV tc tl (skI tc tl p i) = nI 32) : skI tc tl p (i + 1) = skI tc tl p i + 1 := if_pos h
theorem sk_n (h : ¬ hrV tc tl (skI tc tl p i) = nI 32) : skI tc tl p (i + 1) = skI tc tl p i := if_neg h
theorem sk_le : ∀ i, skI tc tl p i ≤ p + i
  | 0 => Nat.le_refl p
  | i + 1 => by
    have ih := sk_le i
    by_cases h : hrV tc tl (skI tc tl p i) = nI 32
    · rw [sk_y h]; omega
    · rw [sk_n h]; omega
theorem sk_stay (h : ¬ hrV tc tl (skI tc tl p i) = nI 32) : ∀ m, skI tc tl p (i + m) = skI tc tl p i
  | 0 => rfl
  | m + 1 => by
    have ih := sk_stay h m
    rw [← Nat.add_assoc, sk_n (by rw [ih]; exact h), ih]
theorem sk_stop (h : ¬ hrV tc tl (skI tc tl p i) = nI 32) (hi : i ≤ 120) : skI tc tl p i = skP tc tl p := by
  have := sk_stay h (120 - i)
  rw [show i + (120 - i) = 120 by omega] at this
  exact this.symm.trans sk_P
theorem sk_end (h : i = 120) : skI tc tl p i = skP tc tl p := by rw [h]; exact sk_P
theorem dg_t (hT : TX σ tc tl) (h : dgB tc tl p = true) : p < tl ∧ 48 ≤ tc p ∧ tc p ≤ 57 ∧ hrV tc tl p = nI (tc p) := by
  unfold dgB at h
  by_cases g : p < tl
  · rw [hr_y g] at h ⊢
    have hc := (hT.2.2 p g).2
    rw [inB_nI (by omega) (by omega) (by omega), Bool.and_eq_true, decide_eq_true_eq, decide_eq_true_eq] at h
    exact ⟨g, h.1, h.2, rfl⟩
  · rw [hr_n g] at h
    exact absurd h (by decide)
theorem nm_e0 (h : dgB tc tl p = false) : nmE tc tl p = p := if_neg (by rw [h]; decide)
theorem nm_e1 (h : dgB tc tl p = true) (h2 : dgB tc tl (p + 1) = false) : nmE tc tl p = p + 1 := (if_pos h).trans (if_neg (by rw [h2]; decide))
theorem nm_e2 (h : dgB tc tl p = true) (h2 : dgB tc tl (p + 1) = true) : nmE tc tl p = p + 1 + 1 := (if_pos h).trans (if_pos h2)
theorem nm_k0 (h : dgB tc tl p = false) : nmK tc tl p = false := by unfold nmK; rw [h]; rfl
theorem nm_k1 {b : Bool} (h : dgB tc tl p = true) (h2 : dgB tc tl (p + 1) = false) (h3 : dgB tc tl (p + 1) = b) : nmK tc tl p = !b := by unfold nmK; rw [nm_e1 h h2, h, h3]; rfl
theorem nm_k2 {b : Bool} (h : dgB tc tl p = true) (h2 : dgB tc tl (p + 1) = true) (h3 : dgB tc tl (p + 1 + 1) = b) : nmK tc tl p = !b := by unfold nmK; rw [nm_e2 h h2, h, h3]; rfl
theorem nm_v1 (h2 : dgB tc tl (p + 1) = false) : nmV tc tl p = tc p - 48 := if_neg (by rw [h2]; decide)
theorem nm_v2 (h2 : dgB tc tl (p + 1) = true) : nmV tc tl p = 10 * (tc p - 48) + tc (p + 1) - 48 := if_pos h2
end SK
set_option maxRecDepth 100000 in
set_option maxHeartbeats 200000 in
theorem c_KT_here {σ : SI} {δ : SD} {tc : Nat → Nat} {tl : Nat} (hT : TX σ tc tl) {p o : Nat} {Lr Nr : Nat → Int32} (hp : p ≤ 300) : E KT_here [.ref 80] (HH (tS σ (p) (o) (Lr) (Nr)) δ) (some (.int (hrV tc tl p))) (HH (tS σ (p) (o) (Lr) (Nr)) δ) := by
  have htl := hT.2.1
  refine E.ofL [some (.ref 80)] rfl pn_RX6 rfl (fun sc => ?_)
  refine g_aload_n dX6_here_0 rfl ?_
  refine q_geti dX6_here_1 f_T_33 ck_80 (by decide) ty_5_2 ?_
  refine g_top tS_p ?_
  refine n_if_lt (tgt := 39) (by omega) dX6_here_4 rfl (fun zc4 => ?_) (fun zc4 => ?_)
  · exact zc4.elim
  · refine g_aload_n dX6_here_7 rfl ?_
    refine q_geti dX6_here_8 f_T_33 ck_80 (by decide) ty_5_2 ?_
    refine g_top tS_p ?_
    refine g_aload_n dX6_here_11 rfl ?_
    refine q_geti dX6_here_12 f_T_25 ck_80 (by decide) ty_5_0 ?_
    refine g_top (tS_len.trans hT.1) ?_
    refine n_icmp_ge (tgt := 39) (by omega) (by omega) dX6_here_15 rfl (fun zc15 => ?_) (fun zc15 => ?_)
    · refine g_iconst dX6_here_39 ic_m1 ?_
      exact e_iret dX6_here_40 rfl (by first | exact (hr_y (by omega)).symm | exact (hr_n (by omega)).symm) (by rfl)
    · refine g_aload_n dX6_here_18 rfl ?_
      refine q_geti dX6_here_19 f_T_33 ck_80 (by decide) ty_5_2 ?_
      refine g_top tS_p ?_
      refine g_bipush dX6_here_22 bp_120 ?_
      refine n_icmp_ge (tgt := 39) (by omega) (by omega) dX6_here_24 rfl (fun zc24 => ?_) (fun zc24 => ?_)
      · refine g_iconst dX6_here_39 ic_m1 ?_
        exact e_iret dX6_here_40 rfl (by first | exact (hr_y (by omega)).symm | exact (hr_n (by omega)).symm) (by rfl)
      · refine g_aload_n dX6_here_27 rfl ?_
        refine q_getq dX6_here_28 f_T_11 ck_80 (by decide) ty_5_3 rf_80_3 ?_
        refine g_aload_n dX6_here_31 rfl ?_
        refine q_geti dX6_here_32 f_T_33 ck_80 (by decide) ty_5_2 ?_
        refine g_top tS_p ?_
        refine q_iald dX6_here_35 ck_81 (ixD_nI (by omega) (by decide)) ?_
        refine g_top (tS_by.trans (hT.2.2 p (by omega)).1) ?_
        refine g_goto (tgt := 40) dX6_here_36 rfl ?_
        exact e_iret dX6_here_40 rfl (by first | exact (hr_y (by omega)).symm | exact (hr_n (by omega)).symm) (by rfl)
set_option maxRecDepth 100000 in
set_option maxHeartbeats 200000 in
theorem c_KT_isFigureHere {σ : SI} {δ : SD} {tc : Nat → Nat} {tl : Nat} (hT : TX σ tc tl) {p o : Nat} {Lr Nr : Nat → Int32} (hp : p ≤ 300) : E KT_isFigureHere [.ref 80] (HH (tS σ (p) (o) (Lr) (Nr)) δ) (some (.int (bI (dgB tc tl p)))) (HH (tS σ (p) (o) (Lr) (Nr)) δ) := by
  refine E.ofL [some (.ref 80)] rfl pn_RX6 rfl (fun sc => ?_)
  refine g_aload_n dX6_isFigureHere_0 rfl ?_
  refine g_v0 (M' := KT_here) dX6_isFigureHere_1 l_T_46 v_KT_here (c_KT_here hT (by omega)) rc_80 rfl rfl ⟨rfl, rfl⟩ ?_
  refine g_bipush dX6_isFigureHere_4 bp_48 ?_
  refine g_bipush dX6_isFigureHere_6 bp_57 ?_
  refine g_s3N (M' := KP_within) dX6_isFigureHere_8 l_T_21 s_KP_within c_KP_within rfl rfl ⟨rfl, rfl⟩ ?_
  exact e_zret dX6_isFigureHere_11 rfl (by rfl) (by rfl)
set_option maxRecDepth 100000 in
set_option maxHeartbeats 200000 in
theorem c_KT_skipBlanks {σ : SI} {δ : SD} {tc : Nat → Nat} {tl : Nat} (hT : TX σ tc tl) {p o : Nat} {Lr Nr : Nat → Int32} (hp : p ≤ 130) : E KT_skipBlanks [.ref 80] (HH (tS σ (p) (o) (Lr) (Nr)) δ) (none) (HH (tS σ (skP tc tl p) (o) (Lr) (Nr)) δ) := by
  refine E.ofL [some (.ref 80)] rfl pn_RX6 rfl (fun sc => ?_)
  generalize hRz : (fun (zr : Option Value) (zk : XH) => zr = none ∧ zk = HH (tS σ (skP tc tl p) (o) (Lr) (Nr)) δ) = R
  refine g_iconst dX6_skipBlanks_0 ic_0 ?_
  refine g_istore_n dX6_skipBlanks_1 rfl ?_
  have H2 : ∀ (N : Nat) (k : Nat), k ≤ 120 → 120 - k < N → G sc KT_skipBlanks 2 (aL [some (.ref 80), some (.int (nI k))]) [] (HH (tS σ (skI tc tl p k) (o) (Lr) (Nr)) δ) (0, 0) R := by
    intro N
    induction N with
    | zero => intro k h1 hN2; exact absurd hN2 (Nat.not_lt_zero _)
    | succ N ih2 =>
      intro k h1 hN2
      refine g_iload_n dX6_skipBlanks_2 rfl ?_
      refine g_bipush dX6_skipBlanks_3 bp_120 ?_
      refine n_icmp_ge (tgt := 33) (by omega) (by omega) dX6_skipBlanks_5 rfl (fun zc5 => ?_) (fun zc5 => ?_)
      · exact g_vret (S := []) dX6_skipBlanks_33 rfl (by rw [← hRz]; exact ⟨rfl, by first | exact congrArg (fun z => HH (tS σ z o Lr Nr) δ) (sk_stop zc14 h1) | exact congrArg (fun z => HH (tS σ z o Lr Nr) δ) (sk_end (by omega))⟩) (Nat.zero_le _) (Nat.zero_le _)
      · refine g_aload_n dX6_skipBlanks_8 rfl ?_
        refine g_v0 (M' := KT_here) dX6_skipBlanks_9 l_T_46 v_KT_here (c_KT_here hT (by have := sk_le (tc := tc) (tl := tl) (p := p) k; omega)) rc_80 rfl rfl ⟨rfl, rfl⟩ ?_
        refine g_bipush dX6_skipBlanks_12 bp_32 ?_
        refine g_icmp_ne (tgt := 33) dX6_skipBlanks_14 rfl (fun zc14 => ?_) (fun zc14 => ?_)
        · exact g_vret (S := []) dX6_skipBlanks_33 rfl (by rw [← hRz]; exact ⟨rfl, by first | exact congrArg (fun z => HH (tS σ z o Lr Nr) δ) (sk_stop zc14 h1) | exact congrArg (fun z => HH (tS σ z o Lr Nr) δ) (sk_end (by omega))⟩) (Nat.zero_le _) (Nat.zero_le _)
        · refine g_aload_n dX6_skipBlanks_17 rfl ?_
          refine g_dup dX6_skipBlanks_18 rfl ?_
          refine q_geti dX6_skipBlanks_19 f_T_33 ck_80 (by decide) ty_5_2 ?_
          refine g_top tS_p ?_
          refine g_iconst dX6_skipBlanks_22 ic_1 ?_
          refine n_iadd dX6_skipBlanks_23 ?_
          refine q_puti dX6_skipBlanks_24 f_T_33 ck_80 (by decide) ty_5_2 fi_5_2 ?_
          refine n_iinc (b := 1) dX6_skipBlanks_27 rfl rfl rfl ?_
          refine g_goto (tgt := 2) dX6_skipBlanks_30 rfl ?_
          refine g_heap (congrArg (fun z => HH z δ) (show _ = tS σ (skI tc tl p (k + 1)) o Lr Nr by first | exact tS_put.trans (congrArg (fun z => tS σ z o Lr Nr) (sk_y zc14).symm) | exact congrArg (fun z => tS σ z o Lr Nr) (sk_n zc14).symm)) ?_
          exact g_can _ (by exact ⟨rfl, rfl, trivial⟩) (ih2 (k + 1) (by omega) (by omega))
  exact g_can _ (by exact ⟨rfl, rfl, trivial⟩) (H2 _ 0 (by omega) (Nat.lt_succ_self _))
set_option maxRecDepth 100000 in
set_option maxHeartbeats 200000 in
theorem c_KT_findNumber {σ : SI} {δ : SD} {tc : Nat → Nat} {tl : Nat} (hT : TX σ tc tl) {p o : Nat} {Lr Nr : Nat → Int32} (hp : p ≤ 130) {k : Nat} (hk : k < 240) : E KT_findNumber [.ref 80, .int (nI k)] (HH (tS σ (p) (o) (Lr) (Nr)) δ) (some (.int (bI (nmK tc tl p)))) (HH (tS σ (nmE tc tl p) (o) (Lr) (if dgB tc tl p = true then upd Nr k (nI (nmV tc tl p)) else Nr)) δ) := by
  refine E.ofL [some (.ref 80), some (.int (nI k))] rfl pn_RX6 rfl (fun sc => ?_)
  refine g_aload_n dX6_findNumber_0 rfl ?_
  refine g_v0 (M' := KT_isFigureHere) dX6_findNumber_1 l_T_56 v_KT_isFigureHere (c_KT_isFigureHere hT (by omega)) rc_80 rfl rfl ⟨rfl, rfl⟩ ?_
  refine b_if_eq (tgt := 18) dX6_findNumber_4 rfl (fun zc4 => ?_) (fun zc4 => ?_)
  · refine g_iconst dX6_findNumber_18 ic_0 ?_
    exact e_z0 dX6_findNumber_19 rfl (by first | exact nm_k0 zc4 | exact nm_k1 zc4 zc42 zc79 | exact nm_k2 zc4 zc42 zc79) (by first | rw [nm_e2 zc4 zc42, nm_v2 zc42, if_pos zc4] | rw [nm_e1 zc4 zc42, nm_v1 zc42, if_pos zc4] | rw [nm_e0 zc4, if_neg (by rw [zc4]; decide)])
  · have hd1 := dg_t hT zc4
    refine g_iload_n dX6_findNumber_7 rfl ?_
    refine g_iconst dX6_findNumber_8 ic_0 ?_
    refine g_sipush dX6_findNumber_9 sp_239 ?_
    refine g_s3N (M' := KP_within) dX6_findNumber_12 l_T_21 s_KP_within c_KP_within rfl rfl ⟨rfl, rfl⟩ ?_
    refine g_top (in1 (Nat.zero_le _) (by omega) (by decide)) ?_
    refine n_if_ne (tgt := 20) (by omega) dX6_findNumber_15 rfl (fun _ => ?_) (fun zc15 => absurd zc15 (by decide))
    refine g_aload_n dX6_findNumber_20 rfl ?_
    refine g_v0 (M' := KT_here) dX6_findNumber_21 l_T_46 v_KT_here (c_KT_here hT (by omega)) rc_80 rfl rfl ⟨rfl, rfl⟩ ?_
    refine g_top hd1.2.2.2 ?_
    refine g_bipush dX6_findNumber_24 bp_48 ?_
    refine g_isub dX6_findNumber_26 ?_
    refine g_top (pk_sub hd1.2.1) ?_
    refine g_istore_n dX6_findNumber_27 rfl ?_
    refine g_aload_n dX6_findNumber_28 rfl ?_
    refine g_dup dX6_findNumber_29 rfl ?_
    refine q_geti dX6_findNumber_30 f_T_33 ck_80 (by decide) ty_5_2 ?_
    refine g_top tS_p ?_
    refine g_iconst dX6_findNumber_33 ic_1 ?_
    refine n_iadd dX6_findNumber_34 ?_
    refine q_puti dX6_findNumber_35 f_T_33 ck_80 (by decide) ty_5_2 fi_5_2 ?_
    refine g_heap (congrArg (fun z => HH z δ) tS_put) ?_
    refine g_aload_n dX6_findNumber_38 rfl ?_
    refine g_v0 (M' := KT_isFigureHere) dX6_findNumber_39 l_T_56 v_KT_isFigureHere (c_KT_isFigureHere hT (by omega)) rc_80 rfl rfl ⟨rfl, rfl⟩ ?_
    refine b_if_eq (tgt := 68) dX6_findNumber_42 rfl (fun zc42 => ?_) (fun zc42 => ?_)
    · first | refine g_heap (congrArg (fun z => HH z δ) tS_put) ?_ | skip
      refine g_aload_n dX6_findNumber_68 rfl ?_
      refine q_getq dX6_findNumber_69 f_T_18 ck_80 (by decide) ty_5_5 rf_80_5 ?_
      refine g_iload_n dX6_findNumber_72 rfl ?_
      refine g_iload_n dX6_findNumber_73 rfl ?_
      refine q_iast dX6_findNumber_74 ck_83 (ixD_nI (by omega) (by decide)) ?_
      refine g_heap (congrArg (fun z => HH z δ) tS_pN) ?_
      refine g_aload_n dX6_findNumber_75 rfl ?_
      refine g_v0 (M' := KT_isFigureHere) dX6_findNumber_76 l_T_56 v_KT_isFigureHere (c_KT_isFigureHere hT (by omega)) rc_80 rfl rfl ⟨rfl, rfl⟩ ?_
      refine b_if_ne (tgt := 86) dX6_findNumber_79 rfl (fun zc79 => ?_) (fun zc79 => ?_)
      · refine g_iconst dX6_findNumber_86 ic_0 ?_
        exact e_z0 dX6_findNumber_87 rfl (by first | exact nm_k0 zc4 | exact nm_k1 zc4 zc42 zc79 | exact nm_k2 zc4 zc42 zc79) (by first | rw [nm_e2 zc4 zc42, nm_v2 zc42, if_pos zc4] | rw [nm_e1 zc4 zc42, nm_v1 zc42, if_pos zc4] | rw [nm_e0 zc4, if_neg (by rw [zc4]; decide)])
      · refine g_iconst dX6_findNumber_82 ic_1 ?_
        refine g_goto (tgt := 87) dX6_findNumber_83 rfl ?_
        exact e_z1 dX6_findNumber_87 rfl (by first | exact nm_k0 zc4 | exact nm_k1 zc4 zc42 zc79 | exact nm_k2 zc4 zc42 zc79) (by first | rw [nm_e2 zc4 zc42, nm_v2 zc42, if_pos zc4] | rw [nm_e1 zc4 zc42, nm_v1 zc42, if_pos zc4] | rw [nm_e0 zc4, if_neg (by rw [zc4]; decide)])
    · have hd2 := dg_t hT zc42
      refine g_bipush dX6_findNumber_45 bp_10 ?_
      refine g_iload_n dX6_findNumber_47 rfl ?_
      refine n_imul dX6_findNumber_48 ?_
      refine g_aload_n dX6_findNumber_49 rfl ?_
      refine g_v0 (M' := KT_here) dX6_findNumber_50 l_T_46 v_KT_here (c_KT_here hT (by omega)) rc_80 rfl rfl ⟨rfl, rfl⟩ ?_
      refine g_top hd2.2.2.2 ?_
      refine n_iadd dX6_findNumber_53 ?_
      refine g_bipush dX6_findNumber_54 bp_48 ?_
      refine g_isub dX6_findNumber_56 ?_
      refine g_top (pk_sub (by omega)) ?_
      refine g_istore_n dX6_findNumber_57 rfl ?_
      refine g_aload_n dX6_findNumber_58 rfl ?_
      refine g_dup dX6_findNumber_59 rfl ?_
      refine q_geti dX6_findNumber_60 f_T_33 ck_80 (by decide) ty_5_2 ?_
      refine g_top tS_p ?_
      refine g_iconst dX6_findNumber_63 ic_1 ?_
      refine n_iadd dX6_findNumber_64 ?_
      refine q_puti dX6_findNumber_65 f_T_33 ck_80 (by decide) ty_5_2 fi_5_2 ?_
      first | refine g_heap (congrArg (fun z => HH z δ) tS_put) ?_ | skip
      refine g_aload_n dX6_findNumber_68 rfl ?_
      refine q_getq dX6_findNumber_69 f_T_18 ck_80 (by decide) ty_5_5 rf_80_5 ?_
      refine g_iload_n dX6_findNumber_72 rfl ?_
      refine g_iload_n dX6_findNumber_73 rfl ?_
      refine q_iast dX6_findNumber_74 ck_83 (ixD_nI (by omega) (by decide)) ?_
      refine g_heap (congrArg (fun z => HH z δ) tS_pN) ?_
      refine g_aload_n dX6_findNumber_75 rfl ?_
      refine g_v0 (M' := KT_isFigureHere) dX6_findNumber_76 l_T_56 v_KT_isFigureHere (c_KT_isFigureHere hT (by omega)) rc_80 rfl rfl ⟨rfl, rfl⟩ ?_
      refine b_if_ne (tgt := 86) dX6_findNumber_79 rfl (fun zc79 => ?_) (fun zc79 => ?_)
      · refine g_iconst dX6_findNumber_86 ic_0 ?_
        exact e_z0 dX6_findNumber_87 rfl (by first | exact nm_k0 zc4 | exact nm_k1 zc4 zc42 zc79 | exact nm_k2 zc4 zc42 zc79) (by first | rw [nm_e2 zc4 zc42, nm_v2 zc42, if_pos zc4] | rw [nm_e1 zc4 zc42, nm_v1 zc42, if_pos zc4] | rw [nm_e0 zc4, if_neg (by rw [zc4]; decide)])
      · refine g_iconst dX6_findNumber_82 ic_1 ?_
        refine g_goto (tgt := 87) dX6_findNumber_83 rfl ?_
        exact e_z1 dX6_findNumber_87 rfl (by first | exact nm_k0 zc4 | exact nm_k1 zc4 zc42 zc79 | exact nm_k2 zc4 zc42 zc79) (by first | rw [nm_e2 zc4 zc42, nm_v2 zc42, if_pos zc4] | rw [nm_e1 zc4 zc42, nm_v1 zc42, if_pos zc4] | rw [nm_e0 zc4, if_neg (by rw [zc4]; decide)])
