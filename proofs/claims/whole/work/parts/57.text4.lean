/-! THE TEXT: the reference's reading -/
theorem w64_48 : (48 : Int64) = (nI 48).toInt64 := by decide
theorem w64_57 : (57 : Int64) = (nI 57).toInt64 := by decide
/-- the reference's text -/
def TXR (σ : SI) (tc : Nat → Nat) (tl : Nat) : Prop := σ 84 12 = nI tl ∧ tl ≤ 120 ∧ ∀ i, i < tl → σ 92 i = nI (tc i) ∧ tc i < 128
def rS (σ : SI) (p : Nat) (Mr : Nat → Int32) : SI := uR (uI σ 84 13 (nI p)) 93 Mr
section RS
variable {σ : SI} {p q i k : Nat} {Mr : Nat → Int32} {v : Int32}
theorem rS_p : rS σ p Mr 84 13 = nI p := by unfold rS; rw [uR_ne (by decide), uI_same]
theorem rS_84 (h : k ≠ 13) : rS σ p Mr 84 k = σ 84 k := by unfold rS; rw [uR_ne (by decide), uI_oth (by omega)]
theorem rS_c {c : Nat} (h : c ≠ 84 ∧ c ≠ 93) : rS σ p Mr c = σ c := by unfold rS; rw [uR_ne (by omega), uI_ne (by omega)]
theorem rS_tx : rS σ p Mr 92 i = σ 92 i := by rw [rS_c (by decide)]
theorem rS_M : rS σ p Mr 93 i = Mr i := by unfold rS; rw [uR_eq]
theorem rS_put : uI (rS σ p Mr) 84 13 (nI q) = rS σ q Mr := by
  funext x y
  by_cases h : x = 84
  · subst h
    by_cases h2 : y = 13
    · subst h2; rw [uI_same, rS_p]
    · rw [uI_oth (by omega), rS_84 h2, rS_84 h2]
  · rw [uI_ne h]
    unfold rS uR
    rw [uI_ne h, uI_ne h]
theorem rS_pM : uI (rS σ p Mr) 93 i v = rS σ p (upd Mr i v) := by
  funext x y
  by_cases h : x = 93
  · subst h
    rw [rS_M]
    unfold upd
    by_cases h2 : y = i
    · subst h2; rw [uI_same, if_pos rfl]
    · rw [uI_oth (by omega), if_neg h2, rS_M]
  · rw [uI_ne h]
    unfold rS uR
    rw [if_neg h, if_neg h]
end RS
section SK2
variable {tc : Nat → Nat} {tl p q i : Nat} {σ : SI}
theorem hr_ne (h : tl ≤ q ∨ (q < tl ∧ tc q ≠ 32 ∧ tc q < 128)) : ¬ hrV tc tl q = nI 32 := by
  rcases h with h | ⟨h1, h2, h3⟩
  · rw [hr_n (by omega)]; decide
  · rw [hr_y h1, nI_eq (by omega) (by omega)]; exact h2
theorem skP_at (h : ¬ hrV tc tl q = nI 32) : skP tc tl q = q := (sk_stop (i := 0) h (by omega)).symm
theorem sk_all (h : hrV tc tl (skI tc tl p i) = nI 32) : skI tc tl p i = p + i := by
  induction i with
  | zero => rfl
  | succ i ih =>
    by_cases g : hrV tc tl (skI tc tl p i) = nI 32
    · rw [sk_y g, ih g]; rfl
    · rw [sk_n g] at h; exact absurd h g
theorem skP_end (htl : tl ≤ 120) : ¬ hrV tc tl (skP tc tl p) = nI 32 := fun h => by
  have e := sk_all (i := 120) h
  rw [show skI tc tl p 120 = skP tc tl p from sk_P] at e
  rw [e, hr_n (by omega)] at h
  exact absurd h (by decide)
theorem sk_shift (h : hrV tc tl q = nI 32) : ∀ i, skI tc tl (q + 1) i = skI tc tl q (i + 1)
  | 0 => (sk_y (i := 0) h).symm
  | i + 1 => by
    have ih := sk_shift h i
    by_cases g : hrV tc tl (skI tc tl q (i + 1)) = nI 32
    · rw [sk_y g, sk_y (by rw [ih]; exact g), ih]
    · rw [sk_n g, sk_n (by rw [ih]; exact g), ih]
theorem skP_succ (hT : TXR σ tc tl) (hq : q ≤ 120) (hl : q < tl) (h : tc q = 32) : skP tc tl (q + 1) = skP tc tl q := by
  have hh : hrV tc tl q = nI 32 := by rw [hr_y hl, h]
  have e := sk_shift hh 120
  rw [sk_P] at e
  rw [e]
  exact (sk_n (i := 120) (by rw [sk_P]; exact skP_end hT.2.1)).trans sk_P
theorem dg_at (h : q < tl) : dgB tc tl q = inB (nI (tc q)) (nI 48) (nI 57) := by unfold dgB; rw [hr_y h]
theorem dg_no (h : ¬ q < tl) : dgB tc tl q = false := by unfold dgB; rw [hr_n h]; decide
end SK2
set_option maxRecDepth 100000 in
set_option maxHeartbeats 200000 in
theorem c_KR_here {σ : SI} {δ : SD} {tc : Nat → Nat} {tl : Nat} (hT : TXR σ tc tl) {p : Nat} {Mr : Nat → Int32} (hp : p ≤ 120) : E KR_here [.ref 84] (HH (rS σ (p) (Mr)) δ) (some (.int (hrV tc tl (skP tc tl p)))) (HH (rS σ (skP tc tl p) (Mr)) δ) := by
  have htl := hT.2.1
  refine E.ofL [some (.ref 84)] rfl pn_RX9 rfl (fun sc => ?_)
  generalize hRz : (fun (zr : Option Value) (zk : XH) => zr = some (.int (hrV tc tl (skP tc tl p))) ∧ zk = HH (rS σ (skP tc tl p) (Mr)) δ) = R
  have H0 : ∀ (N : Nat) (q : Nat), q ≤ 120 → skP tc tl q = skP tc tl p → 121 - q < N → G sc KR_here 0 (aL [some (.ref 84)]) [] (HH (rS σ (q) (Mr)) δ) (0, 0) R := by
    intro N
    induction N with
    | zero => intro q h1 hz hN0; exact absurd hN0 (Nat.not_lt_zero _)
    | succ N ih0 =>
      intro q h1 hz hN0
      refine g_aload_n dX9_here_0 rfl ?_
      refine q_geti dX9_here_1 f_R_304 ck_84 (by decide) ty_8_13 ?_
      refine g_top rS_p ?_
      refine g_aload_n dX9_here_4 rfl ?_
      refine q_geti dX9_here_5 f_R_301 ck_84 (by decide) ty_8_12 ?_
      refine g_top ((rS_84 (by decide)).trans hT.1) ?_
      refine n_icmp_ge (tgt := 38) (by omega) (by omega) dX9_here_8 rfl (fun zc8 => ?_) (fun zc8 => ?_)
      · have hq : skP tc tl q = q := skP_at (by first | exact hr_ne (Or.inl (by omega)) | exact hr_ne (Or.inr (by omega)))
        rw [hz] at hq
        refine g_aload_n dX9_here_38 rfl ?_
        refine q_geti dX9_here_39 f_R_304 ck_84 (by decide) ty_8_13 ?_
        refine g_top rS_p ?_
        refine g_aload_n dX9_here_42 rfl ?_
        refine q_geti dX9_here_43 f_R_301 ck_84 (by decide) ty_8_12 ?_
        refine g_top ((rS_84 (by decide)).trans hT.1) ?_
        refine n_icmp_ge (tgt := 61) (by omega) (by omega) dX9_here_46 rfl (fun zc46 => ?_) (fun zc46 => ?_)
        · refine g_iconst dX9_here_61 ic_m1 ?_
          exact g_iret (S := []) dX9_here_62 rfl (by rw [← hRz]; exact ⟨congrArg (fun zz => some (Value.int zz)) (show _ = _ by rw [hq]; first | exact (hr_y (by omega)).symm | exact (hr_n (by omega)).symm), by rw [hq]⟩) (Nat.zero_le _) (Nat.zero_le _)
        · refine g_aload_n dX9_here_49 rfl ?_
          refine q_getq dX9_here_50 f_R_32 ck_84 (by decide) ty_8_11 rf_84_11 ?_
          refine g_aload_n dX9_here_53 rfl ?_
          refine q_geti dX9_here_54 f_R_304 ck_84 (by decide) ty_8_13 ?_
          refine g_top rS_p ?_
          refine q_iald dX9_here_57 ck_92 (ixD_nI (by omega) (by decide)) ?_
          refine g_top (rS_tx.trans (hT.2.2 (q) (by omega)).1) ?_
          refine g_goto (tgt := 62) dX9_here_58 rfl ?_
          exact g_iret (S := []) dX9_here_62 rfl (by rw [← hRz]; exact ⟨congrArg (fun zz => some (Value.int zz)) (show _ = _ by rw [hq]; first | exact (hr_y (by omega)).symm | exact (hr_n (by omega)).symm), by rw [hq]⟩) (Nat.zero_le _) (Nat.zero_le _)
      · have htc := (hT.2.2 q (by omega)).2
        refine g_aload_n dX9_here_11 rfl ?_
        refine q_getq dX9_here_12 f_R_32 ck_84 (by decide) ty_8_11 rf_84_11 ?_
        refine g_aload_n dX9_here_15 rfl ?_
        refine q_geti dX9_here_16 f_R_304 ck_84 (by decide) ty_8_13 ?_
        refine g_top rS_p ?_
        refine q_iald dX9_here_19 ck_92 (ixD_nI (by omega) (by decide)) ?_
        refine g_top (rS_tx.trans (hT.2.2 (q) (by omega)).1) ?_
        refine g_bipush dX9_here_20 bp_32 ?_
        refine n_icmp_ne (tgt := 38) (by omega) (by omega) dX9_here_22 rfl (fun zc22 => ?_) (fun zc22 => ?_)
        · have hq : skP tc tl q = q := skP_at (by first | exact hr_ne (Or.inl (by omega)) | exact hr_ne (Or.inr (by omega)))
          rw [hz] at hq
          refine g_aload_n dX9_here_38 rfl ?_
          refine q_geti dX9_here_39 f_R_304 ck_84 (by decide) ty_8_13 ?_
          refine g_top rS_p ?_
          refine g_aload_n dX9_here_42 rfl ?_
          refine q_geti dX9_here_43 f_R_301 ck_84 (by decide) ty_8_12 ?_
          refine g_top ((rS_84 (by decide)).trans hT.1) ?_
          refine n_icmp_ge (tgt := 61) (by omega) (by omega) dX9_here_46 rfl (fun zc46 => ?_) (fun zc46 => ?_)
          · refine g_iconst dX9_here_61 ic_m1 ?_
            exact g_iret (S := []) dX9_here_62 rfl (by rw [← hRz]; exact ⟨congrArg (fun zz => some (Value.int zz)) (show _ = _ by rw [hq]; first | exact (hr_y (by omega)).symm | exact (hr_n (by omega)).symm), by rw [hq]⟩) (Nat.zero_le _) (Nat.zero_le _)
          · refine g_aload_n dX9_here_49 rfl ?_
            refine q_getq dX9_here_50 f_R_32 ck_84 (by decide) ty_8_11 rf_84_11 ?_
            refine g_aload_n dX9_here_53 rfl ?_
            refine q_geti dX9_here_54 f_R_304 ck_84 (by decide) ty_8_13 ?_
            refine g_top rS_p ?_
            refine q_iald dX9_here_57 ck_92 (ixD_nI (by omega) (by decide)) ?_
            refine g_top (rS_tx.trans (hT.2.2 (q) (by omega)).1) ?_
            refine g_goto (tgt := 62) dX9_here_58 rfl ?_
            exact g_iret (S := []) dX9_here_62 rfl (by rw [← hRz]; exact ⟨congrArg (fun zz => some (Value.int zz)) (show _ = _ by rw [hq]; first | exact (hr_y (by omega)).symm | exact (hr_n (by omega)).symm), by rw [hq]⟩) (Nat.zero_le _) (Nat.zero_le _)
        · refine g_aload_n dX9_here_25 rfl ?_
          refine g_dup dX9_here_26 rfl ?_
          refine q_geti dX9_here_27 f_R_304 ck_84 (by decide) ty_8_13 ?_
          refine g_top rS_p ?_
          refine g_iconst dX9_here_30 ic_1 ?_
          refine n_iadd dX9_here_31 ?_
          refine q_puti dX9_here_32 f_R_304 ck_84 (by decide) ty_8_13 fi_8_13 ?_
          refine g_heap (congrArg (fun z => HH z δ) rS_put) ?_
          refine g_goto (tgt := 0) dX9_here_35 rfl ?_
          exact g_can _ (by exact ⟨rfl, trivial⟩) (ih0 (q + 1) (by omega) ((skP_succ hT h1 (by omega) zc22).trans hz) (by omega))
  exact g_can _ (by exact ⟨rfl, trivial⟩) (H0 _ p hp rfl (Nat.lt_succ_self _))
set_option maxRecDepth 100000 in
set_option maxHeartbeats 200000 in
theorem c_KR_isFigure {σ : SI} {δ : SD} {tc : Nat → Nat} {tl : Nat} (hT : TXR σ tc tl) {p : Nat} {Mr : Nat → Int32} {q : Nat} (hq : q ≤ 300) : E KR_isFigure [.ref 84, .int (nI q)] (HH (rS σ (p) (Mr)) δ) (some (.int (bI (dgB tc tl q)))) (HH (rS σ (p) (Mr)) δ) := by
  have htl := hT.2.1
  refine E.ofL [some (.ref 84), some (.int (nI q))] rfl pn_RX9 rfl (fun sc => ?_)
  refine g_iload_n dX9_isFigure_0 rfl ?_
  refine g_aload_n dX9_isFigure_1 rfl ?_
  refine q_geti dX9_isFigure_2 f_R_301 ck_84 (by decide) ty_8_12 ?_
  refine g_top ((rS_84 (by decide)).trans hT.1) ?_
  refine n_icmp_ge (tgt := 31) (by omega) (by omega) dX9_isFigure_5 rfl (fun zc5 => ?_) (fun zc5 => ?_)
  · refine g_iconst dX9_isFigure_31 ic_0 ?_
    exact e_z0 dX9_isFigure_32 rfl (by first | exact dg_no (by omega) | exact zc24) (by rfl)
  · refine g_aload_n dX9_isFigure_8 rfl ?_
    refine q_getq dX9_isFigure_9 f_R_32 ck_84 (by decide) ty_8_11 rf_84_11 ?_
    refine g_iload_n dX9_isFigure_12 rfl ?_
    refine q_iald dX9_isFigure_13 ck_92 (ixD_nI (by omega) (by decide)) ?_
    refine g_top (rS_tx.trans (hT.2.2 (q) (by omega)).1) ?_
    refine g_i2l dX9_isFigure_14 ?_
    refine g_ldcl dX9_isFigure_15 c_R_307 ?_
    refine g_ldcl dX9_isFigure_18 c_R_309 ?_
    refine g_s3 (M' := KR_in) dX9_isFigure_21 l_R_46 s_KR_in c_KR_in rfl rfl ⟨rfl, rfl⟩ ?_
    refine g_top (show _ = bI (dgB tc tl q) by rw [dg_at (by omega)]; simp only [w64_48, w64_57, inL_wide]) ?_
    refine b_if_eq (tgt := 31) dX9_isFigure_24 rfl (fun zc24 => ?_) (fun zc24 => ?_)
    · refine g_iconst dX9_isFigure_31 ic_0 ?_
      exact e_z0 dX9_isFigure_32 rfl (by first | exact dg_no (by omega) | exact zc24) (by rfl)
    · refine g_iconst dX9_isFigure_27 ic_1 ?_
      refine g_goto (tgt := 32) dX9_isFigure_28 rfl ?_
      exact e_z1 dX9_isFigure_32 rfl (by first | exact dg_no (by omega) | exact zc24) (by rfl)
