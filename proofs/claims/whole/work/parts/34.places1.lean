/-! CONTRACTS: the first place -/
def fitP (a : Nat → Int32) (n k p : Nat) : Bool := fitA a n k (nI (p % 16)) (nI (p / 16))
section FP
variable {a : Nat → Int32} {n k : Nat}
theorem fp_at {x y : Nat} {b : Bool} (hx : x < 16) (h : fitA a n k (nI x) (nI y) = b) : fitP a n k (16 * y + x) = b := by
  unfold fitP
  rw [show (16 * y + x) % 16 = x by omega, show (16 * y + x) / 16 = y by omega]
  exact h
/-- what fits lies within the sheet -/
theorem fit_in (hW : WF a n) (hk : k < n) {x y : Nat} (hx : x < 1000) (hy : y < 1000) (h : fitA a n k (nI x) (nI y) = true) : x < (a 0).toNatClampNeg ∧ y < (a 1).toNatClampNeg := by
  unfold fitA withinA at h
  simp only [Bool.and_eq_true, decide_eq_true_eq] at h
  obtain ⟨⟨⟨⟨⟨-, -⟩, h3⟩, h4⟩, -⟩, -⟩ := h
  have w1 := hW.wide hk
  have w2 := hW.high hk
  have m := hW.mar
  have w := hW.wid
  have hh := hW.hei
  generalize (a 2).toNatClampNeg = mm at *
  generalize (a 0).toNatClampNeg = ww at *
  generalize (a 1).toNatClampNeg = hhn at *
  rw [w1.2.2, m.2.2, w.2.2, nI_add, pk_sub (by omega), nI_leI (by omega) (by omega)] at h3
  rw [w2.2.2, m.2.2, hh.2.2, nI_add, pk_sub (by omega), nI_leI (by omega) (by omega)] at h4
  omega
theorem fp_out (hW : WF a n) (hk : k < n) {p : Nat} (hp : p < 256) (h : (a 0).toNatClampNeg ≤ p % 16 ∨ (a 1).toNatClampNeg ≤ p / 16) : fitP a n k p = false := by
  cases q : fitP a n k p with
  | false => rfl
  | true =>
    have := fit_in hW hk (x := p % 16) (y := p / 16) (by omega) (by omega) q
    omega
theorem fp_row (hW : WF a n) (hk : k < n) {x y : Nat} (hb : ∀ i, i < 16 * y + x → fitP a n k i = false) (h : (a 0).toNatClampNeg ≤ x ∧ y < 16) : ∀ i, i < 16 * (y + 1) → fitP a n k i = false := fun i hi => by
  by_cases q : i < 16 * y + x
  · exact hb i q
  · exact fp_out hW hk (by omega) (by omega)
theorem fp_end (hW : WF a n) (hk : k < n) {y : Nat} (hb : ∀ i, i < 16 * y → fitP a n k i = false) (h : (a 1).toNatClampNeg ≤ y) : ∀ i, i < 256 → fitP a n k i = false := fun i hi => by
  by_cases q : i < 16 * y
  · exact hb i q
  · exact fp_out hW hk (by omega) (by omega)
end FP
set_option maxRecDepth 100000 in
theorem c_KR_firstPlace {σ : SI} {δ : SD} {n : Nat} (hW : WF (σ 85) n) {k : Nat} (hk : k < n) : E KR_firstPlace [.ref 84, .int (nI k)] (HH σ δ) (some (.int (findI (fitP (σ 85) n k) 256))) (HH σ δ) := by
  have h8 := hW.n8
  refine E.ofL [some (.ref 84), some (.int (nI k))] rfl pn_RX9 rfl (fun sc => ?_)
  generalize hRz : (fun (zr : Option Value) (zk : XH) => zr = some (.int (findI (fitP (σ 85) n k) 256)) ∧ zk = HH σ δ) = R
  refine g_iconst dX9_firstPlace_0 ic_0 ?_
  refine g_istore_n dX9_firstPlace_1 rfl ?_
  have H2 : ∀ (N : Nat) (p : Nat), p ≤ 256 → (∀ i, i < p → fitP (σ 85) n k i = false) → 256 - p < N → G sc KR_firstPlace 2 (aL [some (.ref 84), some (.int (nI k)), some (.int (nI p))]) [] (HH σ δ) (0, 0) R := by
    intro N
    induction N with
    | zero => intro p h1 hb hN2; exact absurd hN2 (Nat.not_lt_zero _)
    | succ N ih2 =>
      intro p h1 hb hN2
      refine g_iload_n dX9_firstPlace_2 rfl ?_
      refine g_sipush dX9_firstPlace_3 sp_256 ?_
      refine n_icmp_ge (tgt := 33) (by omega) (by omega) dX9_firstPlace_6 rfl (fun zc6 => ?_) (fun zc6 => ?_)
      · refine g_iconst dX9_firstPlace_33 ic_m1 ?_
        exact g_iret (S := []) dX9_firstPlace_34 rfl (by rw [← hRz]; exact ⟨congrArg (fun zz => some (Value.int zz)) (show _ = _ by exact (findI_no (fun i hi => hb i (by omega))).symm), by rfl⟩) (Nat.zero_le _) (Nat.zero_le _)
      · refine g_aload_n dX9_firstPlace_9 rfl ?_
        refine g_iload_n dX9_firstPlace_10 rfl ?_
        refine g_iload_n dX9_firstPlace_11 rfl ?_
        refine g_bipush dX9_firstPlace_12 bp_16 ?_
        refine n_irem dX9_firstPlace_14 (by omega) (by omega) (by omega) ?_
        refine g_iload_n dX9_firstPlace_15 rfl ?_
        refine g_bipush dX9_firstPlace_16 bp_16 ?_
        refine n_idiv dX9_firstPlace_18 (by omega) (by omega) (by omega) ?_
        refine g_v3 (M' := KR_isFit) dX9_firstPlace_19 l_R_89 v_KR_isFit (c_KR_isFit hW (by omega)) rc_84 rfl rfl ⟨rfl, rfl⟩ ?_
        refine b_if_eq (tgt := 27) dX9_firstPlace_22 rfl (fun zc22 => ?_) (fun zc22 => ?_)
        · refine n_iinc (b := 1) dX9_firstPlace_27 rfl rfl rfl ?_
          refine g_goto (tgt := 2) dX9_firstPlace_30 rfl ?_
          exact g_can _ (by exact ⟨rfl, rfl, rfl, trivial⟩) (ih2 (p + 1) (by omega) (lt_step hb zc22) (by omega))
        · refine g_iload_n dX9_firstPlace_25 rfl ?_
          exact g_iret (S := []) dX9_firstPlace_26 rfl (by rw [← hRz]; exact ⟨congrArg (fun zz => some (Value.int zz)) (show _ = _ by exact (findI_at zc6 hb zc22).symm), by rfl⟩) (Nat.zero_le _) (Nat.zero_le _)
  exact g_can _ (by exact ⟨rfl, rfl, rfl, trivial⟩) (H2 _ 0 (by omega) (fun i hi => absurd hi (Nat.not_lt_zero i)) (Nat.lt_succ_self _))
set_option maxRecDepth 100000 in
theorem c_KA_first {σ : SI} {δ : SD} {B n : Nat} {a : Nat → Int32} (hB : LB B) (hW : WF a n) (hR : RB σ B a n) (hD : RD σ B a n) {k : Nat} (hk : k < n) : E KA_first [.ref 72, .ref B, .int (nI k)] (HH σ δ) (some (.int (findI (fitP a n k) 256))) (HH σ δ) := by
  have h8 := hW.n8
  have h2 := hR.c
  have hw := hW.wid
  have hh := hW.hei
  refine E.ofL [some (.ref 72), some (.ref B), some (.int (nI k))] rfl pn_RX2 rfl (fun sc => ?_)
  generalize hRz : (fun (zr : Option Value) (zk : XH) => zr = some (.int (findI (fitP a n k) 256)) ∧ zk = HH σ δ) = R
  refine g_iconst dX2_first_0 ic_0 ?_
  refine g_istore_n dX2_first_1 rfl ?_
  have H2 : ∀ (N : Nat) (y : Nat), y ≤ (a 1).toNatClampNeg → (∀ i, i < 16 * y → fitP a n k i = false) → (a 1).toNatClampNeg - y < N → G sc KA_first 2 (aL [some (.ref 72), some (.ref B), some (.int (nI k)), some (.int (nI y))]) [] (HH σ δ) (0, 0) R := by
    intro N
    induction N with
    | zero => intro y h1 hb hN2; exact absurd hN2 (Nat.not_lt_zero _)
    | succ N ih2 =>
      intro y h1 hb hN2
      refine g_iload_n dX2_first_2 rfl ?_
      refine g_aload_n dX2_first_3 rfl ?_
      refine q_geti dX2_first_4 f_A_21 (ckL_0 hB) (by decide) ty_0_1 ?_
      refine g_top (hR.h.trans hh.2.2) ?_
      refine n_icmp_ge (tgt := 52) (by omega) (by omega) dX2_first_7 rfl (fun zc7 => ?_) (fun zc7 => ?_)
      · refine g_iconst dX2_first_52 ic_m1 ?_
        exact g_iret (S := []) dX2_first_53 rfl (by rw [← hRz]; exact ⟨congrArg (fun zz => some (Value.int zz)) (show _ = _ by exact (findI_no (fp_end hW hk hb (by omega))).symm), by rfl⟩) (Nat.zero_le _) (Nat.zero_le _)
      · refine g_iconst dX2_first_10 ic_0 ?_
        refine g_istore dX2_first_11 rfl ?_
        have H13 : ∀ (N : Nat) (x : Nat), x ≤ (a 0).toNatClampNeg → (∀ i, i < 16 * y + x → fitP a n k i = false) → (a 0).toNatClampNeg - x < N → G sc KA_first 13 (aL [some (.ref 72), some (.ref B), some (.int (nI k)), some (.int (nI y)), some (.int (nI x))]) [] (HH σ δ) (0, 0) R := by
          intro N
          induction N with
          | zero => intro x h3 hb1 hN13; exact absurd hN13 (Nat.not_lt_zero _)
          | succ N ih13 =>
            intro x h3 hb1 hN13
            refine g_iload dX2_first_13 rfl ?_
            refine g_aload_n dX2_first_15 rfl ?_
            refine q_geti dX2_first_16 f_A_27 (ckL_0 hB) (by decide) ty_0_0 ?_
            refine g_top (hR.w.trans hw.2.2) ?_
            refine n_icmp_ge (tgt := 46) (by omega) (by omega) dX2_first_19 rfl (fun zc19 => ?_) (fun zc19 => ?_)
            · refine n_iinc (b := 1) dX2_first_46 rfl rfl rfl ?_
              refine g_goto (tgt := 2) dX2_first_49 rfl ?_
              exact g_can _ (by exact ⟨rfl, rfl, rfl, rfl, trivial⟩) (ih2 (y + 1) (by omega) (fp_row hW hk hb1 (by omega)) (by omega))
            · refine g_aload_n dX2_first_22 rfl ?_
              refine g_iload_n dX2_first_23 rfl ?_
              refine g_iload dX2_first_24 rfl ?_
              refine g_iload_n dX2_first_26 rfl ?_
              refine g_v3 (M' := KL_hasRoom) dX2_first_27 l_A_30 v_KL_hasRoom (c_KL_hasRoom hB hW hR hD hk (Or.inr ⟨x, by omega, by omega, rfl⟩)) (rcL hB) rfl rfl ⟨rfl, rfl⟩ ?_
              refine b_if_eq (tgt := 40) dX2_first_30 rfl (fun zc30 => ?_) (fun zc30 => ?_)
              · refine n_iinc (b := 1) dX2_first_40 rfl rfl rfl ?_
                refine g_goto (tgt := 13) dX2_first_43 rfl ?_
                exact g_can _ (by exact ⟨rfl, rfl, rfl, rfl, rfl, trivial⟩) (ih13 (x + 1) (by omega) (lt_step hb1 (fp_at (by omega) zc30)) (by omega))
              · refine g_iload dX2_first_33 rfl ?_
                refine g_iload_n dX2_first_35 rfl ?_
                refine g_s2N (M' := KP_placeOf) dX2_first_36 l_A_34 s_KP_placeOf c_KP_placeOf rfl rfl ⟨rfl, rfl⟩ ?_
                exact g_iret (S := []) dX2_first_39 rfl (by rw [← hRz]; exact ⟨congrArg (fun zz => some (Value.int zz)) (show _ = _ by exact (findI_at (by omega) hb1 (fp_at (by omega) zc30)).symm), by rfl⟩) (Nat.zero_le _) (Nat.zero_le _)
        exact g_can _ (by exact ⟨rfl, rfl, rfl, rfl, rfl, trivial⟩) (H13 _ 0 (by omega) (fun i hi => hb i (by omega)) (Nat.lt_succ_self _))
  exact g_can _ (by exact ⟨rfl, rfl, rfl, rfl, trivial⟩) (H2 _ 0 (by omega) (fun i hi => absurd hi (Nat.not_lt_zero _)) (Nat.lt_succ_self _))
