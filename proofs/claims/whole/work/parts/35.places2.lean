/-! CONTRACTS: how many places -/
theorem cnt_p {a : Nat → Int32} {n k p : Nat} {b : Bool} (h : fitA a n k (nI (p % 16)) (nI (p / 16)) = b) : cntN (fitP a n k) (p + 1) = cntN (fitP a n k) p + (if b = true then 1 else 0) := by
  show cntN (fitP a n k) p + (if fitP a n k p = true then 1 else 0) = _
  rw [show fitP a n k p = b from h]
set_option maxRecDepth 100000 in
theorem c_KR_placesMany {σ : SI} {δ : SD} {n : Nat} (hW : WF (σ 85) n) {k : Nat} (hk : k < n) : E KR_placesMany [.ref 84, .int (nI k)] (HH σ δ) (some (.int (nI (cntN (fitP (σ 85) n k) 256)))) (HH σ δ) := by
  have h8 := hW.n8
  refine E.ofL [some (.ref 84), some (.int (nI k))] rfl pn_RX9 rfl (fun sc => ?_)
  generalize hRz : (fun (zr : Option Value) (zk : XH) => zr = some (.int (nI (cntN (fitP (σ 85) n k) 256))) ∧ zk = HH σ δ) = R
  refine g_iconst dX9_placesMany_0 ic_0 ?_
  refine g_istore_n dX9_placesMany_1 rfl ?_
  refine g_iconst dX9_placesMany_2 ic_0 ?_
  refine g_istore_n dX9_placesMany_3 rfl ?_
  have H4 : ∀ (N : Nat) (p c : Nat), p ≤ 256 → c = cntN (fitP (σ 85) n k) p → 256 - p < N → G sc KR_placesMany 4 (aL [some (.ref 84), some (.int (nI k)), some (.int (nI c)), some (.int (nI p))]) [] (HH σ δ) (0, 0) R := by
    intro N
    induction N with
    | zero => intro p c h1 hb hN4; exact absurd hN4 (Nat.not_lt_zero _)
    | succ N ih4 =>
      intro p c h1 hb hN4
      refine g_iload_n dX9_placesMany_4 rfl ?_
      refine g_sipush dX9_placesMany_5 sp_256 ?_
      refine n_icmp_ge (tgt := 41) (by omega) (by omega) dX9_placesMany_8 rfl (fun zc8 => ?_) (fun zc8 => ?_)
      · refine g_iload_n dX9_placesMany_41 rfl ?_
        exact g_iret (S := []) dX9_placesMany_42 rfl (by rw [← hRz]; exact ⟨congrArg (fun zz => some (Value.int zz)) (show _ = _ by rw [hb, show p = 256 by omega]), by rfl⟩) (Nat.zero_le _) (Nat.zero_le _)
      · refine g_iload_n dX9_placesMany_11 rfl ?_
        refine g_aload_n dX9_placesMany_12 rfl ?_
        refine g_iload_n dX9_placesMany_13 rfl ?_
        refine g_iload_n dX9_placesMany_14 rfl ?_
        refine g_bipush dX9_placesMany_15 bp_16 ?_
        refine n_irem dX9_placesMany_17 (by omega) (by omega) (by omega) ?_
        refine g_iload_n dX9_placesMany_18 rfl ?_
        refine g_bipush dX9_placesMany_19 bp_16 ?_
        refine n_idiv dX9_placesMany_21 (by omega) (by omega) (by omega) ?_
        refine g_v3 (M' := KR_isFit) dX9_placesMany_22 l_R_89 v_KR_isFit (c_KR_isFit hW (by omega)) rc_84 rfl rfl ⟨rfl, rfl⟩ ?_
        refine b_if_eq (tgt := 32) dX9_placesMany_25 rfl (fun zc25 => ?_) (fun zc25 => ?_)
        · refine g_iconst dX9_placesMany_32 ic_0 ?_
          refine n_iadd dX9_placesMany_33 ?_
          refine g_istore_n dX9_placesMany_34 rfl ?_
          refine n_iinc (b := 1) dX9_placesMany_35 rfl rfl rfl ?_
          refine g_goto (tgt := 4) dX9_placesMany_38 rfl ?_
          exact g_can _ (by exact ⟨rfl, rfl, rfl, rfl, trivial⟩) (ih4 (p + 1) _ (by omega) (by rw [hb]; exact (cnt_p zc25).symm) (by omega))
        · refine g_iconst dX9_placesMany_28 ic_1 ?_
          refine g_goto (tgt := 33) dX9_placesMany_29 rfl ?_
          refine n_iadd dX9_placesMany_33 ?_
          refine g_istore_n dX9_placesMany_34 rfl ?_
          refine n_iinc (b := 1) dX9_placesMany_35 rfl rfl rfl ?_
          refine g_goto (tgt := 4) dX9_placesMany_38 rfl ?_
          exact g_can _ (by exact ⟨rfl, rfl, rfl, rfl, trivial⟩) (ih4 (p + 1) _ (by omega) (by rw [hb]; exact (cnt_p zc25).symm) (by omega))
  exact g_can _ (by exact ⟨rfl, rfl, rfl, rfl, trivial⟩) (H4 _ 0 0 (by omega) rfl (Nat.lt_succ_self _))
