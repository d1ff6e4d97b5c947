/-! CONTRACTS: heaps of white, the class -/
/-! heaps of white: visited, the queue, how many stand in it -/
abbrev Bs : Type := (Nat → Bool) × (Nat → Nat) × Nat
def bfH (σ : SI) (s : Bs) (k : Nat) : SI := uI (uI (uR (uR σ 78 (fun p => if s.1 p = true then nI 0 else σ 78 p)) 79 (fun i => if i < s.2.2 then nI (s.2.1 i) else σ 79 i)) 76 7 (nI s.2.2)) 76 6 (nI k)
def rc1 (f : Nat → Bool) (s : Bs) (p : Nat) : Bs := if f p && !s.1 p && decide (s.2.2 < 256) then (fun q => s.1 q || decide (q = p), fun i => if i = s.2.2 then p else s.2.1 i, s.2.2 + 1) else s
def rcZ (f : Nat → Bool) (W Hh : Nat) (s : Bs) (x y : Int32) : Bs := if inB x (nI 0) (nI (W - 1)) && inB y (nI 0) (nI (Hh - 1)) then rc1 f s (16 * y.toNatClampNeg + x.toNatClampNeg) else s
def sp4 (f : Nat → Bool) (W Hh : Nat) (s : Bs) (q : Nat) : Bs := rcZ f W Hh (rcZ f W Hh (rcZ f W Hh (rcZ f W Hh s (nI (q % 16) - nI 1) (nI (q / 16))) (nI (q % 16 + 1)) (nI (q / 16))) (nI (q % 16)) (nI (q / 16) - nI 1)) (nI (q % 16)) (nI (q / 16 + 1))
def spS (f : Nat → Bool) (W Hh : Nat) : Nat → Nat → Bs → Bs
  | 0, _, s => s
  | m + 1, nx, s => if nx < s.2.2 then spS f W Hh m (nx + 1) (sp4 f W Hh s (s.2.1 nx)) else s
def cpA (f : Nat → Bool) (W Hh : Nat) : Nat → Bs × Nat
  | 0 => ((fun _ => false, fun _ => 0, 0), 0)
  | p + 1 => if (cpA f W Hh p).1.2.2 < (rc1 f (cpA f W Hh p).1 p).2.2 then (spS f W Hh (256 - (cpA f W Hh p).1.2.2) (cpA f W Hh p).1.2.2 (rc1 f (cpA f W Hh p).1 p), (cpA f W Hh p).2 + 1) else (rc1 f (cpA f W Hh p).1 p, (cpA f W Hh p).2)
def bsO (s : Bs) : Prop := (∀ i, i < s.2.2 → s.2.1 i < 256) ∧ s.2.2 ≤ 256
section BF
variable {σ : SI} {s : Bs} {f : Nat → Bool} {W Hh p q k c j m nx : Nat}
theorem bf_o (h6 : c ≠ 6) (h7 : c ≠ 7) : bfH σ s k 76 c = σ 76 c := by unfold bfH; rw [uI_oth (by omega), uI_oth (by omega), uR_ne (by decide), uR_ne (by decide)]
theorem bf_7 : bfH σ s k 76 7 = nI s.2.2 := by unfold bfH; rw [uI_oth (by omega), uI_same]
theorem bf_6 : bfH σ s k 76 6 = nI k := by unfold bfH; rw [uI_same]
theorem bf_c (h : c ≠ 76) (h8 : c ≠ 78) (h9 : c ≠ 79) : bfH σ s k c = σ c := by unfold bfH; rw [uI_ne h, uI_ne h, uR_ne h9, uR_ne h8]
theorem bf_78 (h : σ 78 p = bI (f p)) : bfH σ s k 78 p = bI (f p && !s.1 p) := by
  unfold bfH
  rw [uI_ne (by decide), uI_ne (by decide), uR_ne (by decide), uR_eq]
  cases s.1 p with
  | true => rw [if_pos rfl]; cases f p <;> rfl
  | false => rw [if_neg (by decide), h]; cases f p <;> rfl
theorem bf_79 (h : p < s.2.2) (hq : s.2.1 p = q := by assumption) : bfH σ s k 79 p = nI q := by
  unfold bfH
  rw [uI_ne (by decide), uI_ne (by decide), uR_eq, if_pos h, hq]
theorem bf_k : uI (bfH σ s k) 76 6 (nI m) = bfH σ s m := by unfold bfH; rw [uI_uI]
theorem bf_0 : uI (uI σ 76 6 (nI 0)) 76 7 (nI 0) = bfH σ (fun _ => false, fun _ => 0, 0) 0 := by
  show _ = uI (uI (uR (uR σ 78 (fun p => if false = true then nI 0 else σ 78 p)) 79 (fun i => if i < 0 then nI 0 else σ 79 i)) 76 7 (nI 0)) 76 6 (nI 0)
  rw [show (fun p => if false = true then nI 0 else σ 78 p) = σ 78 from funext fun p => if_neg (by decide), show (fun i => if i < 0 then nI 0 else σ 79 i) = σ 79 from funext fun i => if_neg (Nat.not_lt_zero i), uR_id, uR_id, sm_1 (b := nI 0) (by decide)]
theorem rc1_n (h : (f p && !s.1 p) = false ∨ 256 ≤ s.2.2) : rc1 f s p = s := by
  unfold rc1
  rcases h with h | h
  · rw [h]; rfl
  · rw [decide_eq_false (by omega), Bool.and_false]; rfl
theorem rc1_y (h : (f p && !s.1 p) = true) (hc : s.2.2 < 256) : rc1 f s p = (fun q => s.1 q || decide (q = p), fun i => if i = s.2.2 then p else s.2.1 i, s.2.2 + 1) := by
  unfold rc1
  rw [h, decide_eq_true hc]; rfl
theorem bf_put (h : (f p && !s.1 p) = true) (hc : s.2.2 < 256) : uI (uI (uI (bfH σ s k) 78 p (nI 0)) 79 s.2.2 (nI p)) 76 7 (nI (s.2.2 + 1)) = bfH σ (rc1 f s p) k := by
  rw [rc1_y h hc]
  unfold bfH
  funext x y
  by_cases h76 : x = 76
  · subst h76
    by_cases h7 : y = 7
    · subst h7; rw [uI_same, uI_oth (by omega), uI_same]
    · rw [uI_oth (by omega), uI_ne (by decide), uI_ne (by decide)]
      by_cases h6 : y = 6
      · subst h6; rw [uI_same, uI_same]
      · rw [uI_oth (by omega), uI_oth (by omega), uI_oth (by omega), uI_oth (by omega), uR_ne (by decide), uR_ne (by decide), uR_ne (by decide), uR_ne (by decide)]
  · rw [uI_ne h76, uI_ne h76, uI_ne h76]
    by_cases h78 : x = 78
    · subst h78
      rw [uI_ne (by decide), uR_ne (by decide), uR_eq]
      dsimp only
      by_cases hy : y = p
      · subst hy
        rw [uI_same]
        simp
      · rw [uI_oth (by omega), uI_ne (by decide), uI_ne (by decide), uR_ne (by decide), uR_eq]
        simp [hy]
    · by_cases h79 : x = 79
      · subst h79
        rw [uR_eq]
        dsimp only
        by_cases hy : y = s.2.2
        · subst hy
          rw [uI_same, if_pos (by omega), if_pos rfl]
        · rw [uI_oth (by omega), uI_ne (by decide), uI_ne (by decide), uI_ne (by decide), uR_eq]
          by_cases hl : y < s.2.2
          · rw [if_pos hl, if_pos (by omega), if_neg hy]
          · rw [if_neg hl, if_neg (by omega)]
      · rw [uI_ne h79, uI_ne h78, uI_ne h76, uI_ne h76, uR_ne h79, uR_ne h78, uR_ne h79, uR_ne h78]
theorem rc1_ok (h : bsO s) (hp : p < 256) : bsO (rc1 f s p) := by
  unfold rc1
  split
  · rename_i hc
    simp only [Bool.and_eq_true, decide_eq_true_eq] at hc
    refine ⟨fun i hi => ?_, hc.2⟩
    have hi2 : i < s.2.2 + 1 := hi
    show (if i = s.2.2 then p else s.2.1 i) < 256
    split
    · exact hp
    · exact h.1 i (by omega)
  · exact h
theorem rcZ_ok {x y : Int32} (h : bsO s) (hW : W ≤ 16 := by omega) (hH : Hh ≤ 16 := by omega) : bsO (rcZ f W Hh s x y) := by
  unfold rcZ
  split
  · rename_i hc
    rw [Bool.and_eq_true] at hc
    obtain ⟨i, -, hi, rfl⟩ := (inB_iff (by decide) (by omega)).mp hc.1
    obtain ⟨j, -, hj, rfl⟩ := (inB_iff (by decide) (by omega)).mp hc.2
    rw [nI_clamp (by omega), nI_clamp (by omega)]
    exact rc1_ok h (by omega)
  · exact h
theorem sp4_ok (h : bsO s) (hW : W ≤ 16 := by omega) (hH : Hh ≤ 16 := by omega) : bsO (sp4 f W Hh s q) := rcZ_ok (rcZ_ok (rcZ_ok (rcZ_ok h)))
theorem spS_s (h : nx < s.2.2) : spS f W Hh (m + 1) nx s = spS f W Hh m (nx + 1) (sp4 f W Hh s (s.2.1 nx)) := if_pos h
theorem spS_e (h : s.2.2 ≤ nx) : spS f W Hh m nx s = s := by
  cases m with
  | zero => rfl
  | succ m => exact if_neg (by omega)
theorem spS_ok (hW : W ≤ 16) (hH : Hh ≤ 16) : ∀ (m nx : Nat) (s : Bs), bsO s → bsO (spS f W Hh m nx s)
  | 0, _, _, h => h
  | m + 1, nx, s, h => by
    unfold spS
    split
    · exact spS_ok hW hH m (nx + 1) _ (sp4_ok h)
    · exact h
theorem cpA_ok (p : Nat) (hp : p ≤ 256) (hW : W ≤ 16 := by omega) (hH : Hh ≤ 16 := by omega) : bsO (cpA f W Hh p).1 := by
  induction p with
  | zero => exact ⟨fun i hi => absurd hi (Nat.not_lt_zero i), Nat.zero_le _⟩
  | succ p ih =>
    have h := ih (by omega)
    unfold cpA
    split
    · exact spS_ok hW hH _ _ _ (rc1_ok h (by omega))
    · exact rc1_ok h (by omega)
theorem cpA_y {k : Nat} (h : (s, k) = cpA f W Hh p) (h2 : s.2.2 < (rc1 f s p).2.2) : (spS f W Hh (256 - s.2.2) s.2.2 (rc1 f s p), k + 1) = cpA f W Hh (p + 1) := by
  unfold cpA
  rw [← h]
  exact (if_pos h2).symm
theorem cpA_n {k : Nat} (h : (s, k) = cpA f W Hh p) (h2 : ¬ s.2.2 < (rc1 f s p).2.2) : (rc1 f s p, k) = cpA f W Hh (p + 1) := by
  unfold cpA
  rw [← h]
  exact (if_neg h2).symm
theorem cpA_f (h : f p = false) : cpA f W Hh (p + 1) = cpA f W Hh p := by
  have e : rc1 f (cpA f W Hh p).1 p = (cpA f W Hh p).1 := rc1_n (Or.inl (by rw [h]; rfl))
  have := cpA_n (f := f) (W := W) (Hh := Hh) (p := p) (s := (cpA f W Hh p).1) (k := (cpA f W Hh p).2) rfl (by rw [e]; omega)
  rw [← this, e]
theorem cpA_skip (hq : p ≤ q) (h : ∀ i, p ≤ i → i < q → f i = false) : cpA f W Hh q = cpA f W Hh p := by
  induction q with
  | zero => rw [show p = 0 by omega]
  | succ q ih =>
    rcases Nat.lt_or_ge p (q + 1) with g | g
    · rw [cpA_f (h q (by omega) (by omega)), ih (by omega) (fun i h1 h2 => h i h1 (by omega))]
    · rw [show p = q + 1 by omega]
end BF
set_option maxRecDepth 100000 in
theorem c_KW_reach_in {σ : SI} {δ : SD} {W Hh : Nat} (h0 : σ 76 0 = nI W) (h1 : σ 76 1 = nI Hh) (hw : 6 ≤ W ∧ W ≤ 16) (hh : 6 ≤ Hh ∧ Hh ≤ 16) {f : Nat → Bool} (hop : ∀ x y, x < W → y < Hh → σ 78 (16 * y + x) = bI (f (16 * y + x))) {x y : Nat} {s : Bs} {k : Nat} (hx : x < W) (hy : y < Hh) (hs : s.2.2 ≤ 256) : E KW_reach [.ref 76, .int (nI x), .int (nI y)] (HH (bfH σ s k) δ) (none) (HH (bfH σ (rc1 f s (16 * y + x)) k) δ) := by
  refine E.ofL [some (.ref 76), some (.int (nI x)), some (.int (nI y))] rfl pn_RX7 rfl (fun sc => ?_)
  refine g_iload_n dX7_reach_0 rfl ?_
  refine g_iconst dX7_reach_1 ic_0 ?_
  refine g_aload_n dX7_reach_2 rfl ?_
  refine q_geti dX7_reach_3 f_W_33 ck_76 (by decide) ty_6_0 ?_
  refine g_top ((bf_o (by decide) (by decide)).trans h0) ?_
  refine g_iconst dX7_reach_6 ic_1 ?_
  refine n_isub dX7_reach_7 (by omega) ?_
  refine g_s3N (M' := KP_within) dX7_reach_8 l_W_122 s_KP_within c_KP_within rfl rfl ⟨rfl, rfl⟩ ?_
  refine g_top (in1 (Nat.zero_le _) (by omega) (by omega)) ?_
  refine n_if_eq (tgt := 38) (by omega) dX7_reach_11 rfl (fun zc11 => absurd zc11 (by decide)) (fun _ => ?_)
  refine g_iload_n dX7_reach_14 rfl ?_
  refine g_iconst dX7_reach_15 ic_0 ?_
  refine g_aload_n dX7_reach_16 rfl ?_
  refine q_geti dX7_reach_17 f_W_37 ck_76 (by decide) ty_6_1 ?_
  refine g_top ((bf_o (by decide) (by decide)).trans h1) ?_
  refine g_iconst dX7_reach_20 ic_1 ?_
  refine n_isub dX7_reach_21 (by omega) ?_
  refine g_s3N (M' := KP_within) dX7_reach_22 l_W_122 s_KP_within c_KP_within rfl rfl ⟨rfl, rfl⟩ ?_
  refine g_top (in1 (Nat.zero_le _) (by omega) (by omega)) ?_
  refine n_if_eq (tgt := 38) (by omega) dX7_reach_25 rfl (fun zc25 => absurd zc25 (by decide)) (fun _ => ?_)
  refine g_aload_n dX7_reach_28 rfl ?_
  refine q_geti dX7_reach_29 f_W_112 ck_76 (by decide) ty_6_7 ?_
  refine g_top bf_7 ?_
  refine g_sipush dX7_reach_32 sp_256 ?_
  refine n_icmp_lt (tgt := 39) (by omega) (by omega) dX7_reach_35 rfl (fun zc35 => ?_) (fun zc35 => ?_)
  · refine g_iload_n dX7_reach_39 rfl ?_
    refine g_iload_n dX7_reach_40 rfl ?_
    refine g_s2N (M' := KP_placeOf) dX7_reach_41 l_W_105 s_KP_placeOf c_KP_placeOf rfl rfl ⟨rfl, rfl⟩ ?_
    refine g_istore_n dX7_reach_44 rfl ?_
    refine g_aload_n dX7_reach_45 rfl ?_
    refine q_getq dX7_reach_46 f_W_15 ck_76 (by decide) ty_6_9 rf_76_9 ?_
    refine g_iload_n dX7_reach_49 rfl ?_
    refine q_iald dX7_reach_50 ck_78 (ixD_nI (by omega) (by decide)) ?_
    refine g_top (show _ = bI (f (16 * y + x) && !s.1 (16 * y + x)) from bf_78 (hop x y hx hy)) ?_
    refine g_iconst dX7_reach_51 ic_1 ?_
    refine b1_icmp_ne (tgt := 82) dX7_reach_52 rfl (fun zc52 => ?_) (fun zc52 => ?_)
    · exact e_vret dX7_reach_82 rfl (by first | exact congrArg (fun z => HH z δ) (bf_put zc52 (by omega)) | (rw [rc1_n (Or.inl zc52)]) | (rw [rc1_n (Or.inr (by omega))]))
    · refine g_aload_n dX7_reach_55 rfl ?_
      refine q_getq dX7_reach_56 f_W_15 ck_76 (by decide) ty_6_9 rf_76_9 ?_
      refine g_iload_n dX7_reach_59 rfl ?_
      refine g_iconst dX7_reach_60 ic_0 ?_
      refine q_iast dX7_reach_61 ck_78 (ixD_nI (by omega) (by decide)) ?_
      refine g_aload_n dX7_reach_62 rfl ?_
      refine q_getq dX7_reach_63 f_W_18 ck_76 (by decide) ty_6_10 rf_76_10 ?_
      refine g_aload_n dX7_reach_66 rfl ?_
      refine q_geti dX7_reach_67 f_W_112 ck_76 (by decide) ty_6_7 ?_
      refine g_top (show _ = nI s.2.2 by rw [uI_ne (by decide)]; exact bf_7) ?_
      refine g_iload_n dX7_reach_70 rfl ?_
      refine q_iast dX7_reach_71 ck_79 (ixD_nI (by omega) (by decide)) ?_
      refine g_aload_n dX7_reach_72 rfl ?_
      refine g_dup dX7_reach_73 rfl ?_
      refine q_geti dX7_reach_74 f_W_112 ck_76 (by decide) ty_6_7 ?_
      refine g_top (show _ = nI s.2.2 by rw [uI_ne (by decide), uI_ne (by decide)]; exact bf_7) ?_
      refine g_iconst dX7_reach_77 ic_1 ?_
      refine n_iadd dX7_reach_78 ?_
      refine q_puti dX7_reach_79 f_W_112 ck_76 (by decide) ty_6_7 fi_6_7 ?_
      exact e_vret dX7_reach_82 rfl (by first | exact congrArg (fun z => HH z δ) (bf_put zc52 (by omega)) | (rw [rc1_n (Or.inl zc52)]) | (rw [rc1_n (Or.inr (by omega))]))
  · exact e_vret dX7_reach_38 rfl (by first | exact congrArg (fun z => HH z δ) (bf_put zc52 (by omega)) | (rw [rc1_n (Or.inl zc52)]) | (rw [rc1_n (Or.inr (by omega))]))
set_option maxRecDepth 100000 in
theorem c_KW_reach_out {σ : SI} {δ : SD} {W Hh : Nat} (h0 : σ 76 0 = nI W) (h1 : σ 76 1 = nI Hh) (hw : 6 ≤ W ∧ W ≤ 16) (hh : 6 ≤ Hh ∧ Hh ≤ 16) {x y : Int32} {s : Bs} {k : Nat} (h : inB x (nI 0) (nI (W - 1)) = false ∨ inB y (nI 0) (nI (Hh - 1)) = false) : E KW_reach [.ref 76, .int x, .int y] (HH (bfH σ s k) δ) (none) (HH (bfH σ s k) δ) := by
  refine E.ofL [some (.ref 76), some (.int x), some (.int y)] rfl pn_RX7 rfl (fun sc => ?_)
  refine g_iload_n dX7_reach_0 rfl ?_
  refine g_iconst dX7_reach_1 ic_0 ?_
  refine g_aload_n dX7_reach_2 rfl ?_
  refine q_geti dX7_reach_3 f_W_33 ck_76 (by decide) ty_6_0 ?_
  refine g_top ((bf_o (by decide) (by decide)).trans h0) ?_
  refine g_iconst dX7_reach_6 ic_1 ?_
  refine n_isub dX7_reach_7 (by omega) ?_
  refine g_s3N (M' := KP_within) dX7_reach_8 l_W_122 s_KP_within c_KP_within rfl rfl ⟨rfl, rfl⟩ ?_
  refine b_if_eq (tgt := 38) dX7_reach_11 rfl (fun zc11 => ?_) (fun zc11 => ?_)
  · exact e_vret dX7_reach_38 rfl (by rfl)
  · refine g_iload_n dX7_reach_14 rfl ?_
    refine g_iconst dX7_reach_15 ic_0 ?_
    refine g_aload_n dX7_reach_16 rfl ?_
    refine q_geti dX7_reach_17 f_W_37 ck_76 (by decide) ty_6_1 ?_
    refine g_top ((bf_o (by decide) (by decide)).trans h1) ?_
    refine g_iconst dX7_reach_20 ic_1 ?_
    refine n_isub dX7_reach_21 (by omega) ?_
    refine g_s3N (M' := KP_within) dX7_reach_22 l_W_122 s_KP_within c_KP_within rfl rfl ⟨rfl, rfl⟩ ?_
    refine b_if_eq (tgt := 38) dX7_reach_25 rfl (fun zc25 => ?_) (fun zc25 => ?_)
    · exact e_vret dX7_reach_38 rfl (by rfl)
    · exact absurd h (by rw [zc11, zc25]; simp)
theorem c_KW_reach {σ : SI} {δ : SD} {W Hh : Nat} (h0 : σ 76 0 = nI W) (h1 : σ 76 1 = nI Hh) (hw : 6 ≤ W ∧ W ≤ 16) (hh : 6 ≤ Hh ∧ Hh ≤ 16) {f : Nat → Bool} (hop : ∀ x y, x < W → y < Hh → σ 78 (16 * y + x) = bI (f (16 * y + x))) {x y : Int32} {s : Bs} {k : Nat} (hs : bsO s) : E KW_reach [.ref 76, .int x, .int y] (HH (bfH σ s k) δ) none (HH (bfH σ (rcZ f W Hh s x y) k) δ) := by
  unfold rcZ
  cases hx : inB x (nI 0) (nI (W - 1)) with
  | false => exact c_KW_reach_out h0 h1 hw hh (Or.inl hx)
  | true =>
    cases hy : inB y (nI 0) (nI (Hh - 1)) with
    | false => exact c_KW_reach_out h0 h1 hw hh (Or.inr hy)
    | true =>
      obtain ⟨i, -, hi, rfl⟩ := (inB_iff (by decide) (by omega)).mp hx
      obtain ⟨j, -, hj, rfl⟩ := (inB_iff (by decide) (by omega)).mp hy
      rw [nI_clamp (by omega), nI_clamp (by omega)]
      exact c_KW_reach_in h0 h1 hw hh hop (by omega) (by omega) hs.2
set_option maxRecDepth 100000 in
theorem c_KW_spread {σ : SI} {δ : SD} {W Hh : Nat} (h0 : σ 76 0 = nI W) (h1 : σ 76 1 = nI Hh) (hw : 6 ≤ W ∧ W ≤ 16) (hh : 6 ≤ Hh ∧ Hh ≤ 16) {f : Nat → Bool} (hop : ∀ x y, x < W → y < Hh → σ 78 (16 * y + x) = bI (f (16 * y + x))) {n0 k m0 : Nat} {s0 : Bs} (hs0 : bsO s0) (hn0 : n0 ≤ 256) (hm0 : 256 ≤ n0 + m0) : E KW_spread [.ref 76, .int (nI n0)] (HH (bfH σ s0 k) δ) (none) (HH (bfH σ (spS f W Hh m0 n0 s0) k) δ) := by
  refine E.ofL [some (.ref 76), some (.int (nI n0))] rfl pn_RX7 rfl (fun sc => ?_)
  generalize hRz : (fun (zr : Option Value) (zk : XH) => zr = none ∧ zk = HH (bfH σ (spS f W Hh m0 n0 s0) k) δ) = R
  refine g_iload_n dX7_spread_0 rfl ?_
  refine g_istore_n dX7_spread_1 rfl ?_
  have H2 : ∀ (N : Nat) (nx m : Nat) (s : Bs), nx ≤ 256 → 256 ≤ nx + m → bsO s → spS f W Hh m nx s = spS f W Hh m0 n0 s0 → 256 - nx < N → G sc KW_spread 2 (aL [some (.ref 76), some (.int (nI n0)), some (.int (nI nx))]) [] (HH (bfH σ s k) δ) (0, 0) R := by
    intro N
    induction N with
    | zero => intro nx m s h3 hm ho hz hN2; exact absurd hN2 (Nat.not_lt_zero _)
    | succ N ih2 =>
      intro nx m s h3 hm ho hz hN2
      have ho2 := ho.2
      refine g_iload_n dX7_spread_2 rfl ?_
      refine n_if_lt (tgt := 84) (by omega) dX7_spread_3 rfl (fun zc3 => ?_) (fun zc3 => ?_)
      · exact zc3.elim
      · refine g_iload_n dX7_spread_6 rfl ?_
        refine g_aload_n dX7_spread_7 rfl ?_
        refine q_geti dX7_spread_8 f_W_112 ck_76 (by decide) ty_6_7 ?_
        refine g_top bf_7 ?_
        refine n_icmp_ge (tgt := 84) (by omega) (by omega) dX7_spread_11 rfl (fun zc11 => ?_) (fun zc11 => ?_)
        · exact g_vret (S := []) dX7_spread_84 rfl (by rw [← hRz]; exact ⟨rfl, by rw [← hz, spS_e (by omega)]⟩) (Nat.zero_le _) (Nat.zero_le _)
        · refine g_iload_n dX7_spread_14 rfl ?_
          refine g_sipush dX7_spread_15 sp_256 ?_
          refine n_icmp_ge (tgt := 84) (by omega) (by omega) dX7_spread_18 rfl (fun zc18 => ?_) (fun zc18 => ?_)
          · exact g_vret (S := []) dX7_spread_84 rfl (by rw [← hRz]; exact ⟨rfl, by rw [← hz, spS_e (by omega)]⟩) (Nat.zero_le _) (Nat.zero_le _)
          · obtain ⟨m1, rfl⟩ : ∃ m1, m = m1 + 1 := ⟨m - 1, by omega⟩
            have hqb := ho.1 nx (by omega)
            obtain ⟨q, hq⟩ : ∃ q, s.2.1 nx = q := ⟨_, rfl⟩
            rw [hq] at hqb
            refine g_aload_n dX7_spread_21 rfl ?_
            refine q_getq dX7_spread_22 f_W_18 ck_76 (by decide) ty_6_10 rf_76_10 ?_
            refine g_iload_n dX7_spread_25 rfl ?_
            refine q_iald dX7_spread_26 ck_79 (ixD_nI (by omega) (by decide)) ?_
            refine g_top (bf_79 (by omega)) ?_
            refine g_bipush dX7_spread_27 bp_16 ?_
            refine n_irem dX7_spread_29 (by omega) (by omega) (by omega) ?_
            refine g_istore_n dX7_spread_30 rfl ?_
            refine g_aload_n dX7_spread_31 rfl ?_
            refine q_getq dX7_spread_32 f_W_18 ck_76 (by decide) ty_6_10 rf_76_10 ?_
            refine g_iload_n dX7_spread_35 rfl ?_
            refine q_iald dX7_spread_36 ck_79 (ixD_nI (by omega) (by decide)) ?_
            refine g_top (bf_79 (by omega)) ?_
            refine g_bipush dX7_spread_37 bp_16 ?_
            refine n_idiv dX7_spread_39 (by omega) (by omega) (by omega) ?_
            refine g_istore dX7_spread_40 rfl ?_
            refine g_aload_n dX7_spread_42 rfl ?_
            refine g_iload_n dX7_spread_43 rfl ?_
            refine g_iconst dX7_spread_44 ic_1 ?_
            refine g_isub dX7_spread_45 ?_
            refine g_top rfl ?_
            refine g_iload dX7_spread_46 rfl ?_
            refine g_v2n (M' := KW_reach) dX7_spread_48 l_W_115 v_KW_reach (c_KW_reach h0 h1 hw hh hop ho) rc_76 rfl rfl ⟨rfl, rfl⟩ ?_
            have ho_1 : bsO (rcZ f W Hh s (nI (q % 16) - nI 1) (nI (q / 16))) := rcZ_ok ho
            obtain ⟨s1, hs1⟩ : ∃ z, rcZ f W Hh s (nI (q % 16) - nI 1) (nI (q / 16)) = z := ⟨_, rfl⟩
            rw [hs1] at ho_1
            rw [hs1]
            refine g_aload_n dX7_spread_51 rfl ?_
            refine g_iload_n dX7_spread_52 rfl ?_
            refine g_iconst dX7_spread_53 ic_1 ?_
            refine n_iadd dX7_spread_54 ?_
            refine g_iload dX7_spread_55 rfl ?_
            refine g_v2n (M' := KW_reach) dX7_spread_57 l_W_115 v_KW_reach (c_KW_reach h0 h1 hw hh hop ho_1) rc_76 rfl rfl ⟨rfl, rfl⟩ ?_
            have ho_2 : bsO (rcZ f W Hh s1 (nI (q % 16 + 1)) (nI (q / 16))) := rcZ_ok ho_1
            obtain ⟨s2, hs2⟩ : ∃ z, rcZ f W Hh s1 (nI (q % 16 + 1)) (nI (q / 16)) = z := ⟨_, rfl⟩
            rw [hs2] at ho_2
            rw [hs2]
            refine g_aload_n dX7_spread_60 rfl ?_
            refine g_iload_n dX7_spread_61 rfl ?_
            refine g_iload dX7_spread_62 rfl ?_
            refine g_iconst dX7_spread_64 ic_1 ?_
            refine g_isub dX7_spread_65 ?_
            refine g_top rfl ?_
            refine g_v2n (M' := KW_reach) dX7_spread_66 l_W_115 v_KW_reach (c_KW_reach h0 h1 hw hh hop ho_2) rc_76 rfl rfl ⟨rfl, rfl⟩ ?_
            have ho_3 : bsO (rcZ f W Hh s2 (nI (q % 16)) (nI (q / 16) - nI 1)) := rcZ_ok ho_2
            obtain ⟨s3, hs3⟩ : ∃ z, rcZ f W Hh s2 (nI (q % 16)) (nI (q / 16) - nI 1) = z := ⟨_, rfl⟩
            rw [hs3] at ho_3
            rw [hs3]
            refine g_aload_n dX7_spread_69 rfl ?_
            refine g_iload_n dX7_spread_70 rfl ?_
            refine g_iload dX7_spread_71 rfl ?_
            refine g_iconst dX7_spread_73 ic_1 ?_
            refine n_iadd dX7_spread_74 ?_
            refine g_v2n (M' := KW_reach) dX7_spread_75 l_W_115 v_KW_reach (c_KW_reach h0 h1 hw hh hop ho_3) rc_76 rfl rfl ⟨rfl, rfl⟩ ?_
            have ho_4 : bsO (rcZ f W Hh s3 (nI (q % 16)) (nI (q / 16 + 1))) := rcZ_ok ho_3
            obtain ⟨s4, hs4⟩ : ∃ z, rcZ f W Hh s3 (nI (q % 16)) (nI (q / 16 + 1)) = z := ⟨_, rfl⟩
            rw [hs4] at ho_4
            rw [hs4]
            have hs5 : sp4 f W Hh s q = s4 := by rw [← hs4, ← hs3, ← hs2, ← hs1]; rfl
            refine n_iinc (b := 1) dX7_spread_78 rfl rfl rfl ?_
            refine g_goto (tgt := 2) dX7_spread_81 rfl ?_
            exact g_can _ (by exact ⟨rfl, rfl, rfl, trivial⟩) (ih2 (nx + 1) m1 s4 (by omega) (by omega) ho_4 (by rw [← hz, ← hs5, ← hq]; exact (spS_s (by omega)).symm) (by omega))
  exact g_can _ (by exact ⟨rfl, rfl, rfl, trivial⟩) (H2 _ n0 m0 s0 hn0 hm0 hs0 rfl (Nat.lt_succ_self _))
set_option maxRecDepth 100000 in
theorem c_KW_countParts {σ : SI} {δ : SD} {W Hh : Nat} (h0 : σ 76 0 = nI W) (h1 : σ 76 1 = nI Hh) (hw : 6 ≤ W ∧ W ≤ 16) (hh : 6 ≤ Hh ∧ Hh ≤ 16) {f : Nat → Bool} (hop : ∀ x y, x < W → y < Hh → σ 78 (16 * y + x) = bI (f (16 * y + x))) (hf : ∀ p, p < 256 → f p = true → p % 16 < W ∧ p / 16 < Hh) : E KW_countParts [.ref 76] (HH σ δ) (none) (HH (bfH σ (cpA f W Hh 256).1 (cpA f W Hh 256).2) δ) := by
  refine E.ofL [some (.ref 76)] rfl pn_RX7 rfl (fun sc => ?_)
  generalize hRz : (fun (zr : Option Value) (zk : XH) => zr = none ∧ zk = HH (bfH σ (cpA f W Hh 256).1 (cpA f W Hh 256).2) δ) = R
  refine g_aload_n dX7_countParts_0 rfl ?_
  refine g_iconst dX7_countParts_1 ic_0 ?_
  refine q_puti dX7_countParts_2 f_W_76 ck_76 (by decide) ty_6_6 fi_6_6 ?_
  refine g_aload_n dX7_countParts_5 rfl ?_
  refine g_iconst dX7_countParts_6 ic_0 ?_
  refine q_puti dX7_countParts_7 f_W_112 ck_76 (by decide) ty_6_7 fi_6_7 ?_
  refine g_iconst dX7_countParts_10 ic_0 ?_
  refine g_istore_n dX7_countParts_11 rfl ?_
  refine g_heap (congrArg (fun z => HH z δ) (show _ = bfH σ (fun _ => false, fun _ => 0, 0) 0 from bf_0)) ?_
  have H12 : ∀ (N : Nat) (y : Nat) (s1 : Bs) (k1 : Nat), y ≤ Hh → (s1, k1) = cpA f W Hh (16 * y) → Hh - y < N → G sc KW_countParts 12 (aL [some (.ref 76), some (.int (nI y))]) [] (HH (bfH σ s1 k1) δ) (0, 0) R := by
    intro N
    induction N with
    | zero => intro y s1 k1 h3 ht hN12; exact absurd hN12 (Nat.not_lt_zero _)
    | succ N ih12 =>
      intro y s1 k1 h3 ht hN12
      refine g_iload_n dX7_countParts_12 rfl ?_
      refine g_aload_n dX7_countParts_13 rfl ?_
      refine q_geti dX7_countParts_14 f_W_37 ck_76 (by decide) ty_6_1 ?_
      refine g_top ((bf_o (by decide) (by decide)).trans h1) ?_
      refine n_icmp_ge (tgt := 76) (by omega) (by omega) dX7_countParts_17 rfl (fun zc17 => ?_) (fun zc17 => ?_)
      · exact g_vret (S := []) dX7_countParts_76 rfl (by rw [← hRz]; exact ⟨rfl, by rw [show y = Hh by omega] at ht; rw [cpA_skip (p := 16 * Hh) (q := 256) (by omega) (fun i g1 g2 => f_out hf (by omega) (by omega)), ← ht]⟩) (Nat.zero_le _) (Nat.zero_le _)
      · refine g_iconst dX7_countParts_20 ic_0 ?_
        refine g_istore_n dX7_countParts_21 rfl ?_
        have H22 : ∀ (N : Nat) (x : Nat) (s : Bs) (k : Nat), x ≤ W → (s, k) = cpA f W Hh (16 * y + x) → W - x < N → G sc KW_countParts 22 (aL [some (.ref 76), some (.int (nI y)), some (.int (nI x))]) [] (HH (bfH σ s k) δ) (0, 0) R := by
          intro N
          induction N with
          | zero => intro x s k h5 ht1 hN22; exact absurd hN22 (Nat.not_lt_zero _)
          | succ N ih22 =>
            intro x s k h5 ht1 hN22
            have ho : bsO s := by have := cpA_ok (f := f) (W := W) (Hh := Hh) (16 * y + x) (by omega); rw [← ht1] at this; exact this
            have ho2 := ho.2
            refine g_iload_n dX7_countParts_22 rfl ?_
            refine g_aload_n dX7_countParts_23 rfl ?_
            refine q_geti dX7_countParts_24 f_W_33 ck_76 (by decide) ty_6_0 ?_
            refine g_top ((bf_o (by decide) (by decide)).trans h0) ?_
            refine n_icmp_ge (tgt := 70) (by omega) (by omega) dX7_countParts_27 rfl (fun zc27 => ?_) (fun zc27 => ?_)
            · refine n_iinc (b := 1) dX7_countParts_70 rfl rfl rfl ?_
              refine g_goto (tgt := 12) dX7_countParts_73 rfl ?_
              exact g_can _ (by exact ⟨rfl, rfl, trivial⟩) (ih12 (y + 1) s k (by omega) (by rw [ht1]; exact (cpA_skip (by omega) (fun i g1 g2 => f_out hf (by omega) (by omega))).symm) (by omega))
            · refine g_aload_n dX7_countParts_30 rfl ?_
              refine q_geti dX7_countParts_31 f_W_112 ck_76 (by decide) ty_6_7 ?_
              refine g_top bf_7 ?_
              refine g_istore_n dX7_countParts_34 rfl ?_
              refine g_aload_n dX7_countParts_35 rfl ?_
              refine g_iload_n dX7_countParts_36 rfl ?_
              refine g_iload_n dX7_countParts_37 rfl ?_
              refine g_v2n (M' := KW_reach) dX7_countParts_38 l_W_115 v_KW_reach (c_KW_reach_in h0 h1 hw hh hop (by omega) (by omega) ho.2) rc_76 rfl rfl ⟨rfl, rfl⟩ ?_
              have hor := rc1_ok (f := f) ho (show 16 * y + x < 256 by omega)
              have hoz := hor.2
              have ho2 := ho.2
              refine g_aload_n dX7_countParts_41 rfl ?_
              refine q_geti dX7_countParts_42 f_W_112 ck_76 (by decide) ty_6_7 ?_
              refine g_top bf_7 ?_
              refine g_iload_n dX7_countParts_45 rfl ?_
              refine n_icmp_le (tgt := 64) (by omega) (by omega) dX7_countParts_46 rfl (fun zc46 => ?_) (fun zc46 => ?_)
              · refine n_iinc (b := 1) dX7_countParts_64 rfl rfl rfl ?_
                refine g_goto (tgt := 22) dX7_countParts_67 rfl ?_
                exact g_can _ (by exact ⟨rfl, rfl, rfl, trivial⟩) (ih22 (x + 1) _ _ (by omega) (by first | exact cpA_y ht1 (by omega) | exact cpA_n ht1 (by omega)) (by omega))
              · refine g_aload_n dX7_countParts_49 rfl ?_
                refine g_dup dX7_countParts_50 rfl ?_
                refine q_geti dX7_countParts_51 f_W_76 ck_76 (by decide) ty_6_6 ?_
                refine g_top bf_6 ?_
                refine g_iconst dX7_countParts_54 ic_1 ?_
                refine n_iadd dX7_countParts_55 ?_
                refine q_puti dX7_countParts_56 f_W_76 ck_76 (by decide) ty_6_6 fi_6_6 ?_
                refine g_heap (congrArg (fun z => HH z δ) (show _ = bfH σ (rc1 f s (16 * y + x)) (k + 1) from bf_k)) ?_
                refine g_aload_n dX7_countParts_59 rfl ?_
                refine g_iload_n dX7_countParts_60 rfl ?_
                refine g_v1n (M' := KW_spread) dX7_countParts_61 l_W_118 v_KW_spread (c_KW_spread (m0 := 256 - s.2.2) h0 h1 hw hh hop (rc1_ok ho (by omega)) (by omega) (by omega)) rc_76 rfl rfl ⟨rfl, rfl⟩ ?_
                refine n_iinc (b := 1) dX7_countParts_64 rfl rfl rfl ?_
                refine g_goto (tgt := 22) dX7_countParts_67 rfl ?_
                exact g_can _ (by exact ⟨rfl, rfl, rfl, trivial⟩) (ih22 (x + 1) _ _ (by omega) (by first | exact cpA_y ht1 (by omega) | exact cpA_n ht1 (by omega)) (by omega))
        exact g_can _ (by exact ⟨rfl, rfl, rfl, trivial⟩) (H22 _ 0 s1 k1 (by omega) ht (Nat.lt_succ_self _))
  exact g_can _ (by exact ⟨rfl, rfl, trivial⟩) (H12 _ 0 _ 0 (by omega) rfl (Nat.lt_succ_self _))
