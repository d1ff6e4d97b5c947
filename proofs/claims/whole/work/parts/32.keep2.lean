/-! CONTRACTS: keeps, the reference -/
def kxR (a : Nat → Int32) (n k : Nat) : Int32 := if lK a n k = true then its a k 4 else -1
def kyR (a : Nat → Int32) (n k : Nat) : Int32 := if lK a n k = true then its a k 5 else -1
def kwR (a : Nat → Int32) (n k : Nat) : Int32 := if lK a n k = true then wideF a k else nI 0
def khR (a : Nat → Int32) (n k : Nat) : Int32 := if lK a n k = true then highF a k else nI 0
def kmS (σ : SI) (a : Nat → Int32) (n q : Nat) : Nat → SI
  | 0 => uI σ 85 (56 + 33 * q) (nI 1)
  | k + 1 => uI (uI (uI (uI (kmS σ a n q k) 85 (56 + 33 * q + 1 + 4 * k) (kxR a n k)) 85 (56 + 33 * q + 2 + 4 * k) (kyR a n k)) 85 (56 + 33 * q + 3 + 4 * k) (kwR a n k)) 85 (56 + 33 * q + 4 + 4 * k) (khR a n k)
section KM
variable {σ : SI} {a a' : Nat → Int32} {n q : Nat}
theorem km_lo {j : Nat} (h : j < 56) : ∀ {k : Nat}, kmS σ a n q k 85 j = σ 85 j
  | 0 => by unfold kmS; rw [uI_oth (by omega)]
  | k + 1 => by
    unfold kmS
    rw [uI_oth (by omega), uI_oth (by omega), uI_oth (by omega), uI_oth (by omega)]
    exact km_lo h
theorem km_ne {c : Nat} (h : c ≠ 85) : ∀ {k : Nat}, kmS σ a n q k c = σ c
  | 0 => by unfold kmS; rw [uI_ne h]
  | k + 1 => by
    unfold kmS
    rw [uI_ne h, uI_ne h, uI_ne h, uI_ne h]
    exact km_ne h
theorem km_out {j : Nat} (h : j < 56 + 33 * q ∨ 56 + 33 * q + 33 ≤ j) : ∀ {k : Nat}, k ≤ 8 → kmS σ a n q k 85 j = σ 85 j
  | 0, _ => by unfold kmS; rw [uI_oth (by omega)]
  | k + 1, hk => by
    unfold kmS
    rw [uI_oth (by omega), uI_oth (by omega), uI_oth (by omega), uI_oth (by omega)]
    exact km_out h (by omega)
theorem km_fl : ∀ {k : Nat}, kmS σ a n q k 85 (56 + 33 * q) = nI 1
  | 0 => by unfold kmS; rw [uI_same]
  | k + 1 => by
    unfold kmS
    rw [uI_oth (by omega), uI_oth (by omega), uI_oth (by omega), uI_oth (by omega)]
    exact km_fl
theorem km_new {i : Nat} : ∀ {k : Nat}, k ≤ i → i < 8 → ∀ j, j < 4 → kmS σ a n q k 85 (56 + 33 * q + 1 + 4 * i + j) = σ 85 (56 + 33 * q + 1 + 4 * i + j)
  | 0, _, _, j, _ => by unfold kmS; rw [uI_oth (by omega)]
  | k + 1, h, h8, j, hj => by
    unfold kmS
    rw [uI_oth (by omega), uI_oth (by omega), uI_oth (by omega), uI_oth (by omega)]
    exact km_new (by omega) h8 j hj
theorem km_in {i : Nat} : ∀ {k : Nat}, i < k → kmS σ a n q k 85 (56 + 33 * q + 1 + 4 * i) = kxR a n i ∧ kmS σ a n q k 85 (56 + 33 * q + 2 + 4 * i) = kyR a n i ∧ kmS σ a n q k 85 (56 + 33 * q + 3 + 4 * i) = kwR a n i ∧ kmS σ a n q k 85 (56 + 33 * q + 4 + 4 * i) = khR a n i
  | 0, h => absurd h (Nat.not_lt_zero i)
  | k + 1, h => by
    unfold kmS
    by_cases e : i = k
    · subst e
      refine ⟨?_, ?_, ?_, ?_⟩
      · rw [uI_oth (by omega), uI_oth (by omega), uI_oth (by omega), uI_same]
      · rw [uI_oth (by omega), uI_oth (by omega), uI_same]
      · rw [uI_oth (by omega), uI_same]
      · rw [uI_same]
    · have g := km_in (k := k) (show i < k by omega)
      refine ⟨?_, ?_, ?_, ?_⟩
      · rw [uI_oth (by omega), uI_oth (by omega), uI_oth (by omega), uI_oth (by omega)]; exact g.1
      · rw [uI_oth (by omega), uI_oth (by omega), uI_oth (by omega), uI_oth (by omega)]; exact g.2.1
      · rw [uI_oth (by omega), uI_oth (by omega), uI_oth (by omega), uI_oth (by omega)]; exact g.2.2.1
      · rw [uI_oth (by omega), uI_oth (by omega), uI_oth (by omega), uI_oth (by omega)]; exact g.2.2.2
theorem lo_itN (e : ∀ j, j < 56 → a' j = a j) {k j : Nat} (hk : k < 8) (hj : j < 6) : itN a' k j = itN a k j := by unfold itN its; rw [e _ (by omega)]
theorem lo_wide (e : ∀ j, j < 56 → a' j = a j) {k : Nat} (hk : k < 8) : wideF a' k = wideF a k := by
  unfold wideF bigN ratN
  rw [lo_itN e hk (by decide), lo_itN e hk (by decide), lo_itN e hk (by decide), lo_itN e hk (by decide), e 4 (by decide), e 5 (by decide)]
theorem lo_high (e : ∀ j, j < 56 → a' j = a j) {k : Nat} (hk : k < 8) : highF a' k = highF a k := by
  unfold highF bigN ratN
  rw [lo_itN e hk (by decide), e 4 (by decide), e 5 (by decide)]
theorem km_lies (hr : σ 85 = a) {k m0 : Nat} (hm : m0 ≤ 8) : cntN (liesA (kmS σ a n q k 85)) m0 = cntN (liesA a) m0 := cntN_cong (fun i hi => by unfold liesA its; rw [km_lo (by omega), hr])
theorem lo_WF (hW : WF a n) (e : ∀ j, j < 56 → a' j = a j) (h : ∀ s, s < 3 → (a' (56 + 33 * s) = 0 ∨ a' (56 + 33 * s) = 1) ∧ ∀ k, k < 8 → plc (a' (56 + 33 * s + 1 + 4 * k)) (a' (56 + 33 * s + 2 + 4 * k))) : WF a' n := by
  obtain ⟨g1, g2, g3, g4, g5, g6, g7, g8, g9, g10, g11⟩ := hW
  refine ⟨g1, ?_, ?_, ?_, ?_, ?_, ?_, ?_, ?_, fun k' hk' => ?_, h⟩
  · rw [e _ (by decide)]; exact g2
  · rw [e _ (by decide)]; exact g3
  · rw [e _ (by decide)]; exact g4
  · rw [e _ (by decide)]; exact g5
  · rw [e _ (by decide)]; exact g6
  · rw [e _ (by decide)]; exact g7
  · rw [e _ (by decide)]; exact g8
  · rw [e _ (by decide)]; exact g9
  · unfold its
    rw [e _ (by omega), e _ (by omega), e _ (by omega), e _ (by omega), e _ (by omega), e _ (by omega)]
    exact g10 k' hk'
theorem kx_plc (hW : WF a n) {k : Nat} : plc (kxR a n k) (kyR a n k) := by
  unfold kxR kyR
  by_cases h : lK a n k = true
  · rw [if_pos h, if_pos h]; exact hW.pl (lK_t h).1
  · rw [if_neg h, if_neg h]; exact Or.inl ⟨rfl, rfl⟩
/-- a row that is km's but for slots past k's first two -/
theorem km_WFx {τ : Nat → Int32} {k m : Nat} (hW : WF a n) (hr : σ 85 = a) (hq : q < 3) (hk : k ≤ 8) (hm : m ≤ k + 1) (hm8 : m ≤ 8)
    (e1 : ∀ j, (∀ i, i < m → k ≤ i → j ≠ 56 + 33 * q + 1 + 4 * i ∧ j ≠ 56 + 33 * q + 2 + 4 * i) → (∀ i, k ≤ i → i < m → j ≠ 56 + 33 * q + 3 + 4 * i ∧ j ≠ 56 + 33 * q + 4 + 4 * i) → τ j = kmS σ a n q k 85 j)
    (e2 : ∀ i, i < m → k ≤ i → τ (56 + 33 * q + 1 + 4 * i) = kxR a n i ∧ τ (56 + 33 * q + 2 + 4 * i) = kyR a n i) : WF τ n := by
  refine lo_WF hW (fun j hj => by rw [e1 j (fun i _ _ => by omega) (fun i _ _ => by omega), km_lo hj, hr]) (fun s hs => ?_)
  have old := hW.2.2.2.2.2.2.2.2.2.2 s hs
  by_cases h : s = q
  · subst h
    refine ⟨Or.inr (by rw [e1 _ (fun i _ _ => by omega) (fun i _ _ => by omega), km_fl]; rfl), fun i hi => ?_⟩
    by_cases h1 : i < k
    · rw [e1 _ (fun i _ _ => by omega) (fun i _ _ => by omega), e1 _ (fun i _ _ => by omega) (fun i _ _ => by omega), (km_in h1).1, (km_in h1).2.1]
      exact kx_plc hW
    · by_cases h2 : i < m
      · rw [(e2 i h2 (by omega)).1, (e2 i h2 (by omega)).2]; exact kx_plc hW
      · rw [e1 _ (fun i _ _ => by omega) (fun i _ _ => by omega), e1 _ (fun i _ _ => by omega) (fun i _ _ => by omega)]
        have n0 := km_new (σ := σ) (a := a) (n := n) (q := s) (k := k) (show k ≤ i by omega) hi 0 (by decide)
        have n1 := km_new (σ := σ) (a := a) (n := n) (q := s) (k := k) (show k ≤ i by omega) hi 1 (by decide)
        rw [Nat.add_zero] at n0
        rw [show 56 + 33 * s + 1 + 4 * i + 1 = 56 + 33 * s + 2 + 4 * i by omega] at n1
        rw [n0, n1, hr]
        exact old.2 i hi
  · have o : ∀ j, j < 33 → τ (56 + 33 * s + j) = a (56 + 33 * s + j) := fun j hj => by
      rw [e1 _ (fun i _ _ => by omega) (fun i _ _ => by omega), km_out (by omega) hk, hr]
    refine ⟨by have := o 0 (by decide); rw [Nat.add_zero] at this; rw [this]; exact old.1, fun i hi => ?_⟩
    have o1 := o (1 + 4 * i) (by omega)
    have o2 := o (2 + 4 * i) (by omega)
    rw [← Nat.add_assoc] at o1 o2
    rw [o1, o2]
    exact old.2 i hi
theorem km_WF {k : Nat} (hW : WF a n) (hr : σ 85 = a) (hq : q < 3) (hk : k ≤ 8) : WF (kmS σ a n q k 85) n :=
  km_WFx (m := k) hW hr hq hk (by omega) hk (fun j _ _ => rfl) (fun i h1 h2 => absurd h1 (by omega))
theorem km_WF2 {k : Nat} (hW : WF a n) (hr : σ 85 = a) (hq : q < 3) (hk : k < 8) : WF (uI (uI (kmS σ a n q k) 85 (56 + 33 * q + 1 + 4 * k) (kxR a n k)) 85 (56 + 33 * q + 2 + 4 * k) (kyR a n k) 85) n := by
  refine km_WFx (m := k + 1) (k := k) hW hr hq (by omega) (by omega) (by omega) (fun j h1 h2 => ?_) (fun i h1 h2 => ?_)
  · have := h1 k (by omega) (by omega)
    rw [uI_oth (by omega), uI_oth (by omega)]
  · obtain rfl : i = k := (by omega)
    refine ⟨?_, ?_⟩
    · rw [uI_oth (by omega), uI_same]
    · rw [uI_same]
theorem km_WF3 {k : Nat} {v : Int32} (hW : WF a n) (hr : σ 85 = a) (hq : q < 3) (hk : k < 8) : WF (uI (uI (uI (kmS σ a n q k) 85 (56 + 33 * q + 1 + 4 * k) (kxR a n k)) 85 (56 + 33 * q + 2 + 4 * k) (kyR a n k)) 85 (56 + 33 * q + 3 + 4 * k) v 85) n := by
  refine km_WFx (m := k + 1) (k := k) hW hr hq (by omega) (by omega) (by omega) (fun j h1 h2 => ?_) (fun i h1 h2 => ?_)
  · have := h1 k (by omega) (by omega)
    have := h2 k (by omega) (by omega)
    rw [uI_oth (by omega), uI_oth (by omega), uI_oth (by omega)]
  · obtain rfl : i = k := (by omega)
    refine ⟨?_, ?_⟩
    · rw [uI_oth (by omega), uI_oth (by omega), uI_same]
    · rw [uI_oth (by omega), uI_same]
end KM
set_option maxRecDepth 100000 in
theorem c_KR_keeps_ok {σ : SI} {δ : SD} {a : Nat → Int32} {n s tl : Nat} {P : Nat → Nat → Int32} {tx rf : Nat → Int32} (hJ : IR σ a s P tl tx rf) (hs : s ≤ 5) (hW : WF a n) {q : Nat} (hq3 : q < 3) : E KR_keeps [.ref 84, .int (nI q)] (HH σ δ) (some (.int (nI (cntN (liesA (σ 85)) n)))) (HH (kmS (sKeep σ s) (σ 85) n q 8) δ) := by
  obtain rfl := hJ.row
  have h3 := hJ.sd
  have hJ1 := hJ.keep hs
  have hn := hW.n8
  have h7 := hW.a7
  have hW1 : WF (sKeep σ s 85) n := by rw [hJ1.row]; exact hW
  refine E.ofL [some (.ref 84), some (.int (nI q))] rfl pn_RX9 rfl (fun sc => ?_)
  generalize hRz : (fun (zr : Option Value) (zk : XH) => zr = some (.int (nI (cntN (liesA (σ 85)) n))) ∧ zk = HH (kmS (sKeep σ s) (σ 85) n q 8) δ) = R
  refine g_iload_n dX9_keeps_0 rfl ?_
  refine g_i2l dX9_keeps_1 ?_
  refine g_lconst (v := 0) dX9_keeps_2 rfl ?_
  refine g_ldcl dX9_keeps_3 c_R_117 ?_
  refine g_s3 (M' := KR_in) dX9_keeps_6 l_R_46 s_KR_in c_KR_in rfl rfl ⟨rfl, rfl⟩ ?_
  refine g_top (show _ = nI 1 by rw [w64_0, w64_2, inL_wide]; exact in1 (Nat.zero_le _) (by omega) (by decide)) ?_
  refine n_if_ne (tgt := 19) (by omega) dX9_keeps_9 rfl (fun _ => ?_) (fun zc9 => absurd zc9 (by decide))
  refine g_aload_n dX9_keeps_19 rfl ?_
  refine g_v0n (M' := KR_keep) dX9_keeps_20 l_R_111 v_KR_keep (c_KR_keep hs h3) rc_84 rfl rfl ⟨rfl, rfl⟩ ?_
  refine g_bipush dX9_keeps_23 bp_56 ?_
  refine g_bipush dX9_keeps_25 bp_33 ?_
  refine g_iload_n dX9_keeps_27 rfl ?_
  refine n_imul dX9_keeps_28 ?_
  refine n_iadd dX9_keeps_29 ?_
  refine g_istore_n dX9_keeps_30 rfl ?_
  refine g_aload_n dX9_keeps_31 rfl ?_
  refine q_getq dX9_keeps_32 f_R_7 ck_84 (by decide) ty_8_0 rf_84_0 ?_
  refine g_iload_n dX9_keeps_35 rfl ?_
  refine g_iconst dX9_keeps_36 ic_1 ?_
  refine q_iast dX9_keeps_37 ck_85 (ixD_nI (by omega) (by decide)) ?_
  refine g_iconst dX9_keeps_38 ic_0 ?_
  refine g_istore_n dX9_keeps_39 rfl ?_
  refine g_heap rfl ?_
  have H40 : ∀ (N : Nat) (k : Nat), k ≤ 8 → 8 - k < N → G sc KR_keeps 40 (aL [some (.ref 84), some (.int (nI q)), some (.int (nI (56 + 33 * q))), some (.int (nI k))]) [] (HH (kmS (sKeep σ s) (σ 85) n q k) δ) (0, 0) R := by
    intro N
    induction N with
    | zero => intro k h1 hN40; exact absurd hN40 (Nat.not_lt_zero _)
    | succ N ih40 =>
      intro k h1 hN40
      refine g_iload_n dX9_keeps_40 rfl ?_
      refine g_bipush dX9_keeps_41 bp_8 ?_
      refine n_icmp_ge (tgt := 181) (by omega) (by omega) dX9_keeps_43 rfl (fun zc43 => ?_) (fun zc43 => ?_)
      · obtain rfl : k = 8 := (by omega)
        refine g_aload_n dX9_keeps_181 rfl ?_
        refine g_v0 (M' := KR_liesMany) dX9_keeps_182 l_R_175 v_KR_liesMany (c_KR_liesMany (km_WF hW hJ1.row hq3 (Nat.le_refl 8))) rc_84 rfl rfl ⟨rfl, rfl⟩ ?_
        exact g_iret (S := []) dX9_keeps_185 rfl (by rw [← hRz]; exact ⟨congrArg (fun zz => some (Value.int zz)) (show _ = _ by rw [km_lies hJ1.row hn]), by rfl⟩) (Nat.zero_le _) (Nat.zero_le _)
      · refine g_iload_n dX9_keeps_46 rfl ?_
        refine g_aload_n dX9_keeps_47 rfl ?_
        refine g_v0 (M' := KR_many) dX9_keeps_48 l_R_42 v_KR_many c_KR_many rc_84 rfl rfl ⟨rfl, rfl⟩ ?_
        refine g_top (show kmS (sKeep σ s) (σ 85) n q k 85 7 = nI n by rw [km_lo (by omega), hJ1.row]; exact h7) ?_
        refine n_icmp_ge (tgt := 66) (by omega) (by omega) dX9_keeps_51 rfl (fun zc51 => ?_) (fun zc51 => ?_)
        · refine g_iconst dX9_keeps_66 ic_0 ?_
          refine g_istore dX9_keeps_67 rfl ?_
          refine g_aload_n dX9_keeps_69 rfl ?_
          refine q_getq dX9_keeps_70 f_R_7 ck_84 (by decide) ty_8_0 rf_84_0 ?_
          refine g_iload_n dX9_keeps_73 rfl ?_
          refine g_iconst dX9_keeps_74 ic_1 ?_
          refine n_iadd dX9_keeps_75 ?_
          refine g_iconst dX9_keeps_76 ic_4 ?_
          refine g_iload_n dX9_keeps_77 rfl ?_
          refine n_imul dX9_keeps_78 ?_
          refine n_iadd dX9_keeps_79 ?_
          refine g_iload dX9_keeps_80 rfl ?_
          refine n_if_eq (tgt := 94) (by omega) dX9_keeps_82 rfl (fun _ => ?_) (fun zc82 => absurd zc82 (by decide))
          refine g_iconst dX9_keeps_94 ic_m1 ?_
          refine q_iast dX9_keeps_95 ck_85 (ixD_nI (by omega) (by decide)) ?_
          refine g_heap (h' := HH (uI (kmS (sKeep σ s) (σ 85) n q k) 85 (56 + 33 * q + 1 + 4 * k) (kxR (σ 85) n k)) δ) (congrArg (fun z => HH (uI (kmS (sKeep σ s) (σ 85) n q k) 85 _ z) δ) (by clear ih40; unfold kxR; (first | have hkn : k < n := (by omega) | have hkn : ¬ k < n := (by omega)); simp [lK, *])) ?_
          refine g_aload_n dX9_keeps_96 rfl ?_
          refine q_getq dX9_keeps_97 f_R_7 ck_84 (by decide) ty_8_0 rf_84_0 ?_
          refine g_iload_n dX9_keeps_100 rfl ?_
          refine g_iconst dX9_keeps_101 ic_2 ?_
          refine n_iadd dX9_keeps_102 ?_
          refine g_iconst dX9_keeps_103 ic_4 ?_
          refine g_iload_n dX9_keeps_104 rfl ?_
          refine n_imul dX9_keeps_105 ?_
          refine n_iadd dX9_keeps_106 ?_
          refine g_iload dX9_keeps_107 rfl ?_
          refine n_if_eq (tgt := 121) (by omega) dX9_keeps_109 rfl (fun _ => ?_) (fun zc109 => absurd zc109 (by decide))
          refine g_iconst dX9_keeps_121 ic_m1 ?_
          refine q_iast dX9_keeps_122 ck_85 (ixD_nI (by omega) (by decide)) ?_
          refine g_heap (h' := HH (uI (uI (kmS (sKeep σ s) (σ 85) n q k) 85 (56 + 33 * q + 1 + 4 * k) (kxR (σ 85) n k)) 85 (56 + 33 * q + 2 + 4 * k) (kyR (σ 85) n k)) δ) (congrArg (fun z => HH (uI (uI (kmS (sKeep σ s) (σ 85) n q k) 85 (56 + 33 * q + 1 + 4 * k) (kxR (σ 85) n k)) 85 _ z) δ) (by clear ih40; unfold kyR; (first | have hkn : k < n := (by omega) | have hkn : ¬ k < n := (by omega)); simp [lK, *])) ?_
          refine g_aload_n dX9_keeps_123 rfl ?_
          refine q_getq dX9_keeps_124 f_R_7 ck_84 (by decide) ty_8_0 rf_84_0 ?_
          refine g_iload_n dX9_keeps_127 rfl ?_
          refine g_iconst dX9_keeps_128 ic_3 ?_
          refine n_iadd dX9_keeps_129 ?_
          refine g_iconst dX9_keeps_130 ic_4 ?_
          refine g_iload_n dX9_keeps_131 rfl ?_
          refine n_imul dX9_keeps_132 ?_
          refine n_iadd dX9_keeps_133 ?_
          refine g_iload dX9_keeps_134 rfl ?_
          refine n_if_eq (tgt := 147) (by omega) dX9_keeps_136 rfl (fun _ => ?_) (fun zc136 => absurd zc136 (by decide))
          refine g_iconst dX9_keeps_147 ic_0 ?_
          refine q_iast dX9_keeps_148 ck_85 (ixD_nI (by omega) (by decide)) ?_
          refine g_heap (h' := HH (uI (uI (uI (kmS (sKeep σ s) (σ 85) n q k) 85 (56 + 33 * q + 1 + 4 * k) (kxR (σ 85) n k)) 85 (56 + 33 * q + 2 + 4 * k) (kyR (σ 85) n k)) 85 (56 + 33 * q + 3 + 4 * k) (kwR (σ 85) n k)) δ) (congrArg (fun z => HH (uI (uI (uI (kmS (sKeep σ s) (σ 85) n q k) 85 (56 + 33 * q + 1 + 4 * k) (kxR (σ 85) n k)) 85 (56 + 33 * q + 2 + 4 * k) (kyR (σ 85) n k)) 85 _ z) δ) (by clear ih40; unfold kwR; (first | have hkn : k < n := (by omega) | have hkn : ¬ k < n := (by omega)); simp [lK, *])) ?_
          refine g_aload_n dX9_keeps_149 rfl ?_
          refine q_getq dX9_keeps_150 f_R_7 ck_84 (by decide) ty_8_0 rf_84_0 ?_
          refine g_iload_n dX9_keeps_153 rfl ?_
          refine g_iconst dX9_keeps_154 ic_4 ?_
          refine n_iadd dX9_keeps_155 ?_
          refine g_iconst dX9_keeps_156 ic_4 ?_
          refine g_iload_n dX9_keeps_157 rfl ?_
          refine n_imul dX9_keeps_158 ?_
          refine n_iadd dX9_keeps_159 ?_
          refine g_iload dX9_keeps_160 rfl ?_
          refine n_if_eq (tgt := 173) (by omega) dX9_keeps_162 rfl (fun _ => ?_) (fun zc162 => absurd zc162 (by decide))
          refine g_iconst dX9_keeps_173 ic_0 ?_
          refine q_iast dX9_keeps_174 ck_85 (ixD_nI (by omega) (by decide)) ?_
          refine n_iinc (b := 1) dX9_keeps_175 rfl rfl rfl ?_
          refine g_goto (tgt := 40) dX9_keeps_178 rfl ?_
          refine g_heap (show _ = HH (kmS (sKeep σ s) (σ 85) n q (k + 1)) δ from congrArg (fun z => HH (uI (uI (uI (uI (kmS (sKeep σ s) (σ 85) n q k) 85 (56 + 33 * q + 1 + 4 * k) (kxR (σ 85) n k)) 85 (56 + 33 * q + 2 + 4 * k) (kyR (σ 85) n k)) 85 (56 + 33 * q + 3 + 4 * k) (kwR (σ 85) n k)) 85 (56 + 33 * q + 4 + 4 * k) z) δ) (by clear ih40; unfold khR; (first | have hkn : k < n := (by omega) | have hkn : ¬ k < n := (by omega)); simp [lK, *])) ?_
          exact g_can _ (by exact ⟨rfl, rfl, rfl, rfl, trivial⟩) (ih40 (k + 1) (by omega) (by omega))
        · refine g_aload_n dX9_keeps_54 rfl ?_
          refine g_iload_n dX9_keeps_55 rfl ?_
          refine g_v1 (M' := KR_lies) dX9_keeps_56 l_R_82 v_KR_lies (c_KR_lies (by omega)) rc_84 rfl rfl ⟨rfl, rfl⟩ ?_
          refine g_top (show bI (liesA (kmS (sKeep σ s) (σ 85) n q k 85) k) = bI (liesA (σ 85) k) by unfold liesA its; rw [km_lo (by omega), hJ1.row]) ?_
          refine b_if_eq (tgt := 66) dX9_keeps_59 rfl (fun zc59 => ?_) (fun zc59 => ?_)
          · refine g_iconst dX9_keeps_66 ic_0 ?_
            refine g_istore dX9_keeps_67 rfl ?_
            refine g_aload_n dX9_keeps_69 rfl ?_
            refine q_getq dX9_keeps_70 f_R_7 ck_84 (by decide) ty_8_0 rf_84_0 ?_
            refine g_iload_n dX9_keeps_73 rfl ?_
            refine g_iconst dX9_keeps_74 ic_1 ?_
            refine n_iadd dX9_keeps_75 ?_
            refine g_iconst dX9_keeps_76 ic_4 ?_
            refine g_iload_n dX9_keeps_77 rfl ?_
            refine n_imul dX9_keeps_78 ?_
            refine n_iadd dX9_keeps_79 ?_
            refine g_iload dX9_keeps_80 rfl ?_
            refine n_if_eq (tgt := 94) (by omega) dX9_keeps_82 rfl (fun _ => ?_) (fun zc82 => absurd zc82 (by decide))
            refine g_iconst dX9_keeps_94 ic_m1 ?_
            refine q_iast dX9_keeps_95 ck_85 (ixD_nI (by omega) (by decide)) ?_
            refine g_heap (h' := HH (uI (kmS (sKeep σ s) (σ 85) n q k) 85 (56 + 33 * q + 1 + 4 * k) (kxR (σ 85) n k)) δ) (congrArg (fun z => HH (uI (kmS (sKeep σ s) (σ 85) n q k) 85 _ z) δ) (by clear ih40; unfold kxR; (first | have hkn : k < n := (by omega) | have hkn : ¬ k < n := (by omega)); simp [lK, *])) ?_
            refine g_aload_n dX9_keeps_96 rfl ?_
            refine q_getq dX9_keeps_97 f_R_7 ck_84 (by decide) ty_8_0 rf_84_0 ?_
            refine g_iload_n dX9_keeps_100 rfl ?_
            refine g_iconst dX9_keeps_101 ic_2 ?_
            refine n_iadd dX9_keeps_102 ?_
            refine g_iconst dX9_keeps_103 ic_4 ?_
            refine g_iload_n dX9_keeps_104 rfl ?_
            refine n_imul dX9_keeps_105 ?_
            refine n_iadd dX9_keeps_106 ?_
            refine g_iload dX9_keeps_107 rfl ?_
            refine n_if_eq (tgt := 121) (by omega) dX9_keeps_109 rfl (fun _ => ?_) (fun zc109 => absurd zc109 (by decide))
            refine g_iconst dX9_keeps_121 ic_m1 ?_
            refine q_iast dX9_keeps_122 ck_85 (ixD_nI (by omega) (by decide)) ?_
            refine g_heap (h' := HH (uI (uI (kmS (sKeep σ s) (σ 85) n q k) 85 (56 + 33 * q + 1 + 4 * k) (kxR (σ 85) n k)) 85 (56 + 33 * q + 2 + 4 * k) (kyR (σ 85) n k)) δ) (congrArg (fun z => HH (uI (uI (kmS (sKeep σ s) (σ 85) n q k) 85 (56 + 33 * q + 1 + 4 * k) (kxR (σ 85) n k)) 85 _ z) δ) (by clear ih40; unfold kyR; (first | have hkn : k < n := (by omega) | have hkn : ¬ k < n := (by omega)); simp [lK, *])) ?_
            refine g_aload_n dX9_keeps_123 rfl ?_
            refine q_getq dX9_keeps_124 f_R_7 ck_84 (by decide) ty_8_0 rf_84_0 ?_
            refine g_iload_n dX9_keeps_127 rfl ?_
            refine g_iconst dX9_keeps_128 ic_3 ?_
            refine n_iadd dX9_keeps_129 ?_
            refine g_iconst dX9_keeps_130 ic_4 ?_
            refine g_iload_n dX9_keeps_131 rfl ?_
            refine n_imul dX9_keeps_132 ?_
            refine n_iadd dX9_keeps_133 ?_
            refine g_iload dX9_keeps_134 rfl ?_
            refine n_if_eq (tgt := 147) (by omega) dX9_keeps_136 rfl (fun _ => ?_) (fun zc136 => absurd zc136 (by decide))
            refine g_iconst dX9_keeps_147 ic_0 ?_
            refine q_iast dX9_keeps_148 ck_85 (ixD_nI (by omega) (by decide)) ?_
            refine g_heap (h' := HH (uI (uI (uI (kmS (sKeep σ s) (σ 85) n q k) 85 (56 + 33 * q + 1 + 4 * k) (kxR (σ 85) n k)) 85 (56 + 33 * q + 2 + 4 * k) (kyR (σ 85) n k)) 85 (56 + 33 * q + 3 + 4 * k) (kwR (σ 85) n k)) δ) (congrArg (fun z => HH (uI (uI (uI (kmS (sKeep σ s) (σ 85) n q k) 85 (56 + 33 * q + 1 + 4 * k) (kxR (σ 85) n k)) 85 (56 + 33 * q + 2 + 4 * k) (kyR (σ 85) n k)) 85 _ z) δ) (by clear ih40; unfold kwR; (first | have hkn : k < n := (by omega) | have hkn : ¬ k < n := (by omega)); simp [lK, *])) ?_
            refine g_aload_n dX9_keeps_149 rfl ?_
            refine q_getq dX9_keeps_150 f_R_7 ck_84 (by decide) ty_8_0 rf_84_0 ?_
            refine g_iload_n dX9_keeps_153 rfl ?_
            refine g_iconst dX9_keeps_154 ic_4 ?_
            refine n_iadd dX9_keeps_155 ?_
            refine g_iconst dX9_keeps_156 ic_4 ?_
            refine g_iload_n dX9_keeps_157 rfl ?_
            refine n_imul dX9_keeps_158 ?_
            refine n_iadd dX9_keeps_159 ?_
            refine g_iload dX9_keeps_160 rfl ?_
            refine n_if_eq (tgt := 173) (by omega) dX9_keeps_162 rfl (fun _ => ?_) (fun zc162 => absurd zc162 (by decide))
            refine g_iconst dX9_keeps_173 ic_0 ?_
            refine q_iast dX9_keeps_174 ck_85 (ixD_nI (by omega) (by decide)) ?_
            refine n_iinc (b := 1) dX9_keeps_175 rfl rfl rfl ?_
            refine g_goto (tgt := 40) dX9_keeps_178 rfl ?_
            refine g_heap (show _ = HH (kmS (sKeep σ s) (σ 85) n q (k + 1)) δ from congrArg (fun z => HH (uI (uI (uI (uI (kmS (sKeep σ s) (σ 85) n q k) 85 (56 + 33 * q + 1 + 4 * k) (kxR (σ 85) n k)) 85 (56 + 33 * q + 2 + 4 * k) (kyR (σ 85) n k)) 85 (56 + 33 * q + 3 + 4 * k) (kwR (σ 85) n k)) 85 (56 + 33 * q + 4 + 4 * k) z) δ) (by clear ih40; unfold khR; (first | have hkn : k < n := (by omega) | have hkn : ¬ k < n := (by omega)); simp [lK, *])) ?_
            exact g_can _ (by exact ⟨rfl, rfl, rfl, rfl, trivial⟩) (ih40 (k + 1) (by omega) (by omega))
          · refine g_iconst dX9_keeps_62 ic_1 ?_
            refine g_goto (tgt := 67) dX9_keeps_63 rfl ?_
            refine g_istore dX9_keeps_67 rfl ?_
            refine g_aload_n dX9_keeps_69 rfl ?_
            refine q_getq dX9_keeps_70 f_R_7 ck_84 (by decide) ty_8_0 rf_84_0 ?_
            refine g_iload_n dX9_keeps_73 rfl ?_
            refine g_iconst dX9_keeps_74 ic_1 ?_
            refine n_iadd dX9_keeps_75 ?_
            refine g_iconst dX9_keeps_76 ic_4 ?_
            refine g_iload_n dX9_keeps_77 rfl ?_
            refine n_imul dX9_keeps_78 ?_
            refine n_iadd dX9_keeps_79 ?_
            refine g_iload dX9_keeps_80 rfl ?_
            refine n_if_eq (tgt := 94) (by omega) dX9_keeps_82 rfl (fun zc82 => absurd zc82 (by decide)) (fun _ => ?_)
            refine g_aload_n dX9_keeps_85 rfl ?_
            refine g_iload_n dX9_keeps_86 rfl ?_
            refine g_iconst dX9_keeps_87 ic_4 ?_
            refine g_v2 (M' := KR_its) dX9_keeps_88 l_R_50 v_KR_its (c_KR_its (by omega) (by omega)) rc_84 rfl rfl ⟨rfl, rfl⟩ ?_
            refine g_top (show its (kmS (sKeep σ s) (σ 85) n q k 85) k 4 = its (σ 85) k 4 by unfold its; rw [km_lo (by omega), hJ1.row]) ?_
            refine g_goto (tgt := 95) dX9_keeps_91 rfl ?_
            refine q_iast dX9_keeps_95 ck_85 (ixD_nI (by omega) (by decide)) ?_
            refine g_heap (h' := HH (uI (kmS (sKeep σ s) (σ 85) n q k) 85 (56 + 33 * q + 1 + 4 * k) (kxR (σ 85) n k)) δ) (congrArg (fun z => HH (uI (kmS (sKeep σ s) (σ 85) n q k) 85 _ z) δ) (by clear ih40; unfold kxR; (first | have hkn : k < n := (by omega) | have hkn : ¬ k < n := (by omega)); simp [lK, *])) ?_
            refine g_aload_n dX9_keeps_96 rfl ?_
            refine q_getq dX9_keeps_97 f_R_7 ck_84 (by decide) ty_8_0 rf_84_0 ?_
            refine g_iload_n dX9_keeps_100 rfl ?_
            refine g_iconst dX9_keeps_101 ic_2 ?_
            refine n_iadd dX9_keeps_102 ?_
            refine g_iconst dX9_keeps_103 ic_4 ?_
            refine g_iload_n dX9_keeps_104 rfl ?_
            refine n_imul dX9_keeps_105 ?_
            refine n_iadd dX9_keeps_106 ?_
            refine g_iload dX9_keeps_107 rfl ?_
            refine n_if_eq (tgt := 121) (by omega) dX9_keeps_109 rfl (fun zc109 => absurd zc109 (by decide)) (fun _ => ?_)
            refine g_aload_n dX9_keeps_112 rfl ?_
            refine g_iload_n dX9_keeps_113 rfl ?_
            refine g_iconst dX9_keeps_114 ic_5 ?_
            refine g_v2 (M' := KR_its) dX9_keeps_115 l_R_50 v_KR_its (c_KR_its (by omega) (by omega)) rc_84 rfl rfl ⟨rfl, rfl⟩ ?_
            refine g_top (show its (uI (kmS (sKeep σ s) (σ 85) n q k) 85 (56 + 33 * q + 1 + 4 * k) (kxR (σ 85) n k) 85) k 5 = its (σ 85) k 5 by unfold its; rw [uI_oth (by omega), km_lo (by omega), hJ1.row]) ?_
            refine g_goto (tgt := 122) dX9_keeps_118 rfl ?_
            refine q_iast dX9_keeps_122 ck_85 (ixD_nI (by omega) (by decide)) ?_
            refine g_heap (h' := HH (uI (uI (kmS (sKeep σ s) (σ 85) n q k) 85 (56 + 33 * q + 1 + 4 * k) (kxR (σ 85) n k)) 85 (56 + 33 * q + 2 + 4 * k) (kyR (σ 85) n k)) δ) (congrArg (fun z => HH (uI (uI (kmS (sKeep σ s) (σ 85) n q k) 85 (56 + 33 * q + 1 + 4 * k) (kxR (σ 85) n k)) 85 _ z) δ) (by clear ih40; unfold kyR; (first | have hkn : k < n := (by omega) | have hkn : ¬ k < n := (by omega)); simp [lK, *])) ?_
            refine g_aload_n dX9_keeps_123 rfl ?_
            refine q_getq dX9_keeps_124 f_R_7 ck_84 (by decide) ty_8_0 rf_84_0 ?_
            refine g_iload_n dX9_keeps_127 rfl ?_
            refine g_iconst dX9_keeps_128 ic_3 ?_
            refine n_iadd dX9_keeps_129 ?_
            refine g_iconst dX9_keeps_130 ic_4 ?_
            refine g_iload_n dX9_keeps_131 rfl ?_
            refine n_imul dX9_keeps_132 ?_
            refine n_iadd dX9_keeps_133 ?_
            refine g_iload dX9_keeps_134 rfl ?_
            refine n_if_eq (tgt := 147) (by omega) dX9_keeps_136 rfl (fun zc136 => absurd zc136 (by decide)) (fun _ => ?_)
            refine g_aload_n dX9_keeps_139 rfl ?_
            refine g_iload_n dX9_keeps_140 rfl ?_
            refine g_v1 (M' := KR_wide) dX9_keeps_141 l_R_64 v_KR_wide (c_KR_wide (km_WF2 hW hJ1.row hq3 (by omega)) (by omega)) rc_84 rfl rfl ⟨rfl, rfl⟩ ?_
            refine g_top (lo_wide (a := σ 85) (fun j hj => by rw [uI_oth (by omega), uI_oth (by omega), km_lo hj, hJ1.row]) (by omega)) ?_
            refine g_goto (tgt := 148) dX9_keeps_144 rfl ?_
            refine q_iast dX9_keeps_148 ck_85 (ixD_nI (by omega) (by decide)) ?_
            refine g_heap (h' := HH (uI (uI (uI (kmS (sKeep σ s) (σ 85) n q k) 85 (56 + 33 * q + 1 + 4 * k) (kxR (σ 85) n k)) 85 (56 + 33 * q + 2 + 4 * k) (kyR (σ 85) n k)) 85 (56 + 33 * q + 3 + 4 * k) (kwR (σ 85) n k)) δ) (congrArg (fun z => HH (uI (uI (uI (kmS (sKeep σ s) (σ 85) n q k) 85 (56 + 33 * q + 1 + 4 * k) (kxR (σ 85) n k)) 85 (56 + 33 * q + 2 + 4 * k) (kyR (σ 85) n k)) 85 _ z) δ) (by clear ih40; unfold kwR; (first | have hkn : k < n := (by omega) | have hkn : ¬ k < n := (by omega)); simp [lK, *])) ?_
            refine g_aload_n dX9_keeps_149 rfl ?_
            refine q_getq dX9_keeps_150 f_R_7 ck_84 (by decide) ty_8_0 rf_84_0 ?_
            refine g_iload_n dX9_keeps_153 rfl ?_
            refine g_iconst dX9_keeps_154 ic_4 ?_
            refine n_iadd dX9_keeps_155 ?_
            refine g_iconst dX9_keeps_156 ic_4 ?_
            refine g_iload_n dX9_keeps_157 rfl ?_
            refine n_imul dX9_keeps_158 ?_
            refine n_iadd dX9_keeps_159 ?_
            refine g_iload dX9_keeps_160 rfl ?_
            refine n_if_eq (tgt := 173) (by omega) dX9_keeps_162 rfl (fun zc162 => absurd zc162 (by decide)) (fun _ => ?_)
            refine g_aload_n dX9_keeps_165 rfl ?_
            refine g_iload_n dX9_keeps_166 rfl ?_
            refine g_v1 (M' := KR_high) dX9_keeps_167 l_R_68 v_KR_high (c_KR_high (km_WF3 hW hJ1.row hq3 (by omega)) (by omega)) rc_84 rfl rfl ⟨rfl, rfl⟩ ?_
            refine g_top (lo_high (a := σ 85) (fun j hj => by rw [uI_oth (by omega), uI_oth (by omega), uI_oth (by omega), km_lo hj, hJ1.row]) (by omega)) ?_
            refine g_goto (tgt := 174) dX9_keeps_170 rfl ?_
            refine q_iast dX9_keeps_174 ck_85 (ixD_nI (by omega) (by decide)) ?_
            refine n_iinc (b := 1) dX9_keeps_175 rfl rfl rfl ?_
            refine g_goto (tgt := 40) dX9_keeps_178 rfl ?_
            refine g_heap (show _ = HH (kmS (sKeep σ s) (σ 85) n q (k + 1)) δ from congrArg (fun z => HH (uI (uI (uI (uI (kmS (sKeep σ s) (σ 85) n q k) 85 (56 + 33 * q + 1 + 4 * k) (kxR (σ 85) n k)) 85 (56 + 33 * q + 2 + 4 * k) (kyR (σ 85) n k)) 85 (56 + 33 * q + 3 + 4 * k) (kwR (σ 85) n k)) 85 (56 + 33 * q + 4 + 4 * k) z) δ) (by clear ih40; unfold khR; (first | have hkn : k < n := (by omega) | have hkn : ¬ k < n := (by omega)); simp [lK, *])) ?_
            exact g_can _ (by exact ⟨rfl, rfl, rfl, rfl, trivial⟩) (ih40 (k + 1) (by omega) (by omega))
  exact g_can _ (by exact ⟨rfl, rfl, rfl, rfl, trivial⟩) (H40 _ 0 (by omega) (Nat.lt_succ_self _))
set_option maxRecDepth 100000 in
theorem c_KR_keeps_no2 {σ : SI} {δ : SD} {a : Nat → Int32} {n s tl : Nat} {P : Nat → Nat → Int32} {tx rf : Nat → Int32} (hJ : IR σ a s P tl tx rf) (hs : s ≤ 5) (hW : WF a n) {q : Int32} (hq3 : inB q (nI 0) (nI 2) = false) : E KR_keeps [.ref 84, .int q] (HH σ δ) (some (.int (-2))) (HH (rfM σ 0) δ) := by
  obtain rfl := hJ.row
  have h3 := hJ.sd
  have hJ1 := hJ.keep hs
  have hn := hW.n8
  have h7 := hW.a7
  have hW1 : WF (sKeep σ s 85) n := by rw [hJ1.row]; exact hW
  refine E.ofL [some (.ref 84), some (.int q)] rfl pn_RX9 rfl (fun sc => ?_)
  refine g_iload_n dX9_keeps_0 rfl ?_
  refine g_i2l dX9_keeps_1 ?_
  refine g_lconst (v := 0) dX9_keeps_2 rfl ?_
  refine g_ldcl dX9_keeps_3 c_R_117 ?_
  refine g_s3 (M' := KR_in) dX9_keeps_6 l_R_46 s_KR_in c_KR_in rfl rfl ⟨rfl, rfl⟩ ?_
  refine b_if_ne (tgt := 19) dX9_keeps_9 rfl (fun zc9 => ?_) (fun zc9 => ?_)
  · rw [w64_0, w64_2, inL_wide] at zc9; exact absurd zc9 (by rw [hq3]; decide)
  · refine g_aload_n dX9_keeps_12 rfl ?_
    refine g_bipush dX9_keeps_13 bp_m2 ?_
    refine g_v1 (M' := KR_refuses) dX9_keeps_15 l_R_101 v_KR_refuses c_KR_refuses0 rc_84 rfl rfl ⟨rfl, rfl⟩ ?_
    exact e_iret dX9_keeps_18 rfl (by rfl) (by rfl)
