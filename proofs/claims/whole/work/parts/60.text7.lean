/-! THE TEXT: a fault in it -/
def odM (tc : Nat → Nat) (tl : Nat) (Mr : Nat → Int32) (s : Nat) : Nat → Int32 := if nbI (hrV tc tl s) = -1 then Mr else rnM tc tl Mr s (nbI (hrV tc tl s)).toNatClampNeg
def sqM (tc : Nat → Nat) (tl : Nat) (M0 : Nat → Int32) : Nat → Nat → Int32
  | 0 => M0
  | i + 1 => odM tc tl (sqM tc tl M0 i) (sqP tc tl i)
section RO
variable {σ : SI} {δ : SD} {tc : Nat → Nat} {tl p s i k : Nat} {Mr : Nat → Int32}
theorem rS_0 : uI σ 84 13 (nI 0) = rS σ 0 (σ 93) := by
  unfold rS
  funext x y
  unfold uR
  by_cases h : x = 93
  · rw [if_pos h, h, uI_ne (by decide)]
  · rw [if_neg h]
theorem c_KR_rO (hT : TXR σ tc tl) (hp : p ≤ 120) (hsz : skP tc tl p = s) : E KR_readsOrder [.ref 84, .int (nI 0)] (HH (rS σ p Mr) δ) (some (.int (bI (odE tc tl s).2))) (HH (rS σ (odE tc tl s).1 (odM tc tl Mr s)) δ) := by
  rcases nb_rng (hrV tc tl s) with h | ⟨m, hm4, hm⟩
  · unfold odE odM
    rw [if_pos h, if_pos h]
    exact c_KR_readsOrder0_no hT hp hsz h
  · have hn : ¬ nbI (hrV tc tl s) = -1 := by rw [hm]; exact nI_m1 (by omega)
    unfold odE odM
    rw [if_neg hn, if_neg hn, hm, nI_clamp (by omega)]
    exact c_KR_readsOrder0_ok hT hp hsz hm hm4
theorem od_leR (hT : TXR σ tc tl) (hp : p ≤ 120) : (odE tc tl p).1 ≤ 120 := by
  have htl := hT.2.1
  unfold odE
  rcases nb_rng (hrV tc tl p) with h | ⟨m, hm4, hm⟩
  · rw [if_pos h]; exact hp
  · rw [if_neg (by rw [hm]; exact nI_m1 (by omega)), hm, nI_clamp (by omega)]
    have hp1 := nb_ltR hT hm
    have ho := on_leR hT hp1 m
    cases h : (onP tc tl p m).2 with
    | false => rw [or_x h]; exact ho
    | true =>
      by_cases h2 : hrV tc tl (skP tc tl (onP tc tl p m).1) = nI 59
      · rw [or_y h h2]
        by_cases g : skP tc tl (onP tc tl p m).1 < tl
        · show skP tc tl (onP tc tl p m).1 + 1 ≤ 120
          omega
        · rw [hr_n g] at h2; exact absurd h2 (by decide)
      · rw [or_n h h2]; exact skP_leR hT ho
theorem sq_leR (hT : TXR σ tc tl) : ∀ i, sqP tc tl i ≤ 120
  | 0 => skP_leR hT (by omega)
  | i + 1 => skP_leR hT (od_leR hT (sq_leR hT i))
theorem hr_nm (hT : TXR σ tc tl) (h : p < tl) : ¬ hrV tc tl p = -1 := by
  rw [hr_y h]
  have := (hT.2.2 p h).2
  exact nI_m1 (by omega)
end RO
/-! how far an order goes -/
section GE
variable {tc : Nat → Nat} {tl p s i j k m : Nat}
theorem skI_ge : ∀ i, p ≤ skI tc tl p i
  | 0 => Nat.le_refl p
  | i + 1 => by
    have ih := skI_ge i
    by_cases h : hrV tc tl (skI tc tl p i) = nI 32
    · rw [sk_y h]; omega
    · rw [sk_n h]; exact ih
theorem skP_ge : p ≤ skP tc tl p := skI_ge 120
theorem nmE_ge : p ≤ nmE tc tl p := by
  unfold nmE
  split
  · split <;> omega
  · exact Nat.le_refl p
theorem on_ge : ∀ j, p + 1 ≤ (onP tc tl p j).1
  | 0 => Nat.le_refl _
  | j + 1 => by
    have ih := on_ge j
    unfold onP
    split
    · exact Nat.le_trans ih (Nat.le_trans skP_ge nmE_ge)
    · exact ih
theorem od_ge (h : (odE tc tl p).2 = true) : p + 2 ≤ (odE tc tl p).1 := by
  unfold odE at h ⊢
  split at h
  · exact absurd h Bool.false_ne_true
  · rename_i hn
    rw [if_neg hn]
    generalize (nbI (hrV tc tl p)).toNatClampNeg = m at h ⊢
    cases e : (onP tc tl p m).2 with
    | false => rw [or_x e, e] at h; exact absurd h (by decide)
    | true =>
      by_cases h2 : hrV tc tl (skP tc tl (onP tc tl p m).1) = nI 59
      · rw [or_y e h2]
        have := on_ge (tc := tc) (tl := tl) (p := p) m
        have := skP_ge (tc := tc) (tl := tl) (p := (onP tc tl p m).1)
        show p + 2 ≤ skP tc tl (onP tc tl p m).1 + 1
        omega
      · rw [or_n e h2] at h; exact absurd h Bool.false_ne_true
theorem sq_ge : ∀ k, (∀ i, i < k → (odE tc tl (sqP tc tl i)).2 = true) → 2 * k ≤ sqP tc tl k
  | 0, _ => Nat.zero_le _
  | k + 1, h => by
    have ih := sq_ge k (fun i hi => h i (by omega))
    have h1 := od_ge (h k (by omega))
    have h2 := skP_ge (tc := tc) (tl := tl) (p := (odE tc tl (sqP tc tl k)).1)
    show 2 * (k + 1) ≤ skP tc tl (odE tc tl (sqP tc tl k)).1
    omega
/-- nothing there, a fault, or k orders -/
theorem tx_cases (htl : tl ≤ 120) : (∃ k, k < 60 ∧ (∀ i, i < k → (odE tc tl (sqP tc tl i)).2 = true ∧ sqP tc tl i < tl) ∧ sqP tc tl k < tl ∧ (odE tc tl (sqP tc tl k)).2 = false) ∨ (∃ k, k ≤ 60 ∧ (∀ i, i < k → (odE tc tl (sqP tc tl i)).2 = true ∧ sqP tc tl i < tl) ∧ ¬ sqP tc tl k < tl) := by
  have key : ∀ j, (∀ i, i < j → (odE tc tl (sqP tc tl i)).2 = true ∧ sqP tc tl i < tl) ∨ ((∃ k, k < 60 ∧ (∀ i, i < k → (odE tc tl (sqP tc tl i)).2 = true ∧ sqP tc tl i < tl) ∧ sqP tc tl k < tl ∧ (odE tc tl (sqP tc tl k)).2 = false) ∨ (∃ k, k ≤ 60 ∧ (∀ i, i < k → (odE tc tl (sqP tc tl i)).2 = true ∧ sqP tc tl i < tl) ∧ ¬ sqP tc tl k < tl)) := fun j => by
    induction j with
    | zero => exact Or.inl (fun i hi => absurd hi (Nat.not_lt_zero i))
    | succ j ih =>
      rcases ih with ih | ih
      · have hg := sq_ge j (fun i hi => (ih i hi).1)
        by_cases g : sqP tc tl j < tl
        · cases e : (odE tc tl (sqP tc tl j)).2 with
          | false => exact Or.inr (Or.inl ⟨j, by omega, ih, g, e⟩)
          | true =>
            refine Or.inl (fun i hi => ?_)
            rcases Nat.lt_or_ge i j with h | h
            · exact ih i h
            · obtain rfl : i = j := by omega
              exact ⟨e, g⟩
        · by_cases hj : j ≤ 60
          · exact Or.inr (Or.inr ⟨j, hj, ih, g⟩)
          · have := sq_ge 60 (fun i hi => (ih i (by omega)).1)
            have := (ih 60 (by omega)).2
            omega
      · exact Or.inr ih
  rcases key 61 with h | h
  · have := sq_ge 60 (fun i hi => (h i (by omega)).1)
    have := (h 60 (by omega)).2
    omega
  · exact h
end GE
set_option maxRecDepth 100000 in
set_option maxHeartbeats 200000 in
theorem c_KR_reads_bad {σ : SI} {δ : SD} {tc : Nat → Nat} {tl : Nat} (hT : TXR σ tc tl) {k : Nat} (hk : k < 60) (hq : ∀ i, i < k → (odE tc tl (sqP tc tl i)).2 = true ∧ sqP tc tl i < tl) (hkl : sqP tc tl k < tl ∨ k = 0) (hf : (odE tc tl (sqP tc tl k)).2 = false) : E KR_reads [.ref 84] (HH σ δ) (some (.int (-10 - nI (odE tc tl (sqP tc tl k)).1))) (HH (rS σ ((odE tc tl (sqP tc tl k)).1) (sqM tc tl (σ 93) (k + 1))) δ) := by
  have htl := hT.2.1
  refine E.ofL [some (.ref 84)] rfl pn_RX9 rfl (fun sc => ?_)
  generalize hRz : (fun (zr : Option Value) (zk : XH) => zr = some (.int (-10 - nI (odE tc tl (sqP tc tl k)).1)) ∧ zk = HH (rS σ ((odE tc tl (sqP tc tl k)).1) (sqM tc tl (σ 93) (k + 1))) δ) = R
  refine g_aload_n dX9_reads_0 rfl ?_
  refine g_iconst dX9_reads_1 ic_0 ?_
  refine q_puti dX9_reads_2 f_R_304 ck_84 (by decide) ty_8_13 fi_8_13 ?_
  refine g_heap (congrArg (fun z => HH z δ) rS_0) ?_
  refine g_aload_n dX9_reads_5 rfl ?_
  refine g_iconst dX9_reads_6 ic_0 ?_
  refine g_v1 (M' := KR_readsOrder) dX9_reads_7 l_R_338 v_KR_readsOrder (c_KR_rO hT (by omega) rfl) rc_84 HH_len rfl ⟨rfl, rfl⟩ ?_
  refine g_istore_n dX9_reads_10 rfl ?_
  refine g_heap (show _ = HH (rS σ ((odE tc tl (sqP tc tl 0)).1) (sqM tc tl (σ 93) (0 + 1))) δ from rfl) ?_
  have H11 : ∀ (N : Nat) (i : Nat), i ≤ k → 61 - i < N → G sc KR_reads 11 (aL [some (.ref 84), some (.int (bI (odE tc tl (sqP tc tl i)).2))]) [] (HH (rS σ ((odE tc tl (sqP tc tl i)).1) (sqM tc tl (σ 93) (i + 1))) δ) (0, 0) R := by
    intro N
    induction N with
    | zero => intro i h1 hN11; exact absurd hN11 (Nat.not_lt_zero _)
    | succ N ih11 =>
      intro i h1 hN11
      refine g_iload_n dX9_reads_11 rfl ?_
      refine b_if_eq (tgt := 32) dX9_reads_12 rfl (fun zc12 => ?_) (fun zc12 => ?_)
      · have hik : i = k := (Nat.lt_or_ge i k).elim (fun h => by rw [(hq i h).1] at zc12; exact absurd zc12 (by decide)) (fun h => by omega)
        refine g_iload_n dX9_reads_32 rfl ?_
        refine b_if_ne (tgt := 44) dX9_reads_33 rfl (fun zc33 => ?_) (fun zc33 => ?_)
        · exact absurd zc33 (by rw [hik, hf]; decide)
        · obtain rfl := hik
          refine g_bipush dX9_reads_36 bp_m10 ?_
          refine g_aload_n dX9_reads_38 rfl ?_
          refine q_geti dX9_reads_39 f_R_304 ck_84 (by decide) ty_8_13 ?_
          refine g_top rS_p ?_
          refine g_isub dX9_reads_42 ?_
          exact g_iret (S := []) dX9_reads_43 rfl (by rw [← hRz]; exact ⟨congrArg (fun zz => some (Value.int zz)) (show _ = _ by rfl), by rfl⟩) (Nat.zero_le _) (Nat.zero_le _)
      · have hik : i < k := (Nat.lt_or_ge i k).elim id (fun h => by rw [show i = k by omega, hf] at zc12; exact absurd zc12 (by decide))
        have hnl : sqP tc tl (i + 1) < tl := (Nat.lt_or_ge (i + 1) k).elim (fun h => (hq (i + 1) h).2) (fun h => by rw [show i + 1 = k by omega]; exact hkl.elim id (fun e => absurd e (by omega)))
        refine g_aload_n dX9_reads_15 rfl ?_
        refine g_v0 (M' := KR_here) dX9_reads_16 l_R_311 v_KR_here (c_KR_here hT (od_leR hT (sq_leR hT i))) rc_84 HH_len rfl ⟨rfl, rfl⟩ ?_
        refine g_iconst dX9_reads_19 ic_m1 ?_
        refine g_icmp_eq (tgt := 32) dX9_reads_20 rfl (fun zc20 => ?_) (fun zc20 => ?_)
        · exact absurd zc20 (hr_nm hT hnl)
        · refine g_aload_n dX9_reads_23 rfl ?_
          refine g_iconst dX9_reads_24 ic_0 ?_
          refine g_v1 (M' := KR_readsOrder) dX9_reads_25 l_R_338 v_KR_readsOrder (c_KR_rO hT (sq_leR hT (i + 1)) (skP_at (skP_end htl))) rc_84 HH_len rfl ⟨rfl, rfl⟩ ?_
          refine g_istore_n dX9_reads_28 rfl ?_
          refine g_goto (tgt := 11) dX9_reads_29 rfl ?_
          refine g_heap (show _ = HH (rS σ ((odE tc tl (sqP tc tl (i + 1))).1) (sqM tc tl (σ 93) (i + 1 + 1))) δ from rfl) ?_
          exact g_can _ (by exact ⟨rfl, rfl, trivial⟩) (ih11 (i + 1) (by omega) (by omega))
  exact g_can _ (by exact ⟨rfl, rfl, trivial⟩) (H11 _ 0 (by omega) (Nat.lt_succ_self _))
