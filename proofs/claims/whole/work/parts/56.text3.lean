/-! THE TEXT: all its orders -/
def odE (tc : Nat → Nat) (tl p : Nat) : Nat × Bool := if nbI (hrV tc tl p) = -1 then (p, false) else orF tc tl p (nbI (hrV tc tl p)).toNatClampNeg
def odL (tc : Nat → Nat) (tl : Nat) (Lr : Nat → Int32) (k p : Nat) : Nat → Int32 := if nbI (hrV tc tl p) = -1 then Lr else upd Lr k (hrV tc tl p)
def odN (tc : Nat → Nat) (tl : Nat) (Nr : Nat → Int32) (k p : Nat) : Nat → Int32 := if nbI (hrV tc tl p) = -1 then Nr else onN tc tl Nr k p (nbI (hrV tc tl p)).toNatClampNeg
def sqP (tc : Nat → Nat) (tl : Nat) : Nat → Nat
  | 0 => skP tc tl 0
  | i + 1 => skP tc tl (odE tc tl (sqP tc tl i)).1
def sqL (tc : Nat → Nat) (tl : Nat) (L0 : Nat → Int32) : Nat → Nat → Int32
  | 0 => L0
  | i + 1 => odL tc tl (sqL tc tl L0 i) i (sqP tc tl i)
def sqN (tc : Nat → Nat) (tl : Nat) (N0 : Nat → Int32) : Nat → Nat → Int32
  | 0 => N0
  | i + 1 => odN tc tl (sqN tc tl N0 i) i (sqP tc tl i)
theorem nb_rng (z : Int32) : nbI z = -1 ∨ ∃ m, m ≤ 4 ∧ nbI z = nI m := by
  unfold nbI
  split
  · exact Or.inr ⟨0, by omega, rfl⟩
  · split
    · exact Or.inr ⟨4, by omega, rfl⟩
    · split
      · exact Or.inr ⟨1, by omega, rfl⟩
      · split
        · exact Or.inr ⟨3, by omega, rfl⟩
        · split
          · exact Or.inr ⟨2, by omega, rfl⟩
          · split
            · exact Or.inr ⟨1, by omega, rfl⟩
            · exact Or.inl rfl
section OD
variable {tc : Nat → Nat} {tl p m j k : Nat} {σ : SI} {δ : SD} {Lr Nr : Nat → Int32}
theorem c_KT_findOrder (hT : TX σ tc tl) {o : Nat} (hk : k < 60) (hp : p ≤ 120) : E KT_findOrder [.ref 80, .int (nI k)] (HH (tS σ p o Lr Nr) δ) (some (.int (bI (odE tc tl p).2))) (HH (tS σ (odE tc tl p).1 o (odL tc tl Lr k p) (odN tc tl Nr k p)) δ) := by
  rcases nb_rng (hrV tc tl p) with h | ⟨m, hm4, hm⟩
  · unfold odE odL odN
    rw [if_pos h, if_pos h, if_pos h]
    exact c_KT_findOrder_no hT hk hp h
  · have hn : ¬ nbI (hrV tc tl p) = -1 := by rw [hm]; exact nI_m1 (by omega)
    unfold odE odL odN
    rw [if_neg hn, if_neg hn, if_neg hn, hm, nI_clamp (by omega)]
    exact c_KT_findOrder_ok hT hk hp hm hm4
theorem od_le (hT : TX σ tc tl) (hp : p ≤ 120) : (odE tc tl p).1 ≤ 120 := by
  have htl := hT.2.1
  unfold odE
  rcases nb_rng (hrV tc tl p) with h | ⟨m, hm4, hm⟩
  · rw [if_pos h]; exact hp
  · rw [if_neg (by rw [hm]; exact nI_m1 (by omega)), hm, nI_clamp (by omega)]
    have hp1 := nb_lt hT hm
    have ho := on_le hT hp1 m
    cases h : (onP tc tl p m).2 with
    | false =>
      unfold orF
      rw [if_neg (by rw [h]; decide)]
      exact ho
    | true =>
      by_cases h2 : hrV tc tl (skP tc tl (onP tc tl p m).1) = nI 59
      · rw [or_y h h2]
        by_cases g : skP tc tl (onP tc tl p m).1 < tl
        · show skP tc tl (onP tc tl p m).1 + 1 ≤ 120
          omega
        · rw [hr_n g] at h2; exact absurd h2 (by decide)
      · rw [or_n h h2]; exact skP_le hT ho
theorem sq_le (hT : TX σ tc tl) : ∀ i, sqP tc tl i ≤ 120
  | 0 => skP_le hT (by omega)
  | i + 1 => skP_le hT (od_le hT (sq_le hT i))
end OD
set_option maxRecDepth 100000 in
set_option maxHeartbeats 200000 in
theorem c_KT_findFault_none {σ : SI} {δ : SD} {tc : Nat → Nat} {tl : Nat} (hT : TX σ tc tl) (h0 : ¬ sqP tc tl 0 < tl) : E KT_findFault [.ref 80] (HH σ δ) (some (.int (nI tl))) (HH (tS σ (sqP tc tl 0) (0) (σ 82) (σ 83)) δ) := by
  have htl := hT.2.1
  have hq0 : sqP tc tl 0 ≤ 120 := sq_le hT 0
  have hq00 : skP tc tl 0 = sqP tc tl 0 := rfl
  refine E.ofL [some (.ref 80)] rfl pn_RX6 rfl (fun sc => ?_)
  refine g_aload_n dX6_findFault_0 rfl ?_
  refine g_iconst dX6_findFault_1 ic_0 ?_
  refine q_puti dX6_findFault_2 f_T_33 ck_80 (by decide) ty_5_2 fi_5_2 ?_
  refine g_aload_n dX6_findFault_5 rfl ?_
  refine g_iconst dX6_findFault_6 ic_0 ?_
  refine q_puti dX6_findFault_7 f_T_36 ck_80 (by decide) ty_5_1 fi_5_1 ?_
  refine g_heap (congrArg (fun z => HH z δ) tS_0) ?_
  refine g_aload_n dX6_findFault_10 rfl ?_
  refine g_v0n (M' := KT_skipBlanks) dX6_findFault_11 l_T_39 v_KT_skipBlanks (c_KT_skipBlanks hT (by omega)) rc_80 HH_len rfl ⟨rfl, rfl⟩ ?_
  refine g_aload_n dX6_findFault_14 rfl ?_
  refine q_geti dX6_findFault_15 f_T_33 ck_80 (by decide) ty_5_2 ?_
  refine g_top tS_p ?_
  refine g_aload_n dX6_findFault_18 rfl ?_
  refine q_geti dX6_findFault_19 f_T_25 ck_80 (by decide) ty_5_0 ?_
  refine g_top (tS_len.trans hT.1) ?_
  refine n_icmp_lt (tgt := 30) (by omega) (by omega) dX6_findFault_22 rfl (fun zc22 => ?_) (fun zc22 => ?_)
  · exact absurd zc22 h0
  · refine g_aload_n dX6_findFault_25 rfl ?_
    refine q_geti dX6_findFault_26 f_T_25 ck_80 (by decide) ty_5_0 ?_
    refine g_top (tS_len.trans hT.1) ?_
    exact e_iret dX6_findFault_29 rfl (by rfl) (by rfl)
set_option maxRecDepth 100000 in
set_option maxHeartbeats 200000 in
theorem c_KT_findFault_bad {σ : SI} {δ : SD} {tc : Nat → Nat} {tl : Nat} (hT : TX σ tc tl) {k : Nat} (hk : k < 60) (hq : ∀ i, i < k → (odE tc tl (sqP tc tl i)).2 = true ∧ sqP tc tl i < tl) (hkl : sqP tc tl k < tl) (hf : (odE tc tl (sqP tc tl k)).2 = false) : E KT_findFault [.ref 80] (HH σ δ) (some (.int (nI (odE tc tl (sqP tc tl k)).1))) (HH (tS σ ((odE tc tl (sqP tc tl k)).1) (k) (odL tc tl (sqL tc tl (σ 82) k) k (sqP tc tl k)) (odN tc tl (sqN tc tl (σ 83) k) k (sqP tc tl k))) δ) := by
  have htl := hT.2.1
  have hq0 : sqP tc tl 0 ≤ 120 := sq_le hT 0
  have hq00 : skP tc tl 0 = sqP tc tl 0 := rfl
  have hq1 : sqP tc tl 0 < tl := (Nat.eq_zero_or_pos k).elim (fun e => by rw [e] at hkl; exact hkl) (fun e => (hq 0 e).2)
  refine E.ofL [some (.ref 80)] rfl pn_RX6 rfl (fun sc => ?_)
  generalize hRz : (fun (zr : Option Value) (zk : XH) => zr = some (.int (nI (odE tc tl (sqP tc tl k)).1)) ∧ zk = HH (tS σ ((odE tc tl (sqP tc tl k)).1) (k) (odL tc tl (sqL tc tl (σ 82) k) k (sqP tc tl k)) (odN tc tl (sqN tc tl (σ 83) k) k (sqP tc tl k))) δ) = R
  refine g_aload_n dX6_findFault_0 rfl ?_
  refine g_iconst dX6_findFault_1 ic_0 ?_
  refine q_puti dX6_findFault_2 f_T_33 ck_80 (by decide) ty_5_2 fi_5_2 ?_
  refine g_aload_n dX6_findFault_5 rfl ?_
  refine g_iconst dX6_findFault_6 ic_0 ?_
  refine q_puti dX6_findFault_7 f_T_36 ck_80 (by decide) ty_5_1 fi_5_1 ?_
  refine g_heap (congrArg (fun z => HH z δ) tS_0) ?_
  refine g_aload_n dX6_findFault_10 rfl ?_
  refine g_v0n (M' := KT_skipBlanks) dX6_findFault_11 l_T_39 v_KT_skipBlanks (c_KT_skipBlanks hT (by omega)) rc_80 HH_len rfl ⟨rfl, rfl⟩ ?_
  refine g_aload_n dX6_findFault_14 rfl ?_
  refine q_geti dX6_findFault_15 f_T_33 ck_80 (by decide) ty_5_2 ?_
  refine g_top tS_p ?_
  refine g_aload_n dX6_findFault_18 rfl ?_
  refine q_geti dX6_findFault_19 f_T_25 ck_80 (by decide) ty_5_0 ?_
  refine g_top (tS_len.trans hT.1) ?_
  refine n_icmp_lt (tgt := 30) (by omega) (by omega) dX6_findFault_22 rfl (fun zc22 => ?_) (fun zc22 => ?_)
  · refine g_iconst dX6_findFault_30 ic_0 ?_
    refine g_istore_n dX6_findFault_31 rfl ?_
    refine g_heap (show _ = HH (tS σ (sqP tc tl 0) (0) (sqL tc tl (σ 82) 0) (sqN tc tl (σ 83) 0)) δ from rfl) ?_
    have H32 : ∀ (N : Nat) (i : Nat), i ≤ k → 61 - i < N → G sc KT_findFault 32 (aL [some (.ref 80), some (.int (nI i))]) [] (HH (tS σ (sqP tc tl i) (i) (sqL tc tl (σ 82) i) (sqN tc tl (σ 83) i)) δ) (0, 0) R := by
      intro N
      induction N with
      | zero => intro i h1 hN32; exact absurd hN32 (Nat.not_lt_zero _)
      | succ N ih32 =>
        intro i h1 hN32
        have hqi : sqP tc tl i ≤ 120 := sq_le hT i
        have hil : sqP tc tl i < tl := (Nat.lt_or_ge i k).elim (fun h => (hq i h).2) (fun h => by rw [show i = k by omega]; exact hkl)
        refine g_iload_n dX6_findFault_32 rfl ?_
        refine g_bipush dX6_findFault_33 bp_60 ?_
        refine n_icmp_ge (tgt := 82) (by omega) (by omega) dX6_findFault_35 rfl (fun zc35 => ?_) (fun zc35 => ?_)
        · exact absurd zc35 (by omega)
        · refine g_aload_n dX6_findFault_38 rfl ?_
          refine q_geti dX6_findFault_39 f_T_33 ck_80 (by decide) ty_5_2 ?_
          refine g_top tS_p ?_
          refine g_aload_n dX6_findFault_42 rfl ?_
          refine q_geti dX6_findFault_43 f_T_25 ck_80 (by decide) ty_5_0 ?_
          refine g_top (tS_len.trans hT.1) ?_
          refine n_icmp_ge (tgt := 82) (by omega) (by omega) dX6_findFault_46 rfl (fun zc46 => ?_) (fun zc46 => ?_)
          · exact absurd hil (by omega)
          · refine g_aload_n dX6_findFault_49 rfl ?_
            refine g_iload_n dX6_findFault_50 rfl ?_
            refine g_v1 (M' := KT_findOrder) dX6_findFault_51 l_T_42 v_KT_findOrder (c_KT_findOrder hT (by omega) hqi) rc_80 HH_len rfl ⟨rfl, rfl⟩ ?_
            refine b_if_ne (tgt := 62) dX6_findFault_54 rfl (fun zc54 => ?_) (fun zc54 => ?_)
            · have hik : i < k := (Nat.lt_or_ge i k).elim id (fun h => by rw [show i = k by omega, hf] at zc54; exact absurd zc54 (by decide))
              refine g_aload_n dX6_findFault_62 rfl ?_
              refine g_dup dX6_findFault_63 rfl ?_
              refine q_geti dX6_findFault_64 f_T_36 ck_80 (by decide) ty_5_1 ?_
              refine g_top tS_o ?_
              refine g_iconst dX6_findFault_67 ic_1 ?_
              refine n_iadd dX6_findFault_68 ?_
              refine q_puti dX6_findFault_69 f_T_36 ck_80 (by decide) ty_5_1 fi_5_1 ?_
              refine g_heap (congrArg (fun z => HH z δ) tS_ord) ?_
              refine g_aload_n dX6_findFault_72 rfl ?_
              refine g_v0n (M' := KT_skipBlanks) dX6_findFault_73 l_T_39 v_KT_skipBlanks (c_KT_skipBlanks hT (by have := od_le hT hqi; omega)) rc_80 HH_len rfl ⟨rfl, rfl⟩ ?_
              refine n_iinc (b := 1) dX6_findFault_76 rfl rfl rfl ?_
              refine g_goto (tgt := 32) dX6_findFault_79 rfl ?_
              refine g_heap (show _ = HH (tS σ (sqP tc tl (i + 1)) ((i + 1)) (sqL tc tl (σ 82) (i + 1)) (sqN tc tl (σ 83) (i + 1))) δ from rfl) ?_
              exact g_can _ (by exact ⟨rfl, rfl, trivial⟩) (ih32 (i + 1) (by omega) (by omega))
            · obtain rfl : i = k := (Nat.lt_or_ge i k).elim (fun h => by rw [(hq i h).1] at zc54; exact absurd zc54 (by decide)) (fun h => by omega)
              refine g_aload_n dX6_findFault_57 rfl ?_
              refine q_geti dX6_findFault_58 f_T_33 ck_80 (by decide) ty_5_2 ?_
              refine g_top tS_p ?_
              exact g_iret (S := []) dX6_findFault_61 rfl (by rw [← hRz]; exact ⟨congrArg (fun zz => some (Value.int zz)) (show _ = _ by rfl), by rfl⟩) (Nat.zero_le _) (Nat.zero_le _)
    exact g_can _ (by exact ⟨rfl, rfl, trivial⟩) (H32 _ 0 (by omega) (Nat.lt_succ_self _))
  · exact absurd hq1 (by omega)
set_option maxRecDepth 100000 in
set_option maxHeartbeats 200000 in
theorem c_KT_findFault_ok {σ : SI} {δ : SD} {tc : Nat → Nat} {tl : Nat} (hT : TX σ tc tl) {k : Nat} (hk0 : 1 ≤ k) (hk : k ≤ 60) (hq : ∀ i, i < k → (odE tc tl (sqP tc tl i)).2 = true ∧ sqP tc tl i < tl) (hkl : ¬ sqP tc tl k < tl) : E KT_findFault [.ref 80] (HH σ δ) (some (.int (-1))) (HH (tS σ (sqP tc tl k) (k) (sqL tc tl (σ 82) k) (sqN tc tl (σ 83) k)) δ) := by
  have htl := hT.2.1
  have hq0 : sqP tc tl 0 ≤ 120 := sq_le hT 0
  have hq00 : skP tc tl 0 = sqP tc tl 0 := rfl
  have hq1 : sqP tc tl 0 < tl := (hq 0 (by omega)).2
  refine E.ofL [some (.ref 80)] rfl pn_RX6 rfl (fun sc => ?_)
  generalize hRz : (fun (zr : Option Value) (zk : XH) => zr = some (.int (-1)) ∧ zk = HH (tS σ (sqP tc tl k) (k) (sqL tc tl (σ 82) k) (sqN tc tl (σ 83) k)) δ) = R
  refine g_aload_n dX6_findFault_0 rfl ?_
  refine g_iconst dX6_findFault_1 ic_0 ?_
  refine q_puti dX6_findFault_2 f_T_33 ck_80 (by decide) ty_5_2 fi_5_2 ?_
  refine g_aload_n dX6_findFault_5 rfl ?_
  refine g_iconst dX6_findFault_6 ic_0 ?_
  refine q_puti dX6_findFault_7 f_T_36 ck_80 (by decide) ty_5_1 fi_5_1 ?_
  refine g_heap (congrArg (fun z => HH z δ) tS_0) ?_
  refine g_aload_n dX6_findFault_10 rfl ?_
  refine g_v0n (M' := KT_skipBlanks) dX6_findFault_11 l_T_39 v_KT_skipBlanks (c_KT_skipBlanks hT (by omega)) rc_80 HH_len rfl ⟨rfl, rfl⟩ ?_
  refine g_aload_n dX6_findFault_14 rfl ?_
  refine q_geti dX6_findFault_15 f_T_33 ck_80 (by decide) ty_5_2 ?_
  refine g_top tS_p ?_
  refine g_aload_n dX6_findFault_18 rfl ?_
  refine q_geti dX6_findFault_19 f_T_25 ck_80 (by decide) ty_5_0 ?_
  refine g_top (tS_len.trans hT.1) ?_
  refine n_icmp_lt (tgt := 30) (by omega) (by omega) dX6_findFault_22 rfl (fun zc22 => ?_) (fun zc22 => ?_)
  · refine g_iconst dX6_findFault_30 ic_0 ?_
    refine g_istore_n dX6_findFault_31 rfl ?_
    refine g_heap (show _ = HH (tS σ (sqP tc tl 0) (0) (sqL tc tl (σ 82) 0) (sqN tc tl (σ 83) 0)) δ from rfl) ?_
    have H32 : ∀ (N : Nat) (i : Nat), i ≤ k → 61 - i < N → G sc KT_findFault 32 (aL [some (.ref 80), some (.int (nI i))]) [] (HH (tS σ (sqP tc tl i) (i) (sqL tc tl (σ 82) i) (sqN tc tl (σ 83) i)) δ) (0, 0) R := by
      intro N
      induction N with
      | zero => intro i h1 hN32; exact absurd hN32 (Nat.not_lt_zero _)
      | succ N ih32 =>
        intro i h1 hN32
        have hqi : sqP tc tl i ≤ 120 := sq_le hT i
        refine g_iload_n dX6_findFault_32 rfl ?_
        refine g_bipush dX6_findFault_33 bp_60 ?_
        refine n_icmp_ge (tgt := 82) (by omega) (by omega) dX6_findFault_35 rfl (fun zc35 => ?_) (fun zc35 => ?_)
        · obtain rfl : i = k := by omega
          refine g_iconst dX6_findFault_82 ic_m1 ?_
          exact g_iret (S := []) dX6_findFault_83 rfl (by rw [← hRz]; exact ⟨congrArg (fun zz => some (Value.int zz)) (show _ = _ by rfl), by rfl⟩) (Nat.zero_le _) (Nat.zero_le _)
        · refine g_aload_n dX6_findFault_38 rfl ?_
          refine q_geti dX6_findFault_39 f_T_33 ck_80 (by decide) ty_5_2 ?_
          refine g_top tS_p ?_
          refine g_aload_n dX6_findFault_42 rfl ?_
          refine q_geti dX6_findFault_43 f_T_25 ck_80 (by decide) ty_5_0 ?_
          refine g_top (tS_len.trans hT.1) ?_
          refine n_icmp_ge (tgt := 82) (by omega) (by omega) dX6_findFault_46 rfl (fun zc46 => ?_) (fun zc46 => ?_)
          · obtain rfl : i = k := (Nat.lt_or_ge i k).elim (fun h => absurd (hq i h).2 (by omega)) (fun h => by omega)
            refine g_iconst dX6_findFault_82 ic_m1 ?_
            exact g_iret (S := []) dX6_findFault_83 rfl (by rw [← hRz]; exact ⟨congrArg (fun zz => some (Value.int zz)) (show _ = _ by rfl), by rfl⟩) (Nat.zero_le _) (Nat.zero_le _)
          · have hik : i < k := (Nat.lt_or_ge i k).elim id (fun h => by rw [show i = k by omega] at zc46; exact absurd zc46 hkl)
            refine g_aload_n dX6_findFault_49 rfl ?_
            refine g_iload_n dX6_findFault_50 rfl ?_
            refine g_v1 (M' := KT_findOrder) dX6_findFault_51 l_T_42 v_KT_findOrder (c_KT_findOrder hT (by omega) hqi) rc_80 HH_len rfl ⟨rfl, rfl⟩ ?_
            refine b_if_ne (tgt := 62) dX6_findFault_54 rfl (fun zc54 => ?_) (fun zc54 => ?_)
            · refine g_aload_n dX6_findFault_62 rfl ?_
              refine g_dup dX6_findFault_63 rfl ?_
              refine q_geti dX6_findFault_64 f_T_36 ck_80 (by decide) ty_5_1 ?_
              refine g_top tS_o ?_
              refine g_iconst dX6_findFault_67 ic_1 ?_
              refine n_iadd dX6_findFault_68 ?_
              refine q_puti dX6_findFault_69 f_T_36 ck_80 (by decide) ty_5_1 fi_5_1 ?_
              refine g_heap (congrArg (fun z => HH z δ) tS_ord) ?_
              refine g_aload_n dX6_findFault_72 rfl ?_
              refine g_v0n (M' := KT_skipBlanks) dX6_findFault_73 l_T_39 v_KT_skipBlanks (c_KT_skipBlanks hT (by have := od_le hT hqi; omega)) rc_80 HH_len rfl ⟨rfl, rfl⟩ ?_
              refine n_iinc (b := 1) dX6_findFault_76 rfl rfl rfl ?_
              refine g_goto (tgt := 32) dX6_findFault_79 rfl ?_
              refine g_heap (show _ = HH (tS σ (sqP tc tl (i + 1)) ((i + 1)) (sqL tc tl (σ 82) (i + 1)) (sqN tc tl (σ 83) (i + 1))) δ from rfl) ?_
              exact g_can _ (by exact ⟨rfl, rfl, trivial⟩) (ih32 (i + 1) (by omega) (by omega))
            · exact absurd (hq i hik).1 (by rw [zc54]; decide)
    exact g_can _ (by exact ⟨rfl, rfl, trivial⟩) (H32 _ 0 (by omega) (Nat.lt_succ_self _))
  · exact absurd hq1 (by omega)
