/-! THE TEXT: the numbers of an order are the same on both sides -/
section NS
variable {tc : Nat → Nat} {tl p m i j k K : Nat} {Nr N0 L0 M0 Mr : Nat → Int32}
set_option maxHeartbeats 200000 in
theorem on_up (h : (onP tc tl p (j + 1)).2 = true) : (onP tc tl p j).2 = true := by
  cases e : (onP tc tl p j).2 with
  | true => rfl
  | false =>
    have := (on_st (Nr := fun _ => 0) (k := 0) e 1).1
    rw [this, e] at h
    exact h
set_option maxHeartbeats 200000 in
theorem on_dg (h : (onP tc tl p (j + 1)).2 = true) : dgB tc tl (skP tc tl (onP tc tl p j).1) = true := by
  have h1 := on_up h
  rw [on_s h1] at h
  unfold nmK at h
  rw [Bool.and_eq_true] at h
  exact h.1
set_option maxHeartbeats 200000 in
theorem onN_get : ∀ m, (onP tc tl p m).2 = true → ∀ j, j < m → onN tc tl Nr k p m (k * 4 + j) = nI (nmV tc tl (skP tc tl (onP tc tl p j).1))
  | 0, _, j, hj => absurd hj (Nat.not_lt_zero j)
  | m + 1, h, j, hj => by
    have h1 := on_up h
    have hd := on_dg h
    rw [onN_s h1, if_pos hd]
    by_cases e : j = m
    · rw [e, upd_s]
    · rw [upd_n (by omega)]
      exact onN_get m h1 j (by omega)
set_option maxHeartbeats 200000 in
theorem rnM_get : ∀ m, (onP tc tl p m).2 = true → ∀ j, j < m → rnM tc tl Mr p m j = nI (nmV tc tl (skP tc tl (onP tc tl p j).1))
  | 0, _, j, hj => absurd hj (Nat.not_lt_zero j)
  | m + 1, h, j, hj => by
    have h1 := on_up h
    have hd := on_dg h
    rw [rn_s h1, if_pos hd]
    by_cases e : j = m
    · rw [e, upd_s]
    · rw [upd_n e]
      exact rnM_get m h1 j (by omega)
set_option maxHeartbeats 200000 in
theorem onN_far {q : Nat} : ∀ m, (∀ j, j < m → q ≠ k * 4 + j) → onN tc tl Nr k p m q = Nr q
  | 0, _ => rfl
  | m + 1, h => by
    have ih := onN_far m (fun j hj => h j (by omega))
    cases e : (onP tc tl p m).2 with
    | true =>
      rw [onN_s e]
      split
      · rw [upd_n (h m (by omega))]; exact ih
      · exact ih
    | false =>
      rw [(on_st (Nr := Nr) (k := k) e 1).2]
      exact ih
set_option maxHeartbeats 200000 in
theorem od_m (h : (odE tc tl p).2 = true) : ∃ m, m ≤ 4 ∧ nbI (hrV tc tl p) = nI m ∧ (onP tc tl p m).2 = true ∧ (orF tc tl p m).2 = true ∧ odE tc tl p = orF tc tl p m ∧ (∀ Nr k, odN tc tl Nr k p = onN tc tl Nr k p m) ∧ (∀ Lr k, odL tc tl Lr k p = upd Lr k (hrV tc tl p)) ∧ (∀ Mr, odM tc tl Mr p = rnM tc tl Mr p m) := by
  rcases nb_rng (hrV tc tl p) with g | ⟨m, hm4, hm⟩
  · unfold odE at h
    rw [if_pos g] at h
    exact absurd h Bool.false_ne_true
  · have hn : ¬ nbI (hrV tc tl p) = -1 := by rw [hm]; exact nI_m1 (by omega)
    have e : odE tc tl p = orF tc tl p m := by
      unfold odE
      rw [if_neg hn, hm, nI_clamp (by omega)]
    have ho : (orF tc tl p m).2 = true := by rw [← e]; exact h
    refine ⟨m, hm4, hm, ?_, ho, e, fun Nr k => ?_, fun Lr k => ?_, fun Mr => ?_⟩
    · cases g : (onP tc tl p m).2 with
      | true => rfl
      | false => rw [or_x g, g] at ho; exact ho
    · unfold odN
      rw [if_neg hn, hm, nI_clamp (by omega)]
    · unfold odL
      rw [if_neg hn]
    · unfold odM
      rw [if_neg hn, hm, nI_clamp (by omega)]
set_option maxHeartbeats 200000 in
theorem sqL_get (h : ∀ i, i < K → (odE tc tl (sqP tc tl i)).2 = true) (hi : i < K) : sqL tc tl L0 K i = hrV tc tl (sqP tc tl i) := by
  induction K with
  | zero => exact absurd hi (Nat.not_lt_zero i)
  | succ K ih =>
    obtain ⟨m, -, -, -, -, -, -, hL, -⟩ := od_m (h K (by omega))
    show odL tc tl (sqL tc tl L0 K) K (sqP tc tl K) i = _
    rw [hL]
    by_cases e : i = K
    · rw [e, upd_s]
    · rw [upd_n e]
      exact ih (fun i hi => h i (by omega)) (by omega)
set_option maxHeartbeats 200000 in
theorem sqN_get (h : ∀ i, i < K → (odE tc tl (sqP tc tl i)).2 = true) (hi : i < K) (hm4 : m ≤ 4) (hm : nbI (hrV tc tl (sqP tc tl i)) = nI m) (hj : j < m) : sqN tc tl N0 K (i * 4 + j) = sqM tc tl M0 (i + 1) j := by
  induction K with
  | zero => exact absurd hi (Nat.not_lt_zero i)
  | succ K ih =>
    obtain ⟨m', h4, hm', ho, -, -, hN, -, hM⟩ := od_m (h K (by omega))
    show odN tc tl (sqN tc tl N0 K) K (sqP tc tl K) (i * 4 + j) = _
    rw [hN]
    by_cases e : i = K
    · subst e
      have : m = m' := by
        have := congrArg Int32.toNatClampNeg (hm.symm.trans hm')
        rwa [nI_clamp (by omega), nI_clamp (by omega)] at this
      subst this
      show _ = odM tc tl (sqM tc tl M0 i) (sqP tc tl i) j
      rw [hM, onN_get m ho j hj, rnM_get m ho j hj]
    · rw [onN_far m' (fun q hq => by omega)]
      exact ih (fun i hi => h i (by omega)) (by omega)
end NS
set_option maxRecDepth 100000 in
set_option maxHeartbeats 200000 in
theorem c_KR_readsOrder1_ok {σ : SI} {δ : SD} {tc : Nat → Nat} {tl : Nat} (hT : TXR σ tc tl) {p : Nat} {Mr : Nat → Int32} {s : Nat} (hp : p ≤ 120) (hsz : skP tc tl p = s) {m : Nat} (hm : nbI (hrV tc tl s) = nI m) (hm4 : m ≤ 4) (hok : (orF tc tl s m).2 = true) {τ : SI} (hτ : rS σ ((orF tc tl s m).1) (rnM tc tl Mr s m) = τ) (hcan : E KR_can [.ref 84, .int (hrV tc tl s)] (HH τ δ) (some (.int (nI 0))) (HH τ δ)) {v : Int32} {τ2 : SI} (hdo : E KR_does [.ref 84, .int (hrV tc tl s)] (HH (uI τ 84 15 (nI 0)) δ) (some (.int v)) (HH τ2 δ)) : E KR_readsOrder [.ref 84, .int (nI 1)] (HH (rS σ (p) (Mr)) δ) (some (.int (bI true))) (HH τ2 δ) := by
  have htl := hT.2.1
  have hn : ¬ nbI (hrV tc tl s) = -1 := by rw [hm]; exact nI_m1 (by omega)
  have hs1 := nb_ltR hT hm
  have hb := on_leR hT hs1 m
  have hk := skP_leR hT hb
  refine E.ofL [some (.ref 84), some (.int (nI 1))] rfl pn_RX9 rfl (fun sc => ?_)
  refine g_aload_n dX9_readsOrder_0 rfl ?_
  refine g_v0 (M' := KR_here) dX9_readsOrder_1 l_R_311 v_KR_here (by have zq := c_KR_here (σ := σ) (δ := δ) (Mr := Mr) hT hp; rw [hsz] at zq; exact zq) rc_84 HH_len rfl ⟨rfl, rfl⟩ ?_
  refine g_istore_n dX9_readsOrder_4 rfl ?_
  refine g_iload_n dX9_readsOrder_5 rfl ?_
  refine g_s1 (M' := KR_isOrder) dX9_readsOrder_6 l_R_320 s_KR_isOrder c_KR_isOrder rfl rfl ⟨rfl, rfl⟩ ?_
  refine b_if_ne (tgt := 14) dX9_readsOrder_9 rfl (fun zc9 => ?_) (fun zc9 => ?_)
  · refine g_aload_n dX9_readsOrder_14 rfl ?_
    refine g_dup dX9_readsOrder_15 rfl ?_
    refine q_geti dX9_readsOrder_16 f_R_304 ck_84 (by decide) ty_8_13 ?_
    refine g_top rS_p ?_
    refine g_iconst dX9_readsOrder_19 ic_1 ?_
    refine n_iadd dX9_readsOrder_20 ?_
    refine q_puti dX9_readsOrder_21 f_R_304 ck_84 (by decide) ty_8_13 fi_8_13 ?_
    refine g_heap (congrArg (fun z => HH z δ) rS_put) ?_
    refine g_aload_n dX9_readsOrder_24 rfl ?_
    refine g_iload_n dX9_readsOrder_25 rfl ?_
    refine g_s1 (M' := KR_numbersOf) dX9_readsOrder_26 l_R_323 s_KR_numbersOf (c_KR_nOh (fun i hi => (hT.2.2 i hi).2) hn) rfl rfl ⟨rfl, rfl⟩ ?_
    refine g_top hm ?_
    refine g_v1 (M' := KR_takesAll) dX9_readsOrder_29 l_R_326 v_KR_takesAll (c_KR_takesAll hT hs1 hm4) rc_84 HH_len rfl ⟨rfl, rfl⟩ ?_
    refine b_if_eq (tgt := 44) dX9_readsOrder_32 rfl (fun zc32 => ?_) (fun zc32 => ?_)
    · exact absurd hok (by rw [or_x zc32, zc32]; decide)
    · refine g_aload_n dX9_readsOrder_35 rfl ?_
      refine g_v0 (M' := KR_here) dX9_readsOrder_36 l_R_311 v_KR_here (c_KR_here hT hb) rc_84 HH_len rfl ⟨rfl, rfl⟩ ?_
      refine g_bipush dX9_readsOrder_39 bp_59 ?_
      refine g_icmp_eq (tgt := 46) dX9_readsOrder_41 rfl (fun zc41 => ?_) (fun zc41 => ?_)
      · refine g_aload_n dX9_readsOrder_46 rfl ?_
        refine g_dup dX9_readsOrder_47 rfl ?_
        refine q_geti dX9_readsOrder_48 f_R_304 ck_84 (by decide) ty_8_13 ?_
        refine g_top rS_p ?_
        refine g_iconst dX9_readsOrder_51 ic_1 ?_
        refine n_iadd dX9_readsOrder_52 ?_
        refine q_puti dX9_readsOrder_53 f_R_304 ck_84 (by decide) ty_8_13 fi_8_13 ?_
        refine g_heap (congrArg (fun z => HH z δ) rS_put) ?_
        refine g_heap (show _ = HH τ δ from by rw [← hτ, or_y zc32 zc41]) ?_
        refine g_iload_n dX9_readsOrder_56 rfl ?_
        refine n_if_eq (tgt := 86) (by omega) dX9_readsOrder_57 rfl (fun zc57 => absurd zc57 (by decide)) (fun _ => ?_)
        refine g_aload_n dX9_readsOrder_60 rfl ?_
        refine g_aload_n dX9_readsOrder_61 rfl ?_
        refine g_iload_n dX9_readsOrder_62 rfl ?_
        refine g_v1 (M' := KR_can) dX9_readsOrder_63 l_R_329 v_KR_can hcan rc_84 HH_len rfl ⟨rfl, rfl⟩ ?_
        refine q_puti dX9_readsOrder_66 f_R_332 ck_84 (by decide) ty_8_15 fi_8_15 ?_
        refine g_aload_n dX9_readsOrder_69 rfl ?_
        refine q_geti dX9_readsOrder_70 f_R_332 ck_84 (by decide) ty_8_15 ?_
        refine g_top uI_same ?_
        refine n_if_ne (tgt := 84) (by omega) dX9_readsOrder_73 rfl (fun zc73 => absurd zc73 (by decide)) (fun _ => ?_)
        refine g_aload_n dX9_readsOrder_76 rfl ?_
        refine g_iload_n dX9_readsOrder_77 rfl ?_
        refine g_v1 (M' := KR_does) dX9_readsOrder_78 l_R_335 v_KR_does hdo rc_84 HH_len rfl ⟨rfl, rfl⟩ ?_
        refine g_goto (tgt := 85) dX9_readsOrder_81 rfl ?_
        refine g_istore_n dX9_readsOrder_85 rfl ?_
        refine g_iconst dX9_readsOrder_86 ic_1 ?_
        exact e_z1 dX9_readsOrder_87 rfl (by rfl) (by rfl)
      · exact absurd hok (by rw [or_n zc32 zc41]; exact Bool.false_ne_true)
  · exact absurd zc9 (by rw [decide_eq_true hn]; decide)
set_option maxRecDepth 100000 in
set_option maxHeartbeats 200000 in
theorem c_KR_readsOrder1_no {σ : SI} {δ : SD} {tc : Nat → Nat} {tl : Nat} (hT : TXR σ tc tl) {p : Nat} {Mr : Nat → Int32} {s : Nat} (hp : p ≤ 120) (hsz : skP tc tl p = s) {m : Nat} (hm : nbI (hrV tc tl s) = nI m) (hm4 : m ≤ 4) (hok : (orF tc tl s m).2 = true) {τ : SI} (hτ : rS σ ((orF tc tl s m).1) (rnM tc tl Mr s m) = τ) {v : Int32} (hv : ¬ v = 0) (hcan : E KR_can [.ref 84, .int (hrV tc tl s)] (HH τ δ) (some (.int v)) (HH τ δ)) : E KR_readsOrder [.ref 84, .int (nI 1)] (HH (rS σ (p) (Mr)) δ) (some (.int (bI true))) (HH (uI τ 84 15 v) δ) := by
  have htl := hT.2.1
  have hn : ¬ nbI (hrV tc tl s) = -1 := by rw [hm]; exact nI_m1 (by omega)
  have hs1 := nb_ltR hT hm
  have hb := on_leR hT hs1 m
  have hk := skP_leR hT hb
  refine E.ofL [some (.ref 84), some (.int (nI 1))] rfl pn_RX9 rfl (fun sc => ?_)
  refine g_aload_n dX9_readsOrder_0 rfl ?_
  refine g_v0 (M' := KR_here) dX9_readsOrder_1 l_R_311 v_KR_here (by have zq := c_KR_here (σ := σ) (δ := δ) (Mr := Mr) hT hp; rw [hsz] at zq; exact zq) rc_84 HH_len rfl ⟨rfl, rfl⟩ ?_
  refine g_istore_n dX9_readsOrder_4 rfl ?_
  refine g_iload_n dX9_readsOrder_5 rfl ?_
  refine g_s1 (M' := KR_isOrder) dX9_readsOrder_6 l_R_320 s_KR_isOrder c_KR_isOrder rfl rfl ⟨rfl, rfl⟩ ?_
  refine b_if_ne (tgt := 14) dX9_readsOrder_9 rfl (fun zc9 => ?_) (fun zc9 => ?_)
  · refine g_aload_n dX9_readsOrder_14 rfl ?_
    refine g_dup dX9_readsOrder_15 rfl ?_
    refine q_geti dX9_readsOrder_16 f_R_304 ck_84 (by decide) ty_8_13 ?_
    refine g_top rS_p ?_
    refine g_iconst dX9_readsOrder_19 ic_1 ?_
    refine n_iadd dX9_readsOrder_20 ?_
    refine q_puti dX9_readsOrder_21 f_R_304 ck_84 (by decide) ty_8_13 fi_8_13 ?_
    refine g_heap (congrArg (fun z => HH z δ) rS_put) ?_
    refine g_aload_n dX9_readsOrder_24 rfl ?_
    refine g_iload_n dX9_readsOrder_25 rfl ?_
    refine g_s1 (M' := KR_numbersOf) dX9_readsOrder_26 l_R_323 s_KR_numbersOf (c_KR_nOh (fun i hi => (hT.2.2 i hi).2) hn) rfl rfl ⟨rfl, rfl⟩ ?_
    refine g_top hm ?_
    refine g_v1 (M' := KR_takesAll) dX9_readsOrder_29 l_R_326 v_KR_takesAll (c_KR_takesAll hT hs1 hm4) rc_84 HH_len rfl ⟨rfl, rfl⟩ ?_
    refine b_if_eq (tgt := 44) dX9_readsOrder_32 rfl (fun zc32 => ?_) (fun zc32 => ?_)
    · exact absurd hok (by rw [or_x zc32, zc32]; decide)
    · refine g_aload_n dX9_readsOrder_35 rfl ?_
      refine g_v0 (M' := KR_here) dX9_readsOrder_36 l_R_311 v_KR_here (c_KR_here hT hb) rc_84 HH_len rfl ⟨rfl, rfl⟩ ?_
      refine g_bipush dX9_readsOrder_39 bp_59 ?_
      refine g_icmp_eq (tgt := 46) dX9_readsOrder_41 rfl (fun zc41 => ?_) (fun zc41 => ?_)
      · refine g_aload_n dX9_readsOrder_46 rfl ?_
        refine g_dup dX9_readsOrder_47 rfl ?_
        refine q_geti dX9_readsOrder_48 f_R_304 ck_84 (by decide) ty_8_13 ?_
        refine g_top rS_p ?_
        refine g_iconst dX9_readsOrder_51 ic_1 ?_
        refine n_iadd dX9_readsOrder_52 ?_
        refine q_puti dX9_readsOrder_53 f_R_304 ck_84 (by decide) ty_8_13 fi_8_13 ?_
        refine g_heap (congrArg (fun z => HH z δ) rS_put) ?_
        refine g_heap (show _ = HH τ δ from by rw [← hτ, or_y zc32 zc41]) ?_
        refine g_iload_n dX9_readsOrder_56 rfl ?_
        refine n_if_eq (tgt := 86) (by omega) dX9_readsOrder_57 rfl (fun zc57 => absurd zc57 (by decide)) (fun _ => ?_)
        refine g_aload_n dX9_readsOrder_60 rfl ?_
        refine g_aload_n dX9_readsOrder_61 rfl ?_
        refine g_iload_n dX9_readsOrder_62 rfl ?_
        refine g_v1 (M' := KR_can) dX9_readsOrder_63 l_R_329 v_KR_can hcan rc_84 HH_len rfl ⟨rfl, rfl⟩ ?_
        refine q_puti dX9_readsOrder_66 f_R_332 ck_84 (by decide) ty_8_15 fi_8_15 ?_
        refine g_aload_n dX9_readsOrder_69 rfl ?_
        refine q_geti dX9_readsOrder_70 f_R_332 ck_84 (by decide) ty_8_15 ?_
        refine g_top uI_same ?_
        refine g_if_ne (tgt := 84) dX9_readsOrder_73 rfl (fun zc73 => ?_) (fun zc73 => ?_)
        · refine g_iconst dX9_readsOrder_84 ic_0 ?_
          refine g_istore_n dX9_readsOrder_85 rfl ?_
          refine g_iconst dX9_readsOrder_86 ic_1 ?_
          exact e_z1 dX9_readsOrder_87 rfl (by rfl) (by rfl)
        · exact absurd zc73 hv
      · exact absurd hok (by rw [or_n zc32 zc41]; exact Bool.false_ne_true)
  · exact absurd zc9 (by rw [decide_eq_true hn]; decide)
