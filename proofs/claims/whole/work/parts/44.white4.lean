/-! CONTRACTS: a look at what is white -/
/-- open after the first k items: what none of them covers -/
def opF (a : Nat → Int32) (old : Nat → Int32) (k : Nat) : Nat → Int32 := fun p => if (anyN (fun i => coversA a i (p % 16) (p / 16)) k && shP a (p % 16) (p / 16)) = true then nI 0 else if p < 256 then nI 1 else old p
/-- what is held after a look -/
def lk1 (σ : SI) (a : Nat → Int32) (n W Hh : Nat) : SI := uR (uI (uI σ 76 0 (nI W)) 76 1 (nI Hh)) 78 (opF a (uI (uI σ 76 0 (nI W)) 76 1 (nI Hh) 78) n)
def lk2 (σ : SI) (a : Nat → Int32) (n W Hh : Nat) : SI := uI (uR (lk1 σ a n W Hh) 77 (rnG (whP a n) (lk1 σ a n W Hh 77) W Hh W)) 76 2 (nI (cntN (whP a n) 256))
def lkS (σ : SI) (a : Nat → Int32) (n W Hh : Nat) : SI := bfH (blk (lk2 σ a n W Hh) (blA (whP a n) 256)) (cpA (whP a n) W Hh 256).1 (cpA (whP a n) W Hh 256).2
section LK
variable {a old : Nat → Int32} {n k p W Hh x y : Nat} {σ τ : SI}
theorem wh_in (h : whP a n p = true) : p % 16 < (a 0).toNatClampNeg ∧ p / 16 < (a 1).toNatClampNeg := by
  unfold whP shP at h
  simp only [Bool.and_eq_true, decide_eq_true_eq] at h
  exact h.1
theorem op_0 : fill τ 78 (fun _ => nI 1) 256 = uR τ 78 (opF a (τ 78) 0) := by
  funext x y
  unfold fill uR
  by_cases h : x = 78
  · subst h
    rw [if_pos rfl]
    show _ = (if (false && shP a (y % 16) (y / 16)) = true then nI 0 else if y < 256 then nI 1 else τ 78 y)
    rw [Bool.false_and, if_neg (c := false = true) (by decide)]
    by_cases h2 : y < 256
    · rw [if_pos ⟨rfl, h2⟩, if_pos h2]
    · rw [if_neg (by omega), if_neg h2]
  · rw [if_neg (by omega), if_neg h]
theorem op_n (h : liesA a k = false) : opF a old k = opF a old (k + 1) := by
  funext p
  show (if (anyN (fun i => coversA a i (p % 16) (p / 16)) k && shP a (p % 16) (p / 16)) = true then nI 0 else _) = (if ((anyN (fun i => coversA a i (p % 16) (p / 16)) k || coversA a k (p % 16) (p / 16)) && shP a (p % 16) (p / 16)) = true then nI 0 else _)
  rw [cov_f1 h, Bool.or_false]
theorem op_c (hWz : (a 0).toNatClampNeg = W) (hHz : (a 1).toNatClampNeg = Hh) (h : liesA a k = true) (hW : W ≤ 16) (hH : Hh ≤ 16) : cvF (opF a old k) (xN' a k) (min W (xN' a k + wN a k)) (yN' a k) (max (yN' a k) (min Hh (yN' a k + hN' a k))) (xN' a k) = opF a old (k + 1) := by
  funext p
  show (if cvP _ _ _ _ _ p = true then nI 0 else (if (anyN (fun i => coversA a i (p % 16) (p / 16)) k && shP a (p % 16) (p / 16)) = true then nI 0 else _)) = (if ((anyN (fun i => coversA a i (p % 16) (p / 16)) k || coversA a k (p % 16) (p / 16)) && shP a (p % 16) (p / 16)) = true then nI 0 else _)
  have e : cvP (xN' a k) (min W (xN' a k + wN a k)) (yN' a k) (max (yN' a k) (min Hh (yN' a k + hN' a k))) (xN' a k) p = (coversA a k (p % 16) (p / 16) && shP a (p % 16) (p / 16)) := by
    unfold coversA inW shP cvP
    rw [h, hWz, hHz, Bool.eq_iff_iff]
    simp only [Bool.and_eq_true, Bool.or_eq_true, decide_eq_true_eq, Bool.true_and]
    omega
  rw [e]
  generalize anyN (fun i => coversA a i (p % 16) (p / 16)) k = b1
  generalize coversA a k (p % 16) (p / 16) = b2
  generalize shP a (p % 16) (p / 16) = b3
  cases b1 <;> cases b2 <;> cases b3 <;> simp
theorem op_wh (hx : x < (a 0).toNatClampNeg) (hy : y < (a 1).toNatClampNeg) (hx6 : x < 16) (hy6 : y < 16) : opF a old n (16 * y + x) = bI (whP a n (16 * y + x)) := by
  unfold opF whP shP
  rw [show (16 * y + x) % 16 = x by omega, show (16 * y + x) / 16 = y by omega, decide_eq_true hx, decide_eq_true hy, if_pos (show 16 * y + x < 256 by omega)]
  cases anyN (fun i => coversA a i x y) n <;> rfl
theorem rn_wh {f : Nat → Bool} (hx : x < W) (hy : y < Hh) (hW : W ≤ 16) : rnG f old W Hh W (16 * y + x) = nI (rnR f (16 * y + x) (W - x)) := by
  unfold rnG
  rw [if_pos]
  · rw [show (16 * y + x) % 16 = x by omega]
  · simp
    omega
theorem lk_c {c : Nat} (h : c < 76 ∨ 79 < c) : lkS σ a n W Hh c = σ c := by
  unfold lkS lk2 lk1
  rw [bf_c (by omega) (by omega) (by omega), blk_c (by omega), uI_ne (by omega), uR_ne (by omega), uR_ne (by omega), uI_ne (by omega), uI_ne (by omega)]
theorem lk_0 : lkS σ a n W Hh 76 0 = nI W := by
  unfold lkS lk2 lk1
  rw [bf_o (by decide) (by decide), blk_o (by decide) (by decide) (by decide), uI_oth (by omega), uR_ne (by decide), uR_ne (by decide), uI_oth (by omega), uI_same]
theorem lk_1 : lkS σ a n W Hh 76 1 = nI Hh := by
  unfold lkS lk2 lk1
  rw [bf_o (by decide) (by decide), blk_o (by decide) (by decide) (by decide), uI_oth (by omega), uR_ne (by decide), uR_ne (by decide), uI_same]
theorem lk_2 : lkS σ a n W Hh 76 2 = nI (cntN (whP a n) 256) := by
  unfold lkS lk2
  rw [bf_o (by decide) (by decide), blk_o (by decide) (by decide) (by decide), uI_same]
theorem lk_3 : lkS σ a n W Hh 76 3 = nI (blA (whP a n) 256).1 := by
  unfold lkS
  rw [bf_o (by decide) (by decide), blk_3]
theorem lk_4 : lkS σ a n W Hh 76 4 = (blA (whP a n) 256).2.1 := by
  unfold lkS
  rw [bf_o (by decide) (by decide)]
  unfold blk
  rw [uI_oth (by omega), uI_same]
theorem lk_5 : lkS σ a n W Hh 76 5 = (blA (whP a n) 256).2.2 := by
  unfold lkS
  rw [bf_o (by decide) (by decide)]
  unfold blk
  rw [uI_same]
theorem lk_6 : lkS σ a n W Hh 76 6 = nI (cpA (whP a n) W Hh 256).2 := by
  unfold lkS
  rw [bf_6]
end LK
set_option maxRecDepth 100000 in
theorem c_KW_look {σ : SI} {δ : SD} {B n W Hh : Nat} {a : Nat → Int32} (hB : LB B) (hL : HL σ B a n) (hWz : (a 0).toNatClampNeg = W) (hHz : (a 1).toNatClampNeg = Hh) : E KW_look [.ref 76, .ref B] (HH σ δ) (none) (HH (lkS σ a n W Hh) δ) := by
  have hBL := LB_le hB
  have hn8 := hL.wf.n8
  have hw : 6 ≤ W ∧ W ≤ 16 ∧ a 0 = nI W := by rw [← hWz]; exact hL.wf.wid
  have hh : 6 ≤ Hh ∧ Hh ≤ 16 ∧ a 1 = nI Hh := by rw [← hHz]; exact hL.wf.hei
  obtain ⟨τ0, ht0⟩ : ∃ τ0, uI (uI σ 76 0 (nI W)) 76 1 (nI Hh) = τ0 := ⟨_, rfl⟩
  have hw0 : τ0 76 0 = nI W := by rw [← ht0, uI_oth (by omega), uI_same]
  have hh0 : τ0 76 1 = nI Hh := by rw [← ht0, uI_same]
  have hL0 : ∀ g, HL (uR τ0 78 g) B a n := fun g => hL.cong (fun i hi => by rw [← ht0, uR_ne (by omega), uI_ne (by omega), uI_ne (by omega)])
  have hfo : ∀ p, p < 256 → whP a n p = true → p % 16 < W ∧ p / 16 < Hh := fun p _ h => by rw [← hWz, ← hHz]; exact wh_in h
  refine E.ofL [some (.ref 76), some (.ref B)] rfl pn_RX7 rfl (fun sc => ?_)
  generalize hRz : (fun (zr : Option Value) (zk : XH) => zr = none ∧ zk = HH (lkS σ a n W Hh) δ) = R
  refine g_aload_n dX7_look_0 rfl ?_
  refine g_bipush dX7_look_1 bp_16 ?_
  refine g_aload_n dX7_look_3 rfl ?_
  refine q_geti dX7_look_4 f_W_21 (ckL_0 hB) (by decide) ty_0_0 ?_
  refine g_top (hL.rb.w.trans hw.2.2) ?_
  refine g_mmin dX7_look_7 l_W_27 mw_min rfl ?_
  refine g_top ((mn_is (by omega) (by omega)).trans (congrArg nI (show min 16 W = W by omega))) ?_
  refine q_puti dX7_look_10 f_W_33 ck_76 (by decide) ty_6_0 fi_6_0 ?_
  refine g_aload_n dX7_look_13 rfl ?_
  refine g_bipush dX7_look_14 bp_16 ?_
  refine g_aload_n dX7_look_16 rfl ?_
  refine q_geti dX7_look_17 f_W_34 (ckL_0 hB) (by decide) ty_0_1 ?_
  refine g_top (show _ = nI Hh by rw [uI_ne (by omega)]; exact hL.rb.h.trans hh.2.2) ?_
  refine g_mmin dX7_look_20 l_W_27 mw_min rfl ?_
  refine g_top ((mn_is (by omega) (by omega)).trans (congrArg nI (show min 16 Hh = Hh by omega))) ?_
  refine q_puti dX7_look_23 f_W_37 ck_76 (by decide) ty_6_1 fi_6_1 ?_
  rw [show HH (uI (uI σ 76 0 (nI W)) 76 1 (nI Hh)) δ = HH τ0 δ by rw [ht0]]
  refine g_aload_n dX7_look_26 rfl ?_
  refine q_getq dX7_look_27 f_W_15 ck_76 (by decide) ty_6_9 rf_76_9 ?_
  refine g_iconst dX7_look_30 ic_1 ?_
  refine g_s2n (M' := KJ_fill) dX7_look_31 l_W_38 s_KJ_fill c_KJ_fill rfl rfl ⟨rfl, rfl⟩ ?_
  refine g_iconst dX7_look_34 ic_0 ?_
  refine g_istore_n dX7_look_35 rfl ?_
  refine g_heap (congrArg (fun z => HH z δ) (show _ = uR τ0 78 (opF a (τ0 78) 0) from op_0)) ?_
  have H36 : ∀ (N : Nat) (k : Nat), k ≤ n → n - k < N → G sc KW_look 36 (aL [some (.ref 76), some (.ref B), some (.int (nI k))]) [] (HH (uR τ0 78 (opF a (τ0 78) k)) δ) (0, 0) R := by
    intro N
    induction N with
    | zero => intro k h1 hN36; exact absurd hN36 (Nat.not_lt_zero _)
    | succ N ih36 =>
      intro k h1 hN36
      have hLk := hL0 (opF a (τ0 78) k)
      refine g_iload_n dX7_look_36 rfl ?_
      refine g_aload_n dX7_look_37 rfl ?_
      refine q_geti dX7_look_38 f_W_44 (ckL_0 hB) (by decide) ty_0_2 ?_
      refine g_top hLk.rb.c ?_
      refine n_icmp_ge (tgt := 64) (by omega) (by omega) dX7_look_41 rfl (fun zc41 => ?_) (fun zc41 => ?_)
      · obtain ⟨τ1, ht1⟩ : ∃ τ1, uR τ0 78 (opF a (τ0 78) n) = τ1 := ⟨_, rfl⟩
        refine g_heap (show _ = HH τ1 δ by rw [← ht1, show k = n by omega]) ?_
        have hw1 : τ1 76 0 = nI W := by rw [← ht1, uR_ne (by decide)]; exact hw0
        have hh1 : τ1 76 1 = nI Hh := by rw [← ht1, uR_ne (by decide)]; exact hh0
        have hop1 : ∀ x y, x < W → y < Hh → τ1 78 (16 * y + x) = bI (whP a n (16 * y + x)) := fun x y hx hy => by rw [← ht1, uR_eq]; exact op_wh (by omega) (by omega) (by omega) (by omega)
        refine g_aload_n dX7_look_64 rfl ?_
        refine g_v0n (M' := KW_countCells) dX7_look_65 l_W_55 v_KW_countCells (c_KW_countCells hw1 hh1 ⟨hw.1, hw.2.1⟩ ⟨hh.1, hh.2.1⟩ hop1 hfo) rc_76 rfl rfl ⟨rfl, rfl⟩ ?_
        obtain ⟨τ2, ht2⟩ : ∃ τ2, uI (uR τ1 77 (rnG (whP a n) (τ1 77) W Hh W)) 76 2 (nI (cntN (whP a n) 256)) = τ2 := ⟨_, rfl⟩
        refine g_heap (show _ = HH τ2 δ by rw [← ht2]) ?_
        have hw2 : τ2 76 0 = nI W := by rw [← ht2, uI_oth (by omega), uR_ne (by decide)]; exact hw1
        have hh2 : τ2 76 1 = nI Hh := by rw [← ht2, uI_oth (by omega), uR_ne (by decide)]; exact hh1
        have hr2 : ∀ x y, x < W → y < Hh → τ2 77 (16 * y + x) = nI (rnR (whP a n) (16 * y + x) (W - x)) := fun x y hx hy => by rw [← ht2, uI_ne (by decide), uR_eq]; exact rn_wh hx hy (by omega)
        refine g_aload_n dX7_look_68 rfl ?_
        refine g_v0n (M' := KW_findBlock) dX7_look_69 l_W_58 v_KW_findBlock (c_KW_findBlock hw2 hh2 ⟨hw.1, hw.2.1⟩ ⟨hh.1, hh.2.1⟩ hfo hr2) rc_76 rfl rfl ⟨rfl, rfl⟩ ?_
        obtain ⟨τ3, ht3⟩ : ∃ τ3, blk τ2 (blA (whP a n) 256) = τ3 := ⟨_, rfl⟩
        refine g_heap (show _ = HH τ3 δ by rw [← ht3]) ?_
        have hw3 : τ3 76 0 = nI W := by rw [← ht3]; exact (blk_o (by decide) (by decide) (by decide)).trans hw2
        have hh3 : τ3 76 1 = nI Hh := by rw [← ht3]; exact (blk_o (by decide) (by decide) (by decide)).trans hh2
        have hop3 : ∀ x y, x < W → y < Hh → τ3 78 (16 * y + x) = bI (whP a n (16 * y + x)) := fun x y hx hy => by rw [← ht3, blk_c (by decide), ← ht2, uI_ne (by decide), uR_ne (by decide)]; exact hop1 x y hx hy
        refine g_aload_n dX7_look_72 rfl ?_
        refine g_v0n (M' := KW_countParts) dX7_look_73 l_W_61 v_KW_countParts (c_KW_countParts hw3 hh3 ⟨hw.1, hw.2.1⟩ ⟨hh.1, hh.2.1⟩ hop3 hfo) rc_76 rfl rfl ⟨rfl, rfl⟩ ?_
        exact g_vret (S := []) dX7_look_76 rfl (by rw [← hRz]; exact ⟨rfl, by rw [← ht3, ← ht2, ← ht1, ← ht0]; rfl⟩) (Nat.zero_le _) (Nat.zero_le _)
      · refine g_aload_n dX7_look_44 rfl ?_
        refine g_iload_n dX7_look_45 rfl ?_
        refine g_v1 (M' := KL_lies) dX7_look_46 l_W_47 v_KL_lies (c_KL_lies hB hLk.wf hLk.rb (by omega)) (rcL hB) rfl rfl ⟨rfl, rfl⟩ ?_
        refine b_if_eq (tgt := 58) dX7_look_49 rfl (fun zc49 => ?_) (fun zc49 => ?_)
        · refine n_iinc (b := 1) dX7_look_58 rfl rfl rfl ?_
          refine g_goto (tgt := 36) dX7_look_61 rfl ?_
          refine g_heap (congrArg (fun z => HH z δ) (show _ = uR τ0 78 (opF a (τ0 78) (k + 1)) by first | rw [op_n zc49] | (rw [uR_eq, uR_uR]; exact congrArg (uR τ0 78) (op_c hWz hHz zc49 (by omega) (by omega))))) ?_
          exact g_can _ (by exact ⟨rfl, rfl, rfl, trivial⟩) (ih36 (k + 1) (by omega) (by omega))
        · refine g_aload_n dX7_look_52 rfl ?_
          refine g_aload_n dX7_look_53 rfl ?_
          refine g_iload_n dX7_look_54 rfl ?_
          refine g_v2n (M' := KW_cover) dX7_look_55 l_W_51 v_KW_cover (c_KW_cover hB hLk.wf hLk.rb hLk.rd (by rw [uR_ne (by decide)]; exact hw0) (by rw [uR_ne (by decide)]; exact hh0) ⟨hw.1, hw.2.1⟩ ⟨hh.1, hh.2.1⟩ (by omega) zc49 rfl rfl) rc_76 rfl rfl ⟨rfl, rfl⟩ ?_
          refine n_iinc (b := 1) dX7_look_58 rfl rfl rfl ?_
          refine g_goto (tgt := 36) dX7_look_61 rfl ?_
          refine g_heap (congrArg (fun z => HH z δ) (show _ = uR τ0 78 (opF a (τ0 78) (k + 1)) by first | rw [op_n zc49] | (rw [uR_eq, uR_uR]; exact congrArg (uR τ0 78) (op_c hWz hHz zc49 (by omega) (by omega))))) ?_
          exact g_can _ (by exact ⟨rfl, rfl, rfl, trivial⟩) (ih36 (k + 1) (by omega) (by omega))
  exact g_can _ (by exact ⟨rfl, rfl, rfl, trivial⟩) (H36 _ 0 (by omega) (Nat.lt_succ_self _))
