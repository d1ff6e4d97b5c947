/-! CONTRACTS: what covers, what is heaviest, sums of the reference -/
def findI (p : Nat → Bool) : Nat → Int32
  | 0 => -1
  | n + 1 => if findI p n = -1 then (if p n then nI n else -1) else findI p n
theorem findI_no {p : Nat → Bool} : ∀ {n : Nat}, (∀ i, i < n → p i = false) → findI p n = -1
  | 0, _ => rfl
  | n + 1, h => by unfold findI; rw [if_pos (findI_no (fun i hi => h i (by omega))), h n (by omega)]; rfl
theorem nI_m1 {k : Nat} (h : k < 2147483648) : ¬ nI k = -1 := fun e => by
  have := congrArg Int32.toInt e
  rw [nI_int h, show (-1 : Int32).toInt = -1 from rfl] at this
  omega
theorem findI_first {p : Nat → Bool} {k : Nat} (hk : k < 1000000) (h : ∀ i, i < k → p i = false) (hp : p k = true) : ∀ m, findI p (k + 1 + m) = nI k
  | 0 => by
    show findI p (k + 1) = nI k
    unfold findI
    rw [if_pos (findI_no h), hp]
    rfl
  | m + 1 => by
    show (if findI p (k + 1 + m) = -1 then (if p (k + 1 + m) then nI (k + 1 + m) else -1) else findI p (k + 1 + m)) = nI k
    rw [findI_first hk h hp m, if_neg (nI_m1 (by omega))]
theorem findI_at {p : Nat → Bool} {k n : Nat} (hk : k < n) (h : ∀ i, i < k → p i = false) (hp : p k = true) (hn : n < 1000000 := by omega) : findI p n = nI k := by
  have := findI_first (by omega) h hp (n - (k + 1))
  rwa [show k + 1 + (n - (k + 1)) = n by omega] at this
theorem findI_cong {p q : Nat → Bool} : ∀ {n : Nat}, (∀ k, k < n → p k = q k) → findI p n = findI q n
  | 0, _ => rfl
  | n + 1, h => by unfold findI; rw [findI_cong (fun k hk => h k (by omega)), h n (by omega)]
theorem lt_step {p : Nat → Prop} {k : Nat} (h : ∀ i, i < k → p i) (hk : p k) : ∀ i, i < k + 1 → p i := fun i hi => by
  rcases Nat.lt_or_ge i k with q | q
  · exact h i q
  · rw [show i = k by omega]; exact hk
def inW (z w x : Nat) : Bool := decide (z ≤ x) && decide (x < z + w)
def xN' (a : Nat → Int32) (k : Nat) : Nat := (its a k 4).toNatClampNeg
def yN' (a : Nat → Int32) (k : Nat) : Nat := (its a k 5).toNatClampNeg
def wN (a : Nat → Int32) (k : Nat) : Nat := (wideF a k).toNatClampNeg
def hN' (a : Nat → Int32) (k : Nat) : Nat := (highF a k).toNatClampNeg
def coversA (a : Nat → Int32) (k x y : Nat) : Bool := liesA a k && (inW (xN' a k) (wN a k) x && inW (yN' a k) (hN' a k) y)
theorem cov_f1 {a : Nat → Int32} {k x y : Nat} (h : liesA a k = false) : coversA a k x y = false := by unfold coversA; rw [h]; rfl
theorem cov_f2 {a : Nat → Int32} {k x y : Nat} (h : inW (xN' a k) (wN a k) x = false) : coversA a k x y = false := by unfold coversA; rw [h]; simp
theorem cov_f3 {a : Nat → Int32} {k x y : Nat} (h : inW (yN' a k) (hN' a k) y = false) : coversA a k x y = false := by unfold coversA; rw [h]; simp
theorem cov_t {a : Nat → Int32} {k x y : Nat} (h1 : liesA a k = true) (h2 : inW (xN' a k) (wN a k) x = true) (h3 : inW (yN' a k) (hN' a k) y = true) : coversA a k x y = true := by unfold coversA; rw [h1, h2, h3]; rfl
theorem WF.wide {a : Nat → Int32} {n k : Nat} (hW : WF a n) (hk : k < n) : 1 ≤ wN a k ∧ wN a k ≤ 40 ∧ wideF a k = nI (wN a k) := by
  have h2 := hW.it2 hk
  have h3 := hW.it3 hk
  exact (fl_wide hW.big.1 hW.big.2.1 hW.rat.1 hW.rat.2.1 h2.1 h2.2.1 h3.1 h3.2.1).cl (by decide)
theorem WF.high {a : Nat → Int32} {n k : Nat} (hW : WF a n) (hk : k < n) : 1 ≤ hN' a k ∧ hN' a k ≤ 40 ∧ highF a k = nI (hN' a k) := (fl_high hW.big.1 hW.big.2.1 hW.rat.1 hW.rat.2.1).cl (by decide)
theorem WF.xy {a : Nat → Int32} {n k : Nat} (hW : WF a n) (hk : k < n) (hl : liesA a k = true) : xN' a k ≤ 15 ∧ yN' a k ≤ 15 ∧ its a k 4 = nI (xN' a k) ∧ its a k 5 = nI (yN' a k) := by
  have h := hW.pl hk
  unfold liesA at hl
  rcases h with h | h
  · rw [decide_eq_true_eq] at hl; exact absurd h.1 hl
  · have a1 := h.1.cl (by decide)
    have a2 := h.2.cl (by decide)
    exact ⟨a1.2.1, a2.2.1, a1.2.2, a2.2.2⟩
theorem zin_W {z w x : Nat} (hz : z < 1000) (hw : w < 1000) (hw1 : 1 ≤ w) (hx : x < 1000) : inB (nI x - nI z) (nI 0) (nI w - nI 1) = inW z w x := by
  unfold inB inW
  have e1 := pk_sub_toInt (a := x) (b := z) (by omega) (by omega)
  have e2 := pk_sub_toInt (a := w) (b := 1) (by omega) (by omega)
  have e0 : (nI 0).toInt = 0 := rfl
  rw [Bool.eq_iff_iff]
  simp only [Bool.and_eq_true, decide_eq_true_eq, Int32.le_iff_toInt_le, e1, e2, e0]
  omega
theorem zin_R {z w x : Nat} (hz : z < 1000) (hw : w < 1000) (hw1 : 1 ≤ w) (hx : x < 1000) : inL (nI x).toInt64 (nI z).toInt64 (nI z + nI w - nI 1).toInt64 = inW z w x := by
  rw [inL_wide]
  rw [nI_add]
  unfold inB inW
  have e2 := pk_sub_toInt (a := z + w) (b := 1) (by omega) (by omega)
  have e0 := nI_int (n := x) (by omega)
  have e3 := nI_int (n := z) (by omega)
  rw [Bool.eq_iff_iff]
  simp only [Bool.and_eq_true, decide_eq_true_eq, Int32.le_iff_toInt_le, e2, e0, e3]
  omega
section COV
variable {a : Nat → Int32} {n k x y : Nat}
theorem covW_x (hW : WF a n) (hk : k < n) (hl : liesA a k = true) (hx : x < 16) : bI (inB (nI x - its a k 4) (nI 0) (wideF a k - nI 1)) = bI (inW (xN' a k) (wN a k) x) := by
  have h1 := hW.xy hk hl
  have h2 := hW.wide hk
  rw [h1.2.2.1, h2.2.2, zin_W (by omega) (by omega) h2.1 (by omega)]
theorem covW_y (hW : WF a n) (hk : k < n) (hl : liesA a k = true) (hx : y < 16) : bI (inB (nI y - its a k 5) (nI 0) (highF a k - nI 1)) = bI (inW (yN' a k) (hN' a k) y) := by
  have h1 := hW.xy hk hl
  have h2 := hW.high hk
  rw [h1.2.2.2, h2.2.2, zin_W (by omega) (by omega) h2.1 (by omega)]
theorem covR_x (hW : WF a n) (hk : k < n) (hl : liesA a k = true) (hx : x < 16) : bI (inL (nI x).toInt64 (its a k 4).toInt64 (its a k 4 + wideF a k - nI 1).toInt64) = bI (inW (xN' a k) (wN a k) x) := by
  have h1 := hW.xy hk hl
  have h2 := hW.wide hk
  rw [h1.2.2.1, h2.2.2, zin_R (by omega) (by omega) h2.1 (by omega)]
theorem covR_y (hW : WF a n) (hk : k < n) (hl : liesA a k = true) (hx : y < 16) : bI (inL (nI y).toInt64 (its a k 5).toInt64 (its a k 5 + highF a k - nI 1).toInt64) = bI (inW (yN' a k) (hN' a k) y) := by
  have h1 := hW.xy hk hl
  have h2 := hW.high hk
  rw [h1.2.2.2, h2.2.2, zin_R (by omega) (by omega) h2.1 (by omega)]
end COV
def canOffA (a : Nat → Int32) (n : Nat) (k : Int32) : Int32 := if itB k n then (if liesA a k.toNatClampNeg then nI 0 else -3) else -2
theorem canOff_no {a : Nat → Int32} {n : Nat} {k : Int32} (h : itB k n = false) : canOffA a n k = -2 := by unfold canOffA; rw [h]; rfl
theorem canOff_yes {a : Nat → Int32} {n j : Nat} (h : itB (nI j) n = true) (h2 : liesA a j = true) (hj : j < 1000 := by omega) : canOffA a n (nI j) = nI 0 := by unfold canOffA; rw [h, nI_clamp (by omega), h2]; rfl
theorem canOff_bad {a : Nat → Int32} {n j : Nat} (h : itB (nI j) n = true) (h2 : liesA a j = false) (hj : j < 1000 := by omega) : canOffA a n (nI j) = -3 := by unfold canOffA; rw [h, nI_clamp (by omega), h2]; rfl
set_option maxRecDepth 100000 in
theorem c_KL_leastOver {σ : SI} {δ : SD} {B n : Nat} {a : Nat → Int32} (hB : LB B) (hW : WF a n) (hR : RB σ B a n) (hD : RD σ B a n) {x y : Nat} (hx : x < 16) (hy : y < 16) : E KL_leastOver [.ref B, .int (nI x), .int (nI y)] (HH σ δ) (some (.int (findI (fun k => coversA a k x y) n))) (HH σ δ) := by
  have h8 := hW.n8
  have h2 := hR.c
  refine E.ofL [some (.ref B), some (.int (nI x)), some (.int (nI y))] rfl pn_RX1 rfl (fun sc => ?_)
  generalize hRz : (fun (zr : Option Value) (zk : XH) => zr = some (.int (findI (fun k => coversA a k x y) n)) ∧ zk = HH σ δ) = R
  refine g_iconst dX1_leastOver_0 ic_0 ?_
  refine g_istore_n dX1_leastOver_1 rfl ?_
  have H2 : ∀ (N : Nat) (k : Nat), k ≤ n → (∀ i, i < k → coversA a i x y = false) → n - k < N → G sc KL_leastOver 2 (aL [some (.ref B), some (.int (nI x)), some (.int (nI y)), some (.int (nI k))]) [] (HH σ δ) (0, 0) R := by
    intro N
    induction N with
    | zero => intro k h1 hb hN2; exact absurd hN2 (Nat.not_lt_zero _)
    | succ N ih2 =>
      intro k h1 hb hN2
      refine g_iload_n dX1_leastOver_2 rfl ?_
      refine g_aload_n dX1_leastOver_3 rfl ?_
      refine q_geti dX1_leastOver_4 f_L_44 (ckL_0 hB) (by decide) ty_0_2 ?_
      refine g_top h2 ?_
      refine n_icmp_ge (tgt := 68) (by omega) (by omega) dX1_leastOver_7 rfl (fun zc7 => ?_) (fun zc7 => ?_)
      · refine g_iconst dX1_leastOver_68 ic_m1 ?_
        exact g_iret (S := []) dX1_leastOver_69 rfl (by rw [← hRz]; exact ⟨congrArg (fun zz => some (Value.int zz)) (show _ = _ by exact (findI_no (fun i hi => hb i (by omega))).symm), by rfl⟩) (Nat.zero_le _) (Nat.zero_le _)
      · refine g_aload_n dX1_leastOver_10 rfl ?_
        refine g_iload_n dX1_leastOver_11 rfl ?_
        have hk : k < n := zc7
        refine g_v1 (M' := KL_lies) dX1_leastOver_12 l_L_123 v_KL_lies (c_KL_lies hB hW hR (by omega)) (rcL hB) rfl rfl ⟨rfl, rfl⟩ ?_
        refine b_if_eq (tgt := 62) dX1_leastOver_15 rfl (fun zc15 => ?_) (fun zc15 => ?_)
        · refine n_iinc (b := 1) dX1_leastOver_62 rfl rfl rfl ?_
          refine g_goto (tgt := 2) dX1_leastOver_65 rfl ?_
          exact g_can _ (by exact ⟨rfl, rfl, rfl, rfl, trivial⟩) (ih2 (k + 1) (by omega) (lt_step hb (by first | exact cov_f1 zc15 | exact cov_f2 zc36 | exact cov_f3 zc57)) (by omega))
        · refine g_iload_n dX1_leastOver_18 rfl ?_
          refine g_aload_n dX1_leastOver_19 rfl ?_
          refine g_iload_n dX1_leastOver_20 rfl ?_
          refine g_v1 (M' := KL_xOf) dX1_leastOver_21 l_L_133 v_KL_xOf (c_KL_xOf hB hW hR (by omega)) (rcL hB) rfl rfl ⟨rfl, rfl⟩ ?_
          refine g_isub dX1_leastOver_24 ?_
          refine g_top rfl ?_
          refine g_iconst dX1_leastOver_25 ic_0 ?_
          refine g_aload_n dX1_leastOver_26 rfl ?_
          refine g_iload_n dX1_leastOver_27 rfl ?_
          refine g_v1 (M' := KL_wide) dX1_leastOver_28 l_L_155 v_KL_wide (c_KL_wide hB hW hR hD (by omega)) (rcL hB) rfl rfl ⟨rfl, rfl⟩ ?_
          refine g_iconst dX1_leastOver_31 ic_1 ?_
          refine g_isub dX1_leastOver_32 ?_
          refine g_top rfl ?_
          refine g_s3N (M' := KP_within) dX1_leastOver_33 l_L_60 s_KP_within c_KP_within rfl rfl ⟨rfl, rfl⟩ ?_
          refine g_top (covW_x hW hk zc15 (by omega)) ?_
          refine b_if_eq (tgt := 62) dX1_leastOver_36 rfl (fun zc36 => ?_) (fun zc36 => ?_)
          · refine n_iinc (b := 1) dX1_leastOver_62 rfl rfl rfl ?_
            refine g_goto (tgt := 2) dX1_leastOver_65 rfl ?_
            exact g_can _ (by exact ⟨rfl, rfl, rfl, rfl, trivial⟩) (ih2 (k + 1) (by omega) (lt_step hb (by first | exact cov_f1 zc15 | exact cov_f2 zc36 | exact cov_f3 zc57)) (by omega))
          · refine g_iload_n dX1_leastOver_39 rfl ?_
            refine g_aload_n dX1_leastOver_40 rfl ?_
            refine g_iload_n dX1_leastOver_41 rfl ?_
            refine g_v1 (M' := KL_yOf) dX1_leastOver_42 l_L_136 v_KL_yOf (c_KL_yOf hB hW hR (by omega)) (rcL hB) rfl rfl ⟨rfl, rfl⟩ ?_
            refine g_isub dX1_leastOver_45 ?_
            refine g_top rfl ?_
            refine g_iconst dX1_leastOver_46 ic_0 ?_
            refine g_aload_n dX1_leastOver_47 rfl ?_
            refine g_iload_n dX1_leastOver_48 rfl ?_
            refine g_v1 (M' := KL_high) dX1_leastOver_49 l_L_158 v_KL_high (c_KL_high hB hW hR hD (by omega)) (rcL hB) rfl rfl ⟨rfl, rfl⟩ ?_
            refine g_iconst dX1_leastOver_52 ic_1 ?_
            refine g_isub dX1_leastOver_53 ?_
            refine g_top rfl ?_
            refine g_s3N (M' := KP_within) dX1_leastOver_54 l_L_60 s_KP_within c_KP_within rfl rfl ⟨rfl, rfl⟩ ?_
            refine g_top (covW_y hW hk zc15 (by omega)) ?_
            refine b_if_eq (tgt := 62) dX1_leastOver_57 rfl (fun zc57 => ?_) (fun zc57 => ?_)
            · refine n_iinc (b := 1) dX1_leastOver_62 rfl rfl rfl ?_
              refine g_goto (tgt := 2) dX1_leastOver_65 rfl ?_
              exact g_can _ (by exact ⟨rfl, rfl, rfl, rfl, trivial⟩) (ih2 (k + 1) (by omega) (lt_step hb (by first | exact cov_f1 zc15 | exact cov_f2 zc36 | exact cov_f3 zc57)) (by omega))
            · refine g_iload_n dX1_leastOver_60 rfl ?_
              exact g_iret (S := []) dX1_leastOver_61 rfl (by rw [← hRz]; exact ⟨congrArg (fun zz => some (Value.int zz)) (show _ = _ by exact (findI_at zc7 hb (cov_t zc15 zc36 zc57)).symm), by rfl⟩) (Nat.zero_le _) (Nat.zero_le _)
  exact g_can _ (by exact ⟨rfl, rfl, rfl, rfl, trivial⟩) (H2 _ 0 (by omega) (fun i hi => absurd hi (Nat.not_lt_zero i)) (Nat.lt_succ_self _))
set_option maxRecDepth 100000 in
theorem c_KL_heaviest {σ : SI} {δ : SD} {B n : Nat} {a : Nat → Int32} (hB : LB B) (hW : WF a n) (hR : RB σ B a n) (hD : RD σ B a n) {so i : Int32} : E KL_heaviest [.ref B, .int so, .int i] (HH σ δ) (some (.int (findI (fun k => decide (its a k 0 = so) && decide (nI (aheadA a n k) = i)) n))) (HH σ δ) := by
  have h8 := hW.n8
  have h2 := hR.c
  refine E.ofL [some (.ref B), some (.int so), some (.int i)] rfl pn_RX1 rfl (fun sc => ?_)
  generalize hRz : (fun (zr : Option Value) (zk : XH) => zr = some (.int (findI (fun k => decide (its a k 0 = so) && decide (nI (aheadA a n k) = i)) n)) ∧ zk = HH σ δ) = R
  refine g_iconst dX1_heaviest_0 ic_0 ?_
  refine g_istore_n dX1_heaviest_1 rfl ?_
  have H2 : ∀ (N : Nat) (k : Nat), k ≤ n → (∀ j, j < k → (decide (its a j 0 = so) && decide (nI (aheadA a n j) = i)) = false) → n - k < N → G sc KL_heaviest 2 (aL [some (.ref B), some (.int so), some (.int i), some (.int (nI k))]) [] (HH σ δ) (0, 0) R := by
    intro N
    induction N with
    | zero => intro k h1 hb hN2; exact absurd hN2 (Nat.not_lt_zero _)
    | succ N ih2 =>
      intro k h1 hb hN2
      refine g_iload_n dX1_heaviest_2 rfl ?_
      refine g_aload_n dX1_heaviest_3 rfl ?_
      refine q_geti dX1_heaviest_4 f_L_44 (ckL_0 hB) (by decide) ty_0_2 ?_
      refine g_top h2 ?_
      refine n_icmp_ge (tgt := 37) (by omega) (by omega) dX1_heaviest_7 rfl (fun zc7 => ?_) (fun zc7 => ?_)
      · refine g_iconst dX1_heaviest_37 ic_m1 ?_
        exact g_iret (S := []) dX1_heaviest_38 rfl (by rw [← hRz]; exact ⟨congrArg (fun zz => some (Value.int zz)) (show _ = _ by exact (findI_no (fun i hi => hb i (by omega))).symm), by rfl⟩) (Nat.zero_le _) (Nat.zero_le _)
      · refine g_aload_n dX1_heaviest_10 rfl ?_
        refine g_iload_n dX1_heaviest_11 rfl ?_
        refine g_iconst dX1_heaviest_12 ic_0 ?_
        refine g_v2 (M' := KL_trait) dX1_heaviest_13 l_L_99 v_KL_trait (c_KL_trait hB hW hR (by omega) (by omega)) (rcL hB) rfl rfl ⟨rfl, rfl⟩ ?_
        refine g_iload_n dX1_heaviest_16 rfl ?_
        refine g_icmp_ne (tgt := 31) dX1_heaviest_17 rfl (fun zc17 => ?_) (fun zc17 => ?_)
        · refine n_iinc (b := 1) dX1_heaviest_31 rfl rfl rfl ?_
          refine g_goto (tgt := 2) dX1_heaviest_34 rfl ?_
          exact g_can _ (by exact ⟨rfl, rfl, rfl, rfl, trivial⟩) (ih2 (k + 1) (by omega) (lt_step hb (by clear ih2; simp [*])) (by omega))
        · refine g_aload_n dX1_heaviest_20 rfl ?_
          refine g_iload_n dX1_heaviest_21 rfl ?_
          refine g_v1 (M' := KL_howManyBefore) dX1_heaviest_22 l_L_173 v_KL_howManyBefore (c_KL_howManyBefore hB hW hR hD (by omega)) (rcL hB) rfl rfl ⟨rfl, rfl⟩ ?_
          refine g_iload_n dX1_heaviest_25 rfl ?_
          refine g_icmp_ne (tgt := 31) dX1_heaviest_26 rfl (fun zc26 => ?_) (fun zc26 => ?_)
          · refine n_iinc (b := 1) dX1_heaviest_31 rfl rfl rfl ?_
            refine g_goto (tgt := 2) dX1_heaviest_34 rfl ?_
            exact g_can _ (by exact ⟨rfl, rfl, rfl, rfl, trivial⟩) (ih2 (k + 1) (by omega) (lt_step hb (by clear ih2; simp [*])) (by omega))
          · refine g_iload_n dX1_heaviest_29 rfl ?_
            exact g_iret (S := []) dX1_heaviest_30 rfl (by rw [← hRz]; exact ⟨congrArg (fun zz => some (Value.int zz)) (show _ = _ by exact (findI_at zc7 hb (by clear ih2; simp [*])).symm), by rfl⟩) (Nat.zero_le _) (Nat.zero_le _)
  exact g_can _ (by exact ⟨rfl, rfl, rfl, rfl, trivial⟩) (H2 _ 0 (by omega) (fun i hi => absurd hi (Nat.not_lt_zero i)) (Nat.lt_succ_self _))
set_option maxRecDepth 100000 in
theorem c_KR_liesMany {σ : SI} {δ : SD} {n : Nat} (hW : WF (σ 85) n) : E KR_liesMany [.ref 84] (HH σ δ) (some (.int (nI (cntN (liesA (σ 85)) n)))) (HH σ δ) := by
  have h8 := hW.n8
  refine E.ofL [some (.ref 84)] rfl pn_RX9 rfl (fun sc => ?_)
  generalize hRz : (fun (zr : Option Value) (zk : XH) => zr = some (.int (nI (cntN (liesA (σ 85)) n))) ∧ zk = HH σ δ) = R
  refine g_iconst dX9_liesMany_0 ic_0 ?_
  refine g_istore_n dX9_liesMany_1 rfl ?_
  refine g_iconst dX9_liesMany_2 ic_0 ?_
  refine g_istore_n dX9_liesMany_3 rfl ?_
  have H4 : ∀ (N : Nat) (k c : Nat), k ≤ n → c = cntN (liesA (σ 85)) k → n - k < N → G sc KR_liesMany 4 (aL [some (.ref 84), some (.int (nI c)), some (.int (nI k))]) [] (HH σ δ) (0, 0) R := by
    intro N
    induction N with
    | zero => intro k c h1 hb hN4; exact absurd hN4 (Nat.not_lt_zero _)
    | succ N ih4 =>
      intro k c h1 hb hN4
      refine g_iload_n dX9_liesMany_4 rfl ?_
      refine g_aload_n dX9_liesMany_5 rfl ?_
      refine g_v0 (M' := KR_many) dX9_liesMany_6 l_R_42 v_KR_many c_KR_many rc_84 rfl rfl ⟨rfl, rfl⟩ ?_
      refine g_top hW.a7 ?_
      refine n_icmp_ge (tgt := 34) (by omega) (by omega) dX9_liesMany_9 rfl (fun zc9 => ?_) (fun zc9 => ?_)
      · refine g_iload_n dX9_liesMany_34 rfl ?_
        exact g_iret (S := []) dX9_liesMany_35 rfl (by rw [← hRz]; exact ⟨congrArg (fun zz => some (Value.int zz)) (show _ = _ by rw [hb, show k = n by omega]), by rfl⟩) (Nat.zero_le _) (Nat.zero_le _)
      · refine g_iload_n dX9_liesMany_12 rfl ?_
        refine g_aload_n dX9_liesMany_13 rfl ?_
        refine g_iload_n dX9_liesMany_14 rfl ?_
        refine g_v1 (M' := KR_lies) dX9_liesMany_15 l_R_82 v_KR_lies (c_KR_lies (by omega)) rc_84 rfl rfl ⟨rfl, rfl⟩ ?_
        refine b_if_eq (tgt := 25) dX9_liesMany_18 rfl (fun zc18 => ?_) (fun zc18 => ?_)
        · refine g_iconst dX9_liesMany_25 ic_0 ?_
          refine n_iadd dX9_liesMany_26 ?_
          refine g_istore_n dX9_liesMany_27 rfl ?_
          refine n_iinc (b := 1) dX9_liesMany_28 rfl rfl rfl ?_
          refine g_goto (tgt := 4) dX9_liesMany_31 rfl ?_
          exact g_can _ (by exact ⟨rfl, rfl, rfl, trivial⟩) (ih4 (k + 1) _ (by omega) (by rw [cntN, ← hb, zc18]; rfl) (by omega))
        · refine g_iconst dX9_liesMany_21 ic_1 ?_
          refine g_goto (tgt := 26) dX9_liesMany_22 rfl ?_
          refine n_iadd dX9_liesMany_26 ?_
          refine g_istore_n dX9_liesMany_27 rfl ?_
          refine n_iinc (b := 1) dX9_liesMany_28 rfl rfl rfl ?_
          refine g_goto (tgt := 4) dX9_liesMany_31 rfl ?_
          exact g_can _ (by exact ⟨rfl, rfl, rfl, trivial⟩) (ih4 (k + 1) _ (by omega) (by rw [cntN, ← hb, zc18]; rfl) (by omega))
  exact g_can _ (by exact ⟨rfl, rfl, rfl, trivial⟩) (H4 _ 0 0 (by omega) rfl (Nat.lt_succ_self _))
set_option maxRecDepth 100000 in
theorem c_KR_canOff {σ : SI} {δ : SD} {n : Nat} (hW : WF (σ 85) n) {k : Int32} : E KR_canOff [.ref 84, .int k] (HH σ δ) (some (.int (canOffA (σ 85) n k))) (HH σ δ) := by
  have h8 := hW.n8
  have h7 := hW.a7
  have hn := hW.n8
  refine E.ofL [some (.ref 84), some (.int k)] rfl pn_RX9 rfl (fun sc => ?_)
  refine g_aload_n dX9_canOff_0 rfl ?_
  refine g_iload_n dX9_canOff_1 rfl ?_
  refine g_v1 (M' := KR_isItem) dX9_canOff_2 l_R_94 v_KR_isItem (c_KR_isItem h7 hn) rc_84 rfl rfl ⟨rfl, rfl⟩ ?_
  refine b_if_ne (tgt := 13) dX9_canOff_5 rfl (fun zc5 => ?_) (fun zc5 => ?_)
  · obtain ⟨j, hj, rfl⟩ := (itB_iff (by omega)).mp zc5
    refine g_aload_n dX9_canOff_13 rfl ?_
    refine g_iload_n dX9_canOff_14 rfl ?_
    refine g_v1 (M' := KR_lies) dX9_canOff_15 l_R_82 v_KR_lies (c_KR_lies (k := j) (by omega)) rc_84 rfl rfl ⟨rfl, rfl⟩ ?_
    refine b_if_eq (tgt := 25) dX9_canOff_18 rfl (fun zc18 => ?_) (fun zc18 => ?_)
    · refine g_bipush dX9_canOff_25 bp_m3 ?_
      exact e_iret dX9_canOff_27 rfl (by first | exact (canOff_no zc5).symm | exact (canOff_yes zc5 zc18).symm | exact (canOff_bad zc5 zc18).symm) (by rfl)
    · refine g_iconst dX9_canOff_21 ic_0 ?_
      refine g_goto (tgt := 27) dX9_canOff_22 rfl ?_
      exact e_iret dX9_canOff_27 rfl (by first | exact (canOff_no zc5).symm | exact (canOff_yes zc5 zc18).symm | exact (canOff_bad zc5 zc18).symm) (by rfl)
  · refine g_bipush dX9_canOff_8 bp_m2 ?_
    refine g_goto (tgt := 27) dX9_canOff_10 rfl ?_
    exact e_iret dX9_canOff_27 rfl (by first | exact (canOff_no zc5).symm | exact (canOff_yes zc5 zc18).symm | exact (canOff_bad zc5 zc18).symm) (by rfl)
set_option maxRecDepth 100000 in
theorem c_KR_layNow {σ : SI} {δ : SD} {k : Nat} (hk : k < 8) {x y : Int32} : E KR_layNow [.ref 84, .int (nI k), .int x, .int y] (HH σ δ) (some (.int (if liesA (σ 85) k then nI 1 else nI 0))) (HH (uI (uI σ 85 (8 + 6 * k + 4) x) 85 (8 + 6 * k + 5) y) δ) := by
  refine E.ofL [some (.ref 84), some (.int (nI k)), some (.int x), some (.int y)] rfl pn_RX9 rfl (fun sc => ?_)
  refine g_aload_n dX9_layNow_0 rfl ?_
  refine g_iload_n dX9_layNow_1 rfl ?_
  refine g_v1 (M' := KR_lies) dX9_layNow_2 l_R_82 v_KR_lies (c_KR_lies (by omega)) rc_84 rfl rfl ⟨rfl, rfl⟩ ?_
  refine b_if_eq (tgt := 12) dX9_layNow_5 rfl (fun zc5 => ?_) (fun zc5 => ?_)
  · refine g_iconst dX9_layNow_12 ic_0 ?_
    refine g_istore dX9_layNow_13 rfl ?_
    refine g_aload_n dX9_layNow_15 rfl ?_
    refine g_iload_n dX9_layNow_16 rfl ?_
    refine g_iconst dX9_layNow_17 ic_4 ?_
    refine g_iload_n dX9_layNow_18 rfl ?_
    refine g_v3n (M' := KR_puts) dX9_layNow_19 l_R_138 v_KR_puts (c_KR_puts (by omega) (by omega)) rc_84 rfl rfl ⟨rfl, rfl⟩ ?_
    refine g_aload_n dX9_layNow_22 rfl ?_
    refine g_iload_n dX9_layNow_23 rfl ?_
    refine g_iconst dX9_layNow_24 ic_5 ?_
    refine g_iload_n dX9_layNow_25 rfl ?_
    refine g_v3n (M' := KR_puts) dX9_layNow_26 l_R_138 v_KR_puts (c_KR_puts (by omega) (by omega)) rc_84 rfl rfl ⟨rfl, rfl⟩ ?_
    refine g_iload dX9_layNow_29 rfl ?_
    exact e_iret dX9_layNow_31 rfl (by rw [zc5]; rfl) (by rfl)
  · refine g_iconst dX9_layNow_8 ic_1 ?_
    refine g_goto (tgt := 13) dX9_layNow_9 rfl ?_
    refine g_istore dX9_layNow_13 rfl ?_
    refine g_aload_n dX9_layNow_15 rfl ?_
    refine g_iload_n dX9_layNow_16 rfl ?_
    refine g_iconst dX9_layNow_17 ic_4 ?_
    refine g_iload_n dX9_layNow_18 rfl ?_
    refine g_v3n (M' := KR_puts) dX9_layNow_19 l_R_138 v_KR_puts (c_KR_puts (by omega) (by omega)) rc_84 rfl rfl ⟨rfl, rfl⟩ ?_
    refine g_aload_n dX9_layNow_22 rfl ?_
    refine g_iload_n dX9_layNow_23 rfl ?_
    refine g_iconst dX9_layNow_24 ic_5 ?_
    refine g_iload_n dX9_layNow_25 rfl ?_
    refine g_v3n (M' := KR_puts) dX9_layNow_26 l_R_138 v_KR_puts (c_KR_puts (by omega) (by omega)) rc_84 rfl rfl ⟨rfl, rfl⟩ ?_
    refine g_iload dX9_layNow_29 rfl ?_
    exact e_iret dX9_layNow_31 rfl (by rw [zc5]; rfl) (by rfl)
set_option maxRecDepth 100000 in
theorem c_KR_cells {σ : SI} {δ : SD} {n : Nat} (hW : WF (σ 85) n) {k : Nat} (hk : k < n) : E KR_cells [.ref 84, .int (nI k)] (HH σ δ) (some (.int (wideF (σ 85) k * highF (σ 85) k))) (HH σ δ) := by
  have h8 := hW.n8
  refine E.ofL [some (.ref 84), some (.int (nI k))] rfl pn_RX9 rfl (fun sc => ?_)
  refine g_aload_n dX9_cells_0 rfl ?_
  refine g_iload_n dX9_cells_1 rfl ?_
  refine g_v1 (M' := KR_wide) dX9_cells_2 l_R_64 v_KR_wide (c_KR_wide hW (by omega)) rc_84 rfl rfl ⟨rfl, rfl⟩ ?_
  refine g_aload_n dX9_cells_5 rfl ?_
  refine g_iload_n dX9_cells_6 rfl ?_
  refine g_v1 (M' := KR_high) dX9_cells_7 l_R_68 v_KR_high (c_KR_high hW (by omega)) rc_84 rfl rfl ⟨rfl, rfl⟩ ?_
  refine g_imul dX9_cells_10 ?_
  exact e_iret dX9_cells_11 rfl (by rfl) (by rfl)
set_option maxRecDepth 100000 in
theorem c_KR_covers {σ : SI} {δ : SD} {n : Nat} (hW : WF (σ 85) n) {k : Nat} (hk : k < n) {x y : Nat} (hx : x < 16) (hy : y < 16) : E KR_covers [.ref 84, .int (nI k), .int (nI x), .int (nI y)] (HH σ δ) (some (.int (bI (coversA (σ 85) k x y)))) (HH σ δ) := by
  have h8 := hW.n8
  refine E.ofL [some (.ref 84), some (.int (nI k)), some (.int (nI x)), some (.int (nI y))] rfl pn_RX9 rfl (fun sc => ?_)
  refine g_aload_n dX9_covers_0 rfl ?_
  refine g_iload_n dX9_covers_1 rfl ?_
  refine g_v1 (M' := KR_lies) dX9_covers_2 l_R_82 v_KR_lies (c_KR_lies (by omega)) rc_84 rfl rfl ⟨rfl, rfl⟩ ?_
  refine b_if_eq (tgt := 72) dX9_covers_5 rfl (fun zc5 => ?_) (fun zc5 => ?_)
  · refine g_iconst dX9_covers_72 ic_0 ?_
    exact e_z0 dX9_covers_73 rfl (by first | exact cov_f1 zc5 | exact cov_f2 zc35 | exact cov_f3 zc65 | exact cov_t zc5 zc35 zc65) (by rfl)
  · refine g_iload_n dX9_covers_8 rfl ?_
    refine g_i2l dX9_covers_9 ?_
    refine g_aload_n dX9_covers_10 rfl ?_
    refine g_iload_n dX9_covers_11 rfl ?_
    refine g_iconst dX9_covers_12 ic_4 ?_
    refine g_v2 (M' := KR_its) dX9_covers_13 l_R_50 v_KR_its (c_KR_its (by omega) (by omega)) rc_84 rfl rfl ⟨rfl, rfl⟩ ?_
    refine g_i2l dX9_covers_16 ?_
    refine g_aload_n dX9_covers_17 rfl ?_
    refine g_iload_n dX9_covers_18 rfl ?_
    refine g_iconst dX9_covers_19 ic_4 ?_
    refine g_v2 (M' := KR_its) dX9_covers_20 l_R_50 v_KR_its (c_KR_its (by omega) (by omega)) rc_84 rfl rfl ⟨rfl, rfl⟩ ?_
    refine g_aload_n dX9_covers_23 rfl ?_
    refine g_iload_n dX9_covers_24 rfl ?_
    refine g_v1 (M' := KR_wide) dX9_covers_25 l_R_64 v_KR_wide (c_KR_wide hW (by omega)) rc_84 rfl rfl ⟨rfl, rfl⟩ ?_
    refine g_iadd dX9_covers_28 ?_
    refine g_top rfl ?_
    refine g_iconst dX9_covers_29 ic_1 ?_
    refine g_isub dX9_covers_30 ?_
    refine g_top rfl ?_
    refine g_i2l dX9_covers_31 ?_
    refine g_s3 (M' := KR_in) dX9_covers_32 l_R_46 s_KR_in c_KR_in rfl rfl ⟨rfl, rfl⟩ ?_
    refine g_top (covR_x hW hk zc5 hx) ?_
    refine b_if_eq (tgt := 72) dX9_covers_35 rfl (fun zc35 => ?_) (fun zc35 => ?_)
    · refine g_iconst dX9_covers_72 ic_0 ?_
      exact e_z0 dX9_covers_73 rfl (by first | exact cov_f1 zc5 | exact cov_f2 zc35 | exact cov_f3 zc65 | exact cov_t zc5 zc35 zc65) (by rfl)
    · refine g_iload_n dX9_covers_38 rfl ?_
      refine g_i2l dX9_covers_39 ?_
      refine g_aload_n dX9_covers_40 rfl ?_
      refine g_iload_n dX9_covers_41 rfl ?_
      refine g_iconst dX9_covers_42 ic_5 ?_
      refine g_v2 (M' := KR_its) dX9_covers_43 l_R_50 v_KR_its (c_KR_its (by omega) (by omega)) rc_84 rfl rfl ⟨rfl, rfl⟩ ?_
      refine g_i2l dX9_covers_46 ?_
      refine g_aload_n dX9_covers_47 rfl ?_
      refine g_iload_n dX9_covers_48 rfl ?_
      refine g_iconst dX9_covers_49 ic_5 ?_
      refine g_v2 (M' := KR_its) dX9_covers_50 l_R_50 v_KR_its (c_KR_its (by omega) (by omega)) rc_84 rfl rfl ⟨rfl, rfl⟩ ?_
      refine g_aload_n dX9_covers_53 rfl ?_
      refine g_iload_n dX9_covers_54 rfl ?_
      refine g_v1 (M' := KR_high) dX9_covers_55 l_R_68 v_KR_high (c_KR_high hW (by omega)) rc_84 rfl rfl ⟨rfl, rfl⟩ ?_
      refine g_iadd dX9_covers_58 ?_
      refine g_top rfl ?_
      refine g_iconst dX9_covers_59 ic_1 ?_
      refine g_isub dX9_covers_60 ?_
      refine g_top rfl ?_
      refine g_i2l dX9_covers_61 ?_
      refine g_s3 (M' := KR_in) dX9_covers_62 l_R_46 s_KR_in c_KR_in rfl rfl ⟨rfl, rfl⟩ ?_
      refine g_top (covR_y hW hk zc5 hy) ?_
      refine b_if_eq (tgt := 72) dX9_covers_65 rfl (fun zc65 => ?_) (fun zc65 => ?_)
      · refine g_iconst dX9_covers_72 ic_0 ?_
        exact e_z0 dX9_covers_73 rfl (by first | exact cov_f1 zc5 | exact cov_f2 zc35 | exact cov_f3 zc65 | exact cov_t zc5 zc35 zc65) (by rfl)
      · refine g_iconst dX9_covers_68 ic_1 ?_
        refine g_goto (tgt := 73) dX9_covers_69 rfl ?_
        exact e_z1 dX9_covers_73 rfl (by first | exact cov_f1 zc5 | exact cov_f2 zc35 | exact cov_f3 zc65 | exact cov_t zc5 zc35 zc65) (by rfl)
set_option maxRecDepth 100000 in
theorem c_KR_covering {σ : SI} {δ : SD} {n : Nat} (hW : WF (σ 85) n) {x y : Nat} (hx : x < 16) (hy : y < 16) : E KR_covering [.ref 84, .int (nI x), .int (nI y)] (HH σ δ) (some (.int (findI (fun k => coversA (σ 85) k x y) n))) (HH σ δ) := by
  have h8 := hW.n8
  refine E.ofL [some (.ref 84), some (.int (nI x)), some (.int (nI y))] rfl pn_RX9 rfl (fun sc => ?_)
  generalize hRz : (fun (zr : Option Value) (zk : XH) => zr = some (.int (findI (fun k => coversA (σ 85) k x y) n)) ∧ zk = HH σ δ) = R
  refine g_iconst dX9_covering_0 ic_0 ?_
  refine g_istore_n dX9_covering_1 rfl ?_
  have H2 : ∀ (N : Nat) (k : Nat), k ≤ n → (∀ i, i < k → coversA (σ 85) i x y = false) → n - k < N → G sc KR_covering 2 (aL [some (.ref 84), some (.int (nI x)), some (.int (nI y)), some (.int (nI k))]) [] (HH σ δ) (0, 0) R := by
    intro N
    induction N with
    | zero => intro k h1 hb hN2; exact absurd hN2 (Nat.not_lt_zero _)
    | succ N ih2 =>
      intro k h1 hb hN2
      refine g_iload_n dX9_covering_2 rfl ?_
      refine g_aload_n dX9_covering_3 rfl ?_
      refine g_v0 (M' := KR_many) dX9_covering_4 l_R_42 v_KR_many c_KR_many rc_84 rfl rfl ⟨rfl, rfl⟩ ?_
      refine g_top hW.a7 ?_
      refine n_icmp_ge (tgt := 28) (by omega) (by omega) dX9_covering_7 rfl (fun zc7 => ?_) (fun zc7 => ?_)
      · refine g_iconst dX9_covering_28 ic_m1 ?_
        exact g_iret (S := []) dX9_covering_29 rfl (by rw [← hRz]; exact ⟨congrArg (fun zz => some (Value.int zz)) (show _ = _ by exact (findI_no (fun i hi => hb i (by omega))).symm), by rfl⟩) (Nat.zero_le _) (Nat.zero_le _)
      · refine g_aload_n dX9_covering_10 rfl ?_
        refine g_iload_n dX9_covering_11 rfl ?_
        refine g_iload_n dX9_covering_12 rfl ?_
        refine g_iload_n dX9_covering_13 rfl ?_
        refine g_v3 (M' := KR_covers) dX9_covering_14 l_R_221 v_KR_covers (c_KR_covers hW (by omega) (by omega) (by omega)) rc_84 rfl rfl ⟨rfl, rfl⟩ ?_
        refine b_if_eq (tgt := 22) dX9_covering_17 rfl (fun zc17 => ?_) (fun zc17 => ?_)
        · refine n_iinc (b := 1) dX9_covering_22 rfl rfl rfl ?_
          refine g_goto (tgt := 2) dX9_covering_25 rfl ?_
          exact g_can _ (by exact ⟨rfl, rfl, rfl, rfl, trivial⟩) (ih2 (k + 1) (by omega) (lt_step hb zc17) (by omega))
        · refine g_iload_n dX9_covering_20 rfl ?_
          exact g_iret (S := []) dX9_covering_21 rfl (by rw [← hRz]; exact ⟨congrArg (fun zz => some (Value.int zz)) (show _ = _ by exact (findI_at zc7 hb zc17).symm), by rfl⟩) (Nat.zero_le _) (Nat.zero_le _)
  exact g_can _ (by exact ⟨rfl, rfl, rfl, rfl, trivial⟩) (H2 _ 0 (by omega) (fun i hi => absurd hi (Nat.not_lt_zero i)) (Nat.lt_succ_self _))
set_option maxRecDepth 100000 in
theorem c_KR_aheadOf {σ : SI} {δ : SD} {n : Nat} (hW : WF (σ 85) n) {k : Nat} (hk : k < n) : E KR_aheadOf [.ref 84, .int (nI k)] (HH σ δ) (some (.int (nI (aheadA (σ 85) n k)))) (HH σ δ) := by
  have h8 := hW.n8
  refine E.ofL [some (.ref 84), some (.int (nI k))] rfl pn_RX9 rfl (fun sc => ?_)
  generalize hRz : (fun (zr : Option Value) (zk : XH) => zr = some (.int (nI (aheadA (σ 85) n k))) ∧ zk = HH σ δ) = R
  refine g_iconst dX9_aheadOf_0 ic_0 ?_
  refine g_istore_n dX9_aheadOf_1 rfl ?_
  refine g_iconst dX9_aheadOf_2 ic_0 ?_
  refine g_istore_n dX9_aheadOf_3 rfl ?_
  have H4 : ∀ (N : Nat) (j c : Nat), j ≤ n → c = cntN (aheadP (σ 85) k) j → n - j < N → G sc KR_aheadOf 4 (aL [some (.ref 84), some (.int (nI k)), some (.int (nI c)), some (.int (nI j))]) [] (HH σ δ) (0, 0) R := by
    intro N
    induction N with
    | zero => intro j c h1 hb hN4; exact absurd hN4 (Nat.not_lt_zero _)
    | succ N ih4 =>
      intro j c h1 hb hN4
      refine g_iload_n dX9_aheadOf_4 rfl ?_
      refine g_aload_n dX9_aheadOf_5 rfl ?_
      refine g_v0 (M' := KR_many) dX9_aheadOf_6 l_R_42 v_KR_many c_KR_many rc_84 rfl rfl ⟨rfl, rfl⟩ ?_
      refine g_top hW.a7 ?_
      refine n_icmp_ge (tgt := 84) (by omega) (by omega) dX9_aheadOf_9 rfl (fun zc9 => ?_) (fun zc9 => ?_)
      · refine g_iload_n dX9_aheadOf_84 rfl ?_
        exact g_iret (S := []) dX9_aheadOf_85 rfl (by rw [← hRz]; exact ⟨congrArg (fun zz => some (Value.int zz)) (show _ = _ by rw [hb, show j = n by omega]; rfl), by rfl⟩) (Nat.zero_le _) (Nat.zero_le _)
      · refine g_aload_n dX9_aheadOf_12 rfl ?_
        refine g_iload_n dX9_aheadOf_13 rfl ?_
        refine g_v1 (M' := KR_weight) dX9_aheadOf_14 l_R_149 v_KR_weight (c_KR_weight hW (by omega)) rc_84 rfl rfl ⟨rfl, rfl⟩ ?_
        refine g_aload_n dX9_aheadOf_17 rfl ?_
        refine g_iload_n dX9_aheadOf_18 rfl ?_
        refine g_v1 (M' := KR_weight) dX9_aheadOf_19 l_R_149 v_KR_weight (c_KR_weight hW (by omega)) rc_84 rfl rfl ⟨rfl, rfl⟩ ?_
        refine g_icmp_gt (tgt := 43) dX9_aheadOf_22 rfl (fun zc22 => ?_) (fun zc22 => ?_)
        · refine g_iconst dX9_aheadOf_43 ic_1 ?_
          refine g_goto (tgt := 48) dX9_aheadOf_44 rfl ?_
          refine g_istore dX9_aheadOf_48 rfl ?_
          refine g_iload_n dX9_aheadOf_50 rfl ?_
          refine g_aload_n dX9_aheadOf_51 rfl ?_
          refine g_iload_n dX9_aheadOf_52 rfl ?_
          refine g_iconst dX9_aheadOf_53 ic_0 ?_
          refine g_v2 (M' := KR_its) dX9_aheadOf_54 l_R_50 v_KR_its (c_KR_its (by omega) (by omega)) rc_84 rfl rfl ⟨rfl, rfl⟩ ?_
          refine g_aload_n dX9_aheadOf_57 rfl ?_
          refine g_iload_n dX9_aheadOf_58 rfl ?_
          refine g_iconst dX9_aheadOf_59 ic_0 ?_
          refine g_v2 (M' := KR_its) dX9_aheadOf_60 l_R_50 v_KR_its (c_KR_its (by omega) (by omega)) rc_84 rfl rfl ⟨rfl, rfl⟩ ?_
          refine g_icmp_ne (tgt := 75) dX9_aheadOf_63 rfl (fun zc63 => ?_) (fun zc63 => ?_)
          · refine g_iconst dX9_aheadOf_75 ic_0 ?_
            refine n_iadd dX9_aheadOf_76 ?_
            refine g_istore_n dX9_aheadOf_77 rfl ?_
            refine n_iinc (b := 1) dX9_aheadOf_78 rfl rfl rfl ?_
            refine g_goto (tgt := 4) dX9_aheadOf_81 rfl ?_
            exact g_can _ (by exact ⟨rfl, rfl, rfl, rfl, trivial⟩) (ih4 (j + 1) _ (by omega) (by rw [hb, cntN]; first | rw [if_pos (ahead_t1 zc22 zc63)] | rw [if_pos (ahead_t2 zc35 zc40 zc63)] | rw [if_neg (ahead_f1 zc63)] | rw [if_neg (ahead_f2 zc22 zc35)] | rw [if_neg (ahead_f3 zc22 zc40)]) (by omega))
          · refine g_iload dX9_aheadOf_66 rfl ?_
            refine n_if_eq (tgt := 75) (by omega) dX9_aheadOf_68 rfl (fun zc68 => absurd zc68 (by decide)) (fun _ => ?_)
            refine g_iconst dX9_aheadOf_71 ic_1 ?_
            refine g_goto (tgt := 76) dX9_aheadOf_72 rfl ?_
            refine n_iadd dX9_aheadOf_76 ?_
            refine g_istore_n dX9_aheadOf_77 rfl ?_
            refine n_iinc (b := 1) dX9_aheadOf_78 rfl rfl rfl ?_
            refine g_goto (tgt := 4) dX9_aheadOf_81 rfl ?_
            exact g_can _ (by exact ⟨rfl, rfl, rfl, rfl, trivial⟩) (ih4 (j + 1) _ (by omega) (by rw [hb, cntN]; first | rw [if_pos (ahead_t1 zc22 zc63)] | rw [if_pos (ahead_t2 zc35 zc40 zc63)] | rw [if_neg (ahead_f1 zc63)] | rw [if_neg (ahead_f2 zc22 zc35)] | rw [if_neg (ahead_f3 zc22 zc40)]) (by omega))
        · refine g_aload_n dX9_aheadOf_25 rfl ?_
          refine g_iload_n dX9_aheadOf_26 rfl ?_
          refine g_v1 (M' := KR_weight) dX9_aheadOf_27 l_R_149 v_KR_weight (c_KR_weight hW (by omega)) rc_84 rfl rfl ⟨rfl, rfl⟩ ?_
          refine g_aload_n dX9_aheadOf_30 rfl ?_
          refine g_iload_n dX9_aheadOf_31 rfl ?_
          refine g_v1 (M' := KR_weight) dX9_aheadOf_32 l_R_149 v_KR_weight (c_KR_weight hW (by omega)) rc_84 rfl rfl ⟨rfl, rfl⟩ ?_
          refine g_icmp_ne (tgt := 47) dX9_aheadOf_35 rfl (fun zc35 => ?_) (fun zc35 => ?_)
          · refine g_iconst dX9_aheadOf_47 ic_0 ?_
            refine g_istore dX9_aheadOf_48 rfl ?_
            refine g_iload_n dX9_aheadOf_50 rfl ?_
            refine g_aload_n dX9_aheadOf_51 rfl ?_
            refine g_iload_n dX9_aheadOf_52 rfl ?_
            refine g_iconst dX9_aheadOf_53 ic_0 ?_
            refine g_v2 (M' := KR_its) dX9_aheadOf_54 l_R_50 v_KR_its (c_KR_its (by omega) (by omega)) rc_84 rfl rfl ⟨rfl, rfl⟩ ?_
            refine g_aload_n dX9_aheadOf_57 rfl ?_
            refine g_iload_n dX9_aheadOf_58 rfl ?_
            refine g_iconst dX9_aheadOf_59 ic_0 ?_
            refine g_v2 (M' := KR_its) dX9_aheadOf_60 l_R_50 v_KR_its (c_KR_its (by omega) (by omega)) rc_84 rfl rfl ⟨rfl, rfl⟩ ?_
            refine g_icmp_ne (tgt := 75) dX9_aheadOf_63 rfl (fun zc63 => ?_) (fun zc63 => ?_)
            · refine g_iconst dX9_aheadOf_75 ic_0 ?_
              refine n_iadd dX9_aheadOf_76 ?_
              refine g_istore_n dX9_aheadOf_77 rfl ?_
              refine n_iinc (b := 1) dX9_aheadOf_78 rfl rfl rfl ?_
              refine g_goto (tgt := 4) dX9_aheadOf_81 rfl ?_
              exact g_can _ (by exact ⟨rfl, rfl, rfl, rfl, trivial⟩) (ih4 (j + 1) _ (by omega) (by rw [hb, cntN]; first | rw [if_pos (ahead_t1 zc22 zc63)] | rw [if_pos (ahead_t2 zc35 zc40 zc63)] | rw [if_neg (ahead_f1 zc63)] | rw [if_neg (ahead_f2 zc22 zc35)] | rw [if_neg (ahead_f3 zc22 zc40)]) (by omega))
            · refine g_iload dX9_aheadOf_66 rfl ?_
              refine n_if_eq (tgt := 75) (by omega) dX9_aheadOf_68 rfl (fun _ => ?_) (fun zc68 => absurd zc68 (by decide))
              refine g_iconst dX9_aheadOf_75 ic_0 ?_
              refine n_iadd dX9_aheadOf_76 ?_
              refine g_istore_n dX9_aheadOf_77 rfl ?_
              refine n_iinc (b := 1) dX9_aheadOf_78 rfl rfl rfl ?_
              refine g_goto (tgt := 4) dX9_aheadOf_81 rfl ?_
              exact g_can _ (by exact ⟨rfl, rfl, rfl, rfl, trivial⟩) (ih4 (j + 1) _ (by omega) (by rw [hb, cntN]; first | rw [if_pos (ahead_t1 zc22 zc63)] | rw [if_pos (ahead_t2 zc35 zc40 zc63)] | rw [if_neg (ahead_f1 zc63)] | rw [if_neg (ahead_f2 zc22 zc35)] | rw [if_neg (ahead_f3 zc22 zc40)]) (by omega))
          · refine g_iload_n dX9_aheadOf_38 rfl ?_
            refine g_iload_n dX9_aheadOf_39 rfl ?_
            refine n_icmp_ge (tgt := 47) (by omega) (by omega) dX9_aheadOf_40 rfl (fun zc40 => ?_) (fun zc40 => ?_)
            · refine g_iconst dX9_aheadOf_47 ic_0 ?_
              refine g_istore dX9_aheadOf_48 rfl ?_
              refine g_iload_n dX9_aheadOf_50 rfl ?_
              refine g_aload_n dX9_aheadOf_51 rfl ?_
              refine g_iload_n dX9_aheadOf_52 rfl ?_
              refine g_iconst dX9_aheadOf_53 ic_0 ?_
              refine g_v2 (M' := KR_its) dX9_aheadOf_54 l_R_50 v_KR_its (c_KR_its (by omega) (by omega)) rc_84 rfl rfl ⟨rfl, rfl⟩ ?_
              refine g_aload_n dX9_aheadOf_57 rfl ?_
              refine g_iload_n dX9_aheadOf_58 rfl ?_
              refine g_iconst dX9_aheadOf_59 ic_0 ?_
              refine g_v2 (M' := KR_its) dX9_aheadOf_60 l_R_50 v_KR_its (c_KR_its (by omega) (by omega)) rc_84 rfl rfl ⟨rfl, rfl⟩ ?_
              refine g_icmp_ne (tgt := 75) dX9_aheadOf_63 rfl (fun zc63 => ?_) (fun zc63 => ?_)
              · refine g_iconst dX9_aheadOf_75 ic_0 ?_
                refine n_iadd dX9_aheadOf_76 ?_
                refine g_istore_n dX9_aheadOf_77 rfl ?_
                refine n_iinc (b := 1) dX9_aheadOf_78 rfl rfl rfl ?_
                refine g_goto (tgt := 4) dX9_aheadOf_81 rfl ?_
                exact g_can _ (by exact ⟨rfl, rfl, rfl, rfl, trivial⟩) (ih4 (j + 1) _ (by omega) (by rw [hb, cntN]; first | rw [if_pos (ahead_t1 zc22 zc63)] | rw [if_pos (ahead_t2 zc35 zc40 zc63)] | rw [if_neg (ahead_f1 zc63)] | rw [if_neg (ahead_f2 zc22 zc35)] | rw [if_neg (ahead_f3 zc22 zc40)]) (by omega))
              · refine g_iload dX9_aheadOf_66 rfl ?_
                refine n_if_eq (tgt := 75) (by omega) dX9_aheadOf_68 rfl (fun _ => ?_) (fun zc68 => absurd zc68 (by decide))
                refine g_iconst dX9_aheadOf_75 ic_0 ?_
                refine n_iadd dX9_aheadOf_76 ?_
                refine g_istore_n dX9_aheadOf_77 rfl ?_
                refine n_iinc (b := 1) dX9_aheadOf_78 rfl rfl rfl ?_
                refine g_goto (tgt := 4) dX9_aheadOf_81 rfl ?_
                exact g_can _ (by exact ⟨rfl, rfl, rfl, rfl, trivial⟩) (ih4 (j + 1) _ (by omega) (by rw [hb, cntN]; first | rw [if_pos (ahead_t1 zc22 zc63)] | rw [if_pos (ahead_t2 zc35 zc40 zc63)] | rw [if_neg (ahead_f1 zc63)] | rw [if_neg (ahead_f2 zc22 zc35)] | rw [if_neg (ahead_f3 zc22 zc40)]) (by omega))
            · refine g_iconst dX9_aheadOf_43 ic_1 ?_
              refine g_goto (tgt := 48) dX9_aheadOf_44 rfl ?_
              refine g_istore dX9_aheadOf_48 rfl ?_
              refine g_iload_n dX9_aheadOf_50 rfl ?_
              refine g_aload_n dX9_aheadOf_51 rfl ?_
              refine g_iload_n dX9_aheadOf_52 rfl ?_
              refine g_iconst dX9_aheadOf_53 ic_0 ?_
              refine g_v2 (M' := KR_its) dX9_aheadOf_54 l_R_50 v_KR_its (c_KR_its (by omega) (by omega)) rc_84 rfl rfl ⟨rfl, rfl⟩ ?_
              refine g_aload_n dX9_aheadOf_57 rfl ?_
              refine g_iload_n dX9_aheadOf_58 rfl ?_
              refine g_iconst dX9_aheadOf_59 ic_0 ?_
              refine g_v2 (M' := KR_its) dX9_aheadOf_60 l_R_50 v_KR_its (c_KR_its (by omega) (by omega)) rc_84 rfl rfl ⟨rfl, rfl⟩ ?_
              refine g_icmp_ne (tgt := 75) dX9_aheadOf_63 rfl (fun zc63 => ?_) (fun zc63 => ?_)
              · refine g_iconst dX9_aheadOf_75 ic_0 ?_
                refine n_iadd dX9_aheadOf_76 ?_
                refine g_istore_n dX9_aheadOf_77 rfl ?_
                refine n_iinc (b := 1) dX9_aheadOf_78 rfl rfl rfl ?_
                refine g_goto (tgt := 4) dX9_aheadOf_81 rfl ?_
                exact g_can _ (by exact ⟨rfl, rfl, rfl, rfl, trivial⟩) (ih4 (j + 1) _ (by omega) (by rw [hb, cntN]; first | rw [if_pos (ahead_t1 zc22 zc63)] | rw [if_pos (ahead_t2 zc35 zc40 zc63)] | rw [if_neg (ahead_f1 zc63)] | rw [if_neg (ahead_f2 zc22 zc35)] | rw [if_neg (ahead_f3 zc22 zc40)]) (by omega))
              · refine g_iload dX9_aheadOf_66 rfl ?_
                refine n_if_eq (tgt := 75) (by omega) dX9_aheadOf_68 rfl (fun zc68 => absurd zc68 (by decide)) (fun _ => ?_)
                refine g_iconst dX9_aheadOf_71 ic_1 ?_
                refine g_goto (tgt := 76) dX9_aheadOf_72 rfl ?_
                refine n_iadd dX9_aheadOf_76 ?_
                refine g_istore_n dX9_aheadOf_77 rfl ?_
                refine n_iinc (b := 1) dX9_aheadOf_78 rfl rfl rfl ?_
                refine g_goto (tgt := 4) dX9_aheadOf_81 rfl ?_
                exact g_can _ (by exact ⟨rfl, rfl, rfl, rfl, trivial⟩) (ih4 (j + 1) _ (by omega) (by rw [hb, cntN]; first | rw [if_pos (ahead_t1 zc22 zc63)] | rw [if_pos (ahead_t2 zc35 zc40 zc63)] | rw [if_neg (ahead_f1 zc63)] | rw [if_neg (ahead_f2 zc22 zc35)] | rw [if_neg (ahead_f3 zc22 zc40)]) (by omega))
  exact g_can _ (by exact ⟨rfl, rfl, rfl, rfl, trivial⟩) (H4 _ 0 0 (by omega) rfl (Nat.lt_succ_self _))
set_option maxRecDepth 100000 in
theorem c_KR_smallPairs {σ : SI} {δ : SD} {n : Nat} (hW : WF (σ 85) n) : E KR_smallPairs [.ref 84] (HH σ δ) (some (.int (nI (pairsA (σ 85) n)))) (HH σ δ) := by
  have h8 := hW.n8
  refine E.ofL [some (.ref 84)] rfl pn_RX9 rfl (fun sc => ?_)
  generalize hRz : (fun (zr : Option Value) (zk : XH) => zr = some (.int (nI (pairsA (σ 85) n))) ∧ zk = HH σ δ) = R
  refine g_iconst dX9_smallPairs_0 ic_0 ?_
  refine g_istore_n dX9_smallPairs_1 rfl ?_
  refine g_iconst dX9_smallPairs_2 ic_0 ?_
  refine g_istore_n dX9_smallPairs_3 rfl ?_
  have H4 : ∀ (N : Nat) (j c : Nat), j ≤ n → c = sumN (pairsR (σ 85) n) j → n - j < N → G sc KR_smallPairs 4 (aL [some (.ref 84), some (.int (nI c)), some (.int (nI j))]) [] (HH σ δ) (0, 0) R := by
    intro N
    induction N with
    | zero => intro j c h1 hb hN4; exact absurd hN4 (Nat.not_lt_zero _)
    | succ N ih4 =>
      intro j c h1 hb hN4
      refine g_iload_n dX9_smallPairs_4 rfl ?_
      refine g_aload_n dX9_smallPairs_5 rfl ?_
      refine g_v0 (M' := KR_many) dX9_smallPairs_6 l_R_42 v_KR_many c_KR_many rc_84 rfl rfl ⟨rfl, rfl⟩ ?_
      refine g_top hW.a7 ?_
      refine n_icmp_ge (tgt := 70) (by omega) (by omega) dX9_smallPairs_9 rfl (fun zc9 => ?_) (fun zc9 => ?_)
      · refine g_iload_n dX9_smallPairs_70 rfl ?_
        exact g_iret (S := []) dX9_smallPairs_71 rfl (by rw [← hRz]; exact ⟨congrArg (fun zz => some (Value.int zz)) (show _ = _ by rw [hb, show j = n by omega]; rfl), by rfl⟩) (Nat.zero_le _) (Nat.zero_le _)
      · refine g_iconst dX9_smallPairs_12 ic_0 ?_
        refine g_istore_n dX9_smallPairs_13 rfl ?_
        have H14 : ∀ (N : Nat) (k c1 : Nat), k ≤ n → c1 = sumN (pairsR (σ 85) n) j + cntN (pairsP (σ 85) j) k → n - k < N → G sc KR_smallPairs 14 (aL [some (.ref 84), some (.int (nI c1)), some (.int (nI j)), some (.int (nI k))]) [] (HH σ δ) (0, 0) R := by
          intro N
          induction N with
          | zero => intro k c1 h3 hb1 hN14; exact absurd hN14 (Nat.not_lt_zero _)
          | succ N ih14 =>
            intro k c1 h3 hb1 hN14
            refine g_iload_n dX9_smallPairs_14 rfl ?_
            refine g_aload_n dX9_smallPairs_15 rfl ?_
            refine g_v0 (M' := KR_many) dX9_smallPairs_16 l_R_42 v_KR_many c_KR_many rc_84 rfl rfl ⟨rfl, rfl⟩ ?_
            refine g_top hW.a7 ?_
            refine n_icmp_ge (tgt := 64) (by omega) (by omega) dX9_smallPairs_19 rfl (fun zc19 => ?_) (fun zc19 => ?_)
            · refine n_iinc (b := 1) dX9_smallPairs_64 rfl rfl rfl ?_
              refine g_goto (tgt := 4) dX9_smallPairs_67 rfl ?_
              exact g_can _ (by exact ⟨rfl, rfl, rfl, trivial⟩) (ih4 (j + 1) _ (by omega) (by rw [hb1, show k = n by omega]; rfl) (by omega))
            · refine g_iload_n dX9_smallPairs_22 rfl ?_
              refine g_aload_n dX9_smallPairs_23 rfl ?_
              refine g_iload_n dX9_smallPairs_24 rfl ?_
              refine g_iconst dX9_smallPairs_25 ic_1 ?_
              refine g_v2 (M' := KR_its) dX9_smallPairs_26 l_R_50 v_KR_its (c_KR_its (by omega) (by omega)) rc_84 rfl rfl ⟨rfl, rfl⟩ ?_
              refine g_aload_n dX9_smallPairs_29 rfl ?_
              refine g_iload_n dX9_smallPairs_30 rfl ?_
              refine g_iconst dX9_smallPairs_31 ic_1 ?_
              refine g_v2 (M' := KR_its) dX9_smallPairs_32 l_R_50 v_KR_its (c_KR_its (by omega) (by omega)) rc_84 rfl rfl ⟨rfl, rfl⟩ ?_
              refine g_icmp_ge (tgt := 55) dX9_smallPairs_35 rfl (fun zc35 => ?_) (fun zc35 => ?_)
              · refine g_iconst dX9_smallPairs_55 ic_0 ?_
                refine n_iadd dX9_smallPairs_56 ?_
                refine g_istore_n dX9_smallPairs_57 rfl ?_
                refine n_iinc (b := 1) dX9_smallPairs_58 rfl rfl rfl ?_
                refine g_goto (tgt := 14) dX9_smallPairs_61 rfl ?_
                exact g_can _ (by exact ⟨rfl, rfl, rfl, rfl, trivial⟩) (ih14 (k + 1) _ (by omega) (by rw [hb1, cntN]; clear ih14 ih4; simp [pairsP, Int32.le_iff_toInt_le, Int32.lt_iff_toInt_lt] at *; first | omega | (simp [*]; omega) | simp [*]) (by omega))
              · refine g_aload_n dX9_smallPairs_38 rfl ?_
                refine g_iload_n dX9_smallPairs_39 rfl ?_
                refine g_v1 (M' := KR_cells) dX9_smallPairs_40 l_R_278 v_KR_cells (c_KR_cells hW (by omega)) rc_84 rfl rfl ⟨rfl, rfl⟩ ?_
                refine g_aload_n dX9_smallPairs_43 rfl ?_
                refine g_iload_n dX9_smallPairs_44 rfl ?_
                refine g_v1 (M' := KR_cells) dX9_smallPairs_45 l_R_278 v_KR_cells (c_KR_cells hW (by omega)) rc_84 rfl rfl ⟨rfl, rfl⟩ ?_
                refine g_icmp_gt (tgt := 55) dX9_smallPairs_48 rfl (fun zc48 => ?_) (fun zc48 => ?_)
                · refine g_iconst dX9_smallPairs_55 ic_0 ?_
                  refine n_iadd dX9_smallPairs_56 ?_
                  refine g_istore_n dX9_smallPairs_57 rfl ?_
                  refine n_iinc (b := 1) dX9_smallPairs_58 rfl rfl rfl ?_
                  refine g_goto (tgt := 14) dX9_smallPairs_61 rfl ?_
                  exact g_can _ (by exact ⟨rfl, rfl, rfl, rfl, trivial⟩) (ih14 (k + 1) _ (by omega) (by rw [hb1, cntN]; clear ih14 ih4; simp [pairsP, Int32.le_iff_toInt_le, Int32.lt_iff_toInt_lt] at *; first | omega | (simp [*]; omega) | simp [*]) (by omega))
                · refine g_iconst dX9_smallPairs_51 ic_1 ?_
                  refine g_goto (tgt := 56) dX9_smallPairs_52 rfl ?_
                  refine n_iadd dX9_smallPairs_56 ?_
                  refine g_istore_n dX9_smallPairs_57 rfl ?_
                  refine n_iinc (b := 1) dX9_smallPairs_58 rfl rfl rfl ?_
                  refine g_goto (tgt := 14) dX9_smallPairs_61 rfl ?_
                  exact g_can _ (by exact ⟨rfl, rfl, rfl, rfl, trivial⟩) (ih14 (k + 1) _ (by omega) (by rw [hb1, cntN]; clear ih14 ih4; simp [pairsP, Int32.le_iff_toInt_le, Int32.lt_iff_toInt_lt] at *; first | omega | (simp [*]; omega) | simp [*]) (by omega))
        exact g_can _ (by exact ⟨rfl, rfl, rfl, rfl, trivial⟩) (H14 _ 0 _ (by omega) (by rw [hb]; rfl) (Nat.lt_succ_self _))
  exact g_can _ (by exact ⟨rfl, rfl, rfl, trivial⟩) (H4 _ 0 0 (by omega) rfl (Nat.lt_succ_self _))
set_option maxRecDepth 100000 in
theorem c_KR_weights {σ : SI} {δ : SD} {n : Nat} (hW : WF (σ 85) n) : E KR_weights [.ref 84] (HH σ δ) (some (.int (weightsA (σ 85) n))) (HH σ δ) := by
  have h8 := hW.n8
  refine E.ofL [some (.ref 84)] rfl pn_RX9 rfl (fun sc => ?_)
  generalize hRz : (fun (zr : Option Value) (zk : XH) => zr = some (.int (weightsA (σ 85) n)) ∧ zk = HH σ δ) = R
  refine g_iconst dX9_weights_0 ic_0 ?_
  refine g_istore_n dX9_weights_1 rfl ?_
  refine g_iconst dX9_weights_2 ic_0 ?_
  refine g_istore_n dX9_weights_3 rfl ?_
  have H4 : ∀ (N : Nat) (k : Nat) (z : Int32), k ≤ n → z = weightsA (σ 85) k → n - k < N → G sc KR_weights 4 (aL [some (.ref 84), some (.int z), some (.int (nI k))]) [] (HH σ δ) (0, 0) R := by
    intro N
    induction N with
    | zero => intro k z h1 hb hN4; exact absurd hN4 (Nat.not_lt_zero _)
    | succ N ih4 =>
      intro k z h1 hb hN4
      refine g_iload_n dX9_weights_4 rfl ?_
      refine g_aload_n dX9_weights_5 rfl ?_
      refine g_v0 (M' := KR_many) dX9_weights_6 l_R_42 v_KR_many c_KR_many rc_84 rfl rfl ⟨rfl, rfl⟩ ?_
      refine g_top hW.a7 ?_
      refine n_icmp_ge (tgt := 38) (by omega) (by omega) dX9_weights_9 rfl (fun zc9 => ?_) (fun zc9 => ?_)
      · refine g_iload_n dX9_weights_38 rfl ?_
        exact g_iret (S := []) dX9_weights_39 rfl (by rw [← hRz]; exact ⟨congrArg (fun zz => some (Value.int zz)) (show _ = _ by rw [hb, show k = n by omega]), by rfl⟩) (Nat.zero_le _) (Nat.zero_le _)
      · refine g_iload_n dX9_weights_12 rfl ?_
        refine g_aload_n dX9_weights_13 rfl ?_
        refine g_iload_n dX9_weights_14 rfl ?_
        refine g_v1 (M' := KR_lies) dX9_weights_15 l_R_82 v_KR_lies (c_KR_lies (by omega)) rc_84 rfl rfl ⟨rfl, rfl⟩ ?_
        refine b_if_eq (tgt := 29) dX9_weights_18 rfl (fun zc18 => ?_) (fun zc18 => ?_)
        · refine g_iconst dX9_weights_29 ic_0 ?_
          refine g_iadd dX9_weights_30 ?_
          refine g_istore_n dX9_weights_31 rfl ?_
          refine n_iinc (b := 1) dX9_weights_32 rfl rfl rfl ?_
          refine g_goto (tgt := 4) dX9_weights_35 rfl ?_
          exact g_can _ (by exact ⟨rfl, rfl, rfl, trivial⟩) (ih4 (k + 1) _ (by omega) (by rw [hb]; unfold weightsA; rw [sumI]; simp [zc18, nI_0]) (by omega))
        · refine g_aload_n dX9_weights_21 rfl ?_
          refine g_iload_n dX9_weights_22 rfl ?_
          refine g_v1 (M' := KR_weight) dX9_weights_23 l_R_149 v_KR_weight (c_KR_weight hW (by omega)) rc_84 rfl rfl ⟨rfl, rfl⟩ ?_
          refine g_goto (tgt := 30) dX9_weights_26 rfl ?_
          refine g_iadd dX9_weights_30 ?_
          refine g_istore_n dX9_weights_31 rfl ?_
          refine n_iinc (b := 1) dX9_weights_32 rfl rfl rfl ?_
          refine g_goto (tgt := 4) dX9_weights_35 rfl ?_
          exact g_can _ (by exact ⟨rfl, rfl, rfl, trivial⟩) (ih4 (k + 1) _ (by omega) (by rw [hb]; unfold weightsA; rw [sumI]; simp [zc18, nI_0]) (by omega))
  exact g_can _ (by exact ⟨rfl, rfl, rfl, trivial⟩) (H4 _ 0 _ (by omega) rfl (Nat.lt_succ_self _))
