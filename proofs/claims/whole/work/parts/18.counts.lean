/-! CONTRACTS: counts, sets, sums -/
def cntN (p : Nat → Bool) : Nat → Nat
  | 0 => 0
  | n + 1 => cntN p n + (if p n then 1 else 0)
def sumN (f : Nat → Nat) : Nat → Nat
  | 0 => 0
  | n + 1 => sumN f n + f n
def bitsN (p : Nat → Bool) : Nat → Nat
  | 0 => 0
  | n + 1 => if p n then bitsN p n ||| 2 ^ n else bitsN p n
def sumI (f : Nat → Int32) : Nat → Int32
  | 0 => nI 0
  | n + 1 => sumI f n + f n
def weightsA (a : Nat → Int32) (n : Nat) : Int32 := sumI (fun k => if liesA a k then wgtF a k else nI 0) n
def pairsP (a : Nat → Int32) (j k : Nat) : Bool := decide (its a j 1 < its a k 1) && decide (wideF a j * highF a j ≤ wideF a k * highF a k)
def pairsR (a : Nat → Int32) (n j : Nat) : Nat := cntN (pairsP a j) n
def pairsA (a : Nat → Int32) (n : Nat) : Nat := sumN (pairsR a n) n
def aheadP (a : Nat → Int32) (k o : Nat) : Bool := (decide (wgtF a k < wgtF a o) || (decide (wgtF a o = wgtF a k) && decide (o < k))) && decide (its a o 0 = its a k 0)
def aheadA (a : Nat → Int32) (n k : Nat) : Nat := cntN (aheadP a k) n
theorem ahead_t1 {a : Nat → Int32} {k o : Nat} (h : wgtF a k < wgtF a o) (h2 : its a o 0 = its a k 0) : aheadP a k o = true := by unfold aheadP; rw [decide_eq_true h, decide_eq_true h2]; rfl
theorem ahead_t2 {a : Nat → Int32} {k o : Nat} (h : wgtF a o = wgtF a k) (h1 : o < k) (h2 : its a o 0 = its a k 0) : aheadP a k o = true := by unfold aheadP; rw [decide_eq_true h, decide_eq_true h1, decide_eq_true h2]; simp
theorem ahead_f1 {a : Nat → Int32} {k o : Nat} (h2 : ¬ its a o 0 = its a k 0) : ¬ aheadP a k o = true := by unfold aheadP; rw [decide_eq_false h2]; simp
theorem ahead_f2 {a : Nat → Int32} {k o : Nat} (h : ¬ wgtF a k < wgtF a o) (h1 : ¬ wgtF a o = wgtF a k) : ¬ aheadP a k o = true := by unfold aheadP; rw [decide_eq_false h, decide_eq_false h1]; simp
theorem ahead_f3 {a : Nat → Int32} {k o : Nat} (h : ¬ wgtF a k < wgtF a o) (h1 : k ≤ o) : ¬ aheadP a k o = true := by unfold aheadP; rw [decide_eq_false h, decide_eq_false (show ¬ o < k by omega)]; simp
theorem bitsN_bit {p : Nat → Bool} : ∀ {n i : Nat}, (bitsN p n).testBit i = (decide (i < n) && p i)
  | 0, i => by simp [bitsN]
  | n + 1, i => by
    unfold bitsN
    rcases Nat.lt_trichotomy i n with h | h | h
    · have e1 : decide (i < n + 1) = true := decide_eq_true (by omega)
      have e2 : decide (i < n) = true := decide_eq_true h
      cases hp : p n with
      | true => rw [if_pos rfl, Nat.testBit_or, bitsN_bit, Nat.testBit_two_pow, e1, e2]; simp; omega
      | false => rw [if_neg (by simp), bitsN_bit, e1, e2]
    · subst h
      have e2 : decide (i < i) = false := decide_eq_false (by omega)
      have e1 : decide (i < i + 1) = true := decide_eq_true (by omega)
      cases hp : p i with
      | true => rw [if_pos rfl, Nat.testBit_or, bitsN_bit, Nat.testBit_two_pow, e1, e2]; simp
      | false => rw [if_neg (by simp), bitsN_bit, e1, e2]; simp
    · have e1 : decide (i < n + 1) = false := decide_eq_false (by omega)
      have e2 : decide (i < n) = false := decide_eq_false (by omega)
      cases hp : p n with
      | true => rw [if_pos rfl, Nat.testBit_or, bitsN_bit, Nat.testBit_two_pow, e1, e2]; simp; omega
      | false => rw [if_neg (by simp), bitsN_bit, e1, e2]
theorem bitsN_lt {p : Nat → Bool} : ∀ n, bitsN p n < 2 ^ n
  | 0 => by simp [bitsN]
  | n + 1 => by
    unfold bitsN
    have h := bitsN_lt (p := p) n
    have h2 : (2 : Nat) ^ n < 2 ^ (n + 1) := Nat.pow_lt_pow_right (by decide) (by omega)
    split
    · exact Nat.or_lt_two_pow (by omega) h2
    · omega
theorem cntN_cong {p q : Nat → Bool} : ∀ {n : Nat}, (∀ k, k < n → p k = q k) → cntN p n = cntN q n
  | 0, _ => rfl
  | n + 1, h => by unfold cntN; rw [cntN_cong (fun k hk => h k (by omega)), h n (by omega)]
theorem cntN_le {p : Nat → Bool} : ∀ n, cntN p n ≤ n
  | 0 => Nat.le_refl _
  | n + 1 => by
    unfold cntN
    have := cntN_le (p := p) n
    split <;> omega
theorem cntN_ext {p : Nat → Bool} {n : Nat} : ∀ m, cntN (fun i => decide (i < n) && p i) (n + m) = cntN p n
  | 0 => cntN_cong (fun k hk => by rw [decide_eq_true (show k < n by omega)]; rfl)
  | m + 1 => by
    show cntN (fun i => decide (i < n) && p i) (n + m) + (if (decide (n + m < n) && p (n + m)) = true then 1 else 0) = _
    rw [cntN_ext m, decide_eq_false (show ¬ n + m < n by omega)]
    rfl
def ushF (x s : Int32) : Int32 := (x.toUInt32 >>> (s.toUInt32 &&& Int32.toUInt32 31)).toInt32
def bcF (v : Int32) : Int32 :=
  let i1 := v - (ushF v (nI 1) &&& 1431655765)
  let i2 := (i1 &&& 858993459) + (ushF i1 (nI 2) &&& 858993459)
  let i3 := (i2 + ushF i2 (nI 4)) &&& 252645135
  let i4 := i3 + ushF i3 (nI 8)
  let i5 := i4 + ushF i4 (nI 16)
  i5 &&& nI 63
theorem bc_all : ∀ m, m < 256 → bcF (nI m) = nI (cntN (fun i => m.testBit i) 8) := by decide +kernel
theorem bc_cnt {p : Nat → Bool} {n : Nat} (h8 : n ≤ 8) : bcF (nI (bitsN p n)) = nI (cntN p n) := by
  have h1 : bitsN p n < 256 := Nat.lt_of_lt_of_le (bitsN_lt n) (Nat.pow_le_pow_right (by decide) h8)
  rw [bc_all _ h1]
  congr 1
  rw [cntN_cong (fun i _ => bitsN_bit)]
  have := cntN_ext (p := p) (n := n) (8 - n)
  rwa [show n + (8 - n) = 8 by omega] at this
set_option maxRecDepth 100000 in
theorem c_KJ_bitCount {σ : SI} {δ : SD} {v : Int32} : E KJ_bitCount [.int v] (HH σ δ) (some (.int (bcF v))) (HH σ δ) := by
  refine E.ofL [some (.int v)] rfl pn_KJ_bitCount rfl (fun sc => ?_)
  refine g_iload_n dJ6_bitCount_0f7a4_0 rfl ?_
  refine g_iload_n dJ6_bitCount_0f7a4_1 rfl ?_
  refine g_iconst dJ6_bitCount_0f7a4_2 ic_1 ?_
  refine g_iushr dJ6_bitCount_0f7a4_3 ?_
  refine g_ldcw dJ6_bitCount_0f7a4_4 c_JRJ6_265 ?_
  refine g_iand dJ6_bitCount_0f7a4_7 ?_
  refine g_isub dJ6_bitCount_0f7a4_8 ?_
  refine g_istore_n dJ6_bitCount_0f7a4_9 rfl ?_
  refine g_iload_n dJ6_bitCount_0f7a4_10 rfl ?_
  refine g_ldcw dJ6_bitCount_0f7a4_11 c_JRJ6_266 ?_
  refine g_iand dJ6_bitCount_0f7a4_14 ?_
  refine g_iload_n dJ6_bitCount_0f7a4_15 rfl ?_
  refine g_iconst dJ6_bitCount_0f7a4_16 ic_2 ?_
  refine g_iushr dJ6_bitCount_0f7a4_17 ?_
  refine g_ldcw dJ6_bitCount_0f7a4_18 c_JRJ6_266 ?_
  refine g_iand dJ6_bitCount_0f7a4_21 ?_
  refine g_iadd dJ6_bitCount_0f7a4_22 ?_
  refine g_istore_n dJ6_bitCount_0f7a4_23 rfl ?_
  refine g_iload_n dJ6_bitCount_0f7a4_24 rfl ?_
  refine g_iload_n dJ6_bitCount_0f7a4_25 rfl ?_
  refine g_iconst dJ6_bitCount_0f7a4_26 ic_4 ?_
  refine g_iushr dJ6_bitCount_0f7a4_27 ?_
  refine g_iadd dJ6_bitCount_0f7a4_28 ?_
  refine g_ldcw dJ6_bitCount_0f7a4_29 c_JRJ6_267 ?_
  refine g_iand dJ6_bitCount_0f7a4_32 ?_
  refine g_istore_n dJ6_bitCount_0f7a4_33 rfl ?_
  refine g_iload_n dJ6_bitCount_0f7a4_34 rfl ?_
  refine g_iload_n dJ6_bitCount_0f7a4_35 rfl ?_
  refine g_bipush dJ6_bitCount_0f7a4_36 bp_8 ?_
  refine g_iushr dJ6_bitCount_0f7a4_38 ?_
  refine g_iadd dJ6_bitCount_0f7a4_39 ?_
  refine g_istore_n dJ6_bitCount_0f7a4_40 rfl ?_
  refine g_iload_n dJ6_bitCount_0f7a4_41 rfl ?_
  refine g_iload_n dJ6_bitCount_0f7a4_42 rfl ?_
  refine g_bipush dJ6_bitCount_0f7a4_43 bp_16 ?_
  refine g_iushr dJ6_bitCount_0f7a4_45 ?_
  refine g_iadd dJ6_bitCount_0f7a4_46 ?_
  refine g_istore_n dJ6_bitCount_0f7a4_47 rfl ?_
  refine g_iload_n dJ6_bitCount_0f7a4_48 rfl ?_
  refine g_bipush dJ6_bitCount_0f7a4_49 bp_63 ?_
  refine g_iand dJ6_bitCount_0f7a4_51 ?_
  exact e_iret dJ6_bitCount_0f7a4_52 rfl (by rfl) (by rfl)
set_option maxRecDepth 100000 in
theorem c_KL_lyingBits {σ : SI} {δ : SD} {B n : Nat} {a : Nat → Int32} (hB : LB B) (hW : WF a n) (hR : RB σ B a n) : E KL_lyingBits [.ref B] (HH σ δ) (some (.int (nI (bitsN (liesA a) n)))) (HH σ δ) := by
  have h8 := hW.n8
  have h2 := hR.c
  refine E.ofL [some (.ref B)] rfl pn_RX1 rfl (fun sc => ?_)
  generalize hRz : (fun (zr : Option Value) (zk : XH) => zr = some (.int (nI (bitsN (liesA a) n))) ∧ zk = HH σ δ) = R
  refine g_iconst dX1_lyingBits_0 ic_0 ?_
  refine g_istore_n dX1_lyingBits_1 rfl ?_
  refine g_iconst dX1_lyingBits_2 ic_0 ?_
  refine g_istore_n dX1_lyingBits_3 rfl ?_
  have H4 : ∀ (N : Nat) (k m : Nat), k ≤ n → m = bitsN (liesA a) k → n - k < N → G sc KL_lyingBits 4 (aL [some (.ref B), some (.int (nI m)), some (.int (nI k))]) [] (HH σ δ) (0, 0) R := by
    intro N
    induction N with
    | zero => intro k m h1 hb hN4; exact absurd hN4 (Nat.not_lt_zero _)
    | succ N ih4 =>
      intro k m h1 hb hN4
      refine g_iload_n dX1_lyingBits_4 rfl ?_
      refine g_aload_n dX1_lyingBits_5 rfl ?_
      refine q_geti dX1_lyingBits_6 f_L_44 (ckL_0 hB) (by decide) ty_0_2 ?_
      refine g_top h2 ?_
      refine n_icmp_ge (tgt := 32) (by omega) (by omega) dX1_lyingBits_9 rfl (fun zc9 => ?_) (fun zc9 => ?_)
      · refine g_iload_n dX1_lyingBits_32 rfl ?_
        exact g_iret (S := []) dX1_lyingBits_33 rfl (by rw [← hRz]; exact ⟨congrArg (fun zz => some (Value.int zz)) (show _ = _ by rw [hb, show k = n by omega]), by rfl⟩) (Nat.zero_le _) (Nat.zero_le _)
      · refine g_aload_n dX1_lyingBits_12 rfl ?_
        refine g_iload_n dX1_lyingBits_13 rfl ?_
        refine g_v1 (M' := KL_lies) dX1_lyingBits_14 l_L_123 v_KL_lies (c_KL_lies hB hW hR (by omega)) (rcL hB) rfl rfl ⟨rfl, rfl⟩ ?_
        refine b_if_eq (tgt := 26) dX1_lyingBits_17 rfl (fun zc17 => ?_) (fun zc17 => ?_)
        · refine n_iinc (b := 1) dX1_lyingBits_26 rfl rfl rfl ?_
          refine g_goto (tgt := 4) dX1_lyingBits_29 rfl ?_
          exact g_can _ (by exact ⟨rfl, rfl, rfl, trivial⟩) (ih4 (k + 1) _ (by omega) (by simp [bitsN, zc17, hb]) (by omega))
        · refine g_iload_n dX1_lyingBits_20 rfl ?_
          refine g_iconst dX1_lyingBits_21 ic_1 ?_
          refine g_iload_n dX1_lyingBits_22 rfl ?_
          refine g_ishl dX1_lyingBits_23 ?_
          refine g_ior dX1_lyingBits_24 ?_
          refine g_top (show _ = nI (m ||| 2 ^ k) by rw [shl_1 (by omega), nI_or]) ?_
          refine g_istore_n dX1_lyingBits_25 rfl ?_
          refine n_iinc (b := 1) dX1_lyingBits_26 rfl rfl rfl ?_
          refine g_goto (tgt := 4) dX1_lyingBits_29 rfl ?_
          exact g_can _ (by exact ⟨rfl, rfl, rfl, trivial⟩) (ih4 (k + 1) _ (by omega) (by simp [bitsN, zc17, hb]) (by omega))
  exact g_can _ (by exact ⟨rfl, rfl, rfl, trivial⟩) (H4 _ 0 0 (by omega) rfl (Nat.lt_succ_self _))
set_option maxRecDepth 100000 in
theorem c_KL_lying {σ : SI} {δ : SD} {B n : Nat} {a : Nat → Int32} (hB : LB B) (hW : WF a n) (hR : RB σ B a n) : E KL_lying [.ref B] (HH σ δ) (some (.int (nI (cntN (liesA a) n)))) (HH σ δ) := by
  have h8 := hW.n8
  refine E.ofL [some (.ref B)] rfl pn_RX1 rfl (fun sc => ?_)
  refine g_aload_n dX1_lying_0 rfl ?_
  refine g_v0 (M' := KL_lyingBits) dX1_lying_1 l_L_114 v_KL_lyingBits (c_KL_lyingBits hB hW hR) (rcL hB) rfl rfl ⟨rfl, rfl⟩ ?_
  refine g_s1 (M' := KJ_bitCount) dX1_lying_4 l_L_118 s_KJ_bitCount c_KJ_bitCount rfl rfl ⟨rfl, rfl⟩ ?_
  exact e_iret dX1_lying_7 rfl (by exact bc_cnt h8) (by rfl)
set_option maxRecDepth 100000 in
theorem c_KL_badlyLyingBits {σ : SI} {δ : SD} {B n : Nat} {a : Nat → Int32} (hB : LB B) (hW : WF a n) (hR : RB σ B a n) (hD : RD σ B a n) : E KL_badlyLyingBits [.ref B] (HH σ δ) (some (.int (nI (bitsN (fun k => liesA a k && !fitThereA a n k) n)))) (HH σ δ) := by
  have h8 := hW.n8
  have h2 := hR.c
  refine E.ofL [some (.ref B)] rfl pn_RX1 rfl (fun sc => ?_)
  generalize hRz : (fun (zr : Option Value) (zk : XH) => zr = some (.int (nI (bitsN (fun k => liesA a k && !fitThereA a n k) n))) ∧ zk = HH σ δ) = R
  refine g_iconst dX1_badlyLyingBits_0 ic_0 ?_
  refine g_istore_n dX1_badlyLyingBits_1 rfl ?_
  refine g_iconst dX1_badlyLyingBits_2 ic_0 ?_
  refine g_istore_n dX1_badlyLyingBits_3 rfl ?_
  have H4 : ∀ (N : Nat) (k m : Nat), k ≤ n → m = bitsN (fun k => liesA a k && !fitThereA a n k) k → n - k < N → G sc KL_badlyLyingBits 4 (aL [some (.ref B), some (.int (nI m)), some (.int (nI k))]) [] (HH σ δ) (0, 0) R := by
    intro N
    induction N with
    | zero => intro k m h1 hb hN4; exact absurd hN4 (Nat.not_lt_zero _)
    | succ N ih4 =>
      intro k m h1 hb hN4
      refine g_iload_n dX1_badlyLyingBits_4 rfl ?_
      refine g_aload_n dX1_badlyLyingBits_5 rfl ?_
      refine q_geti dX1_badlyLyingBits_6 f_L_44 (ckL_0 hB) (by decide) ty_0_2 ?_
      refine g_top h2 ?_
      refine n_icmp_ge (tgt := 40) (by omega) (by omega) dX1_badlyLyingBits_9 rfl (fun zc9 => ?_) (fun zc9 => ?_)
      · refine g_iload_n dX1_badlyLyingBits_40 rfl ?_
        exact g_iret (S := []) dX1_badlyLyingBits_41 rfl (by rw [← hRz]; exact ⟨congrArg (fun zz => some (Value.int zz)) (show _ = _ by rw [hb, show k = n by omega]), by rfl⟩) (Nat.zero_le _) (Nat.zero_le _)
      · refine g_aload_n dX1_badlyLyingBits_12 rfl ?_
        refine g_iload_n dX1_badlyLyingBits_13 rfl ?_
        refine g_v1 (M' := KL_lies) dX1_badlyLyingBits_14 l_L_123 v_KL_lies (c_KL_lies hB hW hR (by omega)) (rcL hB) rfl rfl ⟨rfl, rfl⟩ ?_
        refine b_if_eq (tgt := 34) dX1_badlyLyingBits_17 rfl (fun zc17 => ?_) (fun zc17 => ?_)
        · refine n_iinc (b := 1) dX1_badlyLyingBits_34 rfl rfl rfl ?_
          refine g_goto (tgt := 4) dX1_badlyLyingBits_37 rfl ?_
          exact g_can _ (by exact ⟨rfl, rfl, rfl, trivial⟩) (ih4 (k + 1) _ (by omega) (by clear ih4; simp [bitsN, hb, *]) (by omega))
        · refine g_aload_n dX1_badlyLyingBits_20 rfl ?_
          refine g_iload_n dX1_badlyLyingBits_21 rfl ?_
          refine g_v1 (M' := KL_liesWell) dX1_badlyLyingBits_22 l_L_152 v_KL_liesWell (c_KL_liesWell hB hW hR hD (by omega)) (rcL hB) rfl rfl ⟨rfl, rfl⟩ ?_
          refine b_if_ne (tgt := 34) dX1_badlyLyingBits_25 rfl (fun zc25 => ?_) (fun zc25 => ?_)
          · refine n_iinc (b := 1) dX1_badlyLyingBits_34 rfl rfl rfl ?_
            refine g_goto (tgt := 4) dX1_badlyLyingBits_37 rfl ?_
            exact g_can _ (by exact ⟨rfl, rfl, rfl, trivial⟩) (ih4 (k + 1) _ (by omega) (by clear ih4; simp [bitsN, hb, *]) (by omega))
          · refine g_iload_n dX1_badlyLyingBits_28 rfl ?_
            refine g_iconst dX1_badlyLyingBits_29 ic_1 ?_
            refine g_iload_n dX1_badlyLyingBits_30 rfl ?_
            refine g_ishl dX1_badlyLyingBits_31 ?_
            refine g_ior dX1_badlyLyingBits_32 ?_
            refine g_top (show _ = nI (m ||| 2 ^ k) by rw [shl_1 (by omega), nI_or]) ?_
            refine g_istore_n dX1_badlyLyingBits_33 rfl ?_
            refine n_iinc (b := 1) dX1_badlyLyingBits_34 rfl rfl rfl ?_
            refine g_goto (tgt := 4) dX1_badlyLyingBits_37 rfl ?_
            exact g_can _ (by exact ⟨rfl, rfl, rfl, trivial⟩) (ih4 (k + 1) _ (by omega) (by clear ih4; simp [bitsN, hb, *]) (by omega))
  exact g_can _ (by exact ⟨rfl, rfl, rfl, trivial⟩) (H4 _ 0 0 (by omega) rfl (Nat.lt_succ_self _))
set_option maxRecDepth 100000 in
theorem c_KL_lyingWeight {σ : SI} {δ : SD} {B n : Nat} {a : Nat → Int32} (hB : LB B) (hW : WF a n) (hR : RB σ B a n) (hD : RD σ B a n) : E KL_lyingWeight [.ref B] (HH σ δ) (some (.int (weightsA a n))) (HH σ δ) := by
  have h8 := hW.n8
  have h2 := hR.c
  refine E.ofL [some (.ref B)] rfl pn_RX1 rfl (fun sc => ?_)
  generalize hRz : (fun (zr : Option Value) (zk : XH) => zr = some (.int (weightsA a n)) ∧ zk = HH σ δ) = R
  refine g_iconst dX1_lyingWeight_0 ic_0 ?_
  refine g_istore_n dX1_lyingWeight_1 rfl ?_
  refine g_iconst dX1_lyingWeight_2 ic_0 ?_
  refine g_istore_n dX1_lyingWeight_3 rfl ?_
  have H4 : ∀ (N : Nat) (k : Nat) (z : Int32), k ≤ n → z = weightsA a k → n - k < N → G sc KL_lyingWeight 4 (aL [some (.ref B), some (.int z), some (.int (nI k))]) [] (HH σ δ) (0, 0) R := by
    intro N
    induction N with
    | zero => intro k z h1 hb hN4; exact absurd hN4 (Nat.not_lt_zero _)
    | succ N ih4 =>
      intro k z h1 hb hN4
      refine g_iload_n dX1_lyingWeight_4 rfl ?_
      refine g_aload_n dX1_lyingWeight_5 rfl ?_
      refine q_geti dX1_lyingWeight_6 f_L_44 (ckL_0 hB) (by decide) ty_0_2 ?_
      refine g_top h2 ?_
      refine n_icmp_ge (tgt := 34) (by omega) (by omega) dX1_lyingWeight_9 rfl (fun zc9 => ?_) (fun zc9 => ?_)
      · refine g_iload_n dX1_lyingWeight_34 rfl ?_
        exact g_iret (S := []) dX1_lyingWeight_35 rfl (by rw [← hRz]; exact ⟨congrArg (fun zz => some (Value.int zz)) (show _ = _ by rw [hb, show k = n by omega]), by rfl⟩) (Nat.zero_le _) (Nat.zero_le _)
      · refine g_aload_n dX1_lyingWeight_12 rfl ?_
        refine g_iload_n dX1_lyingWeight_13 rfl ?_
        refine g_v1 (M' := KL_lies) dX1_lyingWeight_14 l_L_123 v_KL_lies (c_KL_lies hB hW hR (by omega)) (rcL hB) rfl rfl ⟨rfl, rfl⟩ ?_
        refine b_if_eq (tgt := 28) dX1_lyingWeight_17 rfl (fun zc17 => ?_) (fun zc17 => ?_)
        · refine n_iinc (b := 1) dX1_lyingWeight_28 rfl rfl rfl ?_
          refine g_goto (tgt := 4) dX1_lyingWeight_31 rfl ?_
          exact g_can _ (by exact ⟨rfl, rfl, rfl, trivial⟩) (ih4 (k + 1) _ (by omega) (by rw [hb]; unfold weightsA; rw [sumI]; simp [zc17, nI_0]) (by omega))
        · refine g_iload_n dX1_lyingWeight_20 rfl ?_
          refine g_aload_n dX1_lyingWeight_21 rfl ?_
          refine g_iload_n dX1_lyingWeight_22 rfl ?_
          refine g_v1 (M' := KL_weight) dX1_lyingWeight_23 l_L_161 v_KL_weight (c_KL_weight hB hW hR hD (by omega)) (rcL hB) rfl rfl ⟨rfl, rfl⟩ ?_
          refine g_iadd dX1_lyingWeight_26 ?_
          refine g_istore_n dX1_lyingWeight_27 rfl ?_
          refine n_iinc (b := 1) dX1_lyingWeight_28 rfl rfl rfl ?_
          refine g_goto (tgt := 4) dX1_lyingWeight_31 rfl ?_
          exact g_can _ (by exact ⟨rfl, rfl, rfl, trivial⟩) (ih4 (k + 1) _ (by omega) (by rw [hb]; unfold weightsA; rw [sumI]; simp [zc17, nI_0]) (by omega))
  exact g_can _ (by exact ⟨rfl, rfl, rfl, trivial⟩) (H4 _ 0 _ (by omega) rfl (Nat.lt_succ_self _))
set_option maxRecDepth 100000 in
theorem c_KL_lesserPairs {σ : SI} {δ : SD} {B n : Nat} {a : Nat → Int32} (hB : LB B) (hW : WF a n) (hR : RB σ B a n) (hD : RD σ B a n) : E KL_lesserPairs [.ref B] (HH σ δ) (some (.int (nI (pairsA a n)))) (HH σ δ) := by
  have h8 := hW.n8
  have h2 := hR.c
  refine E.ofL [some (.ref B)] rfl pn_RX1 rfl (fun sc => ?_)
  generalize hRz : (fun (zr : Option Value) (zk : XH) => zr = some (.int (nI (pairsA a n))) ∧ zk = HH σ δ) = R
  refine g_iconst dX1_lesserPairs_0 ic_0 ?_
  refine g_istore_n dX1_lesserPairs_1 rfl ?_
  refine g_iconst dX1_lesserPairs_2 ic_0 ?_
  refine g_istore_n dX1_lesserPairs_3 rfl ?_
  have H4 : ∀ (N : Nat) (j c : Nat), j ≤ n → c = sumN (pairsR a n) j → n - j < N → G sc KL_lesserPairs 4 (aL [some (.ref B), some (.int (nI c)), some (.int (nI j))]) [] (HH σ δ) (0, 0) R := by
    intro N
    induction N with
    | zero => intro j c h1 hb hN4; exact absurd hN4 (Nat.not_lt_zero _)
    | succ N ih4 =>
      intro j c h1 hb hN4
      refine g_iload_n dX1_lesserPairs_4 rfl ?_
      refine g_aload_n dX1_lesserPairs_5 rfl ?_
      refine q_geti dX1_lesserPairs_6 f_L_44 (ckL_0 hB) (by decide) ty_0_2 ?_
      refine g_top h2 ?_
      refine n_icmp_ge (tgt := 77) (by omega) (by omega) dX1_lesserPairs_9 rfl (fun zc9 => ?_) (fun zc9 => ?_)
      · refine g_iload_n dX1_lesserPairs_77 rfl ?_
        exact g_iret (S := []) dX1_lesserPairs_78 rfl (by rw [← hRz]; exact ⟨congrArg (fun zz => some (Value.int zz)) (show _ = _ by rw [hb, show j = n by omega]; rfl), by rfl⟩) (Nat.zero_le _) (Nat.zero_le _)
      · refine g_iconst dX1_lesserPairs_12 ic_0 ?_
        refine g_istore_n dX1_lesserPairs_13 rfl ?_
        have H14 : ∀ (N : Nat) (k c1 : Nat), k ≤ n → c1 = sumN (pairsR a n) j + cntN (pairsP a j) k → n - k < N → G sc KL_lesserPairs 14 (aL [some (.ref B), some (.int (nI c1)), some (.int (nI j)), some (.int (nI k))]) [] (HH σ δ) (0, 0) R := by
          intro N
          induction N with
          | zero => intro k c1 h3 hb1 hN14; exact absurd hN14 (Nat.not_lt_zero _)
          | succ N ih14 =>
            intro k c1 h3 hb1 hN14
            refine g_iload_n dX1_lesserPairs_14 rfl ?_
            refine g_aload_n dX1_lesserPairs_15 rfl ?_
            refine q_geti dX1_lesserPairs_16 f_L_44 (ckL_0 hB) (by decide) ty_0_2 ?_
            refine g_top h2 ?_
            refine n_icmp_ge (tgt := 71) (by omega) (by omega) dX1_lesserPairs_19 rfl (fun zc19 => ?_) (fun zc19 => ?_)
            · refine n_iinc (b := 1) dX1_lesserPairs_71 rfl rfl rfl ?_
              refine g_goto (tgt := 4) dX1_lesserPairs_74 rfl ?_
              exact g_can _ (by exact ⟨rfl, rfl, rfl, trivial⟩) (ih4 (j + 1) _ (by omega) (by rw [hb1, show k = n by omega]; rfl) (by omega))
            · refine g_aload_n dX1_lesserPairs_22 rfl ?_
              refine g_iload_n dX1_lesserPairs_23 rfl ?_
              refine g_iconst dX1_lesserPairs_24 ic_1 ?_
              refine g_v2 (M' := KL_trait) dX1_lesserPairs_25 l_L_99 v_KL_trait (c_KL_trait hB hW hR (by omega) (by omega)) (rcL hB) rfl rfl ⟨rfl, rfl⟩ ?_
              refine g_aload_n dX1_lesserPairs_28 rfl ?_
              refine g_iload_n dX1_lesserPairs_29 rfl ?_
              refine g_iconst dX1_lesserPairs_30 ic_1 ?_
              refine g_v2 (M' := KL_trait) dX1_lesserPairs_31 l_L_99 v_KL_trait (c_KL_trait hB hW hR (by omega) (by omega)) (rcL hB) rfl rfl ⟨rfl, rfl⟩ ?_
              refine g_icmp_ge (tgt := 65) dX1_lesserPairs_34 rfl (fun zc34 => ?_) (fun zc34 => ?_)
              · refine n_iinc (b := 1) dX1_lesserPairs_65 rfl rfl rfl ?_
                refine g_goto (tgt := 14) dX1_lesserPairs_68 rfl ?_
                exact g_can _ (by exact ⟨rfl, rfl, rfl, rfl, trivial⟩) (ih14 (k + 1) _ (by omega) (by rw [hb1, cntN]; clear ih14 ih4; simp [pairsP, Int32.le_iff_toInt_le, Int32.lt_iff_toInt_lt] at *; first | omega | (simp [*]; omega) | simp [*]) (by omega))
              · refine g_aload_n dX1_lesserPairs_37 rfl ?_
                refine g_iload_n dX1_lesserPairs_38 rfl ?_
                refine g_v1 (M' := KL_wide) dX1_lesserPairs_39 l_L_155 v_KL_wide (c_KL_wide hB hW hR hD (by omega)) (rcL hB) rfl rfl ⟨rfl, rfl⟩ ?_
                refine g_aload_n dX1_lesserPairs_42 rfl ?_
                refine g_iload_n dX1_lesserPairs_43 rfl ?_
                refine g_v1 (M' := KL_high) dX1_lesserPairs_44 l_L_158 v_KL_high (c_KL_high hB hW hR hD (by omega)) (rcL hB) rfl rfl ⟨rfl, rfl⟩ ?_
                refine g_imul dX1_lesserPairs_47 ?_
                refine g_aload_n dX1_lesserPairs_48 rfl ?_
                refine g_iload_n dX1_lesserPairs_49 rfl ?_
                refine g_v1 (M' := KL_wide) dX1_lesserPairs_50 l_L_155 v_KL_wide (c_KL_wide hB hW hR hD (by omega)) (rcL hB) rfl rfl ⟨rfl, rfl⟩ ?_
                refine g_aload_n dX1_lesserPairs_53 rfl ?_
                refine g_iload_n dX1_lesserPairs_54 rfl ?_
                refine g_v1 (M' := KL_high) dX1_lesserPairs_55 l_L_158 v_KL_high (c_KL_high hB hW hR hD (by omega)) (rcL hB) rfl rfl ⟨rfl, rfl⟩ ?_
                refine g_imul dX1_lesserPairs_58 ?_
                refine g_icmp_gt (tgt := 65) dX1_lesserPairs_59 rfl (fun zc59 => ?_) (fun zc59 => ?_)
                · refine n_iinc (b := 1) dX1_lesserPairs_65 rfl rfl rfl ?_
                  refine g_goto (tgt := 14) dX1_lesserPairs_68 rfl ?_
                  exact g_can _ (by exact ⟨rfl, rfl, rfl, rfl, trivial⟩) (ih14 (k + 1) _ (by omega) (by rw [hb1, cntN]; clear ih14 ih4; simp [pairsP, Int32.le_iff_toInt_le, Int32.lt_iff_toInt_lt] at *; first | omega | (simp [*]; omega) | simp [*]) (by omega))
                · refine n_iinc (b := 1) dX1_lesserPairs_62 rfl rfl rfl ?_
                  refine n_iinc (b := 1) dX1_lesserPairs_65 rfl rfl rfl ?_
                  refine g_goto (tgt := 14) dX1_lesserPairs_68 rfl ?_
                  exact g_can _ (by exact ⟨rfl, rfl, rfl, rfl, trivial⟩) (ih14 (k + 1) _ (by omega) (by rw [hb1, cntN]; clear ih14 ih4; simp [pairsP, Int32.le_iff_toInt_le, Int32.lt_iff_toInt_lt] at *; first | omega | (simp [*]; omega) | simp [*]) (by omega))
        exact g_can _ (by exact ⟨rfl, rfl, rfl, rfl, trivial⟩) (H14 _ 0 _ (by omega) (by rw [hb]; rfl) (Nat.lt_succ_self _))
  exact g_can _ (by exact ⟨rfl, rfl, rfl, trivial⟩) (H4 _ 0 0 (by omega) rfl (Nat.lt_succ_self _))
set_option maxRecDepth 100000 in
theorem c_KL_howManyBefore {σ : SI} {δ : SD} {B n : Nat} {a : Nat → Int32} (hB : LB B) (hW : WF a n) (hR : RB σ B a n) (hD : RD σ B a n) {k : Nat} (hk : k < n) : E KL_howManyBefore [.ref B, .int (nI k)] (HH σ δ) (some (.int (nI (aheadA a n k)))) (HH σ δ) := by
  have h8 := hW.n8
  have h2 := hR.c
  refine E.ofL [some (.ref B), some (.int (nI k))] rfl pn_RX1 rfl (fun sc => ?_)
  generalize hRz : (fun (zr : Option Value) (zk : XH) => zr = some (.int (nI (aheadA a n k))) ∧ zk = HH σ δ) = R
  refine g_iconst dX1_howManyBefore_0 ic_0 ?_
  refine g_istore_n dX1_howManyBefore_1 rfl ?_
  refine g_iconst dX1_howManyBefore_2 ic_0 ?_
  refine g_istore_n dX1_howManyBefore_3 rfl ?_
  have H4 : ∀ (N : Nat) (j c : Nat), j ≤ n → c = cntN (aheadP a k) j → n - j < N → G sc KL_howManyBefore 4 (aL [some (.ref B), some (.int (nI k)), some (.int (nI c)), some (.int (nI j))]) [] (HH σ δ) (0, 0) R := by
    intro N
    induction N with
    | zero => intro j c h1 hb hN4; exact absurd hN4 (Nat.not_lt_zero _)
    | succ N ih4 =>
      intro j c h1 hb hN4
      refine g_iload_n dX1_howManyBefore_4 rfl ?_
      refine g_aload_n dX1_howManyBefore_5 rfl ?_
      refine q_geti dX1_howManyBefore_6 f_L_44 (ckL_0 hB) (by decide) ty_0_2 ?_
      refine g_top h2 ?_
      refine n_icmp_ge (tgt := 79) (by omega) (by omega) dX1_howManyBefore_9 rfl (fun zc9 => ?_) (fun zc9 => ?_)
      · refine g_iload_n dX1_howManyBefore_79 rfl ?_
        exact g_iret (S := []) dX1_howManyBefore_80 rfl (by rw [← hRz]; exact ⟨congrArg (fun zz => some (Value.int zz)) (show _ = _ by rw [hb, show j = n by omega]; rfl), by rfl⟩) (Nat.zero_le _) (Nat.zero_le _)
      · refine g_aload_n dX1_howManyBefore_12 rfl ?_
        refine g_iload_n dX1_howManyBefore_13 rfl ?_
        refine g_v1 (M' := KL_weight) dX1_howManyBefore_14 l_L_161 v_KL_weight (c_KL_weight hB hW hR hD (by omega)) (rcL hB) rfl rfl ⟨rfl, rfl⟩ ?_
        refine g_aload_n dX1_howManyBefore_17 rfl ?_
        refine g_iload_n dX1_howManyBefore_18 rfl ?_
        refine g_v1 (M' := KL_weight) dX1_howManyBefore_19 l_L_161 v_KL_weight (c_KL_weight hB hW hR hD (by omega)) (rcL hB) rfl rfl ⟨rfl, rfl⟩ ?_
        refine g_icmp_gt (tgt := 43) dX1_howManyBefore_22 rfl (fun zc22 => ?_) (fun zc22 => ?_)
        · refine g_iconst dX1_howManyBefore_43 ic_1 ?_
          refine g_goto (tgt := 48) dX1_howManyBefore_44 rfl ?_
          refine g_istore dX1_howManyBefore_48 rfl ?_
          refine g_aload_n dX1_howManyBefore_50 rfl ?_
          refine g_iload_n dX1_howManyBefore_51 rfl ?_
          refine g_iconst dX1_howManyBefore_52 ic_0 ?_
          refine g_v2 (M' := KL_trait) dX1_howManyBefore_53 l_L_99 v_KL_trait (c_KL_trait hB hW hR (by omega) (by omega)) (rcL hB) rfl rfl ⟨rfl, rfl⟩ ?_
          refine g_aload_n dX1_howManyBefore_56 rfl ?_
          refine g_iload_n dX1_howManyBefore_57 rfl ?_
          refine g_iconst dX1_howManyBefore_58 ic_0 ?_
          refine g_v2 (M' := KL_trait) dX1_howManyBefore_59 l_L_99 v_KL_trait (c_KL_trait hB hW hR (by omega) (by omega)) (rcL hB) rfl rfl ⟨rfl, rfl⟩ ?_
          refine g_icmp_ne (tgt := 73) dX1_howManyBefore_62 rfl (fun zc62 => ?_) (fun zc62 => ?_)
          · refine n_iinc (b := 1) dX1_howManyBefore_73 rfl rfl rfl ?_
            refine g_goto (tgt := 4) dX1_howManyBefore_76 rfl ?_
            exact g_can _ (by exact ⟨rfl, rfl, rfl, rfl, trivial⟩) (ih4 (j + 1) _ (by omega) (by rw [hb, cntN]; first | rw [if_pos (ahead_t1 zc22 zc62)] | rw [if_pos (ahead_t2 zc35 zc40 zc62)] | rw [if_neg (ahead_f1 zc62), Nat.add_zero] | rw [if_neg (ahead_f2 zc22 zc35), Nat.add_zero] | rw [if_neg (ahead_f3 zc22 zc40), Nat.add_zero]) (by omega))
          · refine g_iload dX1_howManyBefore_65 rfl ?_
            refine n_if_eq (tgt := 73) (by omega) dX1_howManyBefore_67 rfl (fun zc67 => absurd zc67 (by decide)) (fun _ => ?_)
            refine n_iinc (b := 1) dX1_howManyBefore_70 rfl rfl rfl ?_
            refine n_iinc (b := 1) dX1_howManyBefore_73 rfl rfl rfl ?_
            refine g_goto (tgt := 4) dX1_howManyBefore_76 rfl ?_
            exact g_can _ (by exact ⟨rfl, rfl, rfl, rfl, trivial⟩) (ih4 (j + 1) _ (by omega) (by rw [hb, cntN]; first | rw [if_pos (ahead_t1 zc22 zc62)] | rw [if_pos (ahead_t2 zc35 zc40 zc62)] | rw [if_neg (ahead_f1 zc62), Nat.add_zero] | rw [if_neg (ahead_f2 zc22 zc35), Nat.add_zero] | rw [if_neg (ahead_f3 zc22 zc40), Nat.add_zero]) (by omega))
        · refine g_aload_n dX1_howManyBefore_25 rfl ?_
          refine g_iload_n dX1_howManyBefore_26 rfl ?_
          refine g_v1 (M' := KL_weight) dX1_howManyBefore_27 l_L_161 v_KL_weight (c_KL_weight hB hW hR hD (by omega)) (rcL hB) rfl rfl ⟨rfl, rfl⟩ ?_
          refine g_aload_n dX1_howManyBefore_30 rfl ?_
          refine g_iload_n dX1_howManyBefore_31 rfl ?_
          refine g_v1 (M' := KL_weight) dX1_howManyBefore_32 l_L_161 v_KL_weight (c_KL_weight hB hW hR hD (by omega)) (rcL hB) rfl rfl ⟨rfl, rfl⟩ ?_
          refine g_icmp_ne (tgt := 47) dX1_howManyBefore_35 rfl (fun zc35 => ?_) (fun zc35 => ?_)
          · refine g_iconst dX1_howManyBefore_47 ic_0 ?_
            refine g_istore dX1_howManyBefore_48 rfl ?_
            refine g_aload_n dX1_howManyBefore_50 rfl ?_
            refine g_iload_n dX1_howManyBefore_51 rfl ?_
            refine g_iconst dX1_howManyBefore_52 ic_0 ?_
            refine g_v2 (M' := KL_trait) dX1_howManyBefore_53 l_L_99 v_KL_trait (c_KL_trait hB hW hR (by omega) (by omega)) (rcL hB) rfl rfl ⟨rfl, rfl⟩ ?_
            refine g_aload_n dX1_howManyBefore_56 rfl ?_
            refine g_iload_n dX1_howManyBefore_57 rfl ?_
            refine g_iconst dX1_howManyBefore_58 ic_0 ?_
            refine g_v2 (M' := KL_trait) dX1_howManyBefore_59 l_L_99 v_KL_trait (c_KL_trait hB hW hR (by omega) (by omega)) (rcL hB) rfl rfl ⟨rfl, rfl⟩ ?_
            refine g_icmp_ne (tgt := 73) dX1_howManyBefore_62 rfl (fun zc62 => ?_) (fun zc62 => ?_)
            · refine n_iinc (b := 1) dX1_howManyBefore_73 rfl rfl rfl ?_
              refine g_goto (tgt := 4) dX1_howManyBefore_76 rfl ?_
              exact g_can _ (by exact ⟨rfl, rfl, rfl, rfl, trivial⟩) (ih4 (j + 1) _ (by omega) (by rw [hb, cntN]; first | rw [if_pos (ahead_t1 zc22 zc62)] | rw [if_pos (ahead_t2 zc35 zc40 zc62)] | rw [if_neg (ahead_f1 zc62), Nat.add_zero] | rw [if_neg (ahead_f2 zc22 zc35), Nat.add_zero] | rw [if_neg (ahead_f3 zc22 zc40), Nat.add_zero]) (by omega))
            · refine g_iload dX1_howManyBefore_65 rfl ?_
              refine n_if_eq (tgt := 73) (by omega) dX1_howManyBefore_67 rfl (fun _ => ?_) (fun zc67 => absurd zc67 (by decide))
              refine n_iinc (b := 1) dX1_howManyBefore_73 rfl rfl rfl ?_
              refine g_goto (tgt := 4) dX1_howManyBefore_76 rfl ?_
              exact g_can _ (by exact ⟨rfl, rfl, rfl, rfl, trivial⟩) (ih4 (j + 1) _ (by omega) (by rw [hb, cntN]; first | rw [if_pos (ahead_t1 zc22 zc62)] | rw [if_pos (ahead_t2 zc35 zc40 zc62)] | rw [if_neg (ahead_f1 zc62), Nat.add_zero] | rw [if_neg (ahead_f2 zc22 zc35), Nat.add_zero] | rw [if_neg (ahead_f3 zc22 zc40), Nat.add_zero]) (by omega))
          · refine g_iload_n dX1_howManyBefore_38 rfl ?_
            refine g_iload_n dX1_howManyBefore_39 rfl ?_
            refine n_icmp_ge (tgt := 47) (by omega) (by omega) dX1_howManyBefore_40 rfl (fun zc40 => ?_) (fun zc40 => ?_)
            · refine g_iconst dX1_howManyBefore_47 ic_0 ?_
              refine g_istore dX1_howManyBefore_48 rfl ?_
              refine g_aload_n dX1_howManyBefore_50 rfl ?_
              refine g_iload_n dX1_howManyBefore_51 rfl ?_
              refine g_iconst dX1_howManyBefore_52 ic_0 ?_
              refine g_v2 (M' := KL_trait) dX1_howManyBefore_53 l_L_99 v_KL_trait (c_KL_trait hB hW hR (by omega) (by omega)) (rcL hB) rfl rfl ⟨rfl, rfl⟩ ?_
              refine g_aload_n dX1_howManyBefore_56 rfl ?_
              refine g_iload_n dX1_howManyBefore_57 rfl ?_
              refine g_iconst dX1_howManyBefore_58 ic_0 ?_
              refine g_v2 (M' := KL_trait) dX1_howManyBefore_59 l_L_99 v_KL_trait (c_KL_trait hB hW hR (by omega) (by omega)) (rcL hB) rfl rfl ⟨rfl, rfl⟩ ?_
              refine g_icmp_ne (tgt := 73) dX1_howManyBefore_62 rfl (fun zc62 => ?_) (fun zc62 => ?_)
              · refine n_iinc (b := 1) dX1_howManyBefore_73 rfl rfl rfl ?_
                refine g_goto (tgt := 4) dX1_howManyBefore_76 rfl ?_
                exact g_can _ (by exact ⟨rfl, rfl, rfl, rfl, trivial⟩) (ih4 (j + 1) _ (by omega) (by rw [hb, cntN]; first | rw [if_pos (ahead_t1 zc22 zc62)] | rw [if_pos (ahead_t2 zc35 zc40 zc62)] | rw [if_neg (ahead_f1 zc62), Nat.add_zero] | rw [if_neg (ahead_f2 zc22 zc35), Nat.add_zero] | rw [if_neg (ahead_f3 zc22 zc40), Nat.add_zero]) (by omega))
              · refine g_iload dX1_howManyBefore_65 rfl ?_
                refine n_if_eq (tgt := 73) (by omega) dX1_howManyBefore_67 rfl (fun _ => ?_) (fun zc67 => absurd zc67 (by decide))
                refine n_iinc (b := 1) dX1_howManyBefore_73 rfl rfl rfl ?_
                refine g_goto (tgt := 4) dX1_howManyBefore_76 rfl ?_
                exact g_can _ (by exact ⟨rfl, rfl, rfl, rfl, trivial⟩) (ih4 (j + 1) _ (by omega) (by rw [hb, cntN]; first | rw [if_pos (ahead_t1 zc22 zc62)] | rw [if_pos (ahead_t2 zc35 zc40 zc62)] | rw [if_neg (ahead_f1 zc62), Nat.add_zero] | rw [if_neg (ahead_f2 zc22 zc35), Nat.add_zero] | rw [if_neg (ahead_f3 zc22 zc40), Nat.add_zero]) (by omega))
            · refine g_iconst dX1_howManyBefore_43 ic_1 ?_
              refine g_goto (tgt := 48) dX1_howManyBefore_44 rfl ?_
              refine g_istore dX1_howManyBefore_48 rfl ?_
              refine g_aload_n dX1_howManyBefore_50 rfl ?_
              refine g_iload_n dX1_howManyBefore_51 rfl ?_
              refine g_iconst dX1_howManyBefore_52 ic_0 ?_
              refine g_v2 (M' := KL_trait) dX1_howManyBefore_53 l_L_99 v_KL_trait (c_KL_trait hB hW hR (by omega) (by omega)) (rcL hB) rfl rfl ⟨rfl, rfl⟩ ?_
              refine g_aload_n dX1_howManyBefore_56 rfl ?_
              refine g_iload_n dX1_howManyBefore_57 rfl ?_
              refine g_iconst dX1_howManyBefore_58 ic_0 ?_
              refine g_v2 (M' := KL_trait) dX1_howManyBefore_59 l_L_99 v_KL_trait (c_KL_trait hB hW hR (by omega) (by omega)) (rcL hB) rfl rfl ⟨rfl, rfl⟩ ?_
              refine g_icmp_ne (tgt := 73) dX1_howManyBefore_62 rfl (fun zc62 => ?_) (fun zc62 => ?_)
              · refine n_iinc (b := 1) dX1_howManyBefore_73 rfl rfl rfl ?_
                refine g_goto (tgt := 4) dX1_howManyBefore_76 rfl ?_
                exact g_can _ (by exact ⟨rfl, rfl, rfl, rfl, trivial⟩) (ih4 (j + 1) _ (by omega) (by rw [hb, cntN]; first | rw [if_pos (ahead_t1 zc22 zc62)] | rw [if_pos (ahead_t2 zc35 zc40 zc62)] | rw [if_neg (ahead_f1 zc62), Nat.add_zero] | rw [if_neg (ahead_f2 zc22 zc35), Nat.add_zero] | rw [if_neg (ahead_f3 zc22 zc40), Nat.add_zero]) (by omega))
              · refine g_iload dX1_howManyBefore_65 rfl ?_
                refine n_if_eq (tgt := 73) (by omega) dX1_howManyBefore_67 rfl (fun zc67 => absurd zc67 (by decide)) (fun _ => ?_)
                refine n_iinc (b := 1) dX1_howManyBefore_70 rfl rfl rfl ?_
                refine n_iinc (b := 1) dX1_howManyBefore_73 rfl rfl rfl ?_
                refine g_goto (tgt := 4) dX1_howManyBefore_76 rfl ?_
                exact g_can _ (by exact ⟨rfl, rfl, rfl, rfl, trivial⟩) (ih4 (j + 1) _ (by omega) (by rw [hb, cntN]; first | rw [if_pos (ahead_t1 zc22 zc62)] | rw [if_pos (ahead_t2 zc35 zc40 zc62)] | rw [if_neg (ahead_f1 zc62), Nat.add_zero] | rw [if_neg (ahead_f2 zc22 zc35), Nat.add_zero] | rw [if_neg (ahead_f3 zc22 zc40), Nat.add_zero]) (by omega))
  exact g_can _ (by exact ⟨rfl, rfl, rfl, rfl, trivial⟩) (H4 _ 0 0 (by omega) rfl (Nat.lt_succ_self _))
