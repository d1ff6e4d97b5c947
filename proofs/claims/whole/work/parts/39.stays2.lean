/-! CONTRACTS: what may stay -/
theorem nx_and (a b : Nat) : nI a &&& nI b = nI (a &&& b) := by
  apply Int32.toBitVec_inj.1
  show BitVec.ofNat 32 a &&& BitVec.ofNat 32 b = BitVec.ofNat 32 (a &&& b)
  apply BitVec.eq_of_getLsbD_eq
  intro i hi
  simp [hi]
theorem nx_xor (a b : Nat) : nI a ^^^ nI b = nI (a ^^^ b) := by
  apply Int32.toBitVec_inj.1
  show BitVec.ofNat 32 a ^^^ BitVec.ofNat 32 b = BitVec.ofNat 32 (a ^^^ b)
  apply BitVec.eq_of_getLsbD_eq
  intro i hi
  simp [hi]
theorem bit_8 {s k : Nat} (hs : s < 256) (h : s.testBit k = true) : k < 8 := by
  rcases Nat.lt_or_ge k 8 with q | q
  · exact q
  · rw [Nat.testBit_lt_two_pow (Nat.lt_of_lt_of_le hs (show 2 ^ 8 ≤ 2 ^ k from Nat.pow_le_pow_right (by decide) q))] at h
    exact absurd h (by decide)
theorem and_z {s m : Nat} (hs : s < 256) : (nI s &&& nI m = 0) ↔ ∀ k, k < 8 → s.testBit k = true → m.testBit k = false := by
  rw [nx_and, ← nI_0, nI_eq (Nat.lt_of_le_of_lt Nat.and_le_left (by omega)) (by decide)]
  constructor
  · intro h k _ hk
    have := congrArg (fun z => z.testBit k) h
    simpa [hk] using this
  · intro h
    apply Nat.eq_of_testBit_eq
    intro k
    rw [Nat.testBit_and, Nat.zero_testBit]
    cases q : s.testBit k with
    | false => rfl
    | true => rw [h k (bit_8 hs q) q]; rfl
theorem sub_z {s m : Nat} (hs : s < 256) : (nI s &&& (nI m ^^^ -1) = 0) ↔ ∀ k, k < 8 → s.testBit k = true → m.testBit k = true := by
  rw [show (-1 : Int32) = nI (2 ^ 32 - 1) by decide, nx_xor, and_z hs]
  constructor
  · intro h k hk hb
    have := h k hk hb
    rw [Nat.testBit_xor, Nat.testBit_two_pow_sub_one, decide_eq_true (show k < 32 by omega)] at this
    simpa using this
  · intro h k hk hb
    rw [Nat.testBit_xor, Nat.testBit_two_pow_sub_one, decide_eq_true (show k < 32 by omega), h k hk hb]
    rfl
/-- item k alone may stay; item k is not apart from item j -/
def abP (a : Nat → Int32) (n k : Nat) : Bool := lK a n k && withinA a k (xK a n k) (yK a n k)
def clP (a : Nat → Int32) (n k j : Nat) : Bool := decide (¬ j = k) && !(!(decide (k < n) && decide (j < n)) || apartA a k (xK a n k) (yK a n k) j)
def ncE (f : Nat → Nat) (s k : Nat) : Bool := !s.testBit k || decide (nI s &&& nI (f k) = 0)
theorem LB_le {B : Nat} (h : LB B) : 6 ≤ B ∧ B ≤ 62 := by rcases h with rfl | rfl | rfl | rfl | rfl | rfl | rfl <;> decide
section AB
variable {a : Nat → Int32} {n k j s : Nat} {σ τ : SI} {B : Nat}
theorem HL_cl (hB : LB B) (hL : HL σ B a n) {F : Nat → Int32} {m : Nat} {v : Int32} : HL (uI (fill σ 73 F m) 73 k v) B a n :=
  hL.cong (fun i hi => by have := LB_le hB; rw [uI_ne (by omega), fill_row (by omega)])
theorem HL_cl8 (hB : LB B) (hL : HL σ B a n) {F : Nat → Int32} {m : Nat} : HL (fill σ 73 F m) B a n :=
  hL.cong (fun i hi => by have := LB_le hB; rw [fill_row (by omega)])
theorem xK_r (hW : WF a n) : xK a n k = -1 ∨ btw (xK a n k) 0 15 := by
  unfold xK
  split
  · exact plc_x (hW.pl (by assumption))
  · exact Or.inl rfl
theorem clP_s (h : j = k) : clP a n k j = false := by unfold clP; rw [decide_eq_false (fun q => q h)]; rfl
theorem clP_a (h : (!(decide (k < n) && decide (j < n)) || apartA a k (xK a n k) (yK a n k) j) = true) : clP a n k j = false := by unfold clP; rw [h, Bool.not_true, Bool.and_false]
theorem clP_y (h0 : ¬ j = k) (h : (!(decide (k < n) && decide (j < n)) || apartA a k (xK a n k) (yK a n k) j) = false) : clP a n k j = true := by unfold clP; rw [h, decide_eq_true h0]; rfl
theorem cl_same (h : clP a n k j = false) : uI τ 73 k (nI (bitsN (clP a n k) j)) = uI τ 73 k (nI (bitsN (clP a n k) (j + 1))) := by rw [bt_no h]
theorem cl_new (h : clP a n k j = true) : uI (uI τ 73 k (nI (bitsN (clP a n k) j))) 73 k (nI (bitsN (clP a n k) j ||| 2 ^ j)) = uI τ 73 k (nI (bitsN (clP a n k) (j + 1))) := by rw [uI_uI, bt_yes h]
theorem abP_n (h : lK a n k = false) : bitsN (abP a n) (k + 1) = bitsN (abP a n) k := bt_no (by unfold abP; rw [h]; rfl)
theorem abP_w (h : lK a n k = true) (h2 : withinA a k (xK a n k) (yK a n k) = false) : bitsN (abP a n) (k + 1) = bitsN (abP a n) k := bt_no (by unfold abP; rw [h, h2]; rfl)
theorem abP_y (h : lK a n k = true) (h2 : withinA a k (xK a n k) (yK a n k) = true) : bitsN (abP a n) (k + 1) = bitsN (abP a n) k ||| 2 ^ k := bt_yes (by unfold abP; rw [h, h2]; rfl)
theorem ncE_n {f : Nat → Nat} (h : s.testBit k = false) : ncE f s k = true := by unfold ncE; rw [h]; rfl
theorem ncE_y {f : Nat → Nat} (h : nI s &&& nI (f k) = 0) : ncE f s k = true := by unfold ncE; rw [decide_eq_true h, Bool.or_true]
theorem ncE_f {f : Nat → Nat} (h : s.testBit k = true) (h2 : ¬ nI s &&& nI (f k) = 0) : ncE f s k = false := by unfold ncE; rw [h, decide_eq_false h2]; rfl
theorem ab_is (h : abP a n k = true) : k < n ∧ liesA a k = true ∧ withinA a k (its a k 4) (its a k 5) = true := by
  unfold abP at h
  rw [Bool.and_eq_true] at h
  obtain ⟨h1, h2⟩ := h
  obtain ⟨h3, h4⟩ := lK_t h1
  unfold xK yK at h2
  rw [if_pos h3, if_pos h3] at h2
  exact ⟨h3, h4, h2⟩
theorem sub_in (hs : s < 256) (h : nI s &&& (nI (bitsN (abP a n) 8) ^^^ -1) = 0) : ∀ k, k < 8 → s.testBit k = true → abP a n k = true := fun k hk hb => by
  have := (sub_z hs).mp h k hk hb
  rw [bitsN_bit, decide_eq_true hk] at this
  exact this
theorem ab_n (h : ∀ k, k < 8 → s.testBit k = true → abP a n k = true) : ∀ k, k < 8 → s.testBit k = true → k < n := fun k hk hb => (ab_is (h k hk hb)).1
theorem stO_out (hW : WF a n) (hs : s < 256) (h : ¬ nI s &&& (nI (bitsN (abP a n) 8) ^^^ -1) = 0) : stO a n s = false := by
  rw [sub_z hs] at h
  cases q : stO a n s with
  | false => rfl
  | true =>
    refine absurd (fun k hk hb => ?_) h
    rw [bitsN_bit, decide_eq_true hk]
    have := allN_iff.mp q k hk
    unfold okE at this
    rw [hb] at this
    simp only [Bool.not_true, Bool.false_or, Bool.and_eq_true, decide_eq_true_eq] at this
    unfold abP lK xK yK
    rw [decide_eq_true this.1.1, if_pos this.1.1, if_pos this.1.1, this.1.2.1, this.1.2.2]
    rfl
theorem apart_sym {o : Nat} : apartA a k (its a k 4) (its a k 5) o = apartA a o (its a o 4) (its a o 5) k := by
  unfold apartA
  generalize decide (its a k 4 + wideF a k + a 3 ≤ its a o 4) = b1
  generalize decide (its a o 4 + wideF a o + a 3 ≤ its a k 4) = b2
  generalize decide (its a k 5 + highF a k + a 3 ≤ its a o 5) = b3
  generalize decide (its a o 5 + highF a o + a 3 ≤ its a k 5) = b4
  cases b1 <;> cases b2 <;> cases b3 <;> cases b4 <;> rfl
/-- among those that may stay alone: no clash, all may stay -/
theorem nc_ok (hs : s < 256) (h : ∀ k, k < 8 → s.testBit k = true → abP a n k = true) : allN (ncE (fun i => bitsN (clP a n i) 8) s) 8 = stO a n s := by
  rw [Bool.eq_iff_iff]
  unfold stO
  rw [allN_iff, allN_iff]
  constructor
  · intro q k hk
    cases hb : s.testBit k with
    | false => exact okE_n hb
    | true =>
      obtain ⟨h1, h2, h3⟩ := ab_is (h k hk hb)
      refine okE_y h1 h2 h3 (fun o ho => ?_)
      cases hc : s.testBit o with
      | false => exact okO_n hc
      | true =>
        have := q k hk
        unfold ncE at this
        rw [hb, Bool.not_true, Bool.false_or, decide_eq_true_eq, and_z hs] at this
        have := this o (by omega) hc
        rw [bitsN_bit, decide_eq_true (show o < 8 by omega), Bool.true_and] at this
        unfold clP at this
        obtain ⟨g1, -, -⟩ := ab_is (h o (by omega) hc)
        rw [decide_eq_true (show ¬ o = k by omega), decide_eq_true h1, decide_eq_true g1] at this
        unfold xK yK at this
        rw [if_pos h1, if_pos h1] at this
        exact okO_y (by simpa using this)
  · intro q k hk
    cases hb : s.testBit k with
    | false => exact ncE_n hb
    | true =>
      refine ncE_y ((and_z hs).mpr (fun j hj hc => ?_))
      rw [bitsN_bit, decide_eq_true hj, Bool.true_and]
      by_cases e : j = k
      · exact clP_s e
      · refine clP_a ?_
        obtain ⟨h1, -, -⟩ := ab_is (h k hk hb)
        obtain ⟨g1, -, -⟩ := ab_is (h j hj hc)
        rw [decide_eq_true h1, decide_eq_true g1]
        unfold xK yK
        rw [if_pos h1, if_pos h1]
        have ap : ∀ k o, k < 8 → o < k → s.testBit k = true → s.testBit o = true → apartA a k (its a k 4) (its a k 5) o = true := fun k o hk ho hb hc => by
          have := q k hk
          unfold okE at this
          rw [hb] at this
          simp only [Bool.not_true, Bool.false_or, Bool.and_eq_true, decide_eq_true_eq] at this
          have := allN_iff.mp this.2 o ho
          unfold okO at this
          rw [hc] at this
          simpa using this
        rcases Nat.lt_or_gt_of_ne e with g | g
        · rw [ap k j hk g hb hc]; rfl
        · rw [apart_sym, ap j k hj g hc hb]; rfl
theorem stO_cl (hW : WF a n) (hs : s < 256) (h : nI s &&& (nI (bitsN (abP a n) 8) ^^^ -1) = 0) (h2 : allN (ncE (fun i => bitsN (clP a n i) 8) s) 8 = false) : stO a n s = false := by rw [← nc_ok hs (sub_in hs h)]; exact h2
theorem stO_in (hW : WF a n) (hs : s < 256) (h : nI s &&& (nI (bitsN (abP a n) 8) ^^^ -1) = 0) (h2 : allN (ncE (fun i => bitsN (clP a n i) 8) s) 8 = true) : stO a n s = true := by rw [← nc_ok hs (sub_in hs h)]; exact h2
theorem wgS_up : ∀ m, (∀ k, n ≤ k → k < n + m → s.testBit k = false) → wgS a s (n + m) = wgS a s n
  | 0, _ => rfl
  | m + 1, h => by
    show wgS a s (n + m) + (if s.testBit (n + m) then wgtF a (n + m) else nI 0) = _
    rw [wgS_up m (fun k h1 h2 => h k h1 (by omega)), h (n + m) (by omega) (by omega)]
    simp [nI_0]
theorem wgS_8 (h8 : n ≤ 8) (hn : ∀ k, k < 8 → s.testBit k = true → k < n) : wgS a s 8 = wgS a s n := by
  have := wgS_up (a := a) (n := n) (s := s) (8 - n) (fun k h1 h2 => by
    cases q : s.testBit k with
    | false => rfl
    | true => have := hn k (by omega) q; omega)
  rwa [show n + (8 - n) = 8 by omega] at this
end AB
set_option maxRecDepth 100000 in
theorem c0_KL_isApart {σ : SI} {δ : SD} {B n : Nat} {a : Nat → Int32} (hB : LB B) (hW : WF a n) (hR : RB σ B a n) {k o : Nat} (hk : n ≤ k) (hk8 : k < 8) {x y : Int32} : E KL_isApart [.ref B, .int (nI k), .int x, .int y, .int (nI o)] (HH σ δ) (some (.int (bI true))) (HH σ δ) := by
  have h8 := hW.n8
  have h2 := hR.c
  refine E.ofL [some (.ref B), some (.int (nI k)), some (.int x), some (.int y), some (.int (nI o))] rfl pn_RX1 rfl (fun sc => ?_)
  refine g_aload_n dX1_isApart_0 rfl ?_
  refine g_iload_n dX1_isApart_1 rfl ?_
  refine g_v1 (M' := KL_hasItem) dX1_isApart_2 l_L_64 v_KL_hasItem (c_KL_hasItem hB h2 h8) (rcL hB) rfl rfl ⟨rfl, rfl⟩ ?_
  refine g_top (it0 hk (by omega)) ?_
  refine n_if_eq (tgt := 17) (by omega) dX1_isApart_5 rfl (fun _ => ?_) (fun zc5 => absurd zc5 (by decide))
  refine g_iconst dX1_isApart_17 ic_1 ?_
  exact e_z1 dX1_isApart_18 rfl (by rfl) (by rfl)
set_option maxRecDepth 100000 in
theorem c01_KL_isApart {σ : SI} {δ : SD} {B n : Nat} {a : Nat → Int32} (hB : LB B) (hW : WF a n) (hR : RB σ B a n) {k o : Nat} (hk : k < n) (ho : n ≤ o) (ho8 : o < 8) {x y : Int32} : E KL_isApart [.ref B, .int (nI k), .int x, .int y, .int (nI o)] (HH σ δ) (some (.int (bI true))) (HH σ δ) := by
  have h8 := hW.n8
  have h2 := hR.c
  refine E.ofL [some (.ref B), some (.int (nI k)), some (.int x), some (.int y), some (.int (nI o))] rfl pn_RX1 rfl (fun sc => ?_)
  refine g_aload_n dX1_isApart_0 rfl ?_
  refine g_iload_n dX1_isApart_1 rfl ?_
  refine g_v1 (M' := KL_hasItem) dX1_isApart_2 l_L_64 v_KL_hasItem (c_KL_hasItem hB h2 h8) (rcL hB) rfl rfl ⟨rfl, rfl⟩ ?_
  refine g_top (it1 hk h8) ?_
  refine n_if_eq (tgt := 17) (by omega) dX1_isApart_5 rfl (fun zc5 => absurd zc5 (by decide)) (fun _ => ?_)
  refine g_aload_n dX1_isApart_8 rfl ?_
  refine g_iload dX1_isApart_9 rfl ?_
  refine g_v1 (M' := KL_hasItem) dX1_isApart_11 l_L_64 v_KL_hasItem (c_KL_hasItem hB h2 h8) (rcL hB) rfl rfl ⟨rfl, rfl⟩ ?_
  refine g_top (it0 ho (by omega)) ?_
  refine n_if_ne (tgt := 19) (by omega) dX1_isApart_14 rfl (fun zc14 => absurd zc14 (by decide)) (fun _ => ?_)
  refine g_iconst dX1_isApart_17 ic_1 ?_
  exact e_z1 dX1_isApart_18 rfl (by rfl) (by rfl)
theorem c1_KL_isApart {σ : SI} {δ : SD} {B n k o : Nat} {a : Nat → Int32} {x y : Int32} (hB : LB B) (hL : HL σ B a n) (hk : k < 8) (ho : o < 8) : E KL_isApart [.ref B, .int (nI k), .int x, .int y, .int (nI o)] (HH σ δ) (some (.int (bI (!(decide (k < n) && decide (o < n)) || apartA a k x y o)))) (HH σ δ) := by
  by_cases h : k < n
  · by_cases h2 : o < n
    · rw [decide_eq_true h, decide_eq_true h2]; exact c_KL_isApart hB hL.wf hL.rb hL.rd h h2
    · rw [decide_eq_false h2, Bool.and_false]; exact c01_KL_isApart hB hL.wf hL.rb h (by omega) ho
  · rw [decide_eq_false h]; exact c0_KL_isApart hB hL.wf hL.rb (by omega) hk
set_option maxRecDepth 100000 in
theorem c_KA_findClashes {σ : SI} {δ : SD} {B n : Nat} {a : Nat → Int32} (hB : LB B) (hL : HL σ B a n) : E KA_findClashes [.ref 72, .ref B] (HH σ δ) (some (.int (nI (bitsN (abP a n) 8)))) (HH (fill σ 73 (fun i => nI (bitsN (clP a n i) 8)) 8) δ) := by
  refine E.ofL [some (.ref 72), some (.ref B)] rfl pn_RX2 rfl (fun sc => ?_)
  generalize hRz : (fun (zr : Option Value) (zk : XH) => zr = some (.int (nI (bitsN (abP a n) 8))) ∧ zk = HH (fill σ 73 (fun i => nI (bitsN (clP a n i) 8)) 8) δ) = R
  refine g_iconst dX2_findClashes_0 ic_0 ?_
  refine g_istore_n dX2_findClashes_1 rfl ?_
  refine g_iconst dX2_findClashes_2 ic_0 ?_
  refine g_istore_n dX2_findClashes_3 rfl ?_
  refine g_heap (show HH σ δ = HH (fill σ 73 (fun i => nI (bitsN (clP a n i) 8)) 0) δ by rw [fill_0]) ?_
  have H4 : ∀ (N : Nat) (k m : Nat), k ≤ 8 → m = bitsN (abP a n) k → 8 - k < N → G sc KA_findClashes 4 (aL [some (.ref 72), some (.ref B), some (.int (nI m)), some (.int (nI k))]) [] (HH (fill σ 73 (fun i => nI (bitsN (clP a n i) 8)) k) δ) (0, 0) R := by
    intro N
    induction N with
    | zero => intro k m h1 hb hN4; exact absurd hN4 (Nat.not_lt_zero _)
    | succ N ih4 =>
      intro k m h1 hb hN4
      refine g_iload_n dX2_findClashes_4 rfl ?_
      refine g_bipush dX2_findClashes_5 bp_8 ?_
      refine n_icmp_ge (tgt := 110) (by omega) (by omega) dX2_findClashes_7 rfl (fun zc7 => ?_) (fun zc7 => ?_)
      · refine g_iload_n dX2_findClashes_110 rfl ?_
        exact g_iret (S := []) dX2_findClashes_111 rfl (by rw [← hRz]; exact ⟨congrArg (fun zz => some (Value.int zz)) (show _ = _ by rw [hb, show k = 8 by omega]), by rw [show k = 8 by omega]⟩) (Nat.zero_le _) (Nat.zero_le _)
      · refine g_aload_n dX2_findClashes_10 rfl ?_
        refine q_getq dX2_findClashes_11 f_A_9 ck_72 (by decide) ty_1_0 rf_72_0 ?_
        refine g_iload_n dX2_findClashes_14 rfl ?_
        refine g_iconst dX2_findClashes_15 ic_0 ?_
        refine q_iast dX2_findClashes_16 ck_73 (ixD_nI (by omega) (by decide)) ?_
        have hLk : HL (uI (fill σ 73 (fun i => nI (bitsN (clP a n i) 8)) k) 73 k (nI 0)) B a n := HL_cl hB hL
        refine g_aload_n dX2_findClashes_17 rfl ?_
        refine g_iload_n dX2_findClashes_18 rfl ?_
        refine g_v1 (M' := KL_lies) dX2_findClashes_19 l_A_109 v_KL_lies (c1_KL_lies hB hLk (by omega)) (rcL hB) rfl rfl ⟨rfl, rfl⟩ ?_
        refine b_if_eq (tgt := 49) dX2_findClashes_22 rfl (fun zc22 => ?_) (fun zc22 => ?_)
        · refine g_iconst dX2_findClashes_49 ic_0 ?_
          refine g_istore dX2_findClashes_50 rfl ?_
          refine g_heap (show _ = HH (uI (fill σ 73 (fun i => nI (bitsN (clP a n i) 8)) k) 73 k (nI (bitsN (clP a n k) 0))) δ from rfl) ?_
          have H52 : ∀ (N : Nat) (j m2 : Nat), j ≤ 8 → m2 = bitsN (abP a n) (k + 1) → 8 - j < N → G sc KA_findClashes 52 (aL [some (.ref 72), some (.ref B), some (.int (nI m2)), some (.int (nI k)), some (.int (nI j))]) [] (HH (uI (fill σ 73 (fun i => nI (bitsN (clP a n i) 8)) k) 73 k (nI (bitsN (clP a n k) j))) δ) (0, 0) R := by
            intro N
            induction N with
            | zero => intro j m2 h3 hb2 hN52; exact absurd hN52 (Nat.not_lt_zero _)
            | succ N ih52 =>
              intro j m2 h3 hb2 hN52
              have hLk : HL (uI (fill σ 73 (fun i => nI (bitsN (clP a n i) 8)) k) 73 k (nI (bitsN (clP a n k) j))) B a n := HL_cl hB hL
              refine g_iload dX2_findClashes_52 rfl ?_
              refine g_bipush dX2_findClashes_54 bp_8 ?_
              refine n_icmp_ge (tgt := 104) (by omega) (by omega) dX2_findClashes_56 rfl (fun zc56 => ?_) (fun zc56 => ?_)
              · refine n_iinc (b := 1) dX2_findClashes_104 rfl rfl rfl ?_
                refine g_goto (tgt := 4) dX2_findClashes_107 rfl ?_
                refine g_heap (congrArg (fun z => HH z δ) (show uI (fill σ 73 (fun i => nI (bitsN (clP a n i) 8)) k) 73 k (nI (bitsN (clP a n k) j)) = fill σ 73 (fun i => nI (bitsN (clP a n i) 8)) (k + 1) by rw [show j = 8 by omega]; exact fill_succ _ _ _ _)) ?_
                exact g_can _ (by exact ⟨rfl, rfl, rfl, rfl, trivial⟩) (ih4 (k + 1) _ (by omega) hb2 (by omega))
              · refine g_iload dX2_findClashes_59 rfl ?_
                refine g_iload_n dX2_findClashes_61 rfl ?_
                refine n_icmp_eq (tgt := 98) (by omega) (by omega) dX2_findClashes_62 rfl (fun zc62 => ?_) (fun zc62 => ?_)
                · refine n_iinc (b := 1) dX2_findClashes_98 rfl rfl rfl ?_
                  refine g_goto (tgt := 52) dX2_findClashes_101 rfl ?_
                  refine g_heap (congrArg (fun z => HH z δ) (show _ = uI (fill σ 73 (fun i => nI (bitsN (clP a n i) 8)) k) 73 k (nI (bitsN (clP a n k) (j + 1))) by first | exact cl_same (by first | exact clP_s zc62 | exact clP_a zc82) | exact cl_new (clP_y zc62 zc82))) ?_
                  exact g_can _ (by exact ⟨rfl, rfl, rfl, rfl, rfl, trivial⟩) (ih52 (j + 1) _ (by omega) hb2 (by omega))
                · refine g_aload_n dX2_findClashes_65 rfl ?_
                  refine g_iload_n dX2_findClashes_66 rfl ?_
                  refine g_aload_n dX2_findClashes_67 rfl ?_
                  refine g_iload_n dX2_findClashes_68 rfl ?_
                  refine g_v1 (M' := KL_xOf) dX2_findClashes_69 l_A_93 v_KL_xOf (c1_KL_xOf hB hLk (by omega)) (rcL hB) rfl rfl ⟨rfl, rfl⟩ ?_
                  refine g_aload_n dX2_findClashes_72 rfl ?_
                  refine g_iload_n dX2_findClashes_73 rfl ?_
                  refine g_v1 (M' := KL_yOf) dX2_findClashes_74 l_A_96 v_KL_yOf (c1_KL_yOf hB hLk (by omega)) (rcL hB) rfl rfl ⟨rfl, rfl⟩ ?_
                  refine g_iload dX2_findClashes_77 rfl ?_
                  refine g_v4 (M' := KL_isApart) dX2_findClashes_79 l_A_115 v_KL_isApart (c1_KL_isApart hB hLk (by omega) (by omega)) (rcL hB) rfl rfl ⟨rfl, rfl⟩ ?_
                  refine b_if_ne (tgt := 98) dX2_findClashes_82 rfl (fun zc82 => ?_) (fun zc82 => ?_)
                  · refine n_iinc (b := 1) dX2_findClashes_98 rfl rfl rfl ?_
                    refine g_goto (tgt := 52) dX2_findClashes_101 rfl ?_
                    refine g_heap (congrArg (fun z => HH z δ) (show _ = uI (fill σ 73 (fun i => nI (bitsN (clP a n i) 8)) k) 73 k (nI (bitsN (clP a n k) (j + 1))) by first | exact cl_same (by first | exact clP_s zc62 | exact clP_a zc82) | exact cl_new (clP_y zc62 zc82))) ?_
                    exact g_can _ (by exact ⟨rfl, rfl, rfl, rfl, rfl, trivial⟩) (ih52 (j + 1) _ (by omega) hb2 (by omega))
                  · refine g_aload_n dX2_findClashes_85 rfl ?_
                    refine q_getq dX2_findClashes_86 f_A_9 ck_72 (by decide) ty_1_0 rf_72_0 ?_
                    refine g_iload_n dX2_findClashes_89 rfl ?_
                    refine g_dup2 dX2_findClashes_90 rfl rfl ?_
                    refine q_iald dX2_findClashes_91 ck_73 (ixD_nI (by omega) (by decide)) ?_
                    refine g_top uI_same ?_
                    refine g_iconst dX2_findClashes_92 ic_1 ?_
                    refine g_iload dX2_findClashes_93 rfl ?_
                    refine g_ishl dX2_findClashes_95 ?_
                    refine g_ior dX2_findClashes_96 ?_
                    refine g_top (show _ = nI (bitsN (clP a n k) j ||| 2 ^ j) by rw [shl_1 (by omega), nI_or]) ?_
                    refine q_iast dX2_findClashes_97 ck_73 (ixD_nI (by omega) (by decide)) ?_
                    refine n_iinc (b := 1) dX2_findClashes_98 rfl rfl rfl ?_
                    refine g_goto (tgt := 52) dX2_findClashes_101 rfl ?_
                    refine g_heap (congrArg (fun z => HH z δ) (show _ = uI (fill σ 73 (fun i => nI (bitsN (clP a n i) 8)) k) 73 k (nI (bitsN (clP a n k) (j + 1))) by first | exact cl_same (by first | exact clP_s zc62 | exact clP_a zc82) | exact cl_new (clP_y zc62 zc82))) ?_
                    exact g_can _ (by exact ⟨rfl, rfl, rfl, rfl, rfl, trivial⟩) (ih52 (j + 1) _ (by omega) hb2 (by omega))
          exact g_can _ (by exact ⟨rfl, rfl, rfl, rfl, rfl, trivial⟩) (H52 _ 0 _ (by omega) (by rw [hb]; first | exact (abP_n zc22).symm | exact (abP_w zc22 zc40).symm | exact (abP_y zc22 zc40).symm) (Nat.lt_succ_self _))
        · refine g_aload_n dX2_findClashes_25 rfl ?_
          refine g_iload_n dX2_findClashes_26 rfl ?_
          refine g_aload_n dX2_findClashes_27 rfl ?_
          refine g_iload_n dX2_findClashes_28 rfl ?_
          refine g_v1 (M' := KL_xOf) dX2_findClashes_29 l_A_93 v_KL_xOf (c1_KL_xOf hB hLk (by omega)) (rcL hB) rfl rfl ⟨rfl, rfl⟩ ?_
          refine g_aload_n dX2_findClashes_32 rfl ?_
          refine g_iload_n dX2_findClashes_33 rfl ?_
          refine g_v1 (M' := KL_yOf) dX2_findClashes_34 l_A_96 v_KL_yOf (c1_KL_yOf hB hLk (by omega)) (rcL hB) rfl rfl ⟨rfl, rfl⟩ ?_
          have hkn : k < n := (lK_t zc22).1
          refine g_v3 (M' := KL_hasRoomAlone) dX2_findClashes_37 l_A_112 v_KL_hasRoomAlone (c_KL_hasRoomAlone hB hLk.wf hLk.rb hLk.rd hkn (xK_r hLk.wf)) (rcL hB) rfl rfl ⟨rfl, rfl⟩ ?_
          refine b_if_eq (tgt := 49) dX2_findClashes_40 rfl (fun zc40 => ?_) (fun zc40 => ?_)
          · refine g_iconst dX2_findClashes_49 ic_0 ?_
            refine g_istore dX2_findClashes_50 rfl ?_
            refine g_heap (show _ = HH (uI (fill σ 73 (fun i => nI (bitsN (clP a n i) 8)) k) 73 k (nI (bitsN (clP a n k) 0))) δ from rfl) ?_
            have H52 : ∀ (N : Nat) (j m2 : Nat), j ≤ 8 → m2 = bitsN (abP a n) (k + 1) → 8 - j < N → G sc KA_findClashes 52 (aL [some (.ref 72), some (.ref B), some (.int (nI m2)), some (.int (nI k)), some (.int (nI j))]) [] (HH (uI (fill σ 73 (fun i => nI (bitsN (clP a n i) 8)) k) 73 k (nI (bitsN (clP a n k) j))) δ) (0, 0) R := by
              intro N
              induction N with
              | zero => intro j m2 h3 hb2 hN52; exact absurd hN52 (Nat.not_lt_zero _)
              | succ N ih52 =>
                intro j m2 h3 hb2 hN52
                have hLk : HL (uI (fill σ 73 (fun i => nI (bitsN (clP a n i) 8)) k) 73 k (nI (bitsN (clP a n k) j))) B a n := HL_cl hB hL
                refine g_iload dX2_findClashes_52 rfl ?_
                refine g_bipush dX2_findClashes_54 bp_8 ?_
                refine n_icmp_ge (tgt := 104) (by omega) (by omega) dX2_findClashes_56 rfl (fun zc56 => ?_) (fun zc56 => ?_)
                · refine n_iinc (b := 1) dX2_findClashes_104 rfl rfl rfl ?_
                  refine g_goto (tgt := 4) dX2_findClashes_107 rfl ?_
                  refine g_heap (congrArg (fun z => HH z δ) (show uI (fill σ 73 (fun i => nI (bitsN (clP a n i) 8)) k) 73 k (nI (bitsN (clP a n k) j)) = fill σ 73 (fun i => nI (bitsN (clP a n i) 8)) (k + 1) by rw [show j = 8 by omega]; exact fill_succ _ _ _ _)) ?_
                  exact g_can _ (by exact ⟨rfl, rfl, rfl, rfl, trivial⟩) (ih4 (k + 1) _ (by omega) hb2 (by omega))
                · refine g_iload dX2_findClashes_59 rfl ?_
                  refine g_iload_n dX2_findClashes_61 rfl ?_
                  refine n_icmp_eq (tgt := 98) (by omega) (by omega) dX2_findClashes_62 rfl (fun zc62 => ?_) (fun zc62 => ?_)
                  · refine n_iinc (b := 1) dX2_findClashes_98 rfl rfl rfl ?_
                    refine g_goto (tgt := 52) dX2_findClashes_101 rfl ?_
                    refine g_heap (congrArg (fun z => HH z δ) (show _ = uI (fill σ 73 (fun i => nI (bitsN (clP a n i) 8)) k) 73 k (nI (bitsN (clP a n k) (j + 1))) by first | exact cl_same (by first | exact clP_s zc62 | exact clP_a zc82) | exact cl_new (clP_y zc62 zc82))) ?_
                    exact g_can _ (by exact ⟨rfl, rfl, rfl, rfl, rfl, trivial⟩) (ih52 (j + 1) _ (by omega) hb2 (by omega))
                  · refine g_aload_n dX2_findClashes_65 rfl ?_
                    refine g_iload_n dX2_findClashes_66 rfl ?_
                    refine g_aload_n dX2_findClashes_67 rfl ?_
                    refine g_iload_n dX2_findClashes_68 rfl ?_
                    refine g_v1 (M' := KL_xOf) dX2_findClashes_69 l_A_93 v_KL_xOf (c1_KL_xOf hB hLk (by omega)) (rcL hB) rfl rfl ⟨rfl, rfl⟩ ?_
                    refine g_aload_n dX2_findClashes_72 rfl ?_
                    refine g_iload_n dX2_findClashes_73 rfl ?_
                    refine g_v1 (M' := KL_yOf) dX2_findClashes_74 l_A_96 v_KL_yOf (c1_KL_yOf hB hLk (by omega)) (rcL hB) rfl rfl ⟨rfl, rfl⟩ ?_
                    refine g_iload dX2_findClashes_77 rfl ?_
                    refine g_v4 (M' := KL_isApart) dX2_findClashes_79 l_A_115 v_KL_isApart (c1_KL_isApart hB hLk (by omega) (by omega)) (rcL hB) rfl rfl ⟨rfl, rfl⟩ ?_
                    refine b_if_ne (tgt := 98) dX2_findClashes_82 rfl (fun zc82 => ?_) (fun zc82 => ?_)
                    · refine n_iinc (b := 1) dX2_findClashes_98 rfl rfl rfl ?_
                      refine g_goto (tgt := 52) dX2_findClashes_101 rfl ?_
                      refine g_heap (congrArg (fun z => HH z δ) (show _ = uI (fill σ 73 (fun i => nI (bitsN (clP a n i) 8)) k) 73 k (nI (bitsN (clP a n k) (j + 1))) by first | exact cl_same (by first | exact clP_s zc62 | exact clP_a zc82) | exact cl_new (clP_y zc62 zc82))) ?_
                      exact g_can _ (by exact ⟨rfl, rfl, rfl, rfl, rfl, trivial⟩) (ih52 (j + 1) _ (by omega) hb2 (by omega))
                    · refine g_aload_n dX2_findClashes_85 rfl ?_
                      refine q_getq dX2_findClashes_86 f_A_9 ck_72 (by decide) ty_1_0 rf_72_0 ?_
                      refine g_iload_n dX2_findClashes_89 rfl ?_
                      refine g_dup2 dX2_findClashes_90 rfl rfl ?_
                      refine q_iald dX2_findClashes_91 ck_73 (ixD_nI (by omega) (by decide)) ?_
                      refine g_top uI_same ?_
                      refine g_iconst dX2_findClashes_92 ic_1 ?_
                      refine g_iload dX2_findClashes_93 rfl ?_
                      refine g_ishl dX2_findClashes_95 ?_
                      refine g_ior dX2_findClashes_96 ?_
                      refine g_top (show _ = nI (bitsN (clP a n k) j ||| 2 ^ j) by rw [shl_1 (by omega), nI_or]) ?_
                      refine q_iast dX2_findClashes_97 ck_73 (ixD_nI (by omega) (by decide)) ?_
                      refine n_iinc (b := 1) dX2_findClashes_98 rfl rfl rfl ?_
                      refine g_goto (tgt := 52) dX2_findClashes_101 rfl ?_
                      refine g_heap (congrArg (fun z => HH z δ) (show _ = uI (fill σ 73 (fun i => nI (bitsN (clP a n i) 8)) k) 73 k (nI (bitsN (clP a n k) (j + 1))) by first | exact cl_same (by first | exact clP_s zc62 | exact clP_a zc82) | exact cl_new (clP_y zc62 zc82))) ?_
                      exact g_can _ (by exact ⟨rfl, rfl, rfl, rfl, rfl, trivial⟩) (ih52 (j + 1) _ (by omega) hb2 (by omega))
            exact g_can _ (by exact ⟨rfl, rfl, rfl, rfl, rfl, trivial⟩) (H52 _ 0 _ (by omega) (by rw [hb]; first | exact (abP_n zc22).symm | exact (abP_w zc22 zc40).symm | exact (abP_y zc22 zc40).symm) (Nat.lt_succ_self _))
          · refine g_iload_n dX2_findClashes_43 rfl ?_
            refine g_iconst dX2_findClashes_44 ic_1 ?_
            refine g_iload_n dX2_findClashes_45 rfl ?_
            refine g_ishl dX2_findClashes_46 ?_
            refine g_ior dX2_findClashes_47 ?_
            refine g_top (show _ = nI (m ||| 2 ^ k) by rw [shl_1 (by omega), nI_or]) ?_
            refine g_istore_n dX2_findClashes_48 rfl ?_
            refine g_iconst dX2_findClashes_49 ic_0 ?_
            refine g_istore dX2_findClashes_50 rfl ?_
            refine g_heap (show _ = HH (uI (fill σ 73 (fun i => nI (bitsN (clP a n i) 8)) k) 73 k (nI (bitsN (clP a n k) 0))) δ from rfl) ?_
            have H52 : ∀ (N : Nat) (j m2 : Nat), j ≤ 8 → m2 = bitsN (abP a n) (k + 1) → 8 - j < N → G sc KA_findClashes 52 (aL [some (.ref 72), some (.ref B), some (.int (nI m2)), some (.int (nI k)), some (.int (nI j))]) [] (HH (uI (fill σ 73 (fun i => nI (bitsN (clP a n i) 8)) k) 73 k (nI (bitsN (clP a n k) j))) δ) (0, 0) R := by
              intro N
              induction N with
              | zero => intro j m2 h3 hb2 hN52; exact absurd hN52 (Nat.not_lt_zero _)
              | succ N ih52 =>
                intro j m2 h3 hb2 hN52
                have hLk : HL (uI (fill σ 73 (fun i => nI (bitsN (clP a n i) 8)) k) 73 k (nI (bitsN (clP a n k) j))) B a n := HL_cl hB hL
                refine g_iload dX2_findClashes_52 rfl ?_
                refine g_bipush dX2_findClashes_54 bp_8 ?_
                refine n_icmp_ge (tgt := 104) (by omega) (by omega) dX2_findClashes_56 rfl (fun zc56 => ?_) (fun zc56 => ?_)
                · refine n_iinc (b := 1) dX2_findClashes_104 rfl rfl rfl ?_
                  refine g_goto (tgt := 4) dX2_findClashes_107 rfl ?_
                  refine g_heap (congrArg (fun z => HH z δ) (show uI (fill σ 73 (fun i => nI (bitsN (clP a n i) 8)) k) 73 k (nI (bitsN (clP a n k) j)) = fill σ 73 (fun i => nI (bitsN (clP a n i) 8)) (k + 1) by rw [show j = 8 by omega]; exact fill_succ _ _ _ _)) ?_
                  exact g_can _ (by exact ⟨rfl, rfl, rfl, rfl, trivial⟩) (ih4 (k + 1) _ (by omega) hb2 (by omega))
                · refine g_iload dX2_findClashes_59 rfl ?_
                  refine g_iload_n dX2_findClashes_61 rfl ?_
                  refine n_icmp_eq (tgt := 98) (by omega) (by omega) dX2_findClashes_62 rfl (fun zc62 => ?_) (fun zc62 => ?_)
                  · refine n_iinc (b := 1) dX2_findClashes_98 rfl rfl rfl ?_
                    refine g_goto (tgt := 52) dX2_findClashes_101 rfl ?_
                    refine g_heap (congrArg (fun z => HH z δ) (show _ = uI (fill σ 73 (fun i => nI (bitsN (clP a n i) 8)) k) 73 k (nI (bitsN (clP a n k) (j + 1))) by first | exact cl_same (by first | exact clP_s zc62 | exact clP_a zc82) | exact cl_new (clP_y zc62 zc82))) ?_
                    exact g_can _ (by exact ⟨rfl, rfl, rfl, rfl, rfl, trivial⟩) (ih52 (j + 1) _ (by omega) hb2 (by omega))
                  · refine g_aload_n dX2_findClashes_65 rfl ?_
                    refine g_iload_n dX2_findClashes_66 rfl ?_
                    refine g_aload_n dX2_findClashes_67 rfl ?_
                    refine g_iload_n dX2_findClashes_68 rfl ?_
                    refine g_v1 (M' := KL_xOf) dX2_findClashes_69 l_A_93 v_KL_xOf (c1_KL_xOf hB hLk (by omega)) (rcL hB) rfl rfl ⟨rfl, rfl⟩ ?_
                    refine g_aload_n dX2_findClashes_72 rfl ?_
                    refine g_iload_n dX2_findClashes_73 rfl ?_
                    refine g_v1 (M' := KL_yOf) dX2_findClashes_74 l_A_96 v_KL_yOf (c1_KL_yOf hB hLk (by omega)) (rcL hB) rfl rfl ⟨rfl, rfl⟩ ?_
                    refine g_iload dX2_findClashes_77 rfl ?_
                    refine g_v4 (M' := KL_isApart) dX2_findClashes_79 l_A_115 v_KL_isApart (c1_KL_isApart hB hLk (by omega) (by omega)) (rcL hB) rfl rfl ⟨rfl, rfl⟩ ?_
                    refine b_if_ne (tgt := 98) dX2_findClashes_82 rfl (fun zc82 => ?_) (fun zc82 => ?_)
                    · refine n_iinc (b := 1) dX2_findClashes_98 rfl rfl rfl ?_
                      refine g_goto (tgt := 52) dX2_findClashes_101 rfl ?_
                      refine g_heap (congrArg (fun z => HH z δ) (show _ = uI (fill σ 73 (fun i => nI (bitsN (clP a n i) 8)) k) 73 k (nI (bitsN (clP a n k) (j + 1))) by first | exact cl_same (by first | exact clP_s zc62 | exact clP_a zc82) | exact cl_new (clP_y zc62 zc82))) ?_
                      exact g_can _ (by exact ⟨rfl, rfl, rfl, rfl, rfl, trivial⟩) (ih52 (j + 1) _ (by omega) hb2 (by omega))
                    · refine g_aload_n dX2_findClashes_85 rfl ?_
                      refine q_getq dX2_findClashes_86 f_A_9 ck_72 (by decide) ty_1_0 rf_72_0 ?_
                      refine g_iload_n dX2_findClashes_89 rfl ?_
                      refine g_dup2 dX2_findClashes_90 rfl rfl ?_
                      refine q_iald dX2_findClashes_91 ck_73 (ixD_nI (by omega) (by decide)) ?_
                      refine g_top uI_same ?_
                      refine g_iconst dX2_findClashes_92 ic_1 ?_
                      refine g_iload dX2_findClashes_93 rfl ?_
                      refine g_ishl dX2_findClashes_95 ?_
                      refine g_ior dX2_findClashes_96 ?_
                      refine g_top (show _ = nI (bitsN (clP a n k) j ||| 2 ^ j) by rw [shl_1 (by omega), nI_or]) ?_
                      refine q_iast dX2_findClashes_97 ck_73 (ixD_nI (by omega) (by decide)) ?_
                      refine n_iinc (b := 1) dX2_findClashes_98 rfl rfl rfl ?_
                      refine g_goto (tgt := 52) dX2_findClashes_101 rfl ?_
                      refine g_heap (congrArg (fun z => HH z δ) (show _ = uI (fill σ 73 (fun i => nI (bitsN (clP a n i) 8)) k) 73 k (nI (bitsN (clP a n k) (j + 1))) by first | exact cl_same (by first | exact clP_s zc62 | exact clP_a zc82) | exact cl_new (clP_y zc62 zc82))) ?_
                      exact g_can _ (by exact ⟨rfl, rfl, rfl, rfl, rfl, trivial⟩) (ih52 (j + 1) _ (by omega) hb2 (by omega))
            exact g_can _ (by exact ⟨rfl, rfl, rfl, rfl, rfl, trivial⟩) (H52 _ 0 _ (by omega) (by rw [hb]; first | exact (abP_n zc22).symm | exact (abP_w zc22 zc40).symm | exact (abP_y zc22 zc40).symm) (Nat.lt_succ_self _))
  exact g_can _ (by exact ⟨rfl, rfl, rfl, rfl, trivial⟩) (H4 _ 0 0 (by omega) rfl (Nat.lt_succ_self _))
set_option maxRecDepth 100000 in
theorem c_KA_hasNoClash {σ : SI} {δ : SD} {f : Nat → Nat} (hC : ∀ i, i < 8 → σ 73 i = nI (f i)) {s : Nat} (hs : s < 256) : E KA_hasNoClash [.ref 72, .int (nI s)] (HH σ δ) (some (.int (bI (allN (ncE f s) 8)))) (HH σ δ) := by
  refine E.ofL [some (.ref 72), some (.int (nI s))] rfl pn_RX2 rfl (fun sc => ?_)
  generalize hRz : (fun (zr : Option Value) (zk : XH) => zr = some (.int (bI (allN (ncE f s) 8))) ∧ zk = HH σ δ) = R
  refine g_iconst dX2_hasNoClash_0 ic_0 ?_
  refine g_istore_n dX2_hasNoClash_1 rfl ?_
  have H2 : ∀ (N : Nat) (k : Nat), k ≤ 8 → (∀ i, i < k → ncE f s i = true) → 8 - k < N → G sc KA_hasNoClash 2 (aL [some (.ref 72), some (.int (nI s)), some (.int (nI k))]) [] (HH σ δ) (0, 0) R := by
    intro N
    induction N with
    | zero => intro k h1 hb hN2; exact absurd hN2 (Nat.not_lt_zero _)
    | succ N ih2 =>
      intro k h1 hb hN2
      refine g_iload_n dX2_hasNoClash_2 rfl ?_
      refine g_bipush dX2_hasNoClash_3 bp_8 ?_
      refine n_icmp_ge (tgt := 36) (by omega) (by omega) dX2_hasNoClash_5 rfl (fun zc5 => ?_) (fun zc5 => ?_)
      · refine g_iconst dX2_hasNoClash_36 ic_1 ?_
        exact g_zret (S := []) dX2_hasNoClash_37 rfl (Or.inr rfl) (by rw [← hRz]; exact ⟨by rw [allN_iff.mpr (fun i hi => hb i (by omega))]; rfl, by rfl⟩) (Nat.zero_le _) (Nat.zero_le _)
      · refine g_iload_n dX2_hasNoClash_8 rfl ?_
        refine g_iload_n dX2_hasNoClash_9 rfl ?_
        refine g_ishr dX2_hasNoClash_10 ?_
        refine g_iconst dX2_hasNoClash_11 ic_1 ?_
        refine g_iand dX2_hasNoClash_12 ?_
        refine g_top (bit_bI (m := s) (x := k) (by omega) (by omega)) ?_
        refine g_iconst dX2_hasNoClash_13 ic_1 ?_
        refine b1_icmp_ne (tgt := 30) dX2_hasNoClash_14 rfl (fun zc14 => ?_) (fun zc14 => ?_)
        · refine n_iinc (b := 1) dX2_hasNoClash_30 rfl rfl rfl ?_
          refine g_goto (tgt := 2) dX2_hasNoClash_33 rfl ?_
          exact g_can _ (by exact ⟨rfl, rfl, rfl, trivial⟩) (ih2 (k + 1) (by omega) (lt_step hb (by first | exact ncE_n zc14 | exact ncE_y zc25)) (by omega))
        · refine g_iload_n dX2_hasNoClash_17 rfl ?_
          refine g_aload_n dX2_hasNoClash_18 rfl ?_
          refine q_getq dX2_hasNoClash_19 f_A_9 ck_72 (by decide) ty_1_0 rf_72_0 ?_
          refine g_iload_n dX2_hasNoClash_22 rfl ?_
          refine q_iald dX2_hasNoClash_23 ck_73 (ixD_nI (by omega) (by decide)) ?_
          refine g_top (hC k (by omega)) ?_
          refine g_iand dX2_hasNoClash_24 ?_
          refine g_if_eq (tgt := 30) dX2_hasNoClash_25 rfl (fun zc25 => ?_) (fun zc25 => ?_)
          · refine n_iinc (b := 1) dX2_hasNoClash_30 rfl rfl rfl ?_
            refine g_goto (tgt := 2) dX2_hasNoClash_33 rfl ?_
            exact g_can _ (by exact ⟨rfl, rfl, rfl, trivial⟩) (ih2 (k + 1) (by omega) (lt_step hb (by first | exact ncE_n zc14 | exact ncE_y zc25)) (by omega))
          · refine g_iconst dX2_hasNoClash_28 ic_0 ?_
            exact g_zret (S := []) dX2_hasNoClash_29 rfl (Or.inl rfl) (by rw [← hRz]; exact ⟨by rw [allN_false (p := ncE f s) (k := k + 1) (by unfold allN; rw [ncE_f zc14 zc25, Bool.and_false]) 8 (by omega)]; rfl, by rfl⟩) (Nat.zero_le _) (Nat.zero_le _)
  exact g_can _ (by exact ⟨rfl, rfl, rfl, trivial⟩) (H2 _ 0 (by omega) (fun i hi => absurd hi (Nat.not_lt_zero i)) (Nat.lt_succ_self _))
set_option maxRecDepth 100000 in
theorem c_KA_weightOf {σ : SI} {δ : SD} {B n : Nat} {a : Nat → Int32} (hB : LB B) (hL : HL σ B a n) {s : Nat} (hs : s < 256) (hn : ∀ k, k < 8 → s.testBit k = true → k < n) : E KA_weightOf [.ref B, .int (nI s)] (HH σ δ) (some (.int (wgS a s n))) (HH σ δ) := by
  refine E.ofL [some (.ref B), some (.int (nI s))] rfl pn_RX2 rfl (fun sc => ?_)
  generalize hRz : (fun (zr : Option Value) (zk : XH) => zr = some (.int (wgS a s n)) ∧ zk = HH σ δ) = R
  refine g_iconst dX2_weightOf_0 ic_0 ?_
  refine g_istore_n dX2_weightOf_1 rfl ?_
  refine g_iconst dX2_weightOf_2 ic_0 ?_
  refine g_istore_n dX2_weightOf_3 rfl ?_
  have H4 : ∀ (N : Nat) (k : Nat) (w : Int32), k ≤ 8 → w = wgS a s k → 8 - k < N → G sc KA_weightOf 4 (aL [some (.ref B), some (.int (nI s)), some (.int w), some (.int (nI k))]) [] (HH σ δ) (0, 0) R := by
    intro N
    induction N with
    | zero => intro k w h1 hb hN4; exact absurd hN4 (Nat.not_lt_zero _)
    | succ N ih4 =>
      intro k w h1 hb hN4
      refine g_iload_n dX2_weightOf_4 rfl ?_
      refine g_bipush dX2_weightOf_5 bp_8 ?_
      refine n_icmp_ge (tgt := 33) (by omega) (by omega) dX2_weightOf_7 rfl (fun zc7 => ?_) (fun zc7 => ?_)
      · refine g_iload_n dX2_weightOf_33 rfl ?_
        exact g_iret (S := []) dX2_weightOf_34 rfl (by rw [← hRz]; exact ⟨congrArg (fun zz => some (Value.int zz)) (show _ = _ by rw [hb, show k = 8 by omega]; exact wgS_8 hL.wf.n8 hn), by rfl⟩) (Nat.zero_le _) (Nat.zero_le _)
      · refine g_iload_n dX2_weightOf_10 rfl ?_
        refine g_iload_n dX2_weightOf_11 rfl ?_
        refine g_ishr dX2_weightOf_12 ?_
        refine g_iconst dX2_weightOf_13 ic_1 ?_
        refine g_iand dX2_weightOf_14 ?_
        refine g_top (bit_bI (m := s) (x := k) (by omega) (by omega)) ?_
        refine g_iconst dX2_weightOf_15 ic_1 ?_
        refine b1_icmp_ne (tgt := 27) dX2_weightOf_16 rfl (fun zc16 => ?_) (fun zc16 => ?_)
        · refine n_iinc (b := 1) dX2_weightOf_27 rfl rfl rfl ?_
          refine g_goto (tgt := 4) dX2_weightOf_30 rfl ?_
          exact g_can _ (by exact ⟨rfl, rfl, rfl, rfl, trivial⟩) (ih4 (k + 1) _ (by omega) (by rw [hb]; unfold wgS; rw [sumI]; simp [zc16, nI_0]) (by omega))
        · refine g_iload_n dX2_weightOf_19 rfl ?_
          refine g_aload_n dX2_weightOf_20 rfl ?_
          refine g_iload_n dX2_weightOf_21 rfl ?_
          refine g_v1 (M' := KL_weight) dX2_weightOf_22 l_A_119 v_KL_weight (c_KL_weight hB hL.wf hL.rb hL.rd (hn k (by omega) zc16)) (rcL hB) rfl rfl ⟨rfl, rfl⟩ ?_
          refine g_iadd dX2_weightOf_25 ?_
          refine g_istore_n dX2_weightOf_26 rfl ?_
          refine n_iinc (b := 1) dX2_weightOf_27 rfl rfl rfl ?_
          refine g_goto (tgt := 4) dX2_weightOf_30 rfl ?_
          exact g_can _ (by exact ⟨rfl, rfl, rfl, rfl, trivial⟩) (ih4 (k + 1) _ (by omega) (by rw [hb]; unfold wgS; rw [sumI]; simp [zc16, nI_0]) (by omega))
  exact g_can _ (by exact ⟨rfl, rfl, rfl, rfl, trivial⟩) (H4 _ 0 _ (by omega) rfl (Nat.lt_succ_self _))
set_option maxRecDepth 100000 in
theorem c_KA_staying {σ : SI} {δ : SD} {B n : Nat} {a : Nat → Int32} (hB : LB B) (hL : HL σ B a n) : E KA_staying [.ref 72, .ref B] (HH σ δ) (some (.int (nI (stS a n 256).1))) (HH (fill σ 73 (fun i => nI (bitsN (clP a n i) 8)) 8) δ) := by
  refine E.ofL [some (.ref 72), some (.ref B)] rfl pn_RX2 rfl (fun sc => ?_)
  generalize hRz : (fun (zr : Option Value) (zk : XH) => zr = some (.int (nI (stS a n 256).1)) ∧ zk = HH (fill σ 73 (fun i => nI (bitsN (clP a n i) 8)) 8) δ) = R
  refine g_aload_n dX2_staying_0 rfl ?_
  refine g_aload_n dX2_staying_1 rfl ?_
  refine g_v1 (M' := KA_findClashes) dX2_staying_2 l_A_99 v_KA_findClashes (c_KA_findClashes hB hL) rc_72 rfl rfl ⟨rfl, rfl⟩ ?_
  refine g_istore_n dX2_staying_5 rfl ?_
  have hLc : HL (fill σ 73 (fun i => nI (bitsN (clP a n i) 8)) 8) B a n := HL_cl8 hB hL
  have hC : ∀ i, i < 8 → (fill σ 73 (fun i => nI (bitsN (clP a n i) 8)) 8) 73 i = nI (bitsN (clP a n i) 8) := fun i hi => fill_in hi
  refine g_iconst dX2_staying_6 ic_0 ?_
  refine g_istore_n dX2_staying_7 rfl ?_
  refine g_iconst dX2_staying_8 ic_0 ?_
  refine g_istore dX2_staying_9 rfl ?_
  refine g_iconst dX2_staying_11 ic_1 ?_
  refine g_istore dX2_staying_12 rfl ?_
  have H14 : ∀ (N : Nat) (s b : Nat) (z : Int32), 1 ≤ s → s ≤ 256 → b < 256 → stS a n s = (b, z) → 256 - s < N → G sc KA_staying 14 (aL [some (.ref 72), some (.ref B), some (.int (nI (bitsN (abP a n) 8))), some (.int (nI b)), some (.int z), some (.int (nI s))]) [] (HH (fill σ 73 (fun i => nI (bitsN (clP a n i) 8)) 8) δ) (0, 0) R := by
    intro N
    induction N with
    | zero => intro s b z h1 h2 h3 hb hN14; exact absurd hN14 (Nat.not_lt_zero _)
    | succ N ih14 =>
      intro s b z h1 h2 h3 hb hN14
      refine g_iload dX2_staying_14 rfl ?_
      refine g_sipush dX2_staying_16 sp_256 ?_
      refine n_icmp_ge (tgt := 99) (by omega) (by omega) dX2_staying_19 rfl (fun zc19 => ?_) (fun zc19 => ?_)
      · refine g_iload_n dX2_staying_99 rfl ?_
        exact g_iret (S := []) dX2_staying_100 rfl (by rw [← hRz]; exact ⟨congrArg (fun zz => some (Value.int zz)) (show _ = _ by rw [show s = 256 by omega] at hb; rw [hb]), by rfl⟩) (Nat.zero_le _) (Nat.zero_le _)
      · refine g_iload dX2_staying_22 rfl ?_
        refine g_iload_n dX2_staying_24 rfl ?_
        refine g_iconst dX2_staying_25 ic_m1 ?_
        refine g_ixor dX2_staying_26 ?_
        refine g_iand dX2_staying_27 ?_
        refine g_if_ne (tgt := 93) dX2_staying_28 rfl (fun zc28 => ?_) (fun zc28 => ?_)
        · refine n_iinc (b := 1) dX2_staying_93 rfl rfl rfl ?_
          refine g_goto (tgt := 14) dX2_staying_96 rfl ?_
          exact g_can _ (by exact ⟨rfl, rfl, rfl, rfl, rfl, rfl, trivial⟩) (ih14 (s + 1) _ _ (by omega) (by omega) (by omega) (by first | exact stS_n hb (stO_out hL.wf (by omega) zc28) | exact stS_n hb (stO_cl hL.wf (by omega) zc28 zc37) | exact stS_0 hb zc71 zc78 | exact stS_e hb zc71 zc78 zc57 | exact stS_g hb (stO_in hL.wf (by omega) zc28 zc37) zc71 | exact stS_t hb (stO_in hL.wf (by omega) zc28 zc37) zc78 (by omega)) (by omega))
        · refine g_aload_n dX2_staying_31 rfl ?_
          refine g_iload dX2_staying_32 rfl ?_
          refine g_v1 (M' := KA_hasNoClash) dX2_staying_34 l_A_102 v_KA_hasNoClash (c_KA_hasNoClash hC (by omega)) rc_72 rfl rfl ⟨rfl, rfl⟩ ?_
          refine b_if_eq (tgt := 93) dX2_staying_37 rfl (fun zc37 => ?_) (fun zc37 => ?_)
          · refine n_iinc (b := 1) dX2_staying_93 rfl rfl rfl ?_
            refine g_goto (tgt := 14) dX2_staying_96 rfl ?_
            exact g_can _ (by exact ⟨rfl, rfl, rfl, rfl, rfl, rfl, trivial⟩) (ih14 (s + 1) _ _ (by omega) (by omega) (by omega) (by first | exact stS_n hb (stO_out hL.wf (by omega) zc28) | exact stS_n hb (stO_cl hL.wf (by omega) zc28 zc37) | exact stS_0 hb zc71 zc78 | exact stS_e hb zc71 zc78 zc57 | exact stS_g hb (stO_in hL.wf (by omega) zc28 zc37) zc71 | exact stS_t hb (stO_in hL.wf (by omega) zc28 zc37) zc78 (by omega)) (by omega))
          · refine g_aload_n dX2_staying_40 rfl ?_
            refine g_iload dX2_staying_41 rfl ?_
            refine g_s2 (M' := KA_weightOf) dX2_staying_43 l_A_106 s_KA_weightOf (c_KA_weightOf hB hLc (by omega) (ab_n (sub_in (by omega) zc28))) rfl rfl ⟨rfl, rfl⟩ ?_
            refine g_istore dX2_staying_46 rfl ?_
            refine g_iload dX2_staying_48 rfl ?_
            have hc1 := cnt8_le (s := s)
            have hc2 := cnt8_le (s := b)
            refine g_s1 (M' := KJ_bitCount) dX2_staying_50 l_A_87 s_KJ_bitCount (c_KJ_bitCount (v := nI s)) rfl rfl ⟨rfl, rfl⟩ ?_
            refine g_top (show _ = nI (cnt8 s) from bc_all s (by omega)) ?_
            refine g_iload_n dX2_staying_53 rfl ?_
            refine g_s1 (M' := KJ_bitCount) dX2_staying_54 l_A_87 s_KJ_bitCount (c_KJ_bitCount (v := nI b)) rfl rfl ⟨rfl, rfl⟩ ?_
            refine g_top (show _ = nI (cnt8 b) from bc_all b (by omega)) ?_
            refine n_icmp_le (tgt := 64) (by omega) (by omega) dX2_staying_57 rfl (fun zc57 => ?_) (fun zc57 => ?_)
            · refine g_iconst dX2_staying_64 ic_0 ?_
              refine g_istore dX2_staying_65 rfl ?_
              refine g_iload dX2_staying_67 rfl ?_
              refine g_iload dX2_staying_69 rfl ?_
              refine g_icmp_gt (tgt := 86) dX2_staying_71 rfl (fun zc71 => ?_) (fun zc71 => ?_)
              · refine g_iload dX2_staying_86 rfl ?_
                refine g_istore_n dX2_staying_88 rfl ?_
                refine g_iload dX2_staying_89 rfl ?_
                refine g_istore dX2_staying_91 rfl ?_
                refine n_iinc (b := 1) dX2_staying_93 rfl rfl rfl ?_
                refine g_goto (tgt := 14) dX2_staying_96 rfl ?_
                exact g_can _ (by exact ⟨rfl, rfl, rfl, rfl, rfl, rfl, trivial⟩) (ih14 (s + 1) _ _ (by omega) (by omega) (by omega) (by first | exact stS_n hb (stO_out hL.wf (by omega) zc28) | exact stS_n hb (stO_cl hL.wf (by omega) zc28 zc37) | exact stS_0 hb zc71 zc78 | exact stS_e hb zc71 zc78 zc57 | exact stS_g hb (stO_in hL.wf (by omega) zc28 zc37) zc71 | exact stS_t hb (stO_in hL.wf (by omega) zc28 zc37) zc78 (by omega)) (by omega))
              · refine g_iload dX2_staying_74 rfl ?_
                refine g_iload dX2_staying_76 rfl ?_
                refine g_icmp_ne (tgt := 93) dX2_staying_78 rfl (fun zc78 => ?_) (fun zc78 => ?_)
                · refine n_iinc (b := 1) dX2_staying_93 rfl rfl rfl ?_
                  refine g_goto (tgt := 14) dX2_staying_96 rfl ?_
                  exact g_can _ (by exact ⟨rfl, rfl, rfl, rfl, rfl, rfl, trivial⟩) (ih14 (s + 1) _ _ (by omega) (by omega) (by omega) (by first | exact stS_n hb (stO_out hL.wf (by omega) zc28) | exact stS_n hb (stO_cl hL.wf (by omega) zc28 zc37) | exact stS_0 hb zc71 zc78 | exact stS_e hb zc71 zc78 zc57 | exact stS_g hb (stO_in hL.wf (by omega) zc28 zc37) zc71 | exact stS_t hb (stO_in hL.wf (by omega) zc28 zc37) zc78 (by omega)) (by omega))
                · refine g_iload dX2_staying_81 rfl ?_
                  refine n_if_eq (tgt := 93) (by omega) dX2_staying_83 rfl (fun _ => ?_) (fun zc83 => absurd zc83 (by decide))
                  refine n_iinc (b := 1) dX2_staying_93 rfl rfl rfl ?_
                  refine g_goto (tgt := 14) dX2_staying_96 rfl ?_
                  exact g_can _ (by exact ⟨rfl, rfl, rfl, rfl, rfl, rfl, trivial⟩) (ih14 (s + 1) _ _ (by omega) (by omega) (by omega) (by first | exact stS_n hb (stO_out hL.wf (by omega) zc28) | exact stS_n hb (stO_cl hL.wf (by omega) zc28 zc37) | exact stS_0 hb zc71 zc78 | exact stS_e hb zc71 zc78 zc57 | exact stS_g hb (stO_in hL.wf (by omega) zc28 zc37) zc71 | exact stS_t hb (stO_in hL.wf (by omega) zc28 zc37) zc78 (by omega)) (by omega))
            · refine g_iconst dX2_staying_60 ic_1 ?_
              refine g_goto (tgt := 65) dX2_staying_61 rfl ?_
              refine g_istore dX2_staying_65 rfl ?_
              refine g_iload dX2_staying_67 rfl ?_
              refine g_iload dX2_staying_69 rfl ?_
              refine g_icmp_gt (tgt := 86) dX2_staying_71 rfl (fun zc71 => ?_) (fun zc71 => ?_)
              · refine g_iload dX2_staying_86 rfl ?_
                refine g_istore_n dX2_staying_88 rfl ?_
                refine g_iload dX2_staying_89 rfl ?_
                refine g_istore dX2_staying_91 rfl ?_
                refine n_iinc (b := 1) dX2_staying_93 rfl rfl rfl ?_
                refine g_goto (tgt := 14) dX2_staying_96 rfl ?_
                exact g_can _ (by exact ⟨rfl, rfl, rfl, rfl, rfl, rfl, trivial⟩) (ih14 (s + 1) _ _ (by omega) (by omega) (by omega) (by first | exact stS_n hb (stO_out hL.wf (by omega) zc28) | exact stS_n hb (stO_cl hL.wf (by omega) zc28 zc37) | exact stS_0 hb zc71 zc78 | exact stS_e hb zc71 zc78 zc57 | exact stS_g hb (stO_in hL.wf (by omega) zc28 zc37) zc71 | exact stS_t hb (stO_in hL.wf (by omega) zc28 zc37) zc78 (by omega)) (by omega))
              · refine g_iload dX2_staying_74 rfl ?_
                refine g_iload dX2_staying_76 rfl ?_
                refine g_icmp_ne (tgt := 93) dX2_staying_78 rfl (fun zc78 => ?_) (fun zc78 => ?_)
                · refine n_iinc (b := 1) dX2_staying_93 rfl rfl rfl ?_
                  refine g_goto (tgt := 14) dX2_staying_96 rfl ?_
                  exact g_can _ (by exact ⟨rfl, rfl, rfl, rfl, rfl, rfl, trivial⟩) (ih14 (s + 1) _ _ (by omega) (by omega) (by omega) (by first | exact stS_n hb (stO_out hL.wf (by omega) zc28) | exact stS_n hb (stO_cl hL.wf (by omega) zc28 zc37) | exact stS_0 hb zc71 zc78 | exact stS_e hb zc71 zc78 zc57 | exact stS_g hb (stO_in hL.wf (by omega) zc28 zc37) zc71 | exact stS_t hb (stO_in hL.wf (by omega) zc28 zc37) zc78 (by omega)) (by omega))
                · refine g_iload dX2_staying_81 rfl ?_
                  refine n_if_eq (tgt := 93) (by omega) dX2_staying_83 rfl (fun zc83 => absurd zc83 (by decide)) (fun _ => ?_)
                  refine g_iload dX2_staying_86 rfl ?_
                  refine g_istore_n dX2_staying_88 rfl ?_
                  refine g_iload dX2_staying_89 rfl ?_
                  refine g_istore dX2_staying_91 rfl ?_
                  refine n_iinc (b := 1) dX2_staying_93 rfl rfl rfl ?_
                  refine g_goto (tgt := 14) dX2_staying_96 rfl ?_
                  exact g_can _ (by exact ⟨rfl, rfl, rfl, rfl, rfl, rfl, trivial⟩) (ih14 (s + 1) _ _ (by omega) (by omega) (by omega) (by first | exact stS_n hb (stO_out hL.wf (by omega) zc28) | exact stS_n hb (stO_cl hL.wf (by omega) zc28 zc37) | exact stS_0 hb zc71 zc78 | exact stS_e hb zc71 zc78 zc57 | exact stS_g hb (stO_in hL.wf (by omega) zc28 zc37) zc71 | exact stS_t hb (stO_in hL.wf (by omega) zc28 zc37) zc78 (by omega)) (by omega))
  exact g_can _ (by exact ⟨rfl, rfl, rfl, rfl, rfl, rfl, trivial⟩) (H14 _ 1 0 _ (by omega) (by omega) (by omega) stS_1 (Nat.lt_succ_self _))
set_option maxRecDepth 100000 in
theorem c_KP_stays {σ : SI} {δ : SD} {a : Nat → Int32} {n s o tl : Nat} {P : Nat → Nat → Int32} {tx rf : Nat → Int32} (hI : IC σ a n s o P tl tx rf) : E KP_stays [.ref 5] (HH σ δ) (some (.int (nI (stS a n 256).1))) (HH (fill σ 73 (fun i => nI (bitsN (clP a n i) 8)) 8) δ) := by
  refine E.ofL [some (.ref 5)] rfl pn_RX8 rfl (fun sc => ?_)
  refine g_aload_n dX8_stays_0 rfl ?_
  refine q_getq dX8_stays_1 f_P_36 ck_5 (by decide) ty_7_3 rf_5_3 ?_
  refine g_aload_n dX8_stays_4 rfl ?_
  refine q_getq dX8_stays_5 f_P_12 ck_5 (by decide) ty_7_0 rf_5_0 ?_
  refine g_v1 (M' := KA_staying) dX8_stays_8 l_P_163 v_KA_staying (c_KA_staying LB_6 hI.hl) rc_72 rfl rfl ⟨rfl, rfl⟩ ?_
  exact e_iret dX8_stays_11 rfl (by rfl) (by rfl)
set_option maxRecDepth 100000 in
theorem c_KR_stays {σ : SI} {δ : SD} {a : Nat → Int32} {n s tl : Nat} {P : Nat → Nat → Int32} {tx rf : Nat → Int32} (hJ : IR σ a s P tl tx rf) (hs : s ≤ 5) (hW : WF a n) : E KR_stays [.ref 84] (HH σ δ) (some (.int (nI (stS (σ 85) n 256).1))) (HH σ δ) := by
  obtain rfl := hJ.row
  refine E.ofL [some (.ref 84)] rfl pn_RX9 rfl (fun sc => ?_)
  refine g_aload_n dX9_stays_0 rfl ?_
  refine g_v0 (M' := KR_staying) dX9_stays_1 l_R_212 v_KR_staying (c_KR_staying hW) rc_84 rfl rfl ⟨rfl, rfl⟩ ?_
  exact e_iret dX9_stays_4 rfl (by rfl) (by rfl)
theorem IC.othr {σ σ' : SI} {a : Nat → Int32} {n s o tl : Nat} {P : Nat → Nat → Int32} {tx rf : Nat → Int32} (h : IC σ a n s o P tl tx rf) (e : ∀ c, c < 71 ∨ c = 81 → c < 15 ∨ 23 < c → σ' c = σ c) (e8 : σ' 80 0 = σ 80 0) : IC σ' a n s o P tl tx rf := by
  have ho := h.o5
  refine ⟨h.hl.cong (fun i hi => e _ (by omega) (by omega)), h.s5, h.o5, ?_, ?_, fun i hi => ?_, fun j hj => ?_, h.t.1, ?_, fun i hi => ?_⟩
  · rw [e _ (by omega) (by omega)]; exact h.c
  · rw [e _ (by omega) (by omega)]; exact h.od
  · obtain ⟨m, hm⟩ := h.st hi
    exact ⟨m, hm.cong (fun i hi => e _ (by omega) (by omega))⟩
  · rw [e _ (by omega) (by omega)]; exact h.rz hj
  · rw [e8]; exact h.t.2
  · rw [e _ (by omega) (by omega)]; exact h.tz hi
theorem IR.othr {σ σ' : SI} {a : Nat → Int32} {s tl : Nat} {P : Nat → Nat → Int32} {tx rf : Nat → Int32} (h : IR σ a s P tl tx rf) (e : ∀ c, c = 85 ∨ c = 86 ∨ c = 88 ∨ c = 92 → σ' c = σ c) (e3 : σ' 84 3 = σ 84 3) (e12 : σ' 84 12 = σ 84 12) : IR σ' a s P tl tx rf := by
  refine ⟨?_, ?_, fun i hi j hj => ?_, fun j hj => ?_, ?_, fun i hi => ?_⟩
  · rw [e _ (by omega)]; exact h.row
  · rw [e3]; exact h.sd
  · rw [e _ (by omega)]; exact h.st hi hj
  · rw [e _ (by omega)]; exact h.rz hj
  · rw [e12]; exact h.t
  · rw [e _ (by omega)]; exact h.tz hi
/-- a call that answers, and may write into cells that say nothing between calls -/
theorem Step.oth {Kp Kr : MM} {args : List Value} {σ σ1 σ2 : SI} {δ δ1 : SD} {r : Value} {a : Nat → Int32} {n s o tl : Nat} {P : Nat → Nat → Int32} {tx rf : Nat → Int32} (hI : IC σ a n s o P tl tx rf) (hJ : IR σ a s P tl tx rf)
    (e1 : E Kp (.ref 5 :: args) (HH σ δ) (some r) (HH σ1 δ1)) (f1 : ∀ c, c < 71 ∨ c = 81 ∨ 84 ≤ c → c < 15 ∨ 23 < c → σ1 c = σ c) (g1 : σ1 80 0 = σ 80 0)
    (e2 : IR σ1 a s P tl tx rf → E Kr (.ref 84 :: args) (HH σ1 δ1) (some r) (HH σ2 δ1)) (f2 : ∀ c, c < 84 ∨ c = 85 ∨ c = 86 ∨ c = 88 ∨ c = 92 → σ2 c = σ1 c) (g3 : σ2 84 3 = σ1 84 3) (g12 : σ2 84 12 = σ1 84 12) (hrk : rOK (mR Kp) r = true := by rfl) : Step Kp Kr args σ δ := by
  have hJ1 : IR σ1 a s P tl tx rf := hJ.cong (fun c hc => f1 c (by omega) (by omega))
  exact Step.of e1 (e2 hJ1) (hI.othr (fun c h1 h2 => f1 c (by omega) h2) g1) (hJ1.othr (fun c hc => f2 c (by omega)) g3 g12) (fun c hc => f2 c (by omega)) hrk
theorem step_stays {σ : SI} {δ : SD} (hT : InvT σ) : Step KP_stays KR_stays [] σ δ := by
  obtain ⟨a, n, s, o, P, tl, tx, rf, hI, hJ⟩ := hT
  have hW := hI.hl.wf
  refine Step.oth hI hJ (c_KP_stays hI) (fun c h1 h2 => fill_row (by omega)) (by rw [fill_row (by omega)]) (fun h1 => ?_) (fun c _ => rfl) rfl rfl
  have := c_KR_stays (δ := δ) h1 hI.s5 hW
  rwa [h1.row] at this

