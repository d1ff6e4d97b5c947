/-! CALLS: packs; CONTRACTS of the reference: what may stay -/
theorem bit_bI {m x : Nat} (hm : m < 2147483648) (hx : x ≤ 31) : (nI m >>> (nI x &&& 31)) &&& nI 1 = bI (m.testBit x) := by
  have h := bit_of (m := m) (x := x) (by omega) hx
  cases q : m.testBit x with
  | true => exact h.mpr q
  | false =>
    have h1 : nI x &&& 31 = nI x := (show ∀ x, x < 32 → nI x &&& 31 = nI x by decide +kernel) x (by omega)
    have h2 : ((nI x).toBitVec.smod 32).toNat = x := (show ∀ x, x < 32 → ((nI x).toBitVec.smod 32).toNat = x by decide +kernel) x (by omega)
    have h3 : m / 2 ^ x < 2 ^ 32 := Nat.lt_of_le_of_lt (Nat.div_le_self _ _) (by omega)
    rw [h1, pk_shrN (by omega) (nI x) x h2, pk_andN h3 (m := nI 1) 1 (by decide)] at h ⊢
    have := Nat.mod_two_eq_zero_or_one (m / 2 ^ x)
    rcases this with e | e
    · rw [show m / 2 ^ x % 2 ^ 1 = 0 from e]; rfl
    · exact absurd (h.mp (by rw [show m / 2 ^ x % 2 ^ 1 = 1 from e])) (by rw [q]; decide)
theorem bit_nI {m x : Nat} (hm : m < 2147483648) (hx : x ≤ 31) : (nI m >>> (nI x &&& 31)) &&& nI 1 = nI (if m.testBit x then 1 else 0) := by
  rw [bit_bI hm hx]
  cases m.testBit x <;> rfl
section B1
variable {sc : XS} {M : MM} {pc : Nat} {L : XL} {S : List Value} {h : XH} {w : Nat × Nat} {R : Option Value → XH → Prop} {b : Bool} {off : Int} {tgt : Nat}
theorem bI_eq1 : bI b = nI 1 ↔ b = true := by cases b <;> decide
theorem b1_icmp_ne (hd : decode (mB M) pc = .ok (.if_icmp .ne off, 3)) (ht : (pc : Int) + off = (tgt : Int)) (kt : b = false → G sc M tgt L S h w R) (kf : b = true → G sc M (pc + 3) L S h w R) : G sc M pc L (.int (nI 1) :: .int (bI b) :: S) h w R :=
  g_icmp_ne hd ht (fun c => kt (by cases b with | false => rfl | true => exact absurd rfl c)) (fun c => kf (bI_eq1.mp c))
end B1
def cnt8 (s : Nat) : Nat := cntN (fun i => s.testBit i) 8
theorem cnt8_le {s : Nat} : cnt8 s ≤ 8 := cntN_le 8
/-- of a set s: item o is apart from item k; item k may stay; all may -/
def okO (a : Nat → Int32) (s k o : Nat) : Bool := !s.testBit o || apartA a k (its a k 4) (its a k 5) o
def okE (a : Nat → Int32) (n s k : Nat) : Bool := !s.testBit k || (decide (k < n) && (liesA a k && withinA a k (its a k 4) (its a k 5)) && allN (okO a s k) k)
def stO (a : Nat → Int32) (n s : Nat) : Bool := allN (okE a n s) 8
def wgS (a : Nat → Int32) (s m : Nat) : Int32 := sumI (fun k => if s.testBit k then wgtF a k else nI 0) m
def betS (q : Nat × Int32) (s : Nat) (w : Int32) : Bool := decide (q.2 < w) || (decide (w = q.2) && decide (cnt8 q.1 < cnt8 s))
def stS (a : Nat → Int32) (n : Nat) : Nat → Nat × Int32
  | 0 => (0, nI 0)
  | s + 1 => if stO a n s && betS (stS a n s) s (wgS a s n) then (s, wgS a s n) else stS a n s
section ST
variable {a : Nat → Int32} {n s k o b : Nat} {z : Int32}
theorem okO_n (h : s.testBit o = false) : okO a s k o = true := by unfold okO; rw [h]; rfl
theorem okO_y (h : apartA a k (its a k 4) (its a k 5) o = true) : okO a s k o = true := by unfold okO; rw [h, Bool.or_true]
theorem okO_f (h : s.testBit o = true) (h2 : apartA a k (its a k 4) (its a k 5) o = false) : okO a s k o = false := by unfold okO; rw [h, h2]; rfl
theorem okE_n (h : s.testBit k = false) : okE a n s k = true := by unfold okE; rw [h]; rfl
theorem okE_y (hk : k < n) (h1 : liesA a k = true) (h2 : withinA a k (its a k 4) (its a k 5) = true) (h3 : ∀ o, o < k → okO a s k o = true) : okE a n s k = true := by
  unfold okE
  rw [decide_eq_true hk, h1, h2, allN_iff.mpr h3]
  simp
theorem okE_f1 (h : s.testBit k = true) (h1 : liesA a k = false) : okE a n s k = false := by unfold okE; rw [h, h1]; simp
theorem okE_f2 (h : s.testBit k = true) (h1 : withinA a k (its a k 4) (its a k 5) = false) : okE a n s k = false := by unfold okE; rw [h, h1]; simp
theorem okE_f3 (h : s.testBit k = true) (ho : o < k) (h1 : okO a s k o = false) : okE a n s k = false := by
  unfold okE
  rw [h, allN_false (p := okO a s k) (k := o + 1) (by unfold allN; rw [h1, Bool.and_false]) k (by omega), Bool.and_false]
  rfl
theorem stO_no (hk : k < 8) (h : okE a n s k = false) : stO a n s = false := by
  unfold stO
  exact allN_false (k := k + 1) (by unfold allN; rw [h, Bool.and_false]) 8 (by omega)
theorem stO_yes (hs : s < 2 ^ n) (h : ∀ i, i < n → okE a n s i = true) : stO a n s = true := by
  unfold stO
  refine allN_iff.mpr (fun k _ => ?_)
  by_cases q : k < n
  · exact h k q
  · exact okE_n (Nat.testBit_lt_two_pow (Nat.lt_of_lt_of_le hs (Nat.pow_le_pow_right (by decide) (by omega))))
theorem stO_big (hs : 2 ^ n ≤ s) (h8 : s < 256) : stO a n s = false := by
  obtain ⟨i, h1, h2⟩ := Nat.exists_ge_and_testBit_of_ge_two_pow hs
  have h3 : i < 8 := by
    rcases Nat.lt_or_ge i 8 with q | q
    · exact q
    · have := Nat.testBit_lt_two_pow (x := s) (i := i) (Nat.lt_of_lt_of_le h8 (show 2 ^ 8 ≤ 2 ^ i from Nat.pow_le_pow_right (by decide) q))
      rw [h2] at this
      exact absurd this (by decide)
  refine stO_no h3 ?_
  unfold okE
  rw [h2, decide_eq_false (show ¬ i < n by omega)]
  rfl
theorem stS_n (hb : stS a n s = (b, z)) (h : stO a n s = false) : stS a n (s + 1) = (b, z) := by unfold stS; rw [h, hb]; rfl
theorem stS_t (hb : stS a n s = (b, z)) (h : stO a n s = true) (h2 : wgS a s n = z) (h3 : ¬ cnt8 s ≤ cnt8 b) : stS a n (s + 1) = (s, wgS a s n) := by
  unfold stS
  rw [h, hb]
  unfold betS
  rw [decide_eq_true (p := wgS a s n = (b, z).2) h2, decide_eq_true (p := cnt8 (b, z).1 < cnt8 s) (Nat.not_le.mp h3)]
  simp
theorem stS_g (hb : stS a n s = (b, z)) (h : stO a n s = true) (h2 : z < wgS a s n) : stS a n (s + 1) = (s, wgS a s n) := by
  unfold stS
  rw [h, hb]
  unfold betS
  rw [decide_eq_true (p := (b, z).2 < wgS a s n) h2]
  rfl
theorem stS_0 (hb : stS a n s = (b, z)) (h1 : ¬ z < wgS a s n) (h2 : ¬ wgS a s n = z) : stS a n (s + 1) = (b, z) := by
  unfold stS
  rw [hb]
  unfold betS
  rw [decide_eq_false (p := (b, z).2 < wgS a s n) h1, decide_eq_false (p := wgS a s n = (b, z).2) h2]
  simp
theorem stS_e (hb : stS a n s = (b, z)) (h1 : ¬ z < wgS a s n) (h2 : wgS a s n = z) (h3 : cnt8 s ≤ cnt8 b) : stS a n (s + 1) = (b, z) := by
  unfold stS
  rw [hb]
  unfold betS
  rw [decide_eq_false (p := (b, z).2 < wgS a s n) h1, decide_eq_false (p := cnt8 (b, z).1 < cnt8 s) (Nat.not_lt.mpr h3)]
  simp
theorem wgS_0 : ∀ m, wgS a 0 m = nI 0
  | 0 => rfl
  | m + 1 => by
    show wgS a 0 m + (if (0 : Nat).testBit m then wgtF a m else nI 0) = _
    rw [wgS_0 m, Nat.zero_testBit]; rfl
theorem stS_1 : stS a n 1 = (0, nI 0) := by
  by_cases h : stO a n 0 = true
  · exact stS_e rfl (by rw [wgS_0]; decide) (wgS_0 n) (Nat.le_refl _)
  · exact stS_n rfl (by simpa using h)
theorem stS_up : ∀ d, 2 ^ n + d ≤ 256 → stS a n (2 ^ n + d) = stS a n (2 ^ n)
  | 0, _ => rfl
  | d + 1, h => (stS_n (s := 2 ^ n + d) (b := (stS a n (2 ^ n + d)).1) (z := (stS a n (2 ^ n + d)).2) rfl (stO_big (by omega) (by omega))).trans (stS_up d (by omega))
theorem stS_all (hW : WF a n) : stS a n 256 = stS a n (2 ^ n) := by
  have h : 2 ^ n ≤ 256 := Nat.pow_le_pow_right (by decide) hW.n8
  have := stS_up (a := a) (n := n) (256 - 2 ^ n) (by omega)
  rwa [show 2 ^ n + (256 - 2 ^ n) = 256 by omega] at this
theorem stS_lt : ∀ m, (stS a n m).1 ≤ m
  | 0 => Nat.le_refl _
  | m + 1 => by
    unfold stS
    split
    · exact Nat.le_succ m
    · exact Nat.le_succ_of_le (stS_lt m)
end ST
theorem c_KQ_push {σ : SI} {δ : SD} {a : Nat → Int32} {n s o tl : Nat} {P : Nat → Nat → Int32} {tx rf : Nat → Int32} (hI : IC σ a n s o P tl tx rf) : E KQ_push [.ref 24, .ref 6] (HH σ δ) none (HH (sPush σ s o) δ) := by
  by_cases h : s = 5
  · subst h
    exact c_KQ_pushB hI.o5 hI.c hI.od
  · rw [show sPush σ s o = sPush0 σ s o from if_neg h]
    exact c_KQ_pushA (by have := hI.s5; omega) hI.o5 hI.c hI.od
set_option maxRecDepth 100000 in
theorem c_KP_packs {σ : SI} {δ : SD} {a : Nat → Int32} {n s o tl : Nat} {P : Nat → Nat → Int32} {tx rf : Nat → Int32} (hI : IC σ a n s o P tl tx rf) : E KP_packs [.ref 5] (HH σ δ) (some (.int (nI (cntN (liesA (runA a (pkL a n 6))) n)))) (HH (runS (sPush σ s o) 6 (pkL a n 6)) δ) := by
  have hI1 := hI.push
  refine E.ofL [some (.ref 5)] rfl pn_RX8 rfl (fun sc => ?_)
  refine g_aload_n dX8_packs_0 rfl ?_
  refine q_getq dX8_packs_1 f_P_22 ck_5 (by decide) ty_7_2 rf_5_2 ?_
  refine g_aload_n dX8_packs_4 rfl ?_
  refine q_getq dX8_packs_5 f_P_12 ck_5 (by decide) ty_7_0 rf_5_0 ?_
  refine g_v1n (M' := KQ_push) dX8_packs_8 l_P_152 v_KQ_push (c_KQ_push hI) rc_24 rfl rfl ⟨rfl, rfl⟩ ?_
  refine g_aload_n dX8_packs_11 rfl ?_
  refine q_getq dX8_packs_12 f_P_36 ck_5 (by decide) ty_7_3 rf_5_3 ?_
  refine g_aload_n dX8_packs_15 rfl ?_
  refine q_getq dX8_packs_16 f_P_12 ck_5 (by decide) ty_7_0 rf_5_0 ?_
  refine g_v1 (M' := KA_pack) dX8_packs_19 l_P_156 v_KA_pack (c_KA_pack LB_6 hI1.hl) rc_72 rfl rfl ⟨rfl, rfl⟩ ?_
  exact e_iret dX8_packs_22 rfl (by rfl) (by rfl)
set_option maxRecDepth 100000 in
theorem c_KR_packs {σ : SI} {δ : SD} {a : Nat → Int32} {n s tl : Nat} {P : Nat → Nat → Int32} {tx rf : Nat → Int32} (hJ : IR σ a s P tl tx rf) (hs : s ≤ 5) (hW : WF a n) : E KR_packs [.ref 84] (HH σ δ) (some (.int (nI (cntN (liesA (runA (σ 85) (pkL (σ 85) n 6))) n)))) (HH (runM (sKeep σ s) (pkL (σ 85) n 6)) δ) := by
  obtain rfl := hJ.row
  have h3 := hJ.sd
  have hJ1 := hJ.keep hs
  have hn := hW.n8
  have h7 := hW.a7
  have hW1 : WF (sKeep σ s 85) n := by rw [hJ1.row]; exact hW
  refine E.ofL [some (.ref 84)] rfl pn_RX9 rfl (fun sc => ?_)
  refine g_aload_n dX9_packs_0 rfl ?_
  refine g_v0n (M' := KR_keep) dX9_packs_1 l_R_111 v_KR_keep (c_KR_keep hs h3) rc_84 rfl rfl ⟨rfl, rfl⟩ ?_
  refine g_aload_n dX9_packs_4 rfl ?_
  refine g_v0 (M' := KR_packNow) dX9_packs_5 l_R_203 v_KR_packNow (c_KR_packNow hW1) rc_84 rfl rfl ⟨rfl, rfl⟩ ?_
  exact e_iret dX9_packs_8 rfl (by rw [hJ1.row]) (by rw [hJ1.row])
theorem step_packs {σ : SI} {δ : SD} (hT : InvT σ) : Step KP_packs KR_packs [] σ δ := by
  obtain ⟨a, n, s, o, P, tl, tx, rf, hI, hJ⟩ := hT
  have hW := hI.hl.wf
  have hI1 := hI.push
  have f1 : ∀ c, c < 6 ∨ 14 < c → runS (sPush σ s o) 6 (pkL a n 6) c = sPush σ s o c := fun c hc => runS_ne (by omega) (by omega)
  refine Step.ly (σ2 := runM (sKeep (runS (sPush σ s o) 6 (pkL a n 6)) s) (pkL a n 6)) hI hJ (c_KP_packs hI) f1 (fun h1 => ?_) (HL_run hI1.hl pkL_ok) (fun c hc => runM_ne hc) (fun hr => by rw [runM_row, hr])
  have := c_KR_packs (δ := δ) h1 hI.s5 hW
  rwa [h1.row] at this
set_option maxRecDepth 100000 in
theorem c_KR_size {σ : SI} {δ : SD} {s : Nat} (hs : s < 256) : E KR_size [.int (nI s)] (HH σ δ) (some (.int (nI (cnt8 s)))) (HH σ δ) := by
  refine E.ofL [some (.int (nI s))] rfl pn_RX9 rfl (fun sc => ?_)
  generalize hRz : (fun (zr : Option Value) (zk : XH) => zr = some (.int (nI (cnt8 s))) ∧ zk = HH σ δ) = R
  refine g_iconst dX9_size_0 ic_0 ?_
  refine g_istore_n dX9_size_1 rfl ?_
  refine g_iconst dX9_size_2 ic_0 ?_
  refine g_istore_n dX9_size_3 rfl ?_
  have H4 : ∀ (N : Nat) (k c : Nat), k ≤ 8 → c = cntN (fun i => s.testBit i) k → 8 - k < N → G sc KR_size 4 (aL [some (.int (nI s)), some (.int (nI c)), some (.int (nI k))]) [] (HH σ δ) (0, 0) R := by
    intro N
    induction N with
    | zero => intro k c h1 hb hN4; exact absurd hN4 (Nat.not_lt_zero _)
    | succ N ih4 =>
      intro k c h1 hb hN4
      refine g_iload_n dX9_size_4 rfl ?_
      refine g_bipush dX9_size_5 bp_8 ?_
      refine n_icmp_ge (tgt := 24) (by omega) (by omega) dX9_size_7 rfl (fun zc7 => ?_) (fun zc7 => ?_)
      · refine g_iload_n dX9_size_24 rfl ?_
        exact g_iret (S := []) dX9_size_25 rfl (by rw [← hRz]; exact ⟨congrArg (fun zz => some (Value.int zz)) (show _ = _ by rw [hb, show k = 8 by omega]; rfl), by rfl⟩) (Nat.zero_le _) (Nat.zero_le _)
      · refine g_iload_n dX9_size_10 rfl ?_
        refine g_iload_n dX9_size_11 rfl ?_
        refine g_iload_n dX9_size_12 rfl ?_
        refine g_ishr dX9_size_13 ?_
        refine g_iconst dX9_size_14 ic_1 ?_
        refine g_iand dX9_size_15 ?_
        refine g_top (bit_nI (m := s) (x := k) (by omega) (by omega)) ?_
        refine n_iadd dX9_size_16 ?_
        refine g_istore_n dX9_size_17 rfl ?_
        refine n_iinc (b := 1) dX9_size_18 rfl rfl rfl ?_
        refine g_goto (tgt := 4) dX9_size_21 rfl ?_
        exact g_can _ (by exact ⟨rfl, rfl, rfl, trivial⟩) (ih4 (k + 1) _ (by omega) (by rw [hb]; rfl) (by omega))
  exact g_can _ (by exact ⟨rfl, rfl, rfl, trivial⟩) (H4 _ 0 0 (by omega) rfl (Nat.lt_succ_self _))
set_option maxRecDepth 100000 in
theorem c_KR_areFit {σ : SI} {δ : SD} {n : Nat} (hW : WF (σ 85) n) {s : Nat} (hs : s < 2 ^ n) : E KR_areFit [.ref 84, .int (nI s)] (HH σ δ) (some (.int (bI (stO (σ 85) n s)))) (HH σ δ) := by
  have h8 := hW.n8
  have hs8 : s < 256 := Nat.lt_of_lt_of_le hs (Nat.pow_le_pow_right (by decide) h8)
  refine E.ofL [some (.ref 84), some (.int (nI s))] rfl pn_RX9 rfl (fun sc => ?_)
  generalize hRz : (fun (zr : Option Value) (zk : XH) => zr = some (.int (bI (stO (σ 85) n s))) ∧ zk = HH σ δ) = R
  refine g_iconst dX9_areFit_0 ic_0 ?_
  refine g_istore_n dX9_areFit_1 rfl ?_
  have H2 : ∀ (N : Nat) (k : Nat), k ≤ n → (∀ i, i < k → okE (σ 85) n s i = true) → n - k < N → G sc KR_areFit 2 (aL [some (.ref 84), some (.int (nI s)), some (.int (nI k))]) [] (HH σ δ) (0, 0) R := by
    intro N
    induction N with
    | zero => intro k h1 hb hN2; exact absurd hN2 (Nat.not_lt_zero _)
    | succ N ih2 =>
      intro k h1 hb hN2
      refine g_iload_n dX9_areFit_2 rfl ?_
      refine g_aload_n dX9_areFit_3 rfl ?_
      refine g_v0 (M' := KR_many) dX9_areFit_4 l_R_42 v_KR_many c_KR_many rc_84 rfl rfl ⟨rfl, rfl⟩ ?_
      refine g_top hW.a7 ?_
      refine n_icmp_ge (tgt := 100) (by omega) (by omega) dX9_areFit_7 rfl (fun zc7 => ?_) (fun zc7 => ?_)
      · refine g_iconst dX9_areFit_100 ic_1 ?_
        exact g_zret (S := []) dX9_areFit_101 rfl (Or.inr rfl) (by rw [← hRz]; exact ⟨by rw [show stO (σ 85) n s = true from stO_yes hs (fun i hi => hb i (by omega))]; rfl, by rfl⟩) (Nat.zero_le _) (Nat.zero_le _)
      · refine g_iload_n dX9_areFit_10 rfl ?_
        refine g_iload_n dX9_areFit_11 rfl ?_
        refine g_ishr dX9_areFit_12 ?_
        refine g_iconst dX9_areFit_13 ic_1 ?_
        refine g_iand dX9_areFit_14 ?_
        refine g_top (bit_bI (m := s) (x := k) (by omega) (by omega)) ?_
        refine g_iconst dX9_areFit_15 ic_1 ?_
        refine b1_icmp_ne (tgt := 94) dX9_areFit_16 rfl (fun zc16 => ?_) (fun zc16 => ?_)
        · refine n_iinc (b := 1) dX9_areFit_94 rfl rfl rfl ?_
          refine g_goto (tgt := 2) dX9_areFit_97 rfl ?_
          exact g_can _ (by exact ⟨rfl, rfl, rfl, trivial⟩) (ih2 (k + 1) (by omega) (lt_step hb (by first | exact okE_n zc16 | exact okE_y (by omega) zc24 zc44 (fun o ho => hb1 o (by omega)))) (by omega))
        · refine g_aload_n dX9_areFit_19 rfl ?_
          refine g_iload_n dX9_areFit_20 rfl ?_
          refine g_v1 (M' := KR_lies) dX9_areFit_21 l_R_82 v_KR_lies (c_KR_lies (by omega)) rc_84 rfl rfl ⟨rfl, rfl⟩ ?_
          refine b_if_eq (tgt := 47) dX9_areFit_24 rfl (fun zc24 => ?_) (fun zc24 => ?_)
          · refine g_iconst dX9_areFit_47 ic_0 ?_
            exact g_zret (S := []) dX9_areFit_48 rfl (Or.inl rfl) (by rw [← hRz]; exact ⟨by rw [show stO (σ 85) n s = false from stO_no (k := k) (by omega) (by first | exact okE_f1 zc16 zc24 | exact okE_f2 zc16 zc44)]; rfl, by rfl⟩) (Nat.zero_le _) (Nat.zero_le _)
          · refine g_aload_n dX9_areFit_27 rfl ?_
            refine g_iload_n dX9_areFit_28 rfl ?_
            refine g_aload_n dX9_areFit_29 rfl ?_
            refine g_iload_n dX9_areFit_30 rfl ?_
            refine g_iconst dX9_areFit_31 ic_4 ?_
            refine g_v2 (M' := KR_its) dX9_areFit_32 l_R_50 v_KR_its (c_KR_its (by omega) (by omega)) rc_84 rfl rfl ⟨rfl, rfl⟩ ?_
            refine g_aload_n dX9_areFit_35 rfl ?_
            refine g_iload_n dX9_areFit_36 rfl ?_
            refine g_iconst dX9_areFit_37 ic_5 ?_
            refine g_v2 (M' := KR_its) dX9_areFit_38 l_R_50 v_KR_its (c_KR_its (by omega) (by omega)) rc_84 rfl rfl ⟨rfl, rfl⟩ ?_
            refine g_v3 (M' := KR_isWithin) dX9_areFit_41 l_R_78 v_KR_isWithin (c_KR_isWithin hW (by omega)) rc_84 rfl rfl ⟨rfl, rfl⟩ ?_
            refine b_if_ne (tgt := 49) dX9_areFit_44 rfl (fun zc44 => ?_) (fun zc44 => ?_)
            · refine g_iconst dX9_areFit_49 ic_0 ?_
              refine g_istore_n dX9_areFit_50 rfl ?_
              have H51 : ∀ (N : Nat) (o : Nat), o ≤ k → (∀ i, i < o → okO (σ 85) s k i = true) → k - o < N → G sc KR_areFit 51 (aL [some (.ref 84), some (.int (nI s)), some (.int (nI k)), some (.int (nI o))]) [] (HH σ δ) (0, 0) R := by
                intro N
                induction N with
                | zero => intro o h3 hb1 hN51; exact absurd hN51 (Nat.not_lt_zero _)
                | succ N ih51 =>
                  intro o h3 hb1 hN51
                  refine g_iload_n dX9_areFit_51 rfl ?_
                  refine g_iload_n dX9_areFit_52 rfl ?_
                  refine n_icmp_ge (tgt := 94) (by omega) (by omega) dX9_areFit_53 rfl (fun zc53 => ?_) (fun zc53 => ?_)
                  · refine n_iinc (b := 1) dX9_areFit_94 rfl rfl rfl ?_
                    refine g_goto (tgt := 2) dX9_areFit_97 rfl ?_
                    exact g_can _ (by exact ⟨rfl, rfl, rfl, trivial⟩) (ih2 (k + 1) (by omega) (lt_step hb (by first | exact okE_n zc16 | exact okE_y (by omega) zc24 zc44 (fun o ho => hb1 o (by omega)))) (by omega))
                  · refine g_iload_n dX9_areFit_56 rfl ?_
                    refine g_iload_n dX9_areFit_57 rfl ?_
                    refine g_ishr dX9_areFit_58 ?_
                    refine g_iconst dX9_areFit_59 ic_1 ?_
                    refine g_iand dX9_areFit_60 ?_
                    refine g_top (bit_bI (m := s) (x := o) (by omega) (by omega)) ?_
                    refine g_iconst dX9_areFit_61 ic_1 ?_
                    refine b1_icmp_ne (tgt := 88) dX9_areFit_62 rfl (fun zc62 => ?_) (fun zc62 => ?_)
                    · refine n_iinc (b := 1) dX9_areFit_88 rfl rfl rfl ?_
                      refine g_goto (tgt := 51) dX9_areFit_91 rfl ?_
                      exact g_can _ (by exact ⟨rfl, rfl, rfl, rfl, trivial⟩) (ih51 (o + 1) (by omega) (lt_step hb1 (by first | exact okO_n zc62 | exact okO_y zc83)) (by omega))
                    · refine g_aload_n dX9_areFit_65 rfl ?_
                      refine g_iload_n dX9_areFit_66 rfl ?_
                      refine g_aload_n dX9_areFit_67 rfl ?_
                      refine g_iload_n dX9_areFit_68 rfl ?_
                      refine g_iconst dX9_areFit_69 ic_4 ?_
                      refine g_v2 (M' := KR_its) dX9_areFit_70 l_R_50 v_KR_its (c_KR_its (by omega) (by omega)) rc_84 rfl rfl ⟨rfl, rfl⟩ ?_
                      refine g_aload_n dX9_areFit_73 rfl ?_
                      refine g_iload_n dX9_areFit_74 rfl ?_
                      refine g_iconst dX9_areFit_75 ic_5 ?_
                      refine g_v2 (M' := KR_its) dX9_areFit_76 l_R_50 v_KR_its (c_KR_its (by omega) (by omega)) rc_84 rfl rfl ⟨rfl, rfl⟩ ?_
                      refine g_iload_n dX9_areFit_79 rfl ?_
                      refine g_v4 (M' := KR_isApart) dX9_areFit_80 l_R_85 v_KR_isApart (c_KR_isApart hW (by omega) (by omega)) rc_84 rfl rfl ⟨rfl, rfl⟩ ?_
                      refine b_if_ne (tgt := 88) dX9_areFit_83 rfl (fun zc83 => ?_) (fun zc83 => ?_)
                      · refine n_iinc (b := 1) dX9_areFit_88 rfl rfl rfl ?_
                        refine g_goto (tgt := 51) dX9_areFit_91 rfl ?_
                        exact g_can _ (by exact ⟨rfl, rfl, rfl, rfl, trivial⟩) (ih51 (o + 1) (by omega) (lt_step hb1 (by first | exact okO_n zc62 | exact okO_y zc83)) (by omega))
                      · refine g_iconst dX9_areFit_86 ic_0 ?_
                        exact g_zret (S := []) dX9_areFit_87 rfl (Or.inl rfl) (by rw [← hRz]; exact ⟨by rw [show stO (σ 85) n s = false from stO_no (k := k) (by omega) (okE_f3 zc16 zc53 (okO_f zc62 zc83))]; rfl, by rfl⟩) (Nat.zero_le _) (Nat.zero_le _)
              exact g_can _ (by exact ⟨rfl, rfl, rfl, rfl, trivial⟩) (H51 _ 0 (by omega) (fun i hi => absurd hi (Nat.not_lt_zero i)) (Nat.lt_succ_self _))
            · refine g_iconst dX9_areFit_47 ic_0 ?_
              exact g_zret (S := []) dX9_areFit_48 rfl (Or.inl rfl) (by rw [← hRz]; exact ⟨by rw [show stO (σ 85) n s = false from stO_no (k := k) (by omega) (by first | exact okE_f1 zc16 zc24 | exact okE_f2 zc16 zc44)]; rfl, by rfl⟩) (Nat.zero_le _) (Nat.zero_le _)
  exact g_can _ (by exact ⟨rfl, rfl, rfl, trivial⟩) (H2 _ 0 (by omega) (fun i hi => absurd hi (Nat.not_lt_zero i)) (Nat.lt_succ_self _))
set_option maxRecDepth 100000 in
theorem c_KR_staying {σ : SI} {δ : SD} {n : Nat} (hW : WF (σ 85) n) : E KR_staying [.ref 84] (HH σ δ) (some (.int (nI (stS (σ 85) n 256).1))) (HH σ δ) := by
  have h8 := hW.n8
  have hp8 : 2 ^ n ≤ 256 := Nat.pow_le_pow_right (by decide) h8
  have hp1 : 1 ≤ 2 ^ n := Nat.one_le_two_pow
  refine E.ofL [some (.ref 84)] rfl pn_RX9 rfl (fun sc => ?_)
  generalize hRz : (fun (zr : Option Value) (zk : XH) => zr = some (.int (nI (stS (σ 85) n 256).1)) ∧ zk = HH σ δ) = R
  refine g_iconst dX9_staying_0 ic_0 ?_
  refine g_istore_n dX9_staying_1 rfl ?_
  refine g_iconst dX9_staying_2 ic_0 ?_
  refine g_istore_n dX9_staying_3 rfl ?_
  refine g_iconst dX9_staying_4 ic_1 ?_
  refine g_istore_n dX9_staying_5 rfl ?_
  have H6 : ∀ (N : Nat) (s b : Nat) (z : Int32), 1 ≤ s → s ≤ 2 ^ n → b < 256 → stS (σ 85) n s = (b, z) → 2 ^ n - s < N → G sc KR_staying 6 (aL [some (.ref 84), some (.int (nI b)), some (.int z), some (.int (nI s))]) [] (HH σ δ) (0, 0) R := by
    intro N
    induction N with
    | zero => intro s b z h1 h2 h3 hb hN6; exact absurd hN6 (Nat.not_lt_zero _)
    | succ N ih6 =>
      intro s b z h1 h2 h3 hb hN6
      refine g_iload_n dX9_staying_6 rfl ?_
      refine g_iconst dX9_staying_7 ic_1 ?_
      refine g_aload_n dX9_staying_8 rfl ?_
      refine g_v0 (M' := KR_many) dX9_staying_9 l_R_42 v_KR_many c_KR_many rc_84 rfl rfl ⟨rfl, rfl⟩ ?_
      refine g_top hW.a7 ?_
      refine g_ishl dX9_staying_12 ?_
      refine g_top (shl_1 (by omega)) ?_
      refine n_icmp_ge (tgt := 104) (by omega) (by omega) dX9_staying_13 rfl (fun zc13 => ?_) (fun zc13 => ?_)
      · refine g_iload_n dX9_staying_104 rfl ?_
        exact g_iret (S := []) dX9_staying_105 rfl (by rw [← hRz]; exact ⟨congrArg (fun zz => some (Value.int zz)) (show _ = _ by rw [show s = 2 ^ n by omega] at hb; rw [stS_all hW, hb]), by rfl⟩) (Nat.zero_le _) (Nat.zero_le _)
      · have hs2 : s < 2 ^ n := by omega
        refine g_aload_n dX9_staying_16 rfl ?_
        refine g_iload_n dX9_staying_17 rfl ?_
        refine g_v1 (M' := KR_areFit) dX9_staying_18 l_R_206 v_KR_areFit (c_KR_areFit hW hs2) rc_84 rfl rfl ⟨rfl, rfl⟩ ?_
        refine b_if_eq (tgt := 98) dX9_staying_21 rfl (fun zc21 => ?_) (fun zc21 => ?_)
        · refine n_iinc (b := 1) dX9_staying_98 rfl rfl rfl ?_
          refine g_goto (tgt := 6) dX9_staying_101 rfl ?_
          exact g_can _ (by exact ⟨rfl, rfl, rfl, rfl, trivial⟩) (ih6 (s + 1) _ _ (by omega) (by omega) (by omega) (by first | exact stS_n hb zc21 | (rw [hb1, show k = n by omega] at zc73 zc79; exact stS_0 hb zc73 zc79) | (rw [hb1, show k = n by omega] at zc73 zc79; exact stS_e hb zc73 zc79 zc90) | (rw [hb1, show k = n by omega] at zc73 ⊢; exact stS_g hb zc21 zc73) | (rw [hb1, show k = n by omega] at zc79 ⊢; exact stS_t hb zc21 zc79 (by omega))) (by omega))
        · refine g_iconst dX9_staying_24 ic_0 ?_
          refine g_istore dX9_staying_25 rfl ?_
          refine g_iconst dX9_staying_27 ic_0 ?_
          refine g_istore dX9_staying_28 rfl ?_
          have H30 : ∀ (N : Nat) (k : Nat) (w : Int32), k ≤ n → w = wgS (σ 85) s k → n - k < N → G sc KR_staying 30 (aL [some (.ref 84), some (.int (nI b)), some (.int z), some (.int (nI s)), some (.int w), some (.int (nI k))]) [] (HH σ δ) (0, 0) R := by
            intro N
            induction N with
            | zero => intro k w h5 hb1 hN30; exact absurd hN30 (Nat.not_lt_zero _)
            | succ N ih30 =>
              intro k w h5 hb1 hN30
              refine g_iload dX9_staying_30 rfl ?_
              refine g_aload_n dX9_staying_32 rfl ?_
              refine g_v0 (M' := KR_many) dX9_staying_33 l_R_42 v_KR_many c_KR_many rc_84 rfl rfl ⟨rfl, rfl⟩ ?_
              refine g_top hW.a7 ?_
              refine n_icmp_ge (tgt := 70) (by omega) (by omega) dX9_staying_36 rfl (fun zc36 => ?_) (fun zc36 => ?_)
              · refine g_iload dX9_staying_70 rfl ?_
                refine g_iload_n dX9_staying_72 rfl ?_
                refine g_icmp_gt (tgt := 93) dX9_staying_73 rfl (fun zc73 => ?_) (fun zc73 => ?_)
                · refine g_iload_n dX9_staying_93 rfl ?_
                  refine g_istore_n dX9_staying_94 rfl ?_
                  refine g_iload dX9_staying_95 rfl ?_
                  refine g_istore_n dX9_staying_97 rfl ?_
                  refine n_iinc (b := 1) dX9_staying_98 rfl rfl rfl ?_
                  refine g_goto (tgt := 6) dX9_staying_101 rfl ?_
                  exact g_can _ (by exact ⟨rfl, rfl, rfl, rfl, trivial⟩) (ih6 (s + 1) _ _ (by omega) (by omega) (by omega) (by first | exact stS_n hb zc21 | (rw [hb1, show k = n by omega] at zc73 zc79; exact stS_0 hb zc73 zc79) | (rw [hb1, show k = n by omega] at zc73 zc79; exact stS_e hb zc73 zc79 zc90) | (rw [hb1, show k = n by omega] at zc73 ⊢; exact stS_g hb zc21 zc73) | (rw [hb1, show k = n by omega] at zc79 ⊢; exact stS_t hb zc21 zc79 (by omega))) (by omega))
                · refine g_iload dX9_staying_76 rfl ?_
                  refine g_iload_n dX9_staying_78 rfl ?_
                  refine g_icmp_ne (tgt := 98) dX9_staying_79 rfl (fun zc79 => ?_) (fun zc79 => ?_)
                  · refine n_iinc (b := 1) dX9_staying_98 rfl rfl rfl ?_
                    refine g_goto (tgt := 6) dX9_staying_101 rfl ?_
                    exact g_can _ (by exact ⟨rfl, rfl, rfl, rfl, trivial⟩) (ih6 (s + 1) _ _ (by omega) (by omega) (by omega) (by first | exact stS_n hb zc21 | (rw [hb1, show k = n by omega] at zc73 zc79; exact stS_0 hb zc73 zc79) | (rw [hb1, show k = n by omega] at zc73 zc79; exact stS_e hb zc73 zc79 zc90) | (rw [hb1, show k = n by omega] at zc73 ⊢; exact stS_g hb zc21 zc73) | (rw [hb1, show k = n by omega] at zc79 ⊢; exact stS_t hb zc21 zc79 (by omega))) (by omega))
                  · refine g_iload_n dX9_staying_82 rfl ?_
                    have hc1 := cnt8_le (s := s)
                    have hc2 := cnt8_le (s := b)
                    refine g_s1 (M' := KR_size) dX9_staying_83 l_R_209 s_KR_size (c_KR_size (by omega)) rfl rfl ⟨rfl, rfl⟩ ?_
                    refine g_iload_n dX9_staying_86 rfl ?_
                    refine g_s1 (M' := KR_size) dX9_staying_87 l_R_209 s_KR_size (c_KR_size (by omega)) rfl rfl ⟨rfl, rfl⟩ ?_
                    refine n_icmp_le (tgt := 98) (by omega) (by omega) dX9_staying_90 rfl (fun zc90 => ?_) (fun zc90 => ?_)
                    · refine n_iinc (b := 1) dX9_staying_98 rfl rfl rfl ?_
                      refine g_goto (tgt := 6) dX9_staying_101 rfl ?_
                      exact g_can _ (by exact ⟨rfl, rfl, rfl, rfl, trivial⟩) (ih6 (s + 1) _ _ (by omega) (by omega) (by omega) (by first | exact stS_n hb zc21 | (rw [hb1, show k = n by omega] at zc73 zc79; exact stS_0 hb zc73 zc79) | (rw [hb1, show k = n by omega] at zc73 zc79; exact stS_e hb zc73 zc79 zc90) | (rw [hb1, show k = n by omega] at zc73 ⊢; exact stS_g hb zc21 zc73) | (rw [hb1, show k = n by omega] at zc79 ⊢; exact stS_t hb zc21 zc79 (by omega))) (by omega))
                    · refine g_iload_n dX9_staying_93 rfl ?_
                      refine g_istore_n dX9_staying_94 rfl ?_
                      refine g_iload dX9_staying_95 rfl ?_
                      refine g_istore_n dX9_staying_97 rfl ?_
                      refine n_iinc (b := 1) dX9_staying_98 rfl rfl rfl ?_
                      refine g_goto (tgt := 6) dX9_staying_101 rfl ?_
                      exact g_can _ (by exact ⟨rfl, rfl, rfl, rfl, trivial⟩) (ih6 (s + 1) _ _ (by omega) (by omega) (by omega) (by first | exact stS_n hb zc21 | (rw [hb1, show k = n by omega] at zc73 zc79; exact stS_0 hb zc73 zc79) | (rw [hb1, show k = n by omega] at zc73 zc79; exact stS_e hb zc73 zc79 zc90) | (rw [hb1, show k = n by omega] at zc73 ⊢; exact stS_g hb zc21 zc73) | (rw [hb1, show k = n by omega] at zc79 ⊢; exact stS_t hb zc21 zc79 (by omega))) (by omega))
              · refine g_iload dX9_staying_39 rfl ?_
                refine g_iload_n dX9_staying_41 rfl ?_
                refine g_iload dX9_staying_42 rfl ?_
                refine g_ishr dX9_staying_44 ?_
                refine g_iconst dX9_staying_45 ic_1 ?_
                refine g_iand dX9_staying_46 ?_
                refine g_top (bit_bI (m := s) (x := k) (by omega) (by omega)) ?_
                refine g_iconst dX9_staying_47 ic_1 ?_
                refine b1_icmp_ne (tgt := 60) dX9_staying_48 rfl (fun zc48 => ?_) (fun zc48 => ?_)
                · refine g_iconst dX9_staying_60 ic_0 ?_
                  refine g_iadd dX9_staying_61 ?_
                  refine g_istore dX9_staying_62 rfl ?_
                  refine n_iinc (b := 1) dX9_staying_64 rfl rfl rfl ?_
                  refine g_goto (tgt := 30) dX9_staying_67 rfl ?_
                  exact g_can _ (by exact ⟨rfl, rfl, rfl, rfl, rfl, rfl, trivial⟩) (ih30 (k + 1) _ (by omega) (by rw [hb1]; unfold wgS; rw [sumI]; simp [zc48]) (by omega))
                · refine g_aload_n dX9_staying_51 rfl ?_
                  refine g_iload dX9_staying_52 rfl ?_
                  refine g_v1 (M' := KR_weight) dX9_staying_54 l_R_149 v_KR_weight (c_KR_weight hW (by omega)) rc_84 rfl rfl ⟨rfl, rfl⟩ ?_
                  refine g_goto (tgt := 61) dX9_staying_57 rfl ?_
                  refine g_iadd dX9_staying_61 ?_
                  refine g_istore dX9_staying_62 rfl ?_
                  refine n_iinc (b := 1) dX9_staying_64 rfl rfl rfl ?_
                  refine g_goto (tgt := 30) dX9_staying_67 rfl ?_
                  exact g_can _ (by exact ⟨rfl, rfl, rfl, rfl, rfl, rfl, trivial⟩) (ih30 (k + 1) _ (by omega) (by rw [hb1]; unfold wgS; rw [sumI]; simp [zc48]) (by omega))
          exact g_can _ (by exact ⟨rfl, rfl, rfl, rfl, rfl, rfl, trivial⟩) (H30 _ 0 _ (by omega) rfl (Nat.lt_succ_self _))
  exact g_can _ (by exact ⟨rfl, rfl, rfl, rfl, trivial⟩) (H6 _ 1 0 _ (by omega) (by omega) (by omega) stS_1 (Nat.lt_succ_self _))
