/-! CALLS: tidies -/
/-- how far a place is from X, Y -/
def nrD (X Y : Int32) (p : Nat) : Int32 := dsI (nI (p % 16)) X + dsI (nI (p / 16)) Y
/-- the nearest of the first p places -/
def nrS (f : Nat → Bool) (d : Nat → Int32) : Nat → Int32 × Int32
  | 0 => (-1, nI 0)
  | p + 1 => if (decide ((nrS f d p).1 = -1) || decide (d p < (nrS f d p).2)) && f p then (nI p, d p) else nrS f d p
section NR
variable {f : Nat → Bool} {d : Nat → Int32} {p q : Nat} {u v : Int32}
theorem nrD_xy {X Y : Int32} {x y : Nat} (hx : x < 16) : dsI (nI x) X + dsI (nI y) Y = nrD X Y (16 * y + x) := by
  unfold nrD
  rw [show (16 * y + x) % 16 = x by omega, show (16 * y + x) / 16 = y by omega]
theorem nrD_ab {x y z w : Nat} (hx : x < 16) (hy : y < 16) (hz : z < 16) (hw : w < 16) : absI (nI x - nI z) + absI (nI y - nI w) = dsI (nI x) (nI z) + dsI (nI y) (nI w) := by
  rw [(ab_all x hx z hz).1, (ab_all x hx z hz).2, (ab_all y hy w hw).1, (ab_all y hy w hw).2]
theorem nrS_n (hb : nrS f d p = (u, v)) (hf : f p = false) : nrS f d (p + 1) = (u, v) := by unfold nrS; rw [hf, hb, Bool.and_false]; rfl
theorem nrS_w (hb : nrS f d p = (u, v)) (h1 : ¬ u = -1) (h2 : v ≤ d p) : nrS f d (p + 1) = (u, v) := by
  unfold nrS
  rw [hb, decide_eq_false (p := (u, v).1 = -1) h1, decide_eq_false (p := d p < (u, v).2) (Int32.not_lt.mpr h2)]
  rfl
theorem nrS_y (hb : nrS f d p = (u, v)) (h : u = -1 ∨ d p < v) (hf : f p = true) : nrS f d (p + 1) = (nI p, d p) := by
  unfold nrS
  rw [hb, hf]
  rcases h with h | h
  · rw [decide_eq_true (p := (u, v).1 = -1) h]; rfl
  · rw [decide_eq_true (p := d p < (u, v).2) h, Bool.or_true]; rfl
theorem nrS_up : ∀ m, (∀ i, p ≤ i → i < p + m → f i = false) → nrS f d (p + m) = nrS f d p
  | 0, _ => rfl
  | m + 1, h => (nrS_n (p := p + m) (u := (nrS f d (p + m)).1) (v := (nrS f d (p + m)).2) rfl (h (p + m) (by omega) (by omega))).trans (nrS_up m (fun i h1 h2 => h i h1 (by omega)))
theorem nrS_skip (hq : p ≤ q) (h : ∀ i, p ≤ i → i < q → f i = false) : nrS f d q = nrS f d p := by
  have := nrS_up (f := f) (d := d) (p := p) (q - p) (fun i h1 h2 => h i h1 (by omega))
  rwa [show p + (q - p) = q by omega] at this
theorem nrS_pl0 : ∀ m, m ≤ 256 → plI f (nrS f d m).1
  | 0, _ => Or.inl rfl
  | m + 1, h => by
    unfold nrS
    split
    · rename_i hc
      rw [Bool.and_eq_true] at hc
      exact Or.inr ⟨m, by omega, hc.2, rfl⟩
    · exact nrS_pl0 m (by omega)
theorem nrS_pl : plI f (nrS f d 256).1 := nrS_pl0 256 (Nat.le_refl _)
end NR
/-- item k is moved, if the set S stays -/
def mvP (a : Nat → Int32) (S k : Nat) : Bool := liesA a k && !S.testBit k
def elF (a : Nat → Int32) (S k : Nat) : Int32 := if mvP a S k then nI (16 * yN' a k + xN' a k) else -1
/-- those of a set taken off, the first k -/
def toL (m : Nat) : Nat → Ops
  | 0 => []
  | k + 1 => if m.testBit k then (k, -1, -1) :: toL m k else toL m k
def tdR (a : Nat → Int32) (n m r : Nat) (L : Ops) : Nat → Ops
  | 0 => L
  | k + 1 => if m.testBit k && decide (its (runA a (tdR a n m r L k)) k 1 = nI r) then putL (nrS (fitP (runA a (tdR a n m r L k)) n k) (nrD (xK a n k) (yK a n k)) 256).1 k (tdR a n m r L k) else tdR a n m r L k
def tdL (a : Nat → Int32) (n m : Nat) : Nat → Ops
  | 0 => toL m 8
  | r + 1 => tdR a n m (r + 1) (tdL a n m r) 8
section TD
variable {a : Nat → Int32} {n m r k S p : Nat} {L : Ops} {σ X : SI} {B : Nat} {F : Nat → Int32}
theorem toL_n (h : m.testBit k = false) : toL m (k + 1) = toL m k := by
  show (if m.testBit k = true then (k, -1, -1) :: toL m k else toL m k) = _
  rw [h]; rfl
theorem toL_y (h : m.testBit k = true) : toL m (k + 1) = (k, -1, -1) :: toL m k := by
  show (if m.testBit k = true then (k, -1, -1) :: toL m k else toL m k) = _
  rw [h]; rfl
theorem toL_ok (hn : ∀ k, m.testBit k = true → k < n) : ∀ k, okL n (toL m k)
  | 0 => okL_0
  | k + 1 => by
    cases h : m.testBit k with
    | false => rw [toL_n h]; exact toL_ok hn k
    | true => rw [toL_y h]; exact okL_c (toL_ok hn k) (hn k h) plc_no
theorem it_to : ∀ {k i j : Nat}, k ≤ i → j < 6 → its (runA a (toL m k)) i j = its a i j
  | 0, _, _, _, _ => rfl
  | k + 1, i, j, h, hj => by
    cases hb : m.testBit k with
    | false => rw [toL_n hb]; exact it_to (by omega) hj
    | true =>
      rw [toL_y hb]
      show its (aLay (runA a (toL m k)) k (-1) (-1)) i j = _
      rw [aLay_n (by omega) hj]
      exact it_to (by omega) hj
theorem xK_to : xK (runA a (toL m k)) n k = xK a n k := by unfold xK; rw [it_to (Nat.le_refl k) (by decide)]
theorem yK_to : yK (runA a (toL m k)) n k = yK a n k := by unfold yK; rw [it_to (Nat.le_refl k) (by decide)]
theorem li_to : liesA (runA a (toL m k)) k = liesA a k := by unfold liesA; rw [it_to (Nat.le_refl k) (by decide)]
theorem toL_up (hn : ∀ k, m.testBit k = true → k < n) : ∀ d, toL m (n + d) = toL m n
  | 0 => rfl
  | d + 1 => by
    have : m.testBit (n + d) = false := by
      cases h : m.testBit (n + d) with
      | false => rfl
      | true => have := hn _ h; omega
    exact (toL_n this).trans (toL_up hn d)
theorem toL_8 (h8 : n ≤ 8) (hn : ∀ k, m.testBit k = true → k < n) : toL m n = tdL a n m (1 - 1) := by
  show _ = toL m 8
  have := toL_up hn (8 - n)
  rw [show n + (8 - n) = 8 by omega] at this
  exact this.symm
theorem tdR_m (h : m.testBit k = false) : tdR a n m r L (k + 1) = tdR a n m r L k := if_neg (by rw [h]; simp)
theorem tdR_r (h : ¬ its (runA a (tdR a n m r L k)) k 1 = nI r) : tdR a n m r L (k + 1) = tdR a n m r L k := if_neg (by rw [decide_eq_false h]; simp)
theorem tdR_y (h : m.testBit k = true) (h2 : its (runA a (tdR a n m r L k)) k 1 = nI r) : tdR a n m r L (k + 1) = putL (nrS (fitP (runA a (tdR a n m r L k)) n k) (nrD (xK a n k) (yK a n k)) 256).1 k (tdR a n m r L k) := if_pos (by rw [h, decide_eq_true h2]; rfl)
theorem tdR_y0 (h : m.testBit k = true) (h2 : its (runA a (tdR a n m r L k)) k 1 = nI r) (h3 : (nrS (fitP (runA a (tdR a n m r L k)) n k) (nrD (xK a n k) (yK a n k)) 256).1 = -1) : tdR a n m r L (k + 1) = tdR a n m r L k := (tdR_y h h2).trans (putL_0 h3)
theorem tdR_y1 (h : m.testBit k = true) (h2 : its (runA a (tdR a n m r L k)) k 1 = nI r) (h3 : (nrS (fitP (runA a (tdR a n m r L k)) n k) (nrD (xK a n k) (yK a n k)) 256).1 = nI p) (hp : p < 256) : tdR a n m r L (k + 1) = (k, nI (p % 16), nI (p / 16)) :: tdR a n m r L k := (tdR_y h h2).trans (putL_1 h3 hp)
theorem tdR_up (hn : ∀ k, m.testBit k = true → k < n) : ∀ d, tdR a n m r L (n + d) = tdR a n m r L n
  | 0 => rfl
  | d + 1 => by
    have : m.testBit (n + d) = false := by
      cases h : m.testBit (n + d) with
      | false => rfl
      | true => have := hn _ h; omega
    exact (tdR_m this).trans (tdR_up hn d)
theorem tdR_8 (h8 : n ≤ 8) (hn : ∀ k, m.testBit k = true → k < n) : tdR a n m r L n = tdR a n m r L 8 := by
  have := tdR_up (a := a) (r := r) (L := L) hn (8 - n)
  rw [show n + (8 - n) = 8 by omega] at this
  exact this.symm
theorem tdL_s (h : 1 ≤ r) : tdR a n m r (tdL a n m (r - 1)) 8 = tdL a n m (r + 1 - 1) := by
  rw [show r + 1 - 1 = (r - 1) + 1 by omega]
  show _ = tdR a n m (r - 1 + 1) (tdL a n m (r - 1)) 8
  rw [show r - 1 + 1 = r by omega]
theorem tdR_ok (hn : ∀ k, m.testBit k = true → k < n) (hl : okL n L) : ∀ k, okL n (tdR a n m r L k)
  | 0 => hl
  | k + 1 => by
    unfold tdR
    split
    · rename_i hc
      rw [Bool.and_eq_true] at hc
      have hv := nrS_pl (f := fitP (runA a (tdR a n m r L k)) n k) (d := nrD (xK a n k) (yK a n k))
      generalize (nrS (fitP (runA a (tdR a n m r L k)) n k) (nrD (xK a n k) (yK a n k)) 256).1 = v at hv ⊢
      exact okL_pl (tdR_ok hn hl k) (hn k hc.1) hv
    · exact tdR_ok hn hl k
theorem tdL_ok (hn : ∀ k, m.testBit k = true → k < n) : ∀ r, okL n (tdL a n m r)
  | 0 => toL_ok hn 8
  | r + 1 => tdR_ok hn (tdL_ok hn r) 8
theorem mv_n : ∀ k, (bitsN (mvP a S) n).testBit k = true → k < n := fun k h => by
  rw [bitsN_bit, Bool.and_eq_true, decide_eq_true_eq] at h
  exact h.1
theorem mv_b (hk : k < n) : (bitsN (mvP a S) n).testBit k = mvP a S k := by rw [bitsN_bit, decide_eq_true hk, Bool.true_and]
theorem mv_f1 (h : liesA a k = false) : mvP a S k = false := by unfold mvP; rw [h]; rfl
theorem mv_f2 (h : S.testBit k = true) : mvP a S k = false := by unfold mvP; rw [h]; simp
theorem mv_t (h : liesA a k = true) (h2 : S.testBit k = false) : mvP a S k = true := by unfold mvP; rw [h, h2]; rfl
theorem mv_eq (h8 : n ≤ 8 := by omega) : nI (bitsN (liesA a) n) &&& (nI S ^^^ -1) = nI (bitsN (mvP a S) n) := by
  rw [show (-1 : Int32) = nI (2 ^ 32 - 1) by decide, nx_xor, nx_and]
  congr 1
  apply Nat.eq_of_testBit_eq
  intro k
  rw [Nat.testBit_and, Nat.testBit_xor, Nat.testBit_two_pow_sub_one, bitsN_bit, bitsN_bit]
  by_cases h : k < n
  · rw [decide_eq_true h, decide_eq_true (show k < 32 by omega)]
    unfold mvP
    cases liesA a k <;> cases S.testBit k <;> rfl
  · rw [decide_eq_false h]; rfl
theorem elF_n (h : mvP a S k = false) : elF a S k = -1 := by unfold elF; rw [h]; rfl
theorem el_mw (h : ¬ elF a S k = -1) : mvP a S k = true := by
  cases q : mvP a S k with
  | true => rfl
  | false => exact absurd (elF_n q) h
theorem el_mv (hW : WF a n) (hk : k < n) (h : elF a S k = -1) : mvP a S k = false := by
  cases q : mvP a S k with
  | false => rfl
  | true =>
    unfold elF at h
    rw [q] at h
    unfold mvP at q
    rw [Bool.and_eq_true] at q
    have := hW.xy hk q.1
    exact absurd h (nI_m1 (by omega))
theorem el_get (hW : WF a n) (hk : k < n) (h : ¬ elF a S k = -1) : ∃ e, e < 256 ∧ elF a S k = nI e ∧ nI (e % 16) = xK a n k ∧ nI (e / 16) = yK a n k := by
  have q := el_mw h
  have q2 := q
  unfold mvP at q2
  rw [Bool.and_eq_true] at q2
  have g := hW.xy hk q2.1
  refine ⟨16 * yN' a k + xN' a k, by omega, by unfold elF; rw [q]; rfl, ?_, ?_⟩
  · unfold xK; rw [if_pos hk, show (16 * yN' a k + xN' a k) % 16 = xN' a k by omega]; exact g.2.2.1.symm
  · unfold yK; rw [if_pos hk, show (16 * yN' a k + xN' a k) / 16 = yN' a k by omega]; exact g.2.2.2.symm
theorem stS_256 (hW : WF a n) : (stS a n 256).1 < 256 := by
  rw [stS_all hW]
  have h8 : 2 ^ n ≤ 2 ^ 8 := Nat.pow_le_pow_right (by decide) hW.n8
  rcases Nat.lt_or_ge (2 ^ n) 256 with q | q
  · exact Nat.lt_of_le_of_lt (stS_lt _) q
  · rw [show 2 ^ n = 255 + 1 by omega]
    unfold stS
    split
    · show (255 : Nat) < 256
      decide
    · exact Nat.lt_of_le_of_lt (stS_lt 255) (by decide)
/-! cells -/
theorem uI_cm {c1 c2 k1 k2 : Nat} {v1 v2 : Int32} (h : c1 ≠ c2) : uI (uI σ c1 k1 v1) c2 k2 v2 = uI (uI σ c2 k2 v2) c1 k1 v1 := by
  funext x y
  unfold uI
  by_cases h1 : x = c1 ∧ y = k1
  · by_cases h2 : x = c2 ∧ y = k2
    · omega
    · rw [if_neg h2, if_pos h1, if_pos h1]
  · by_cases h2 : x = c2 ∧ y = k2
    · rw [if_pos h2, if_neg h1, if_pos h2]
    · rw [if_neg h2, if_neg h1, if_neg h1, if_neg h2]
theorem uI_runS {c j : Nat} {v : Int32} (h5 : c ≠ B + 5) (h6 : c ≠ B + 6) : ∀ {L : Ops}, uI (runS σ B L) c j v = runS (uI σ c j v) B L
  | [] => rfl
  | q :: L => by
    unfold runS sLay
    rw [uI_cm (Ne.symm h6), uI_cm (Ne.symm h5), uI_runS h5 h6]
theorem uI_runM {c j : Nat} {v : Int32} (h : c ≠ 85) : ∀ {L : Ops}, uI (runM σ L) c j v = runM (uI σ c j v) L
  | [] => rfl
  | q :: L => by
    unfold runM mLay
    rw [uI_cm (Ne.symm h), uI_cm (Ne.symm h), uI_runM h]
theorem HL_f2 (hB : LB B) (hL : HL σ B a n) {f g : Nat → Int32} {i j : Nat} : HL (fill (fill σ 74 f i) 75 g j) B a n :=
  hL.cong (fun i hi => by have := LB_le hB; rw [fill_row (by omega), fill_row (by omega)])
theorem HL_u (hB : LB B) (hL : HL σ B a n) {c j : Nat} {v : Int32} (hc : c = 74 ∨ c = 75) : HL (uI σ c j v) B a n :=
  hL.cong (fun i hi => by have := LB_le hB; rw [uI_ne (by omega)])
theorem to_step (hB : LB B) {f g : Nat → Int32} : uI (uI (runS (fill (fill σ 74 f k) 75 g k) B L) 74 k (f k)) 75 k (g k) = runS (fill (fill σ 74 f (k + 1)) 75 g (k + 1)) B L := by
  have := LB_le hB
  rw [uI_runS (by omega) (by omega), uI_runS (by omega) (by omega), uI_fill _ _ _ _ _ (by decide), fill_succ, fill_succ]
theorem t8_x {f g : Nat → Int32} (hk : k < 8) : fill (fill σ 74 f 8) 75 g 8 74 k = f k := by rw [fill_ne (by decide), fill_in hk]
theorem t8_y {f g : Nat → Int32} (hk : k < 8) : fill (fill σ 74 f 8) 75 g 8 75 k = g k := fill_in hk
theorem ef_1 {v : Int32} (hX : X 85 = a) : runM (uI (fill X 89 F k) 89 k v) L 85 = runA a L := by rw [runM_row, uI_ne (by decide), fill_row (by decide), hX]
theorem ef_2 (hX : X 85 = a) : runM (fill X 89 F k) L 85 = runA a L := by rw [runM_row, fill_row (by decide), hX]
theorem WF_f (hW : WF a n) (hX : X 85 = a) (hl : okL n L) : WF (runM (fill X 89 F k) L 85) n := by rw [ef_2 hX]; exact WF_run hW hl
theorem el_r (hk : k < n) : runM (fill X 89 F n) L 89 k = F k := by rw [runM_ne (by decide), fill_in hk]
theorem te_0 {v : Int32} : uI (runM (fill X 89 F k) L) 89 k v = runM (uI (fill X 89 F k) 89 k v) L := uI_runM (by decide)
theorem te_1 (h : mvP a S k = true) : uI (runM (uI (fill X 89 (elF a S) k) 89 k (-1)) L) 89 k (nI (16 * yN' a k + xN' a k)) = runM (fill X 89 (elF a S) (k + 1)) L := by
  rw [uI_runM (by decide), uI_uI, show nI (16 * yN' a k + xN' a k) = elF a S k by unfold elF; rw [h]; rfl, fill_succ]
theorem te_n (h : m.testBit k = false) (hF : F k = -1) : runM (uI (fill X 89 F k) 89 k (-1)) (toL m k) = runM (fill X 89 F (k + 1)) (toL m (k + 1)) := by rw [toL_n h, ← hF, fill_succ]
theorem te_y (h : m.testBit k = true) : runM X ((k, -1, -1) :: toL m k) = runM X (toL m (k + 1)) := by rw [toL_y h]
end TD
set_option maxRecDepth 100000 in
theorem c_KA_nearest {σ : SI} {δ : SD} {B n : Nat} {a : Nat → Int32} (hB : LB B) (hW : WF a n) (hR : RB σ B a n) (hD : RD σ B a n) {k : Nat} {X Y : Int32} (hk : k < n) : E KA_nearest [.ref 72, .ref B, .int (nI k), .int X, .int Y] (HH σ δ) (some (.int (nrS (fitP a n k) (nrD X Y) 256).1)) (HH σ δ) := by
  have h8 := hW.n8
  have h2 := hR.c
  have hw := hW.wid
  have hh := hW.hei
  refine E.ofL [some (.ref 72), some (.ref B), some (.int (nI k)), some (.int X), some (.int Y)] rfl pn_RX2 rfl (fun sc => ?_)
  generalize hRz : (fun (zr : Option Value) (zk : XH) => zr = some (.int (nrS (fitP a n k) (nrD X Y) 256).1) ∧ zk = HH σ δ) = R
  refine g_iconst dX2_nearest_0 ic_m1 ?_
  refine g_istore dX2_nearest_1 rfl ?_
  refine g_iconst dX2_nearest_3 ic_0 ?_
  refine g_istore dX2_nearest_4 rfl ?_
  refine g_iconst dX2_nearest_6 ic_0 ?_
  refine g_istore dX2_nearest_7 rfl ?_
  have H9 : ∀ (N : Nat) (y : Nat) (u v : Int32), y ≤ (a 1).toNatClampNeg → nrS (fitP a n k) (nrD X Y) (16 * y) = (u, v) → (a 1).toNatClampNeg - y < N → G sc KA_nearest 9 (aL [some (.ref 72), some (.ref B), some (.int (nI k)), some (.int X), some (.int Y), some (.int u), some (.int v), some (.int (nI y))]) [] (HH σ δ) (0, 0) R := by
    intro N
    induction N with
    | zero => intro y u v h1 hb hN9; exact absurd hN9 (Nat.not_lt_zero _)
    | succ N ih9 =>
      intro y u v h1 hb hN9
      refine g_iload dX2_nearest_9 rfl ?_
      refine g_aload_n dX2_nearest_11 rfl ?_
      refine q_geti dX2_nearest_12 f_A_21 (ckL_0 hB) (by decide) ty_0_1 ?_
      refine g_top (hR.h.trans hh.2.2) ?_
      refine n_icmp_ge (tgt := 96) (by omega) (by omega) dX2_nearest_15 rfl (fun zc15 => ?_) (fun zc15 => ?_)
      · refine g_iload dX2_nearest_96 rfl ?_
        exact g_iret (S := []) dX2_nearest_98 rfl (by rw [← hRz]; exact ⟨congrArg (fun zz => some (Value.int zz)) (show _ = _ by exact (congrArg Prod.fst ((nrS_skip (by omega) (fp_gap2 hW hk (by omega)).1).trans hb)).symm), by rfl⟩) (Nat.zero_le _) (Nat.zero_le _)
      · refine g_iconst dX2_nearest_18 ic_0 ?_
        refine g_istore dX2_nearest_19 rfl ?_
        have H21 : ∀ (N : Nat) (x : Nat) (u v : Int32), x ≤ (a 0).toNatClampNeg → nrS (fitP a n k) (nrD X Y) (16 * y + x) = (u, v) → (a 0).toNatClampNeg - x < N → G sc KA_nearest 21 (aL [some (.ref 72), some (.ref B), some (.int (nI k)), some (.int X), some (.int Y), some (.int u), some (.int v), some (.int (nI y)), some (.int (nI x))]) [] (HH σ δ) (0, 0) R := by
          intro N
          induction N with
          | zero => intro x u v h3 hb1 hN21; exact absurd hN21 (Nat.not_lt_zero _)
          | succ N ih21 =>
            intro x u v h3 hb1 hN21
            refine g_iload dX2_nearest_21 rfl ?_
            refine g_aload_n dX2_nearest_23 rfl ?_
            refine q_geti dX2_nearest_24 f_A_27 (ckL_0 hB) (by decide) ty_0_0 ?_
            refine g_top (hR.w.trans hw.2.2) ?_
            refine n_icmp_ge (tgt := 90) (by omega) (by omega) dX2_nearest_27 rfl (fun zc27 => ?_) (fun zc27 => ?_)
            · refine n_iinc (b := 1) dX2_nearest_90 rfl rfl rfl ?_
              refine g_goto (tgt := 9) dX2_nearest_93 rfl ?_
              exact g_can _ (by exact ⟨rfl, rfl, rfl, rfl, rfl, rfl, rfl, rfl, trivial⟩) (ih9 (y + 1) _ _ (by omega) ((nrS_skip (by omega) (fp_gap hW hk (by omega) (by omega)).1).trans hb1) (by omega))
            · refine g_iload dX2_nearest_30 rfl ?_
              refine g_iload_n dX2_nearest_32 rfl ?_
              refine g_s2N (M' := KP_distance) dX2_nearest_33 l_A_48 s_KP_distance c_KP_distance rfl rfl ⟨rfl, rfl⟩ ?_
              refine g_iload dX2_nearest_36 rfl ?_
              refine g_iload dX2_nearest_38 rfl ?_
              refine g_s2N (M' := KP_distance) dX2_nearest_40 l_A_48 s_KP_distance c_KP_distance rfl rfl ⟨rfl, rfl⟩ ?_
              refine g_iadd dX2_nearest_43 ?_
              refine g_top (show _ = nrD X Y (16 * y + x) from nrD_xy (by omega)) ?_
              refine g_istore dX2_nearest_44 rfl ?_
              refine g_iload dX2_nearest_46 rfl ?_
              refine g_iconst dX2_nearest_48 ic_m1 ?_
              refine g_icmp_eq (tgt := 59) dX2_nearest_49 rfl (fun zc49 => ?_) (fun zc49 => ?_)
              · refine g_aload_n dX2_nearest_59 rfl ?_
                refine g_iload_n dX2_nearest_60 rfl ?_
                refine g_iload dX2_nearest_61 rfl ?_
                refine g_iload dX2_nearest_63 rfl ?_
                refine g_v3 (M' := KL_hasRoom) dX2_nearest_65 l_A_30 v_KL_hasRoom (c_KL_hasRoom hB hW hR hD hk (Or.inr ⟨x, by omega, by omega, rfl⟩)) (rcL hB) rfl rfl ⟨rfl, rfl⟩ ?_
                refine b_if_eq (tgt := 84) dX2_nearest_68 rfl (fun zc68 => ?_) (fun zc68 => ?_)
                · refine n_iinc (b := 1) dX2_nearest_84 rfl rfl rfl ?_
                  refine g_goto (tgt := 21) dX2_nearest_87 rfl ?_
                  exact g_can _ (by exact ⟨rfl, rfl, rfl, rfl, rfl, rfl, rfl, rfl, rfl, trivial⟩) (ih21 (x + 1) _ _ (by omega) (by first | exact nrS_w (p := 16 * y + x) hb1 zc49 zc56 | exact nrS_n (p := 16 * y + x) hb1 (fp_at (by omega) zc68) | exact nrS_y (p := 16 * y + x) hb1 (Or.inl zc49) (fp_at (by omega) zc68) | exact nrS_y (p := 16 * y + x) hb1 (Or.inr (Int32.not_le.mp zc56)) (fp_at (by omega) zc68)) (by omega))
                · refine g_iload dX2_nearest_71 rfl ?_
                  refine g_iload dX2_nearest_73 rfl ?_
                  refine g_s2N (M' := KP_placeOf) dX2_nearest_75 l_A_34 s_KP_placeOf c_KP_placeOf rfl rfl ⟨rfl, rfl⟩ ?_
                  refine g_istore dX2_nearest_78 rfl ?_
                  refine g_iload dX2_nearest_80 rfl ?_
                  refine g_istore dX2_nearest_82 rfl ?_
                  refine n_iinc (b := 1) dX2_nearest_84 rfl rfl rfl ?_
                  refine g_goto (tgt := 21) dX2_nearest_87 rfl ?_
                  exact g_can _ (by exact ⟨rfl, rfl, rfl, rfl, rfl, rfl, rfl, rfl, rfl, trivial⟩) (ih21 (x + 1) _ _ (by omega) (by first | exact nrS_w (p := 16 * y + x) hb1 zc49 zc56 | exact nrS_n (p := 16 * y + x) hb1 (fp_at (by omega) zc68) | exact nrS_y (p := 16 * y + x) hb1 (Or.inl zc49) (fp_at (by omega) zc68) | exact nrS_y (p := 16 * y + x) hb1 (Or.inr (Int32.not_le.mp zc56)) (fp_at (by omega) zc68)) (by omega))
              · refine g_iload dX2_nearest_52 rfl ?_
                refine g_iload dX2_nearest_54 rfl ?_
                refine g_icmp_ge (tgt := 84) dX2_nearest_56 rfl (fun zc56 => ?_) (fun zc56 => ?_)
                · refine n_iinc (b := 1) dX2_nearest_84 rfl rfl rfl ?_
                  refine g_goto (tgt := 21) dX2_nearest_87 rfl ?_
                  exact g_can _ (by exact ⟨rfl, rfl, rfl, rfl, rfl, rfl, rfl, rfl, rfl, trivial⟩) (ih21 (x + 1) _ _ (by omega) (by first | exact nrS_w (p := 16 * y + x) hb1 zc49 zc56 | exact nrS_n (p := 16 * y + x) hb1 (fp_at (by omega) zc68) | exact nrS_y (p := 16 * y + x) hb1 (Or.inl zc49) (fp_at (by omega) zc68) | exact nrS_y (p := 16 * y + x) hb1 (Or.inr (Int32.not_le.mp zc56)) (fp_at (by omega) zc68)) (by omega))
                · refine g_aload_n dX2_nearest_59 rfl ?_
                  refine g_iload_n dX2_nearest_60 rfl ?_
                  refine g_iload dX2_nearest_61 rfl ?_
                  refine g_iload dX2_nearest_63 rfl ?_
                  refine g_v3 (M' := KL_hasRoom) dX2_nearest_65 l_A_30 v_KL_hasRoom (c_KL_hasRoom hB hW hR hD hk (Or.inr ⟨x, by omega, by omega, rfl⟩)) (rcL hB) rfl rfl ⟨rfl, rfl⟩ ?_
                  refine b_if_eq (tgt := 84) dX2_nearest_68 rfl (fun zc68 => ?_) (fun zc68 => ?_)
                  · refine n_iinc (b := 1) dX2_nearest_84 rfl rfl rfl ?_
                    refine g_goto (tgt := 21) dX2_nearest_87 rfl ?_
                    exact g_can _ (by exact ⟨rfl, rfl, rfl, rfl, rfl, rfl, rfl, rfl, rfl, trivial⟩) (ih21 (x + 1) _ _ (by omega) (by first | exact nrS_w (p := 16 * y + x) hb1 zc49 zc56 | exact nrS_n (p := 16 * y + x) hb1 (fp_at (by omega) zc68) | exact nrS_y (p := 16 * y + x) hb1 (Or.inl zc49) (fp_at (by omega) zc68) | exact nrS_y (p := 16 * y + x) hb1 (Or.inr (Int32.not_le.mp zc56)) (fp_at (by omega) zc68)) (by omega))
                  · refine g_iload dX2_nearest_71 rfl ?_
                    refine g_iload dX2_nearest_73 rfl ?_
                    refine g_s2N (M' := KP_placeOf) dX2_nearest_75 l_A_34 s_KP_placeOf c_KP_placeOf rfl rfl ⟨rfl, rfl⟩ ?_
                    refine g_istore dX2_nearest_78 rfl ?_
                    refine g_iload dX2_nearest_80 rfl ?_
                    refine g_istore dX2_nearest_82 rfl ?_
                    refine n_iinc (b := 1) dX2_nearest_84 rfl rfl rfl ?_
                    refine g_goto (tgt := 21) dX2_nearest_87 rfl ?_
                    exact g_can _ (by exact ⟨rfl, rfl, rfl, rfl, rfl, rfl, rfl, rfl, rfl, trivial⟩) (ih21 (x + 1) _ _ (by omega) (by first | exact nrS_w (p := 16 * y + x) hb1 zc49 zc56 | exact nrS_n (p := 16 * y + x) hb1 (fp_at (by omega) zc68) | exact nrS_y (p := 16 * y + x) hb1 (Or.inl zc49) (fp_at (by omega) zc68) | exact nrS_y (p := 16 * y + x) hb1 (Or.inr (Int32.not_le.mp zc56)) (fp_at (by omega) zc68)) (by omega))
        exact g_can _ (by exact ⟨rfl, rfl, rfl, rfl, rfl, rfl, rfl, rfl, rfl, trivial⟩) (H21 _ 0 _ _ (by omega) hb (Nat.lt_succ_self _))
  exact g_can _ (by exact ⟨rfl, rfl, rfl, rfl, rfl, rfl, rfl, rfl, trivial⟩) (H9 _ 0 _ _ (by omega) rfl (Nat.lt_succ_self _))
set_option maxRecDepth 100000 in
theorem c_KR_nearest {σ : SI} {δ : SD} {n : Nat} (hW : WF (σ 85) n) {k : Nat} (hk : k < n) {e : Nat} (he : e < 256) : E KR_nearest [.ref 84, .int (nI k), .int (nI (e % 16)), .int (nI (e / 16))] (HH σ δ) (some (.int (nrS (fitP (σ 85) n k) (nrD (nI (e % 16)) (nI (e / 16))) 256).1)) (HH σ δ) := by
  have h8 := hW.n8
  refine E.ofL [some (.ref 84), some (.int (nI k)), some (.int (nI (e % 16))), some (.int (nI (e / 16)))] rfl pn_RX9 rfl (fun sc => ?_)
  generalize hRz : (fun (zr : Option Value) (zk : XH) => zr = some (.int (nrS (fitP (σ 85) n k) (nrD (nI (e % 16)) (nI (e / 16))) 256).1) ∧ zk = HH σ δ) = R
  refine g_iconst dX9_nearest_0 ic_m1 ?_
  refine g_istore dX9_nearest_1 rfl ?_
  refine g_iconst dX9_nearest_3 ic_0 ?_
  refine g_istore dX9_nearest_4 rfl ?_
  refine g_iconst dX9_nearest_6 ic_0 ?_
  refine g_istore dX9_nearest_7 rfl ?_
  have H9 : ∀ (N : Nat) (p : Nat) (u v : Int32), p ≤ 256 → nrS (fitP (σ 85) n k) (nrD (nI (e % 16)) (nI (e / 16))) p = (u, v) → 256 - p < N → G sc KR_nearest 9 (aL [some (.ref 84), some (.int (nI k)), some (.int (nI (e % 16))), some (.int (nI (e / 16))), some (.int u), some (.int v), some (.int (nI p))]) [] (HH σ δ) (0, 0) R := by
    intro N
    induction N with
    | zero => intro p u v h1 hb hN9; exact absurd hN9 (Nat.not_lt_zero _)
    | succ N ih9 =>
      intro p u v h1 hb hN9
      refine g_iload dX9_nearest_9 rfl ?_
      refine g_sipush dX9_nearest_11 sp_256 ?_
      refine n_icmp_ge (tgt := 85) (by omega) (by omega) dX9_nearest_14 rfl (fun zc14 => ?_) (fun zc14 => ?_)
      · refine g_iload dX9_nearest_85 rfl ?_
        exact g_iret (S := []) dX9_nearest_87 rfl (by rw [← hRz]; exact ⟨congrArg (fun zz => some (Value.int zz)) (show _ = _ by rw [show p = 256 by omega] at hb; rw [hb]), by rfl⟩) (Nat.zero_le _) (Nat.zero_le _)
      · refine g_iload dX9_nearest_17 rfl ?_
        refine g_bipush dX9_nearest_19 bp_16 ?_
        refine n_irem dX9_nearest_21 (by omega) (by omega) (by omega) ?_
        refine g_iload_n dX9_nearest_22 rfl ?_
        refine g_isub dX9_nearest_23 ?_
        refine g_s1 (M' := KR_abs) dX9_nearest_24 l_R_215 s_KR_abs c_KR_abs rfl rfl ⟨rfl, rfl⟩ ?_
        refine g_iload dX9_nearest_27 rfl ?_
        refine g_bipush dX9_nearest_29 bp_16 ?_
        refine n_idiv dX9_nearest_31 (by omega) (by omega) (by omega) ?_
        refine g_iload_n dX9_nearest_32 rfl ?_
        refine g_isub dX9_nearest_33 ?_
        refine g_s1 (M' := KR_abs) dX9_nearest_34 l_R_215 s_KR_abs c_KR_abs rfl rfl ⟨rfl, rfl⟩ ?_
        refine g_iadd dX9_nearest_37 ?_
        refine g_top (nrD_ab (by omega) (by omega) (by omega) (by omega)) ?_
        refine g_istore dX9_nearest_38 rfl ?_
        refine g_iload dX9_nearest_40 rfl ?_
        refine g_iconst dX9_nearest_42 ic_m1 ?_
        refine g_icmp_eq (tgt := 53) dX9_nearest_43 rfl (fun zc43 => ?_) (fun zc43 => ?_)
        · refine g_aload_n dX9_nearest_53 rfl ?_
          refine g_iload_n dX9_nearest_54 rfl ?_
          refine g_iload dX9_nearest_55 rfl ?_
          refine g_bipush dX9_nearest_57 bp_16 ?_
          refine n_irem dX9_nearest_59 (by omega) (by omega) (by omega) ?_
          refine g_iload dX9_nearest_60 rfl ?_
          refine g_bipush dX9_nearest_62 bp_16 ?_
          refine n_idiv dX9_nearest_64 (by omega) (by omega) (by omega) ?_
          refine g_v3 (M' := KR_isFit) dX9_nearest_65 l_R_89 v_KR_isFit (c_KR_isFit hW (by omega)) rc_84 rfl rfl ⟨rfl, rfl⟩ ?_
          refine b_if_eq (tgt := 79) dX9_nearest_68 rfl (fun zc68 => ?_) (fun zc68 => ?_)
          · refine n_iinc (b := 1) dX9_nearest_79 rfl rfl rfl ?_
            refine g_goto (tgt := 9) dX9_nearest_82 rfl ?_
            exact g_can _ (by exact ⟨rfl, rfl, rfl, rfl, rfl, rfl, rfl, trivial⟩) (ih9 (p + 1) _ _ (by omega) (by first | exact nrS_w hb zc43 zc50 | exact nrS_n hb zc68 | exact nrS_y hb (Or.inl zc43) zc68 | exact nrS_y hb (Or.inr (Int32.not_le.mp zc50)) zc68) (by omega))
          · refine g_iload dX9_nearest_71 rfl ?_
            refine g_istore dX9_nearest_73 rfl ?_
            refine g_iload dX9_nearest_75 rfl ?_
            refine g_istore dX9_nearest_77 rfl ?_
            refine n_iinc (b := 1) dX9_nearest_79 rfl rfl rfl ?_
            refine g_goto (tgt := 9) dX9_nearest_82 rfl ?_
            exact g_can _ (by exact ⟨rfl, rfl, rfl, rfl, rfl, rfl, rfl, trivial⟩) (ih9 (p + 1) _ _ (by omega) (by first | exact nrS_w hb zc43 zc50 | exact nrS_n hb zc68 | exact nrS_y hb (Or.inl zc43) zc68 | exact nrS_y hb (Or.inr (Int32.not_le.mp zc50)) zc68) (by omega))
        · refine g_iload dX9_nearest_46 rfl ?_
          refine g_iload dX9_nearest_48 rfl ?_
          refine g_icmp_ge (tgt := 79) dX9_nearest_50 rfl (fun zc50 => ?_) (fun zc50 => ?_)
          · refine n_iinc (b := 1) dX9_nearest_79 rfl rfl rfl ?_
            refine g_goto (tgt := 9) dX9_nearest_82 rfl ?_
            exact g_can _ (by exact ⟨rfl, rfl, rfl, rfl, rfl, rfl, rfl, trivial⟩) (ih9 (p + 1) _ _ (by omega) (by first | exact nrS_w hb zc43 zc50 | exact nrS_n hb zc68 | exact nrS_y hb (Or.inl zc43) zc68 | exact nrS_y hb (Or.inr (Int32.not_le.mp zc50)) zc68) (by omega))
          · refine g_aload_n dX9_nearest_53 rfl ?_
            refine g_iload_n dX9_nearest_54 rfl ?_
            refine g_iload dX9_nearest_55 rfl ?_
            refine g_bipush dX9_nearest_57 bp_16 ?_
            refine n_irem dX9_nearest_59 (by omega) (by omega) (by omega) ?_
            refine g_iload dX9_nearest_60 rfl ?_
            refine g_bipush dX9_nearest_62 bp_16 ?_
            refine n_idiv dX9_nearest_64 (by omega) (by omega) (by omega) ?_
            refine g_v3 (M' := KR_isFit) dX9_nearest_65 l_R_89 v_KR_isFit (c_KR_isFit hW (by omega)) rc_84 rfl rfl ⟨rfl, rfl⟩ ?_
            refine b_if_eq (tgt := 79) dX9_nearest_68 rfl (fun zc68 => ?_) (fun zc68 => ?_)
            · refine n_iinc (b := 1) dX9_nearest_79 rfl rfl rfl ?_
              refine g_goto (tgt := 9) dX9_nearest_82 rfl ?_
              exact g_can _ (by exact ⟨rfl, rfl, rfl, rfl, rfl, rfl, rfl, trivial⟩) (ih9 (p + 1) _ _ (by omega) (by first | exact nrS_w hb zc43 zc50 | exact nrS_n hb zc68 | exact nrS_y hb (Or.inl zc43) zc68 | exact nrS_y hb (Or.inr (Int32.not_le.mp zc50)) zc68) (by omega))
            · refine g_iload dX9_nearest_71 rfl ?_
              refine g_istore dX9_nearest_73 rfl ?_
              refine g_iload dX9_nearest_75 rfl ?_
              refine g_istore dX9_nearest_77 rfl ?_
              refine n_iinc (b := 1) dX9_nearest_79 rfl rfl rfl ?_
              refine g_goto (tgt := 9) dX9_nearest_82 rfl ?_
              exact g_can _ (by exact ⟨rfl, rfl, rfl, rfl, rfl, rfl, rfl, trivial⟩) (ih9 (p + 1) _ _ (by omega) (by first | exact nrS_w hb zc43 zc50 | exact nrS_n hb zc68 | exact nrS_y hb (Or.inl zc43) zc68 | exact nrS_y hb (Or.inr (Int32.not_le.mp zc50)) zc68) (by omega))
  exact g_can _ (by exact ⟨rfl, rfl, rfl, rfl, rfl, rfl, rfl, trivial⟩) (H9 _ 0 _ _ (by omega) rfl (Nat.lt_succ_self _))
set_option maxRecDepth 100000 in
theorem c_KA_takeOffAll {σ : SI} {δ : SD} {B n : Nat} {a : Nat → Int32} (hB : LB B) (hL : HL σ B a n) {m : Nat} (hm : m < 256) (hn : ∀ k, m.testBit k = true → k < n) : E KA_takeOffAll [.ref 72, .ref B, .int (nI m)] (HH σ δ) (none) (HH (runS (fill (fill σ 74 (xK a n) 8) 75 (yK a n) 8) B (toL m 8)) δ) := by
  refine E.ofL [some (.ref 72), some (.ref B), some (.int (nI m))] rfl pn_RX2 rfl (fun sc => ?_)
  generalize hRz : (fun (zr : Option Value) (zk : XH) => zr = none ∧ zk = HH (runS (fill (fill σ 74 (xK a n) 8) 75 (yK a n) 8) B (toL m 8)) δ) = R
  refine g_iconst dX2_takeOffAll_0 ic_0 ?_
  refine g_istore_n dX2_takeOffAll_1 rfl ?_
  refine g_heap (show HH σ δ = HH (runS (fill (fill σ 74 (xK a n) 0) 75 (yK a n) 0) B (toL m 0)) δ by rw [fill_0, fill_0]; rfl) ?_
  have H2 : ∀ (N : Nat) (k : Nat), k ≤ 8 → 8 - k < N → G sc KA_takeOffAll 2 (aL [some (.ref 72), some (.ref B), some (.int (nI m)), some (.int (nI k))]) [] (HH (runS (fill (fill σ 74 (xK a n) k) 75 (yK a n) k) B (toL m k)) δ) (0, 0) R := by
    intro N
    induction N with
    | zero => intro k h1 hN2; exact absurd hN2 (Nat.not_lt_zero _)
    | succ N ih2 =>
      intro k h1 hN2
      have hlk : okL n (toL m k) := toL_ok hn k
      have hLk : HL (runS (fill (fill σ 74 (xK a n) k) 75 (yK a n) k) B (toL m k)) B (runA a (toL m k)) n := HL_run (HL_f2 hB hL) hlk
      have hLj : HL (uI (runS (fill (fill σ 74 (xK a n) k) 75 (yK a n) k) B (toL m k)) 74 k (xK a n k)) B (runA a (toL m k)) n := HL_u hB hLk (Or.inl rfl)
      have hLi : HL (runS (fill (fill σ 74 (xK a n) (k + 1)) 75 (yK a n) (k + 1)) B (toL m k)) B (runA a (toL m k)) n := HL_run (HL_f2 hB hL) hlk
      refine g_iload_n dX2_takeOffAll_2 rfl ?_
      refine g_bipush dX2_takeOffAll_3 bp_8 ?_
      refine n_icmp_ge (tgt := 52) (by omega) (by omega) dX2_takeOffAll_5 rfl (fun zc5 => ?_) (fun zc5 => ?_)
      · exact g_vret (S := []) dX2_takeOffAll_52 rfl (by rw [← hRz]; exact ⟨rfl, by obtain rfl : k = 8 := (by omega); rfl⟩) (Nat.zero_le _) (Nat.zero_le _)
      · refine g_aload_n dX2_takeOffAll_8 rfl ?_
        refine q_getq dX2_takeOffAll_9 f_A_15 ck_72 (by decide) ty_1_1 rf_72_1 ?_
        refine g_iload_n dX2_takeOffAll_12 rfl ?_
        refine g_aload_n dX2_takeOffAll_13 rfl ?_
        refine g_iload_n dX2_takeOffAll_14 rfl ?_
        refine g_v1 (M' := KL_xOf) dX2_takeOffAll_15 l_A_93 v_KL_xOf (c1_KL_xOf hB hLk (by omega)) (rcL hB) rfl rfl ⟨rfl, rfl⟩ ?_
        refine g_top xK_to ?_
        refine q_iast dX2_takeOffAll_18 ck_74 (ixD_nI (by omega) (by decide)) ?_
        refine g_aload_n dX2_takeOffAll_19 rfl ?_
        refine q_getq dX2_takeOffAll_20 f_A_18 ck_72 (by decide) ty_1_2 rf_72_2 ?_
        refine g_iload_n dX2_takeOffAll_23 rfl ?_
        refine g_aload_n dX2_takeOffAll_24 rfl ?_
        refine g_iload_n dX2_takeOffAll_25 rfl ?_
        refine g_v1 (M' := KL_yOf) dX2_takeOffAll_26 l_A_96 v_KL_yOf (c1_KL_yOf hB hLj (by omega)) (rcL hB) rfl rfl ⟨rfl, rfl⟩ ?_
        refine g_top yK_to ?_
        refine q_iast dX2_takeOffAll_29 ck_75 (ixD_nI (by omega) (by decide)) ?_
        refine g_heap (congrArg (fun z => HH z δ) (to_step hB)) ?_
        refine g_iload_n dX2_takeOffAll_30 rfl ?_
        refine g_iload_n dX2_takeOffAll_31 rfl ?_
        refine g_ishr dX2_takeOffAll_32 ?_
        refine g_iconst dX2_takeOffAll_33 ic_1 ?_
        refine g_iand dX2_takeOffAll_34 ?_
        refine g_top (bit_bI (m := m) (x := k) (by omega) (by omega)) ?_
        refine g_iconst dX2_takeOffAll_35 ic_1 ?_
        refine b1_icmp_ne (tgt := 46) dX2_takeOffAll_36 rfl (fun zc36 => ?_) (fun zc36 => ?_)
        · refine n_iinc (b := 1) dX2_takeOffAll_46 rfl rfl rfl ?_
          refine g_goto (tgt := 2) dX2_takeOffAll_49 rfl ?_
          refine g_heap (congrArg (fun z => HH (runS (fill (fill σ 74 (xK a n) (k + 1)) 75 (yK a n) (k + 1)) B z) δ) (show _ = toL m (k + 1) by first | exact (toL_n zc36).symm | exact (toL_y zc36).symm)) ?_
          exact g_can _ (by exact ⟨rfl, rfl, rfl, rfl, trivial⟩) (ih2 (k + 1) (by omega) (by omega))
        · refine g_aload_n dX2_takeOffAll_39 rfl ?_
          refine g_iload_n dX2_takeOffAll_40 rfl ?_
          refine g_iconst dX2_takeOffAll_41 ic_m1 ?_
          refine g_iconst dX2_takeOffAll_42 ic_m1 ?_
          refine g_v3n (M' := KL_put) dX2_takeOffAll_43 l_A_51 v_KL_put (c_KL_put_run hB hLi (hn k zc36)) (rcL hB) rfl rfl ⟨rfl, rfl⟩ ?_
          refine n_iinc (b := 1) dX2_takeOffAll_46 rfl rfl rfl ?_
          refine g_goto (tgt := 2) dX2_takeOffAll_49 rfl ?_
          refine g_heap (congrArg (fun z => HH (runS (fill (fill σ 74 (xK a n) (k + 1)) 75 (yK a n) (k + 1)) B z) δ) (show _ = toL m (k + 1) by first | exact (toL_n zc36).symm | exact (toL_y zc36).symm)) ?_
          exact g_can _ (by exact ⟨rfl, rfl, rfl, rfl, trivial⟩) (ih2 (k + 1) (by omega) (by omega))
  exact g_can _ (by exact ⟨rfl, rfl, rfl, rfl, trivial⟩) (H2 _ 0 (by omega) (Nat.lt_succ_self _))
set_option maxRecDepth 100000 in
theorem c_KA_tidy {σ : SI} {δ : SD} {B n : Nat} {a : Nat → Int32} (hB : LB B) (hL : HL σ B a n) {S m : Nat} (hSz : (stS a n 256).1 = S) (hMz : bitsN (mvP a S) n = m) : E KA_tidy [.ref 72, .ref B] (HH σ δ) (some (.int (nI (cnt8 S)))) (HH (runS (fill (fill (fill σ 73 (fun i => nI (bitsN (clP a n i) 8)) 8) 74 (xK a n) 8) 75 (yK a n) 8) B (tdL a n m 6)) δ) := by
  have hLc : HL (fill σ 73 (fun i => nI (bitsN (clP a n i) 8)) 8) B a n := HL_cl8 hB hL
  have hL8 := hL.wf.n8
  have hS : S < 256 := by rw [← hSz]; exact stS_256 hL.wf
  have hM : m < 256 := by rw [← hMz]; exact Nat.lt_of_lt_of_le (bitsN_lt n) (Nat.pow_le_pow_right (by decide) hL8)
  have hLt : HL (fill (fill (fill σ 73 (fun i => nI (bitsN (clP a n i) 8)) 8) 74 (xK a n) 8) 75 (yK a n) 8) B a n := HL_f2 hB hLc
  have hn : ∀ k, m.testBit k = true → k < n := by rw [← hMz]; exact mv_n
  have hto : okL n (toL m 8) := toL_ok hn 8
  refine E.ofL [some (.ref 72), some (.ref B)] rfl pn_RX2 rfl (fun sc => ?_)
  generalize hRz : (fun (zr : Option Value) (zk : XH) => zr = some (.int (nI (cnt8 S))) ∧ zk = HH (runS (fill (fill (fill σ 73 (fun i => nI (bitsN (clP a n i) 8)) 8) 74 (xK a n) 8) 75 (yK a n) 8) B (tdL a n m 6)) δ) = R
  refine g_aload_n dX2_tidy_0 rfl ?_
  refine g_aload_n dX2_tidy_1 rfl ?_
  refine g_v1 (M' := KA_staying) dX2_tidy_2 l_A_73 v_KA_staying (c_KA_staying hB hL) rc_72 rfl rfl ⟨rfl, rfl⟩ ?_
  refine g_top (show nI (stS a n 256).1 = nI S by rw [hSz]) ?_
  refine g_istore_n dX2_tidy_5 rfl ?_
  refine g_aload_n dX2_tidy_6 rfl ?_
  refine g_v0 (M' := KL_lyingBits) dX2_tidy_7 l_A_77 v_KL_lyingBits (c_KL_lyingBits hB hLc.wf hLc.rb) (rcL hB) rfl rfl ⟨rfl, rfl⟩ ?_
  refine g_iload_n dX2_tidy_10 rfl ?_
  refine g_iconst dX2_tidy_11 ic_m1 ?_
  refine g_ixor dX2_tidy_12 ?_
  refine g_iand dX2_tidy_13 ?_
  refine g_top (show _ = nI m by rw [← hMz]; exact mv_eq) ?_
  refine g_istore_n dX2_tidy_14 rfl ?_
  refine g_aload_n dX2_tidy_15 rfl ?_
  refine g_aload_n dX2_tidy_16 rfl ?_
  refine g_iload_n dX2_tidy_17 rfl ?_
  refine g_v2n (M' := KA_takeOffAll) dX2_tidy_18 l_A_80 v_KA_takeOffAll (c_KA_takeOffAll hB hLc hM hn) rc_72 rfl rfl ⟨rfl, rfl⟩ ?_
  refine g_iconst dX2_tidy_21 ic_1 ?_
  refine g_istore dX2_tidy_22 rfl ?_
  have H24 : ∀ (N : Nat) (r : Nat) (L2 : List (Nat × Int32 × Int32)), 1 ≤ r → r ≤ 7 → L2 = tdL a n m (r - 1) → 7 - r < N → G sc KA_tidy 24 (aL [some (.ref 72), some (.ref B), some (.int (nI S)), some (.int (nI m)), some (.int (nI r))]) [] (HH (runS (fill (fill (fill σ 73 (fun i => nI (bitsN (clP a n i) 8)) 8) 74 (xK a n) 8) 75 (yK a n) 8) B L2) δ) (0, 0) R := by
    intro N
    induction N with
    | zero => intro r L2 h3 h4 hb2 hN24; exact absurd hN24 (Nat.not_lt_zero _)
    | succ N ih24 =>
      intro r L2 h3 h4 hb2 hN24
      have hl2 : okL n L2 := by rw [hb2]; exact tdL_ok hn _
      refine g_iload dX2_tidy_24 rfl ?_
      refine g_bipush dX2_tidy_26 bp_6 ?_
      refine n_icmp_gt (tgt := 102) (by omega) (by omega) dX2_tidy_28 rfl (fun zc28 => ?_) (fun zc28 => ?_)
      · obtain rfl : L2 = tdL a n m 6 := by rw [hb2, show r - 1 = 6 by omega]
        refine g_iload_n dX2_tidy_102 rfl ?_
        refine g_s1 (M' := KJ_bitCount) dX2_tidy_103 l_A_87 s_KJ_bitCount c_KJ_bitCount rfl rfl ⟨rfl, rfl⟩ ?_
        refine g_top (show _ = nI (cnt8 S) from bc_all S hS) ?_
        exact g_iret (S := []) dX2_tidy_106 rfl (by rw [← hRz]; exact ⟨congrArg (fun zz => some (Value.int zz)) (show _ = _ by rfl), by rfl⟩) (Nat.zero_le _) (Nat.zero_le _)
      · refine g_iconst dX2_tidy_31 ic_0 ?_
        refine g_istore dX2_tidy_32 rfl ?_
        have H34 : ∀ (N : Nat) (k : Nat) (L1 : List (Nat × Int32 × Int32)), k ≤ 8 → L1 = tdR a n m r L2 k → 8 - k < N → G sc KA_tidy 34 (aL [some (.ref 72), some (.ref B), some (.int (nI S)), some (.int (nI m)), some (.int (nI r)), some (.int (nI k))]) [] (HH (runS (fill (fill (fill σ 73 (fun i => nI (bitsN (clP a n i) 8)) 8) 74 (xK a n) 8) 75 (yK a n) 8) B L1) δ) (0, 0) R := by
          intro N
          induction N with
          | zero => intro k L1 h5 hb1 hN34; exact absurd hN34 (Nat.not_lt_zero _)
          | succ N ih34 =>
            intro k L1 h5 hb1 hN34
            have hl1 : okL n L1 := by rw [hb1]; exact tdR_ok hn hl2 k
            refine g_iload dX2_tidy_34 rfl ?_
            refine g_bipush dX2_tidy_36 bp_8 ?_
            refine n_icmp_ge (tgt := 96) (by omega) (by omega) dX2_tidy_38 rfl (fun zc38 => ?_) (fun zc38 => ?_)
            · refine n_iinc (b := 1) dX2_tidy_96 rfl rfl rfl ?_
              refine g_goto (tgt := 24) dX2_tidy_99 rfl ?_
              exact g_can _ (by exact ⟨rfl, rfl, rfl, rfl, rfl, trivial⟩) (ih24 (r + 1) _ (by omega) (by omega) (by rw [hb1, show k = 8 by omega, hb2]; exact tdL_s h3) (by omega))
            · refine g_iload_n dX2_tidy_41 rfl ?_
              refine g_iload dX2_tidy_42 rfl ?_
              refine g_ishr dX2_tidy_44 ?_
              refine g_iconst dX2_tidy_45 ic_1 ?_
              refine g_iand dX2_tidy_46 ?_
              refine g_top (bit_bI (m := m) (x := k) (by omega) (by omega)) ?_
              refine g_iconst dX2_tidy_47 ic_1 ?_
              refine b1_icmp_ne (tgt := 90) dX2_tidy_48 rfl (fun zc48 => ?_) (fun zc48 => ?_)
              · refine n_iinc (b := 1) dX2_tidy_90 rfl rfl rfl ?_
                refine g_goto (tgt := 34) dX2_tidy_93 rfl ?_
                exact g_can _ (by exact ⟨rfl, rfl, rfl, rfl, rfl, rfl, trivial⟩) (ih34 (k + 1) _ (by omega) (by rw [hb1]; first | (have zq := tdR_m (a := a) (n := n) (r := r) (L := L2) zc48; exact zq.symm) | (rw [hb1] at zc60; have zq := tdR_r zc60; exact zq.symm) | (rw [hb1] at zc60 hz; have zq := tdR_y zc48 zc60; rw [hz] at zq; exact zq.symm)) (by omega))
              · refine g_aload_n dX2_tidy_51 rfl ?_
                refine g_iload dX2_tidy_52 rfl ?_
                refine g_iconst dX2_tidy_54 ic_1 ?_
                refine g_v2 (M' := KL_trait) dX2_tidy_55 l_A_58 v_KL_trait (c_KL_trait hB (HL_run hLt hl1).wf (HL_run hLt hl1).rb (hn k zc48) (by decide)) (rcL hB) rfl rfl ⟨rfl, rfl⟩ ?_
                refine g_iload dX2_tidy_58 rfl ?_
                refine g_icmp_ne (tgt := 90) dX2_tidy_60 rfl (fun zc60 => ?_) (fun zc60 => ?_)
                · refine n_iinc (b := 1) dX2_tidy_90 rfl rfl rfl ?_
                  refine g_goto (tgt := 34) dX2_tidy_93 rfl ?_
                  exact g_can _ (by exact ⟨rfl, rfl, rfl, rfl, rfl, rfl, trivial⟩) (ih34 (k + 1) _ (by omega) (by rw [hb1]; first | (have zq := tdR_m (a := a) (n := n) (r := r) (L := L2) zc48; exact zq.symm) | (rw [hb1] at zc60; have zq := tdR_r zc60; exact zq.symm) | (rw [hb1] at zc60 hz; have zq := tdR_y zc48 zc60; rw [hz] at zq; exact zq.symm)) (by omega))
                · refine g_aload_n dX2_tidy_63 rfl ?_
                  refine g_iload dX2_tidy_64 rfl ?_
                  refine g_aload_n dX2_tidy_66 rfl ?_
                  refine g_aload_n dX2_tidy_67 rfl ?_
                  refine g_iload dX2_tidy_68 rfl ?_
                  refine g_aload_n dX2_tidy_70 rfl ?_
                  refine q_getq dX2_tidy_71 f_A_15 ck_72 (by decide) ty_1_1 rf_72_1 ?_
                  refine g_iload dX2_tidy_74 rfl ?_
                  refine q_iald dX2_tidy_76 ck_74 (ixD_nI (by omega) (by decide)) ?_
                  refine g_top (show _ = xK a n k by rw [runS_ne (by have := LB_le hB; omega) (by have := LB_le hB; omega)]; exact t8_x (by omega)) ?_
                  refine g_aload_n dX2_tidy_77 rfl ?_
                  refine q_getq dX2_tidy_78 f_A_18 ck_72 (by decide) ty_1_2 rf_72_2 ?_
                  refine g_iload dX2_tidy_81 rfl ?_
                  refine q_iald dX2_tidy_83 ck_75 (ixD_nI (by omega) (by decide)) ?_
                  refine g_top (show _ = yK a n k by rw [runS_ne (by have := LB_le hB; omega) (by have := LB_le hB; omega)]; exact t8_y (by omega)) ?_
                  refine g_v4 (M' := KA_nearest) dX2_tidy_84 l_A_83 v_KA_nearest (c_KA_nearest hB (HL_run hLt hl1).wf (HL_run hLt hl1).rb (HL_run hLt hl1).rd (hn k zc48)) rc_72 rfl rfl ⟨rfl, rfl⟩ ?_
                  have hv := nrS_pl (f := fitP (runA a L1) n k) (d := nrD (xK a n k) (yK a n k))
                  generalize hz : (nrS (fitP (runA a L1) n k) (nrD (xK a n k) (yK a n k)) 256).1 = v at hv ⊢
                  refine g_s3n (M' := KA_putAt) dX2_tidy_87 l_A_65 s_KA_putAt (c_KA_putAt hB (HL_run hLt hl1) (hn k zc48) hv) rfl rfl ⟨rfl, rfl⟩ ?_
                  refine n_iinc (b := 1) dX2_tidy_90 rfl rfl rfl ?_
                  refine g_goto (tgt := 34) dX2_tidy_93 rfl ?_
                  exact g_can _ (by exact ⟨rfl, rfl, rfl, rfl, rfl, rfl, trivial⟩) (ih34 (k + 1) _ (by omega) (by rw [hb1]; first | (have zq := tdR_m (a := a) (n := n) (r := r) (L := L2) zc48; exact zq.symm) | (rw [hb1] at zc60; have zq := tdR_r zc60; exact zq.symm) | (rw [hb1] at zc60 hz; have zq := tdR_y zc48 zc60; rw [hz] at zq; exact zq.symm)) (by omega))
        exact g_can _ (by exact ⟨rfl, rfl, rfl, rfl, rfl, rfl, trivial⟩) (H34 _ 0 L2 (by omega) rfl (Nat.lt_succ_self _))
  exact g_can _ (by exact ⟨rfl, rfl, rfl, rfl, rfl, trivial⟩) (H24 _ 1 _ (by omega) (by omega) rfl (Nat.lt_succ_self _))
set_option maxRecDepth 100000 in
theorem c_KP_tidies {σ : SI} {δ : SD} {a : Nat → Int32} {n s o tl : Nat} {P : Nat → Nat → Int32} {tx rf : Nat → Int32} (hI : IC σ a n s o P tl tx rf) : E KP_tidies [.ref 5] (HH σ δ) (some (.int (nI (cnt8 (stS a n 256).1)))) (HH (runS (fill (fill (fill (sPush σ s o) 73 (fun i => nI (bitsN (clP a n i) 8)) 8) 74 (xK a n) 8) 75 (yK a n) 8) 6 (tdL a n (bitsN (mvP a (stS a n 256).1) n) 6)) δ) := by
  have hI1 := hI.push
  refine E.ofL [some (.ref 5)] rfl pn_RX8 rfl (fun sc => ?_)
  refine g_aload_n dX8_tidies_0 rfl ?_
  refine q_getq dX8_tidies_1 f_P_22 ck_5 (by decide) ty_7_2 rf_5_2 ?_
  refine g_aload_n dX8_tidies_4 rfl ?_
  refine q_getq dX8_tidies_5 f_P_12 ck_5 (by decide) ty_7_0 rf_5_0 ?_
  refine g_v1n (M' := KQ_push) dX8_tidies_8 l_P_152 v_KQ_push (c_KQ_push hI) rc_24 rfl rfl ⟨rfl, rfl⟩ ?_
  refine g_aload_n dX8_tidies_11 rfl ?_
  refine q_getq dX8_tidies_12 f_P_36 ck_5 (by decide) ty_7_3 rf_5_3 ?_
  refine g_aload_n dX8_tidies_15 rfl ?_
  refine q_getq dX8_tidies_16 f_P_12 ck_5 (by decide) ty_7_0 rf_5_0 ?_
  refine g_v1 (M' := KA_tidy) dX8_tidies_19 l_P_160 v_KA_tidy (c_KA_tidy LB_6 hI1.hl rfl rfl) rc_72 rfl rfl ⟨rfl, rfl⟩ ?_
  exact e_iret dX8_tidies_22 rfl (by rfl) (by rfl)
set_option maxRecDepth 100000 in
theorem c_KR_tidies {σ : SI} {δ : SD} {a : Nat → Int32} {n s tl : Nat} {P : Nat → Nat → Int32} {tx rf : Nat → Int32} (hJ : IR σ a s P tl tx rf) (hs : s ≤ 5) (hW : WF a n) {S m : Nat} (hSz : (stS (σ 85) n 256).1 = S) (hMz : bitsN (mvP (σ 85) S) n = m) : E KR_tidies [.ref 84] (HH σ δ) (some (.int (nI (cnt8 S)))) (HH (runM (fill (sKeep σ s) 89 (elF (σ 85) S) n) (tdL (σ 85) n m 6)) δ) := by
  obtain rfl := hJ.row
  have h3 := hJ.sd
  have hJ1 := hJ.keep hs
  have hn := hW.n8
  have h7 := hW.a7
  have hW1 : WF (sKeep σ s 85) n := by rw [hJ1.row]; exact hW
  have hS2 : S < 256 := by rw [← hSz]; exact stS_256 hW
  have hn2 : ∀ k, m.testBit k = true → k < n := by rw [← hMz]; exact mv_n
  have hmv : ∀ k, k < n → m.testBit k = mvP (σ 85) S k := fun k hk => by rw [← hMz]; exact mv_b hk
  have hrow : sKeep σ s 85 = σ 85 := hJ1.row
  refine E.ofL [some (.ref 84)] rfl pn_RX9 rfl (fun sc => ?_)
  generalize hRz : (fun (zr : Option Value) (zk : XH) => zr = some (.int (nI (cnt8 S))) ∧ zk = HH (runM (fill (sKeep σ s) 89 (elF (σ 85) S) n) (tdL (σ 85) n m 6)) δ) = R
  refine g_aload_n dX9_tidies_0 rfl ?_
  refine g_v0 (M' := KR_staying) dX9_tidies_1 l_R_212 v_KR_staying (c_KR_staying hW) rc_84 rfl rfl ⟨rfl, rfl⟩ ?_
  refine g_top (show nI (stS (σ 85) n 256).1 = nI S by rw [hSz]) ?_
  refine g_istore_n dX9_tidies_4 rfl ?_
  refine g_aload_n dX9_tidies_5 rfl ?_
  refine g_v0n (M' := KR_keep) dX9_tidies_6 l_R_111 v_KR_keep (c_KR_keep hs h3) rc_84 rfl rfl ⟨rfl, rfl⟩ ?_
  refine g_iconst dX9_tidies_9 ic_0 ?_
  refine g_istore_n dX9_tidies_10 rfl ?_
  refine g_heap (show HH (sKeep σ s) δ = HH (runM (fill (sKeep σ s) 89 (elF (σ 85) S) 0) (toL m 0)) δ by rw [fill_0]; rfl) ?_
  have H11 : ∀ (N : Nat) (k : Nat), k ≤ n → okL n (toL m k) → n - k < N → G sc KR_tidies 11 (aL [some (.ref 84), some (.int (nI S)), some (.int (nI k))]) [] (HH (runM (fill (sKeep σ s) 89 (elF (σ 85) S) k) (toL m k)) δ) (0, 0) R := by
    intro N
    induction N with
    | zero => intro k h1 hl hN11; exact absurd hN11 (Nat.not_lt_zero _)
    | succ N ih11 =>
      intro k h1 hl hN11
      refine g_iload_n dX9_tidies_11 rfl ?_
      refine g_aload_n dX9_tidies_12 rfl ?_
      refine g_v0 (M' := KR_many) dX9_tidies_13 l_R_42 v_KR_many c_KR_many rc_84 rfl rfl ⟨rfl, rfl⟩ ?_
      refine g_top (show _ = nI n from (WF_f hW hrow hl).a7) ?_
      refine n_icmp_ge (tgt := 76) (by omega) (by omega) dX9_tidies_16 rfl (fun zc16 => ?_) (fun zc16 => ?_)
      · refine g_heap (show HH (runM (fill (sKeep σ s) 89 (elF (σ 85) S) k) (toL m k)) δ = HH (runM (fill (sKeep σ s) 89 (elF (σ 85) S) n) (toL m n)) δ by rw [show k = n by omega]) ?_
        refine g_iconst dX9_tidies_76 ic_1 ?_
        refine g_istore_n dX9_tidies_77 rfl ?_
        have H78 : ∀ (N : Nat) (r : Nat) (L2 : List (Nat × Int32 × Int32)), 1 ≤ r → r ≤ 7 → L2 = tdL (σ 85) n m (r - 1) → 7 - r < N → G sc KR_tidies 78 (aL [some (.ref 84), some (.int (nI S)), some (.int (nI r))]) [] (HH (runM (fill (sKeep σ s) 89 (elF (σ 85) S) n) L2) δ) (0, 0) R := by
          intro N
          induction N with
          | zero => intro r L2 h3 h4 hb2 hN78; exact absurd hN78 (Nat.not_lt_zero _)
          | succ N ih78 =>
            intro r L2 h3 h4 hb2 hN78
            have hl2 : okL n L2 := by rw [hb2]; exact tdL_ok hn2 _
            refine g_iload_n dX9_tidies_78 rfl ?_
            refine g_bipush dX9_tidies_79 bp_6 ?_
            refine n_icmp_gt (tgt := 190) (by omega) (by omega) dX9_tidies_81 rfl (fun zc81 => ?_) (fun zc81 => ?_)
            · obtain rfl : L2 = tdL (σ 85) n m 6 := by rw [hb2, show r - 1 = 6 by omega]
              refine g_iload_n dX9_tidies_190 rfl ?_
              refine g_s1 (M' := KR_size) dX9_tidies_191 l_R_209 s_KR_size (c_KR_size (by omega)) rfl rfl ⟨rfl, rfl⟩ ?_
              exact g_iret (S := []) dX9_tidies_194 rfl (by rw [← hRz]; exact ⟨congrArg (fun zz => some (Value.int zz)) (show _ = _ by rfl), by rfl⟩) (Nat.zero_le _) (Nat.zero_le _)
            · refine g_iconst dX9_tidies_84 ic_0 ?_
              refine g_istore_n dX9_tidies_85 rfl ?_
              have H86 : ∀ (N : Nat) (k : Nat) (L1 : List (Nat × Int32 × Int32)), k ≤ n → L1 = tdR (σ 85) n m r L2 k → n - k < N → G sc KR_tidies 86 (aL [some (.ref 84), some (.int (nI S)), some (.int (nI r)), some (.int (nI k))]) [] (HH (runM (fill (sKeep σ s) 89 (elF (σ 85) S) n) L1) δ) (0, 0) R := by
                intro N
                induction N with
                | zero => intro k L1 h5 hb1 hN86; exact absurd hN86 (Nat.not_lt_zero _)
                | succ N ih86 =>
                  intro k L1 h5 hb1 hN86
                  have hl1 : okL n L1 := by rw [hb1]; exact tdR_ok hn2 hl2 k
                  refine g_iload_n dX9_tidies_86 rfl ?_
                  refine g_aload_n dX9_tidies_87 rfl ?_
                  refine g_v0 (M' := KR_many) dX9_tidies_88 l_R_42 v_KR_many c_KR_many rc_84 rfl rfl ⟨rfl, rfl⟩ ?_
                  refine g_top (show _ = nI n from (WF_f hW hrow hl1).a7) ?_
                  refine n_icmp_ge (tgt := 184) (by omega) (by omega) dX9_tidies_91 rfl (fun zc91 => ?_) (fun zc91 => ?_)
                  · refine n_iinc (b := 1) dX9_tidies_184 rfl rfl rfl ?_
                    refine g_goto (tgt := 78) dX9_tidies_187 rfl ?_
                    exact g_can _ (by exact ⟨rfl, rfl, rfl, trivial⟩) (ih78 (r + 1) _ (by omega) (by omega) (by rw [hb1, show k = n by omega, hb2]; exact (tdR_8 hn hn2).trans (tdL_s h3)) (by omega))
                  · have hk5 : k < n := by omega
                    refine g_aload_n dX9_tidies_94 rfl ?_
                    refine g_iload_n dX9_tidies_95 rfl ?_
                    refine g_iconst dX9_tidies_96 ic_1 ?_
                    refine g_v2 (M' := KR_its) dX9_tidies_97 l_R_50 v_KR_its (c_KR_its (by omega) (by decide)) rc_84 rfl rfl ⟨rfl, rfl⟩ ?_
                    refine g_top (show _ = its (runA (σ 85) L1) k 1 by rw [ef_2 hrow]) ?_
                    refine g_iload_n dX9_tidies_100 rfl ?_
                    refine g_icmp_ne (tgt := 118) dX9_tidies_101 rfl (fun zc101 => ?_) (fun zc101 => ?_)
                    · refine g_iconst dX9_tidies_118 ic_0 ?_
                      refine g_istore dX9_tidies_119 rfl ?_
                      refine g_iload dX9_tidies_121 rfl ?_
                      refine n_if_eq (tgt := 152) (by omega) dX9_tidies_123 rfl (fun _ => ?_) (fun zc123 => absurd zc123 (by decide))
                      refine g_iconst dX9_tidies_152 ic_m1 ?_
                      refine g_top rfl ?_
                      refine g_istore dX9_tidies_153 rfl ?_
                      refine g_iload dX9_tidies_155 rfl ?_
                      refine g_iconst dX9_tidies_157 ic_m1 ?_
                      refine g_icmp_eq (tgt := 178) dX9_tidies_158 rfl (fun zc158 => ?_) (fun zc158 => ?_)
                      · refine n_iinc (b := 1) dX9_tidies_178 rfl rfl rfl ?_
                        refine g_goto (tgt := 86) dX9_tidies_181 rfl ?_
                        exact g_can _ (by exact ⟨rfl, rfl, rfl, rfl, trivial⟩) (ih86 (k + 1) _ (by omega) (by rw [hb1]; rw [hb1] at zc101; first | (have zq := tdR_r zc101; exact zq.symm) | (have zq := tdR_m (a := σ 85) (n := n) (r := r) (L := L2) (show m.testBit k = false by rw [hmv k hk5]; exact el_mv hW hk5 zc111); exact zq.symm) | (rw [hb1, zc158] at hz; have zq := tdR_y0 (show m.testBit k = true by rw [hmv k hk5]; exact el_mw zc111) zc101 hz; exact zq.symm) | (rw [hb1, ep] at hz; have zq := tdR_y1 (show m.testBit k = true by rw [hmv k hk5]; exact el_mw zc111) zc101 hz hp; exact zq.symm)) (by omega))
                      · exact absurd rfl zc158
                    · refine g_aload_n dX9_tidies_104 rfl ?_
                      refine q_getq dX9_tidies_105 f_R_22 ck_84 (by decide) ty_8_5 rf_84_5 ?_
                      refine g_iload_n dX9_tidies_108 rfl ?_
                      refine q_iald dX9_tidies_109 ck_89 (ixD_nI (by omega) (by decide)) ?_
                      refine g_top (show _ = elF (σ 85) S k from el_r hk5) ?_
                      refine g_iconst dX9_tidies_110 ic_m1 ?_
                      refine g_icmp_eq (tgt := 118) dX9_tidies_111 rfl (fun zc111 => ?_) (fun zc111 => ?_)
                      · refine g_iconst dX9_tidies_118 ic_0 ?_
                        refine g_istore dX9_tidies_119 rfl ?_
                        refine g_iload dX9_tidies_121 rfl ?_
                        refine n_if_eq (tgt := 152) (by omega) dX9_tidies_123 rfl (fun _ => ?_) (fun zc123 => absurd zc123 (by decide))
                        refine g_iconst dX9_tidies_152 ic_m1 ?_
                        refine g_top rfl ?_
                        refine g_istore dX9_tidies_153 rfl ?_
                        refine g_iload dX9_tidies_155 rfl ?_
                        refine g_iconst dX9_tidies_157 ic_m1 ?_
                        refine g_icmp_eq (tgt := 178) dX9_tidies_158 rfl (fun zc158 => ?_) (fun zc158 => ?_)
                        · refine n_iinc (b := 1) dX9_tidies_178 rfl rfl rfl ?_
                          refine g_goto (tgt := 86) dX9_tidies_181 rfl ?_
                          exact g_can _ (by exact ⟨rfl, rfl, rfl, rfl, trivial⟩) (ih86 (k + 1) _ (by omega) (by rw [hb1]; rw [hb1] at zc101; first | (have zq := tdR_r zc101; exact zq.symm) | (have zq := tdR_m (a := σ 85) (n := n) (r := r) (L := L2) (show m.testBit k = false by rw [hmv k hk5]; exact el_mv hW hk5 zc111); exact zq.symm) | (rw [hb1, zc158] at hz; have zq := tdR_y0 (show m.testBit k = true by rw [hmv k hk5]; exact el_mw zc111) zc101 hz; exact zq.symm) | (rw [hb1, ep] at hz; have zq := tdR_y1 (show m.testBit k = true by rw [hmv k hk5]; exact el_mw zc111) zc101 hz hp; exact zq.symm)) (by omega))
                        · exact absurd rfl zc158
                      · obtain ⟨e1, he0, he1, he2, he3⟩ := el_get hW hk5 zc111
                        refine g_iconst dX9_tidies_114 ic_1 ?_
                        refine g_goto (tgt := 119) dX9_tidies_115 rfl ?_
                        refine g_istore dX9_tidies_119 rfl ?_
                        refine g_iload dX9_tidies_121 rfl ?_
                        refine n_if_eq (tgt := 152) (by omega) dX9_tidies_123 rfl (fun zc123 => absurd zc123 (by decide)) (fun _ => ?_)
                        refine g_aload_n dX9_tidies_126 rfl ?_
                        refine g_iload_n dX9_tidies_127 rfl ?_
                        refine g_aload_n dX9_tidies_128 rfl ?_
                        refine q_getq dX9_tidies_129 f_R_22 ck_84 (by decide) ty_8_5 rf_84_5 ?_
                        refine g_iload_n dX9_tidies_132 rfl ?_
                        refine q_iald dX9_tidies_133 ck_89 (ixD_nI (by omega) (by decide)) ?_
                        refine g_top (show _ = nI e1 from (el_r hk5).trans he1) ?_
                        refine g_bipush dX9_tidies_134 bp_16 ?_
                        refine n_irem dX9_tidies_136 (by omega) (by omega) (by omega) ?_
                        refine g_aload_n dX9_tidies_137 rfl ?_
                        refine q_getq dX9_tidies_138 f_R_22 ck_84 (by decide) ty_8_5 rf_84_5 ?_
                        refine g_iload_n dX9_tidies_141 rfl ?_
                        refine q_iald dX9_tidies_142 ck_89 (ixD_nI (by omega) (by decide)) ?_
                        refine g_top (show _ = nI e1 from (el_r hk5).trans he1) ?_
                        refine g_bipush dX9_tidies_143 bp_16 ?_
                        refine n_idiv dX9_tidies_145 (by omega) (by omega) (by omega) ?_
                        refine g_v3 (M' := KR_nearest) dX9_tidies_146 l_R_218 v_KR_nearest (c_KR_nearest (WF_f hW hrow hl1) hk5 (by omega)) rc_84 rfl rfl ⟨rfl, rfl⟩ ?_
                        refine g_top (show _ = (nrS (fitP (runA (σ 85) L1) n k) (nrD (xK (σ 85) n k) (yK (σ 85) n k)) 256).1 by rw [ef_2 hrow, he2, he3]) ?_
                        have hv := nrS_pl (f := fitP (runA (σ 85) L1) n k) (d := nrD (xK (σ 85) n k) (yK (σ 85) n k))
                        generalize hz : (nrS (fitP (runA (σ 85) L1) n k) (nrD (xK (σ 85) n k) (yK (σ 85) n k)) 256).1 = v at hv ⊢
                        refine g_goto (tgt := 153) dX9_tidies_149 rfl ?_
                        refine g_istore dX9_tidies_153 rfl ?_
                        refine g_iload dX9_tidies_155 rfl ?_
                        refine g_iconst dX9_tidies_157 ic_m1 ?_
                        refine g_icmp_eq (tgt := 178) dX9_tidies_158 rfl (fun zc158 => ?_) (fun zc158 => ?_)
                        · refine n_iinc (b := 1) dX9_tidies_178 rfl rfl rfl ?_
                          refine g_goto (tgt := 86) dX9_tidies_181 rfl ?_
                          exact g_can _ (by exact ⟨rfl, rfl, rfl, rfl, trivial⟩) (ih86 (k + 1) _ (by omega) (by rw [hb1]; rw [hb1] at zc101; first | (have zq := tdR_r zc101; exact zq.symm) | (have zq := tdR_m (a := σ 85) (n := n) (r := r) (L := L2) (show m.testBit k = false by rw [hmv k hk5]; exact el_mv hW hk5 zc111); exact zq.symm) | (rw [hb1, zc158] at hz; have zq := tdR_y0 (show m.testBit k = true by rw [hmv k hk5]; exact el_mw zc111) zc101 hz; exact zq.symm) | (rw [hb1, ep] at hz; have zq := tdR_y1 (show m.testBit k = true by rw [hmv k hk5]; exact el_mw zc111) zc101 hz hp; exact zq.symm)) (by omega))
                        · obtain ⟨p, hp, -, ep⟩ := plI_get hv zc158
                          refine g_aload_n dX9_tidies_161 rfl ?_
                          refine g_iload_n dX9_tidies_162 rfl ?_
                          refine g_iload dX9_tidies_163 rfl ?_
                          refine g_top ep ?_
                          refine g_bipush dX9_tidies_165 bp_16 ?_
                          refine n_irem dX9_tidies_167 (by omega) (by omega) (by omega) ?_
                          refine g_iload dX9_tidies_168 rfl ?_
                          refine g_top ep ?_
                          refine g_bipush dX9_tidies_170 bp_16 ?_
                          refine n_idiv dX9_tidies_172 (by omega) (by omega) (by omega) ?_
                          refine g_v3 (M' := KR_layNow) dX9_tidies_173 l_R_172 v_KR_layNow (c_KR_layNow_run (by omega)) rc_84 rfl rfl ⟨rfl, rfl⟩ ?_
                          refine g_istore dX9_tidies_176 rfl ?_
                          refine n_iinc (b := 1) dX9_tidies_178 rfl rfl rfl ?_
                          refine g_goto (tgt := 86) dX9_tidies_181 rfl ?_
                          exact g_can _ (by exact ⟨rfl, rfl, rfl, rfl, trivial⟩) (ih86 (k + 1) _ (by omega) (by rw [hb1]; rw [hb1] at zc101; first | (have zq := tdR_r zc101; exact zq.symm) | (have zq := tdR_m (a := σ 85) (n := n) (r := r) (L := L2) (show m.testBit k = false by rw [hmv k hk5]; exact el_mv hW hk5 zc111); exact zq.symm) | (rw [hb1, zc158] at hz; have zq := tdR_y0 (show m.testBit k = true by rw [hmv k hk5]; exact el_mw zc111) zc101 hz; exact zq.symm) | (rw [hb1, ep] at hz; have zq := tdR_y1 (show m.testBit k = true by rw [hmv k hk5]; exact el_mw zc111) zc101 hz hp; exact zq.symm)) (by omega))
              exact g_can _ (by exact ⟨rfl, rfl, rfl, rfl, trivial⟩) (H86 _ 0 L2 (by omega) rfl (Nat.lt_succ_self _))
        exact g_can _ (by exact ⟨rfl, rfl, rfl, trivial⟩) (H78 _ 1 _ (by omega) (by omega) (toL_8 hn hn2) (Nat.lt_succ_self _))
      · have hk : k < n := by omega
        refine g_aload_n dX9_tidies_19 rfl ?_
        refine q_getq dX9_tidies_20 f_R_22 ck_84 (by decide) ty_8_5 rf_84_5 ?_
        refine g_iload_n dX9_tidies_23 rfl ?_
        refine g_iconst dX9_tidies_24 ic_m1 ?_
        refine q_iast dX9_tidies_25 ck_89 (ixD_nI (by omega) (by decide)) ?_
        refine g_heap (congrArg (fun z => HH z δ) te_0) ?_
        refine g_aload_n dX9_tidies_26 rfl ?_
        refine g_iload_n dX9_tidies_27 rfl ?_
        refine g_v1 (M' := KR_lies) dX9_tidies_28 l_R_82 v_KR_lies (c_KR_lies (by omega)) rc_84 rfl rfl ⟨rfl, rfl⟩ ?_
        refine g_top (show _ = bI (liesA (σ 85) k) by rw [ef_1 hrow, li_to]) ?_
        refine b_if_eq (tgt := 70) dX9_tidies_31 rfl (fun zc31 => ?_) (fun zc31 => ?_)
        · refine n_iinc (b := 1) dX9_tidies_70 rfl rfl rfl ?_
          refine g_goto (tgt := 11) dX9_tidies_73 rfl ?_
          refine g_heap (congrArg (fun z => HH z δ) (show _ = runM (fill (sKeep σ s) 89 (elF (σ 85) S) (k + 1)) (toL m (k + 1)) by first | exact te_n (by rw [hmv k hk]; exact mv_f1 zc31) (elF_n (mv_f1 zc31)) | exact te_n (by rw [hmv k hk]; exact mv_f2 zc39) (elF_n (mv_f2 zc39)) | exact te_y (by rw [hmv k hk]; exact mv_t zc31 zc39))) ?_
          exact g_can _ (by exact ⟨rfl, rfl, rfl, trivial⟩) (ih11 (k + 1) (by omega) (toL_ok hn2 (k + 1)) (by omega))
        · refine g_iload_n dX9_tidies_34 rfl ?_
          refine g_iload_n dX9_tidies_35 rfl ?_
          refine g_ishr dX9_tidies_36 ?_
          refine g_iconst dX9_tidies_37 ic_1 ?_
          refine g_iand dX9_tidies_38 ?_
          refine g_top (bit_bI (m := S) (x := k) (by omega) (by omega)) ?_
          refine b_if_ne (tgt := 70) dX9_tidies_39 rfl (fun zc39 => ?_) (fun zc39 => ?_)
          · refine n_iinc (b := 1) dX9_tidies_70 rfl rfl rfl ?_
            refine g_goto (tgt := 11) dX9_tidies_73 rfl ?_
            refine g_heap (congrArg (fun z => HH z δ) (show _ = runM (fill (sKeep σ s) 89 (elF (σ 85) S) (k + 1)) (toL m (k + 1)) by first | exact te_n (by rw [hmv k hk]; exact mv_f1 zc31) (elF_n (mv_f1 zc31)) | exact te_n (by rw [hmv k hk]; exact mv_f2 zc39) (elF_n (mv_f2 zc39)) | exact te_y (by rw [hmv k hk]; exact mv_t zc31 zc39))) ?_
            exact g_can _ (by exact ⟨rfl, rfl, rfl, trivial⟩) (ih11 (k + 1) (by omega) (toL_ok hn2 (k + 1)) (by omega))
          · refine g_aload_n dX9_tidies_42 rfl ?_
            refine q_getq dX9_tidies_43 f_R_22 ck_84 (by decide) ty_8_5 rf_84_5 ?_
            refine g_iload_n dX9_tidies_46 rfl ?_
            refine g_bipush dX9_tidies_47 bp_16 ?_
            refine g_aload_n dX9_tidies_49 rfl ?_
            refine g_iload_n dX9_tidies_50 rfl ?_
            refine g_iconst dX9_tidies_51 ic_5 ?_
            refine g_v2 (M' := KR_its) dX9_tidies_52 l_R_50 v_KR_its (c_KR_its (by omega) (by omega)) rc_84 rfl rfl ⟨rfl, rfl⟩ ?_
            refine g_top (show _ = nI (yN' (σ 85) k) by rw [ef_1 hrow, it_to (Nat.le_refl k) (by decide)]; exact (hW.xy hk zc31).2.2.2) ?_
            refine n_imul dX9_tidies_55 ?_
            refine g_aload_n dX9_tidies_56 rfl ?_
            refine g_iload_n dX9_tidies_57 rfl ?_
            refine g_iconst dX9_tidies_58 ic_4 ?_
            refine g_v2 (M' := KR_its) dX9_tidies_59 l_R_50 v_KR_its (c_KR_its (by omega) (by omega)) rc_84 rfl rfl ⟨rfl, rfl⟩ ?_
            refine g_top (show _ = nI (xN' (σ 85) k) by rw [ef_1 hrow, it_to (Nat.le_refl k) (by decide)]; exact (hW.xy hk zc31).2.2.1) ?_
            refine n_iadd dX9_tidies_62 ?_
            refine q_iast dX9_tidies_63 ck_89 (ixD_nI (by omega) (by decide)) ?_
            refine g_heap (congrArg (fun z => HH z δ) (te_1 (mv_t zc31 zc39))) ?_
            refine g_aload_n dX9_tidies_64 rfl ?_
            refine g_iload_n dX9_tidies_65 rfl ?_
            refine g_v1 (M' := KR_offNow) dX9_tidies_66 l_R_181 v_KR_offNow (c_KR_offNow_run (σ := fill (sKeep σ s) 89 (elF (σ 85) S) (k + 1)) (WF_f hW hrow hl) hk) rc_84 rfl rfl ⟨rfl, rfl⟩ ?_
            refine g_istore_n dX9_tidies_69 rfl ?_
            refine n_iinc (b := 1) dX9_tidies_70 rfl rfl rfl ?_
            refine g_goto (tgt := 11) dX9_tidies_73 rfl ?_
            refine g_heap (congrArg (fun z => HH z δ) (show _ = runM (fill (sKeep σ s) 89 (elF (σ 85) S) (k + 1)) (toL m (k + 1)) by first | exact te_n (by rw [hmv k hk]; exact mv_f1 zc31) (elF_n (mv_f1 zc31)) | exact te_n (by rw [hmv k hk]; exact mv_f2 zc39) (elF_n (mv_f2 zc39)) | exact te_y (by rw [hmv k hk]; exact mv_t zc31 zc39))) ?_
            exact g_can _ (by exact ⟨rfl, rfl, rfl, trivial⟩) (ih11 (k + 1) (by omega) (toL_ok hn2 (k + 1)) (by omega))
  exact g_can _ (by exact ⟨rfl, rfl, rfl, trivial⟩) (H11 _ 0 (by omega) okL_0 (Nat.lt_succ_self _))
theorem IC.ly3 {σ σ' : SI} {a a' : Nat → Int32} {n n' s o tl : Nat} {P : Nat → Nat → Int32} {tx rf : Nat → Int32} (h : IC σ a n s o P tl tx rf) (e : ∀ c, c < 6 ∨ 14 < c → c < 71 ∨ c = 81 → c < 15 ∨ 23 < c → σ' c = σ c) (e8 : σ' 80 0 = σ 80 0) (hl : HL σ' 6 a' n') : IC σ' a' n' s o P tl tx rf := by
  have ho := h.o5
  refine ⟨hl, h.s5, h.o5, ?_, ?_, fun i hi => ?_, fun j hj => ?_, h.t.1, ?_, fun i hi => ?_⟩
  · rw [e _ (by omega) (by omega) (by omega)]; exact h.c
  · rw [e _ (by omega) (by omega) (by omega)]; exact h.od
  · obtain ⟨m, hm⟩ := h.st hi
    exact ⟨m, hm.cong (fun i hi => e _ (by omega) (by omega) (by omega))⟩
  · rw [e _ (by omega) (by omega) (by omega)]; exact h.rz hj
  · rw [e8]; exact h.t.2
  · rw [e _ (by omega) (by omega) (by omega)]; exact h.tz hi
theorem IR.ly3 {σ σ' : SI} {a a' : Nat → Int32} {s tl : Nat} {P : Nat → Nat → Int32} {tx rf : Nat → Int32} (h : IR σ a s P tl tx rf) (e : ∀ c, c = 86 ∨ c = 88 ∨ c = 92 → σ' c = σ c) (e3 : σ' 84 3 = σ 84 3) (e12 : σ' 84 12 = σ 84 12) (hl : σ' 85 = a') : IR σ' a' s P tl tx rf := by
  refine ⟨hl, ?_, fun i hi j hj => ?_, fun j hj => ?_, ?_, fun i hi => ?_⟩
  · rw [e3]; exact h.sd
  · rw [e _ (by omega)]; exact h.st hi hj
  · rw [e _ (by omega)]; exact h.rz hj
  · rw [e12]; exact h.t
  · rw [e _ (by omega)]; exact h.tz hi
/-- a call that changes the layout, and may write into cells that say nothing between calls -/
theorem Step.ly3 {Kp Kr : MM} {args : List Value} {σ σ1 σ2 : SI} {δ δ1 : SD} {r : Value} {a a' : Nat → Int32} {n n' s o tl : Nat} {P : Nat → Nat → Int32} {tx rf : Nat → Int32} (hI : IC σ a n s o P tl tx rf) (hJ : IR σ a s P tl tx rf)
    (e1 : E Kp (.ref 5 :: args) (HH σ δ) (some r) (HH σ1 δ1)) (f1 : ∀ c, c < 6 ∨ 14 < c → c < 71 ∨ c = 81 ∨ 84 ≤ c → c < 15 ∨ 23 < c → σ1 c = sPush σ s o c) (g1 : σ1 80 0 = sPush σ s o 80 0)
    (e2 : IR σ1 a s P tl tx rf → E Kr (.ref 84 :: args) (HH σ1 δ1) (some r) (HH σ2 δ1)) (hl : HL σ1 6 a' n') (f2 : ∀ c, c < 84 ∨ c = 86 ∨ c = 88 ∨ c = 92 → σ2 c = sKeep σ1 s c) (g3 : σ2 84 3 = sKeep σ1 s 84 3) (g12 : σ2 84 12 = sKeep σ1 s 84 12) (hr : sKeep σ1 s 85 = a → σ2 85 = a') (hrk : rOK (mR Kp) r = true := by rfl) : Step Kp Kr args σ δ := by
  have hJ1 : IR σ1 a s P tl tx rf := hJ.cong (fun c hc => by rw [f1 c (by omega) (by omega) (by omega), push_hi hc])
  have hJ2 := hJ1.keep hI.s5
  exact Step.of e1 (e2 hJ1) (hI.push.ly3 (fun c h1 h2 h3 => f1 c h1 (by omega) h3) g1 hl) (hJ2.ly3 (fun c hc => f2 c (by omega)) g3 g12 (hr hJ2.row)) (fun c hc => by rw [f2 c (by omega), keep_lo hc]) hrk
theorem step_tidies {σ : SI} {δ : SD} (hT : InvT σ) : Step KP_tidies KR_tidies [] σ δ := by
  obtain ⟨a, n, s, o, P, tl, tx, rf, hI, hJ⟩ := hT
  have hW := hI.hl.wf
  have hI1 := hI.push
  have e1 := c_KP_tidies (δ := δ) hI
  have hl : HL ((runS (fill (fill (fill (sPush σ s o) 73 (fun i => nI (bitsN (clP a n i) 8)) 8) 74 (xK a n) 8) 75 (yK a n) 8) 6 (tdL a n (bitsN (mvP a (stS a n 256).1) n) 6))) 6 (runA a (tdL a n (bitsN (mvP a (stS a n 256).1) n) 6)) n := HL_run (HL_f2 LB_6 (HL_cl8 LB_6 hI1.hl)) (tdL_ok mv_n 6)
  have f1 : ∀ c, c < 6 ∨ 14 < c → c < 71 ∨ c = 81 ∨ 84 ≤ c → c < 15 ∨ 23 < c → (runS (fill (fill (fill (sPush σ s o) 73 (fun i => nI (bitsN (clP a n i) 8)) 8) 74 (xK a n) 8) 75 (yK a n) 8) 6 (tdL a n (bitsN (mvP a (stS a n 256).1) n) 6)) c = sPush σ s o c := fun c h1 h2 h3 => by rw [runS_ne (by omega) (by omega), fill_row (by omega), fill_row (by omega), fill_row (by omega)]
  have g1 : (runS (fill (fill (fill (sPush σ s o) 73 (fun i => nI (bitsN (clP a n i) 8)) 8) 74 (xK a n) 8) 75 (yK a n) 8) 6 (tdL a n (bitsN (mvP a (stS a n 256).1) n) 6)) 80 0 = sPush σ s o 80 0 := by rw [runS_ne (by omega) (by omega), fill_row (by omega), fill_row (by omega), fill_row (by omega)]
  generalize (runS (fill (fill (fill (sPush σ s o) 73 (fun i => nI (bitsN (clP a n i) 8)) 8) 74 (xK a n) 8) 75 (yK a n) 8) 6 (tdL a n (bitsN (mvP a (stS a n 256).1) n) 6)) = τ at *
  refine Step.ly3 (σ2 := runM (fill (sKeep τ s) 89 (elF a (stS a n 256).1) n) (tdL a n (bitsN (mvP a (stS a n 256).1) n) 6)) hI hJ e1 f1 g1 (fun h1 => ?_) hl (fun c hc => by rw [runM_ne (by omega), fill_row (by omega)]) (by rw [runM_ne (by omega), fill_row (by omega)]) (by rw [runM_ne (by omega), fill_row (by omega)]) (fun hr => by rw [runM_row, fill_row (by omega), hr])
  have := c_KR_tidies (δ := δ) h1 hI.s5 hW rfl rfl
  rwa [h1.row] at this

