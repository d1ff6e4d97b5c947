/-! DOUBLES: the best place; the centre told -/
/-- the balance of a row -/
def balR (r : Nat → Int32) (n : Nat) : UInt64 := blD (swN (liesA r) (wgN r) n) (swN (liesA r) (fun j => wgN r j * (2 * xN' r j + wN r j)) n) (swN (liesA r) (fun j => wgN r j * (2 * yN' r j + hN' r j)) n) (r 0).toNatClampNeg (r 1).toNatClampNeg
/-- the balance, item k at place p -/
def bsD (a : Nat → Int32) (n k p : Nat) : UInt64 := balR (aLay a k (nI (p % 16)) (nI (p / 16))) n
/-- the best of the first p places -/
def bsS (f : Nat → Bool) (d : Nat → UInt64) : Nat → Int32 × UInt64
  | 0 => (-1, FP.dconst0)
  | p + 1 => if (decide ((bsS f d p).1 = -1) || decide (¬ 0 ≤ Op.cmpValue (FP.dcmp (d p) (bsS f d p).2) .g)) && f p then (nI p, d p) else bsS f d p
section BSF
variable {f : Nat → Bool} {d : Nat → UInt64} {p q : Nat} {u : Int32} {v : UInt64}
theorem bs_n (hb : bsS f d p = (u, v)) (hf : f p = false) : bsS f d (p + 1) = (u, v) := by unfold bsS; rw [hf, hb, Bool.and_false]; rfl
theorem bs_w (hb : bsS f d p = (u, v)) (h1 : ¬ u = -1) (h2 : 0 ≤ Op.cmpValue (FP.dcmp (d p) v) .g) : bsS f d (p + 1) = (u, v) := by
  unfold bsS
  rw [hb, decide_eq_false (p := (u, v).1 = -1) h1, decide_eq_false (p := ¬ 0 ≤ Op.cmpValue (FP.dcmp (d p) (u, v).2) .g) (fun z => z h2)]
  rfl
theorem bs_y (hb : bsS f d p = (u, v)) (hf : f p = true) (h : u = -1 ∨ ¬ 0 ≤ Op.cmpValue (FP.dcmp (d p) v) .g) : bsS f d (p + 1) = (nI p, d p) := by
  unfold bsS
  rw [hb, hf]
  rcases h with h | h
  · rw [decide_eq_true (p := (u, v).1 = -1) h]; rfl
  · rw [decide_eq_true (p := ¬ 0 ≤ Op.cmpValue (FP.dcmp (d p) (u, v).2) .g) h, Bool.or_true]; rfl
theorem bs_up : ∀ m, (∀ i, p ≤ i → i < p + m → f i = false) → bsS f d (p + m) = bsS f d p
  | 0, _ => rfl
  | m + 1, h => (bs_n (p := p + m) (u := (bsS f d (p + m)).1) (v := (bsS f d (p + m)).2) rfl (h (p + m) (by omega) (by omega))).trans (bs_up m (fun i h1 h2 => h i h1 (by omega)))
theorem bs_skip (hq : p ≤ q) (h : ∀ i, p ≤ i → i < q → f i = false) : bsS f d q = bsS f d p := by
  have := bs_up (f := f) (d := d) (p := p) (q - p) (fun i h1 h2 => h i h1 (by omega))
  rwa [show p + (q - p) = q by omega] at this
theorem bs_none0 {m : Nat} (hm : m < 1000000) (h : findI f m = -1) : findI f m = (bsS f d m).1 :=
  h.trans (congrArg Prod.fst (bs_skip (p := 0) (q := m) (Nat.zero_le _) (fun i _ h2 => findI_none hm h i h2))).symm
theorem bs_none (h : findI f 256 = -1) : findI f 256 = (bsS f d 256).1 := bs_none0 (by decide) h
end BSF
theorem sw_swap {q q' : Nat → Bool} {g g' : Nat → Nat} {k n v : Nat} (hq : ∀ j, j < n → j ≠ k → q' j = q j) (hg : ∀ j, j ≠ k → g' j = g j) (h1 : q k = false) (h2 : q' k = true) (h3 : g' k = v) : ∀ m, m ≤ n → swN q' g' m = swN q g m + (if k < m then v else 0)
  | 0, _ => by rw [if_neg (Nat.not_lt_zero k)]; rfl
  | m + 1, hm => by
    have ih := sw_swap hq hg h1 h2 h3 m (by omega)
    by_cases e : m = k
    · subst e
      rw [sw_y h2, sw_n h1, ih, h3, if_neg (by omega), if_pos (by omega), Nat.add_zero]
    · show swN q' g' m + (if q' m then g' m else 0) = swN q g m + (if q m then g m else 0) + _
      rw [ih, hq m (by omega) e, hg m e]
      generalize (if q m = true then g m else 0) = t
      by_cases z : k < m
      · rw [if_pos z, if_pos (by omega)]; omega
      · rw [if_neg z, if_neg (by omega)]; omega
theorem sw_m1 {a : Nat → Int32} {g : Nat → Nat} {n : Nat} (hn : n ≤ 8) : swN (fun j => liesA a j && decide (¬ nI j = -1)) g n = swN (liesA a) g n := by
  have : ∀ m, m ≤ n → swN (fun j => liesA a j && decide (¬ nI j = -1)) g m = swN (liesA a) g m := fun m => by
    induction m with
    | zero => exact fun _ => rfl
    | succ m ih =>
      intro hm
      show swN _ g m + (if (liesA a m && decide (¬ nI m = -1)) then g m else 0) = swN (liesA a) g m + _
      rw [ih (by omega), decide_eq_true (nI_m1 (by omega)), Bool.and_true]
  exact this n (Nat.le_refl n)
section BSA
variable {a : Nat → Int32} {n k x y w0 sx0 sy0 : Nat}
def bsP (w sx sy g gx gy : Nat) : Prop := w + g < 2 ^ 24 ∧ sx + gx < 2 ^ 30 ∧ sy + gy < 2 ^ 30 ∧ (w + g ≤ sx + gx ∧ sx + gx ≤ 200 * (w + g)) ∧ (w + g ≤ sy + gy ∧ sy + gy ≤ 200 * (w + g))
theorem bs_pre (hW : WF a n) (hk : k < n) (hw0 : swN (fun j => liesA a j && decide (¬ nI j = nI k)) (wgN a) n = w0) (hsx : swN (fun j => liesA a j && decide (¬ nI j = nI k)) (fun j => wgN a j * (2 * xN' a j + wN a j)) n = sx0) (hsy : swN (fun j => liesA a j && decide (¬ nI j = nI k)) (fun j => wgN a j * (2 * yN' a j + hN' a j)) n = sy0) (hx : x < 16) (hy : y < 16) :
    bsP w0 sx0 sy0 (wgN a k) (wgN a k * (2 * x + wN a k)) (wgN a k * (2 * y + hN' a k)) := by
  have hq : ∀ j, j < n → (fun j => liesA a j && decide (¬ nI j = nI k)) j = true → liesA a j = true := fun j _ h => (Bool.and_eq_true _ _ ▸ h : _ ∧ _).1
  have h1 := sw_all hW hq n (Nat.le_refl n)
  have h2 := sw_rl hW hq n (Nat.le_refl n)
  rw [hw0, hsx, hsy] at h1 h2
  have h3 := wg_nI hW hk
  have h4 := hW.wide hk
  have h5 := hW.high hk
  have a1 : wgN a k * (2 * x + wN a k) ≤ 9600 * 72 := Nat.mul_le_mul h3.2.1 (by omega)
  have a2 : wgN a k * (2 * y + hN' a k) ≤ 9600 * 72 := Nat.mul_le_mul h3.2.1 (by omega)
  have a3 : wgN a k ≤ wgN a k * (2 * x + wN a k) := Nat.le_mul_of_pos_right _ (by omega)
  have a4 : wgN a k ≤ wgN a k * (2 * y + hN' a k) := Nat.le_mul_of_pos_right _ (by omega)
  have a5 : wgN a k * (2 * x + wN a k) ≤ wgN a k * 200 := Nat.mul_le_mul_left _ (by omega)
  have a6 : wgN a k * (2 * y + hN' a k) ≤ wgN a k * 200 := Nat.mul_le_mul_left _ (by omega)
  unfold bsP
  omega
theorem lay_lies : liesA (aLay a k (nI x) (nI y)) k = true ↔ ¬ nI x = -1 := by
  unfold liesA; rw [aLay_x]; exact decide_eq_true_iff
theorem lay_w {j : Nat} {X Y : Int32} : wN (aLay a k X Y) j = wN a j ∧ hN' (aLay a k X Y) j = hN' a j ∧ wgN (aLay a k X Y) j = wgN a j := by
  have e1 : wN (aLay a k X Y) j = wN a j := by unfold wN; rw [aLay_wide]
  have e2 : hN' (aLay a k X Y) j = hN' a j := by unfold hN'; rw [aLay_high]
  refine ⟨e1, e2, ?_⟩
  unfold wgN itN
  rw [e1, e2, aLay_it (by decide)]
theorem bs_class {W Hh : Nat} (hW : WF a n) (hk : k < n) (hx : x < 16) (hy : y < 16) (hw0 : swN (fun j => liesA a j && decide (¬ nI j = nI k)) (wgN a) n = w0) (hsx : swN (fun j => liesA a j && decide (¬ nI j = nI k)) (fun j => wgN a j * (2 * xN' a j + wN a j)) n = sx0) (hsy : swN (fun j => liesA a j && decide (¬ nI j = nI k)) (fun j => wgN a j * (2 * yN' a j + hN' a j)) n = sy0)
    (hwz : (a 0).toNatClampNeg = W := by rfl) (hhz : (a 1).toNatClampNeg = Hh := by rfl) :
    blD (w0 + wgN a k) (sx0 + wgN a k * (2 * x + wN a k)) (sy0 + wgN a k * (2 * y + hN' a k)) W Hh = bsD a n k (16 * y + x) := by
  have hn := hW.n8
  unfold bsD balR
  rw [show (16 * y + x) % 16 = x by omega, show (16 * y + x) / 16 = y by omega]
  have hq : ∀ j, j < n → j ≠ k → liesA (aLay a k (nI x) (nI y)) j = (fun j => liesA a j && decide (¬ nI j = nI k)) j := fun j hj e => by
    show _ = (liesA a j && decide (¬ nI j = nI k))
    rw [decide_eq_true (p := ¬ nI j = nI k) (fun z => e ((nI_eq (by omega) (by omega)).mp z)), Bool.and_true]
    unfold liesA
    rw [aLay_n e (by decide)]
  have h1 : (fun j => liesA a j && decide (¬ nI j = nI k)) k = false := sq_n2 rfl
  have h2 : liesA (aLay a k (nI x) (nI y)) k = true := lay_lies.mpr (nI_m1 (by omega))
  have hx4 : xN' (aLay a k (nI x) (nI y)) k = x := by unfold xN'; rw [aLay_x, nI_clamp (by omega)]
  have hy4 : yN' (aLay a k (nI x) (nI y)) k = y := by unfold yN'; rw [aLay_y, nI_clamp (by omega)]
  have g1 : ∀ j, j ≠ k → wgN (aLay a k (nI x) (nI y)) j = wgN a j := fun j _ => lay_w.2.2
  have g2 : ∀ j, j ≠ k → (fun j => wgN (aLay a k (nI x) (nI y)) j * (2 * xN' (aLay a k (nI x) (nI y)) j + wN (aLay a k (nI x) (nI y)) j)) j = (fun j => wgN a j * (2 * xN' a j + wN a j)) j := fun j e => by
    show wgN (aLay a k (nI x) (nI y)) j * (2 * xN' (aLay a k (nI x) (nI y)) j + wN (aLay a k (nI x) (nI y)) j) = wgN a j * (2 * xN' a j + wN a j)
    rw [lay_w.1, lay_w.2.2]
    unfold xN'
    rw [aLay_n e (by decide)]
  have g3 : ∀ j, j ≠ k → (fun j => wgN (aLay a k (nI x) (nI y)) j * (2 * yN' (aLay a k (nI x) (nI y)) j + hN' (aLay a k (nI x) (nI y)) j)) j = (fun j => wgN a j * (2 * yN' a j + hN' a j)) j := fun j e => by
    show wgN (aLay a k (nI x) (nI y)) j * (2 * yN' (aLay a k (nI x) (nI y)) j + hN' (aLay a k (nI x) (nI y)) j) = wgN a j * (2 * yN' a j + hN' a j)
    rw [lay_w.2.1, lay_w.2.2]
    unfold yN'
    rw [aLay_n e (by decide)]
  have s1 := sw_swap hq g1 h1 h2 (lay_w.2.2) n (Nat.le_refl n)
  have s2 := sw_swap (v := wgN a k * (2 * x + wN a k)) hq g2 h1 h2 (by rw [hx4, lay_w.1, lay_w.2.2]) n (Nat.le_refl n)
  have s3 := sw_swap (v := wgN a k * (2 * y + hN' a k)) hq g3 h1 h2 (by rw [hy4, lay_w.2.1, lay_w.2.2]) n (Nat.le_refl n)
  rw [if_pos hk] at s1 s2 s3
  rw [hw0] at s1
  rw [hsx] at s2
  rw [hsy] at s3
  rw [s1, s2, s3, aLay_oth (by omega), aLay_oth (by omega), hwz, hhz]
end BSA
theorem lay_r {σ σ2 : SI} {k : Nat} {x y : Int32} (h : uI (uI σ 85 (8 + 6 * k + 4) x) 85 (8 + 6 * k + 5) y = σ2) : σ2 85 = aLay (σ 85) k x y := by
  subst h
  funext q
  unfold uI aLay upd
  simp only [true_and]
theorem uI_back {σ σ2 : SI} {i j : Nat} {x y : Int32} (hij : i ≠ j) (h : uI (uI σ 85 i x) 85 j y = σ2) : uI (uI σ2 85 i (σ 85 i)) 85 j (σ 85 j) = σ := by
  subst h
  funext c q
  unfold uI
  by_cases h1 : c = 85 ∧ q = j
  · rw [if_pos h1, h1.1, h1.2]
  · rw [if_neg h1]
    by_cases h2 : c = 85 ∧ q = i
    · rw [if_pos h2, h2.1, h2.2]
    · rw [if_neg h2, if_neg h1, if_neg h2]
theorem c_ofD {σ : SI} {δ : SD} {v : UInt64} (h : v.toNat = 0 ∨ 4503599627370496 ≤ v.toNat) (h2 : v.toNat < 9218868437227405312) : E KB_ofDouble [.double v] (HH σ δ) (some (.long v.toInt64)) (HH σ δ) := by
  rcases h with h | h
  · exact c_KB_ofDouble0 h
  · exact c_KB_ofDouble (Ex := v.toNat / 4503599627370496) (t := v.toNat % 4503599627370496) (by omega) (by omega) (by omega) (Nat.mod_lt _ (by decide))
theorem c_ofF {σ : SI} {δ : SD} {v : UInt32} (h : v.toNat = 0 ∨ 8388608 ≤ v.toNat) (h2 : v.toNat < 2139095040) : E KB_ofFloat [.float v] (HH σ δ) (some (.int v.toInt32)) (HH σ δ) := by
  rcases h with h | h
  · exact c_KB_ofFloat0 h
  · exact c_KB_ofFloat (Ex := v.toNat / 8388608) (t := v.toNat % 8388608) (by omega) (by omega) (by omega) (Nat.mod_lt _ (by decide))
theorem cn_ofD {σ : SI} {δ : SD} {w sx W : Nat} (hw : w < 2 ^ 24) (hs : sx < 2 ^ 30) (hW : 1 ≤ W ∧ W ≤ 16) (g : 0 < w → w ≤ sx ∧ sx ≤ 200 * w) : E KB_ofDouble [.double (cnD w sx W)] (HH σ δ) (some (.long (cnD w sx W).toInt64)) (HH σ δ) := by
  have := cn_b hw hs hW g
  exact c_ofD (by omega) (by omega)
theorem bl_ofD {σ : SI} {δ : SD} {w sx sy W Hh : Nat} (hW : 1 ≤ W ∧ W ≤ 16) (hH : 1 ≤ Hh ∧ Hh ≤ 16) (bw : w < 2 ^ 24) (bx : sx < 2 ^ 30) (by2 : sy < 2 ^ 30) (gx : 0 < w → w ≤ sx ∧ sx ≤ 200 * w) (gy : 0 < w → w ≤ sy ∧ sy ≤ 200 * w) : E KB_ofDouble [.double (blD w sx sy W Hh)] (HH σ δ) (some (.long (blD w sx sy W Hh).toInt64)) (HH σ δ) := by
  have := bl_fp hW hH bw bx by2 gx gy
  exact c_ofD (by omega) (by omega)
set_option maxRecDepth 100000 in
theorem c_KS_balanceWith {σ : SI} {δ : SD} {B n : Nat} {a : Nat → Int32} (hB : LB B) (hW : WF a n) (hR : RB σ B a n) (hD : RD σ B a n) {k x y w sx sy W Hh : Nat} (hk : k < n) (hx : x ≤ 16) (hy : y ≤ 16) (hw : σ B 0 = nI W) (hh : σ B 1 = nI Hh) (hW6 : 1 ≤ W ∧ W ≤ 16) (hH6 : 1 ≤ Hh ∧ Hh ≤ 16) (hp : bsP w sx sy (wgN a k) (wgN a k * (2 * x + wN a k)) (wgN a k * (2 * y + hN' a k))) : E KS_balanceWith [.ref 71, .ref B, .int (nI k), .int (nI x), .int (nI y)] (HH σ (dS δ w sx sy)) (some (.double (blD (w + wgN a k) (sx + wgN a k * (2 * x + wN a k)) (sy + wgN a k * (2 * y + hN' a k)) W Hh))) (HH σ (dS δ w sx sy)) := by
  obtain ⟨bw, bx, by2, gx, gy⟩ := hp
  refine E.ofL [some (.ref 71), some (.ref B), some (.int (nI k)), some (.int (nI x)), some (.int (nI y))] rfl pn_RX3 rfl (fun sc => ?_)
  refine g_aload_n dX3_balanceWith_0 rfl ?_
  refine q_getd dX3_balanceWith_1 f_S_7 ck_71 (by decide) ty_2_0 ?_
  refine g_topd dS_0 ?_
  refine g_dstore dX3_balanceWith_4 rfl ?_
  refine g_aload_n dX3_balanceWith_6 rfl ?_
  refine q_getd dX3_balanceWith_7 f_S_13 ck_71 (by decide) ty_2_1 ?_
  refine g_topd dS_1 ?_
  refine g_dstore dX3_balanceWith_10 rfl ?_
  refine g_aload_n dX3_balanceWith_12 rfl ?_
  refine q_getd dX3_balanceWith_13 f_S_16 ck_71 (by decide) ty_2_2 ?_
  refine g_topd dS_2 ?_
  refine g_dstore dX3_balanceWith_16 rfl ?_
  refine g_aload_n dX3_balanceWith_18 rfl ?_
  refine g_aload_n dX3_balanceWith_19 rfl ?_
  refine g_iload_n dX3_balanceWith_20 rfl ?_
  refine g_iload_n dX3_balanceWith_21 rfl ?_
  refine g_iload dX3_balanceWith_22 rfl ?_
  refine g_v4n (M' := KS_add) dX3_balanceWith_24 l_S_36 v_KS_add (c_KS_add hB hW hR hD hk hx hy bw bx by2) rc_71 HH_len rfl ⟨rfl, rfl⟩ ?_
  refine g_aload_n dX3_balanceWith_27 rfl ?_
  refine g_aload_n dX3_balanceWith_28 rfl ?_
  refine g_v1 (M' := KS_balance) dX3_balanceWith_29 l_S_64 v_KS_balance (c_KS_balance hB hw hh hW6 hH6 bw bx by2 (fun _ => gx) (fun _ => gy)) rc_71 rfl rfl ⟨rfl, rfl⟩ ?_
  refine g_dstore dX3_balanceWith_32 rfl ?_
  refine g_aload_n dX3_balanceWith_34 rfl ?_
  refine g_dload dX3_balanceWith_35 rfl ?_
  refine q_putd dX3_balanceWith_37 f_S_7 ck_71 (by decide) ty_2_0 fd_2_0 ?_
  refine g_aload_n dX3_balanceWith_40 rfl ?_
  refine g_dload dX3_balanceWith_41 rfl ?_
  refine q_putd dX3_balanceWith_43 f_S_13 ck_71 (by decide) ty_2_1 fd_2_1 ?_
  refine g_aload_n dX3_balanceWith_46 rfl ?_
  refine g_dload dX3_balanceWith_47 rfl ?_
  refine q_putd dX3_balanceWith_49 f_S_16 ck_71 (by decide) ty_2_2 fd_2_2 ?_
  refine g_dload dX3_balanceWith_52 rfl ?_
  exact e_dret dX3_balanceWith_54 rfl (by rfl) (by exact congrArg (HH σ) dS_put)
set_option maxRecDepth 100000 in
theorem c_KA_best {σ : SI} {δ : SD} {B n : Nat} {a : Nat → Int32} (hB : LB B) (hW : WF a n) (hR : RB σ B a n) (hD : RD σ B a n) {k : Nat} (hk : k < n) {w0 sx0 sy0 : Nat} (hw0 : swN (fun j => liesA a j && decide (¬ nI j = nI k)) (wgN a) n = w0) (hsx : swN (fun j => liesA a j && decide (¬ nI j = nI k)) (fun j => wgN a j * (2 * xN' a j + wN a j)) n = sx0) (hsy : swN (fun j => liesA a j && decide (¬ nI j = nI k)) (fun j => wgN a j * (2 * yN' a j + hN' a j)) n = sy0) : E KA_best [.ref 72, .ref B, .ref 71, .int (nI k)] (HH σ δ) (some (.int (bsS (fitP a n k) (bsD a n k) 256).1)) (HH σ (dS δ w0 sx0 sy0)) := by
  have h8 := hW.n8
  have h2 := hR.c
  have hw := hW.wid
  have hh := hW.hei
  refine E.ofL [some (.ref 72), some (.ref B), some (.ref 71), some (.int (nI k))] rfl pn_RX2 rfl (fun sc => ?_)
  generalize hRz : (fun (zr : Option Value) (zk : XH) => zr = some (.int (bsS (fitP a n k) (bsD a n k) 256).1) ∧ zk = HH σ (dS δ w0 sx0 sy0)) = R
  refine g_iconst dX2_best_0 ic_m1 ?_
  refine g_istore dX2_best_1 rfl ?_
  refine g_dconst0 dX2_best_3 ?_
  refine g_dstore dX2_best_4 rfl ?_
  refine g_aload_n dX2_best_6 rfl ?_
  refine g_aload_n dX2_best_7 rfl ?_
  refine g_iload_n dX2_best_8 rfl ?_
  refine g_v2n (M' := KS_weighAll) dX2_best_9 l_A_38 v_KS_weighAll (by have zq := c_KS_weighAll (σ := σ) (δ := δ) (bt := nI k) hB hW hR hD; rw [hw0, hsx, hsy] at zq; exact zq) rc_71 HH_len rfl ⟨rfl, rfl⟩ ?_
  refine g_iconst dX2_best_12 ic_0 ?_
  refine g_istore dX2_best_13 rfl ?_
  have H15 : ∀ (N : Nat) (y : Nat) (u : Int32) (v : UInt64), y ≤ (a 1).toNatClampNeg → bsS (fitP a n k) (bsD a n k) (16 * y) = (u, v) → (a 1).toNatClampNeg - y < N → G sc KA_best 15 (aL [some (.ref 72), some (.ref B), some (.ref 71), some (.int (nI k)), some (.int u), some (.double v), none, some (.int (nI y))]) [] (HH σ (dS δ w0 sx0 sy0)) (0, 0) R := by
    intro N
    induction N with
    | zero => intro y u v h1 hb hN15; exact absurd hN15 (Nat.not_lt_zero _)
    | succ N ih15 =>
      intro y u v h1 hb hN15
      refine g_iload dX2_best_15 rfl ?_
      refine g_aload_n dX2_best_17 rfl ?_
      refine q_geti dX2_best_18 f_A_21 (ckL_0 hB) (by decide) ty_0_1 ?_
      refine g_top (hR.h.trans hh.2.2) ?_
      refine n_icmp_ge (tgt := 99) (by omega) (by omega) dX2_best_21 rfl (fun zc21 => ?_) (fun zc21 => ?_)
      · refine g_iload dX2_best_99 rfl ?_
        exact g_iret (S := []) dX2_best_101 rfl (by rw [← hRz]; exact ⟨congrArg (fun zz => some (Value.int zz)) (show _ = _ by exact (congrArg Prod.fst ((bs_skip (by omega) (fp_gap2 hW hk (by omega)).1).trans hb)).symm), by rfl⟩) (Nat.zero_le _) (Nat.zero_le _)
      · refine g_iconst dX2_best_24 ic_0 ?_
        refine g_istore dX2_best_25 rfl ?_
        have H27 : ∀ (N : Nat) (x : Nat) (u : Int32) (v : UInt64), x ≤ (a 0).toNatClampNeg → bsS (fitP a n k) (bsD a n k) (16 * y + x) = (u, v) → (a 0).toNatClampNeg - x < N → G sc KA_best 27 (aL [some (.ref 72), some (.ref B), some (.ref 71), some (.int (nI k)), some (.int u), some (.double v), none, some (.int (nI y)), some (.int (nI x))]) [] (HH σ (dS δ w0 sx0 sy0)) (0, 0) R := by
          intro N
          induction N with
          | zero => intro x u v h3 hb1 hN27; exact absurd hN27 (Nat.not_lt_zero _)
          | succ N ih27 =>
            intro x u v h3 hb1 hN27
            refine g_iload dX2_best_27 rfl ?_
            refine g_aload_n dX2_best_29 rfl ?_
            refine q_geti dX2_best_30 f_A_27 (ckL_0 hB) (by decide) ty_0_0 ?_
            refine g_top (hR.w.trans hw.2.2) ?_
            refine n_icmp_ge (tgt := 93) (by omega) (by omega) dX2_best_33 rfl (fun zc33 => ?_) (fun zc33 => ?_)
            · refine n_iinc (b := 1) dX2_best_93 rfl rfl rfl ?_
              refine g_goto (tgt := 15) dX2_best_96 rfl ?_
              exact g_can _ (by exact ⟨rfl, rfl, rfl, rfl, rfl, rfl, rfl, trivial⟩) (ih15 (y + 1) _ _ (by omega) ((bs_skip (by omega) (fp_gap hW hk (by omega) (by omega)).1).trans hb1) (by omega))
            · refine g_aload_n dX2_best_36 rfl ?_
              refine g_iload_n dX2_best_37 rfl ?_
              refine g_iload dX2_best_38 rfl ?_
              refine g_iload dX2_best_40 rfl ?_
              refine g_v3 (M' := KL_hasRoom) dX2_best_42 l_A_30 v_KL_hasRoom (c_KL_hasRoom hB hW hR hD hk (Or.inr ⟨x, by omega, by omega, rfl⟩)) (rcL hB) rfl rfl ⟨rfl, rfl⟩ ?_
              refine b_if_eq (tgt := 87) dX2_best_45 rfl (fun zc45 => ?_) (fun zc45 => ?_)
              · refine n_iinc (b := 1) dX2_best_87 rfl rfl rfl ?_
                refine g_goto (tgt := 27) dX2_best_90 rfl ?_
                exact g_can _ (by exact ⟨rfl, rfl, rfl, rfl, rfl, rfl, rfl, rfl, trivial⟩) (ih27 (x + 1) _ _ (by omega) (by first | exact bs_n (p := 16 * y + x) hb1 (fp_at (by omega) zc45) | exact bs_y (p := 16 * y + x) hb1 (fp_at (by omega) zc45) (Or.inl zc63) | exact bs_w (p := 16 * y + x) hb1 zc63 zc71 | exact bs_y (p := 16 * y + x) hb1 (fp_at (by omega) zc45) (Or.inr zc71)) (by omega))
              · refine g_aload_n dX2_best_48 rfl ?_
                refine g_aload_n dX2_best_49 rfl ?_
                refine g_iload_n dX2_best_50 rfl ?_
                refine g_iload dX2_best_51 rfl ?_
                refine g_iload dX2_best_53 rfl ?_
                refine g_v4 (M' := KS_balanceWith) dX2_best_55 l_A_44 v_KS_balanceWith (c_KS_balanceWith hB hW hR hD hk (by omega) (by omega) (hR.w.trans hw.2.2) (hR.h.trans hh.2.2) (by omega) (by omega) (bs_pre hW hk hw0 hsx hsy (by omega) (by omega))) rc_71 rfl rfl ⟨rfl, rfl⟩ ?_
                refine g_topd (show _ = bsD a n k (16 * y + x) from bs_class hW hk (by omega) (by omega) hw0 hsx hsy) ?_
                refine g_dstore dX2_best_58 rfl ?_
                refine g_iload dX2_best_60 rfl ?_
                refine g_iconst dX2_best_62 ic_m1 ?_
                refine g_icmp_eq (tgt := 74) dX2_best_63 rfl (fun zc63 => ?_) (fun zc63 => ?_)
                · refine g_iload dX2_best_74 rfl ?_
                  refine g_iload dX2_best_76 rfl ?_
                  refine g_s2N (M' := KP_placeOf) dX2_best_78 l_A_34 s_KP_placeOf c_KP_placeOf rfl rfl ⟨rfl, rfl⟩ ?_
                  refine g_istore dX2_best_81 rfl ?_
                  refine g_dload dX2_best_83 rfl ?_
                  refine g_dstore dX2_best_85 rfl ?_
                  refine n_iinc (b := 1) dX2_best_87 rfl rfl rfl ?_
                  refine g_goto (tgt := 27) dX2_best_90 rfl ?_
                  exact g_can _ (by exact ⟨rfl, rfl, rfl, rfl, rfl, rfl, rfl, rfl, trivial⟩) (ih27 (x + 1) _ _ (by omega) (by first | exact bs_n (p := 16 * y + x) hb1 (fp_at (by omega) zc45) | exact bs_y (p := 16 * y + x) hb1 (fp_at (by omega) zc45) (Or.inl zc63) | exact bs_w (p := 16 * y + x) hb1 zc63 zc71 | exact bs_y (p := 16 * y + x) hb1 (fp_at (by omega) zc45) (Or.inr zc71)) (by omega))
                · refine g_dload dX2_best_66 rfl ?_
                  refine g_dload dX2_best_68 rfl ?_
                  refine g_dcmp dX2_best_70 ?_
                  refine g_if_ge (tgt := 87) dX2_best_71 rfl (fun zc71 => ?_) (fun zc71 => ?_)
                  · refine n_iinc (b := 1) dX2_best_87 rfl rfl rfl ?_
                    refine g_goto (tgt := 27) dX2_best_90 rfl ?_
                    exact g_can _ (by exact ⟨rfl, rfl, rfl, rfl, rfl, rfl, rfl, rfl, trivial⟩) (ih27 (x + 1) _ _ (by omega) (by first | exact bs_n (p := 16 * y + x) hb1 (fp_at (by omega) zc45) | exact bs_y (p := 16 * y + x) hb1 (fp_at (by omega) zc45) (Or.inl zc63) | exact bs_w (p := 16 * y + x) hb1 zc63 zc71 | exact bs_y (p := 16 * y + x) hb1 (fp_at (by omega) zc45) (Or.inr zc71)) (by omega))
                  · refine g_iload dX2_best_74 rfl ?_
                    refine g_iload dX2_best_76 rfl ?_
                    refine g_s2N (M' := KP_placeOf) dX2_best_78 l_A_34 s_KP_placeOf c_KP_placeOf rfl rfl ⟨rfl, rfl⟩ ?_
                    refine g_istore dX2_best_81 rfl ?_
                    refine g_dload dX2_best_83 rfl ?_
                    refine g_dstore dX2_best_85 rfl ?_
                    refine n_iinc (b := 1) dX2_best_87 rfl rfl rfl ?_
                    refine g_goto (tgt := 27) dX2_best_90 rfl ?_
                    exact g_can _ (by exact ⟨rfl, rfl, rfl, rfl, rfl, rfl, rfl, rfl, trivial⟩) (ih27 (x + 1) _ _ (by omega) (by first | exact bs_n (p := 16 * y + x) hb1 (fp_at (by omega) zc45) | exact bs_y (p := 16 * y + x) hb1 (fp_at (by omega) zc45) (Or.inl zc63) | exact bs_w (p := 16 * y + x) hb1 zc63 zc71 | exact bs_y (p := 16 * y + x) hb1 (fp_at (by omega) zc45) (Or.inr zc71)) (by omega))
        exact g_can _ (by exact ⟨rfl, rfl, rfl, rfl, rfl, rfl, rfl, rfl, trivial⟩) (H27 _ 0 _ _ (by omega) hb (Nat.lt_succ_self _))
  exact g_can _ (by exact ⟨rfl, rfl, rfl, rfl, rfl, rfl, rfl, trivial⟩) (H15 _ 0 _ _ (by omega) rfl (Nat.lt_succ_self _))
set_option maxRecDepth 100000 in
theorem c_KR_bestPlace {σ : SI} {δ : SD} {n : Nat} (hW : WF (σ 85) n) {k : Nat} (hk : k < n) : E KR_bestPlace [.ref 84, .int (nI k)] (HH σ δ) (some (.int (bsS (fitP (σ 85) n k) (bsD (σ 85) n k) 256).1)) (HH σ δ) := by
  have h8 := hW.n8
  refine E.ofL [some (.ref 84), some (.int (nI k))] rfl pn_RX9 rfl (fun sc => ?_)
  generalize hRz : (fun (zr : Option Value) (zk : XH) => zr = some (.int (bsS (fitP (σ 85) n k) (bsD (σ 85) n k) 256).1) ∧ zk = HH σ δ) = R
  refine g_aload_n dX9_bestPlace_0 rfl ?_
  refine g_iload_n dX9_bestPlace_1 rfl ?_
  refine g_iconst dX9_bestPlace_2 ic_4 ?_
  refine g_v2 (M' := KR_its) dX9_bestPlace_3 l_R_50 v_KR_its (c_KR_its (by omega) (by omega)) rc_84 rfl rfl ⟨rfl, rfl⟩ ?_
  refine g_istore_n dX9_bestPlace_6 rfl ?_
  refine g_aload_n dX9_bestPlace_7 rfl ?_
  refine g_iload_n dX9_bestPlace_8 rfl ?_
  refine g_iconst dX9_bestPlace_9 ic_5 ?_
  refine g_v2 (M' := KR_its) dX9_bestPlace_10 l_R_50 v_KR_its (c_KR_its (by omega) (by omega)) rc_84 rfl rfl ⟨rfl, rfl⟩ ?_
  refine g_istore_n dX9_bestPlace_13 rfl ?_
  refine g_iconst dX9_bestPlace_14 ic_m1 ?_
  refine g_istore dX9_bestPlace_15 rfl ?_
  refine g_dconst0 dX9_bestPlace_17 ?_
  refine g_dstore dX9_bestPlace_18 rfl ?_
  refine g_iconst dX9_bestPlace_20 ic_0 ?_
  refine g_istore dX9_bestPlace_21 rfl ?_
  have H23 : ∀ (N : Nat) (p : Nat) (u : Int32) (v : UInt64), p ≤ 256 → bsS (fitP (σ 85) n k) (bsD (σ 85) n k) p = (u, v) → 256 - p < N → G sc KR_bestPlace 23 (aL [some (.ref 84), some (.int (nI k)), some (.int (its (σ 85) k 4)), some (.int (its (σ 85) k 5)), some (.int u), some (.double v), none, some (.int (nI p))]) [] (HH σ δ) (0, 0) R := by
    intro N
    induction N with
    | zero => intro p u v h1 hb hN23; exact absurd hN23 (Nat.not_lt_zero _)
    | succ N ih23 =>
      intro p u v h1 hb hN23
      refine g_iload dX9_bestPlace_23 rfl ?_
      refine g_sipush dX9_bestPlace_25 sp_256 ?_
      refine n_icmp_ge (tgt := 119) (by omega) (by omega) dX9_bestPlace_28 rfl (fun zc28 => ?_) (fun zc28 => ?_)
      · refine g_iload dX9_bestPlace_119 rfl ?_
        exact g_iret (S := []) dX9_bestPlace_121 rfl (by rw [← hRz]; exact ⟨congrArg (fun zz => some (Value.int zz)) (show _ = _ by rw [show p = 256 by omega] at hb; rw [hb]), by rfl⟩) (Nat.zero_le _) (Nat.zero_le _)
      · refine g_aload_n dX9_bestPlace_31 rfl ?_
        refine g_iload_n dX9_bestPlace_32 rfl ?_
        refine g_iload dX9_bestPlace_33 rfl ?_
        refine g_bipush dX9_bestPlace_35 bp_16 ?_
        refine n_irem dX9_bestPlace_37 (by omega) (by omega) (by omega) ?_
        refine g_iload dX9_bestPlace_38 rfl ?_
        refine g_bipush dX9_bestPlace_40 bp_16 ?_
        refine n_idiv dX9_bestPlace_42 (by omega) (by omega) (by omega) ?_
        refine g_v3 (M' := KR_isFit) dX9_bestPlace_43 l_R_89 v_KR_isFit (c_KR_isFit hW (by omega)) rc_84 rfl rfl ⟨rfl, rfl⟩ ?_
        refine b_if_eq (tgt := 113) dX9_bestPlace_46 rfl (fun zc46 => ?_) (fun zc46 => ?_)
        · refine n_iinc (b := 1) dX9_bestPlace_113 rfl rfl rfl ?_
          refine g_goto (tgt := 23) dX9_bestPlace_116 rfl ?_
          refine g_heap (by first | exact congrArg (fun z => HH z δ) (uI_back (by omega) hσ2) | rfl) ?_
          exact g_can _ (by exact ⟨rfl, rfl, rfl, rfl, rfl, rfl, rfl, trivial⟩) (ih23 (p + 1) _ _ (by omega) (by first | exact bs_n hb zc46 | exact bs_y hb zc46 (Or.inl zc80) | exact bs_w hb zc80 zc88 | exact bs_y hb zc46 (Or.inr zc88)) (by omega))
        · refine g_aload_n dX9_bestPlace_49 rfl ?_
          refine g_iload_n dX9_bestPlace_50 rfl ?_
          refine g_iconst dX9_bestPlace_51 ic_4 ?_
          refine g_iload dX9_bestPlace_52 rfl ?_
          refine g_bipush dX9_bestPlace_54 bp_16 ?_
          refine n_irem dX9_bestPlace_56 (by omega) (by omega) (by omega) ?_
          refine g_v3n (M' := KR_puts) dX9_bestPlace_57 l_R_138 v_KR_puts (c_KR_puts (by omega) (by omega)) rc_84 rfl rfl ⟨rfl, rfl⟩ ?_
          refine g_aload_n dX9_bestPlace_60 rfl ?_
          refine g_iload_n dX9_bestPlace_61 rfl ?_
          refine g_iconst dX9_bestPlace_62 ic_5 ?_
          refine g_iload dX9_bestPlace_63 rfl ?_
          refine g_bipush dX9_bestPlace_65 bp_16 ?_
          refine n_idiv dX9_bestPlace_67 (by omega) (by omega) (by omega) ?_
          refine g_v3n (M' := KR_puts) dX9_bestPlace_68 l_R_138 v_KR_puts (c_KR_puts (by omega) (by omega)) rc_84 rfl rfl ⟨rfl, rfl⟩ ?_
          obtain ⟨σ2, hσ2⟩ : ∃ z, uI (uI σ 85 (8 + 6 * k + 4) (nI (p % 16))) 85 (8 + 6 * k + 5) (nI (p / 16)) = z := ⟨_, rfl⟩
          rw [hσ2]
          have hrow2 : σ2 85 = aLay (σ 85) k (nI (p % 16)) (nI (p / 16)) := lay_r hσ2
          have hW2 : WF (σ2 85) n := by rw [hrow2]; exact WF_lay hW (by omega) (plc_p (by omega))
          refine g_aload_n dX9_bestPlace_71 rfl ?_
          refine g_v0 (M' := KR_balance) dX9_bestPlace_72 l_R_184 v_KR_balance (c_KR_balance hW2 rfl rfl) rc_84 rfl rfl ⟨rfl, rfl⟩ ?_
          refine g_topd (show _ = bsD (σ 85) n k p from congrArg (fun r => balR r n) hrow2) ?_
          refine g_dstore dX9_bestPlace_75 rfl ?_
          refine g_iload dX9_bestPlace_77 rfl ?_
          refine g_iconst dX9_bestPlace_79 ic_m1 ?_
          refine g_icmp_eq (tgt := 91) dX9_bestPlace_80 rfl (fun zc80 => ?_) (fun zc80 => ?_)
          · refine g_iload dX9_bestPlace_91 rfl ?_
            refine g_istore dX9_bestPlace_93 rfl ?_
            refine g_dload dX9_bestPlace_95 rfl ?_
            refine g_dstore dX9_bestPlace_97 rfl ?_
            refine g_aload_n dX9_bestPlace_99 rfl ?_
            refine g_iload_n dX9_bestPlace_100 rfl ?_
            refine g_iconst dX9_bestPlace_101 ic_4 ?_
            refine g_iload_n dX9_bestPlace_102 rfl ?_
            refine g_v3n (M' := KR_puts) dX9_bestPlace_103 l_R_138 v_KR_puts (c_KR_puts (by omega) (by omega)) rc_84 rfl rfl ⟨rfl, rfl⟩ ?_
            refine g_aload_n dX9_bestPlace_106 rfl ?_
            refine g_iload_n dX9_bestPlace_107 rfl ?_
            refine g_iconst dX9_bestPlace_108 ic_5 ?_
            refine g_iload_n dX9_bestPlace_109 rfl ?_
            refine g_v3n (M' := KR_puts) dX9_bestPlace_110 l_R_138 v_KR_puts (c_KR_puts (by omega) (by omega)) rc_84 rfl rfl ⟨rfl, rfl⟩ ?_
            refine n_iinc (b := 1) dX9_bestPlace_113 rfl rfl rfl ?_
            refine g_goto (tgt := 23) dX9_bestPlace_116 rfl ?_
            refine g_heap (by first | exact congrArg (fun z => HH z δ) (uI_back (by omega) hσ2) | rfl) ?_
            exact g_can _ (by exact ⟨rfl, rfl, rfl, rfl, rfl, rfl, rfl, trivial⟩) (ih23 (p + 1) _ _ (by omega) (by first | exact bs_n hb zc46 | exact bs_y hb zc46 (Or.inl zc80) | exact bs_w hb zc80 zc88 | exact bs_y hb zc46 (Or.inr zc88)) (by omega))
          · refine g_dload dX9_bestPlace_83 rfl ?_
            refine g_dload dX9_bestPlace_85 rfl ?_
            refine g_dcmp dX9_bestPlace_87 ?_
            refine g_if_ge (tgt := 99) dX9_bestPlace_88 rfl (fun zc88 => ?_) (fun zc88 => ?_)
            · refine g_aload_n dX9_bestPlace_99 rfl ?_
              refine g_iload_n dX9_bestPlace_100 rfl ?_
              refine g_iconst dX9_bestPlace_101 ic_4 ?_
              refine g_iload_n dX9_bestPlace_102 rfl ?_
              refine g_v3n (M' := KR_puts) dX9_bestPlace_103 l_R_138 v_KR_puts (c_KR_puts (by omega) (by omega)) rc_84 rfl rfl ⟨rfl, rfl⟩ ?_
              refine g_aload_n dX9_bestPlace_106 rfl ?_
              refine g_iload_n dX9_bestPlace_107 rfl ?_
              refine g_iconst dX9_bestPlace_108 ic_5 ?_
              refine g_iload_n dX9_bestPlace_109 rfl ?_
              refine g_v3n (M' := KR_puts) dX9_bestPlace_110 l_R_138 v_KR_puts (c_KR_puts (by omega) (by omega)) rc_84 rfl rfl ⟨rfl, rfl⟩ ?_
              refine n_iinc (b := 1) dX9_bestPlace_113 rfl rfl rfl ?_
              refine g_goto (tgt := 23) dX9_bestPlace_116 rfl ?_
              refine g_heap (by first | exact congrArg (fun z => HH z δ) (uI_back (by omega) hσ2) | rfl) ?_
              exact g_can _ (by exact ⟨rfl, rfl, rfl, rfl, rfl, rfl, rfl, trivial⟩) (ih23 (p + 1) _ _ (by omega) (by first | exact bs_n hb zc46 | exact bs_y hb zc46 (Or.inl zc80) | exact bs_w hb zc80 zc88 | exact bs_y hb zc46 (Or.inr zc88)) (by omega))
            · refine g_iload dX9_bestPlace_91 rfl ?_
              refine g_istore dX9_bestPlace_93 rfl ?_
              refine g_dload dX9_bestPlace_95 rfl ?_
              refine g_dstore dX9_bestPlace_97 rfl ?_
              refine g_aload_n dX9_bestPlace_99 rfl ?_
              refine g_iload_n dX9_bestPlace_100 rfl ?_
              refine g_iconst dX9_bestPlace_101 ic_4 ?_
              refine g_iload_n dX9_bestPlace_102 rfl ?_
              refine g_v3n (M' := KR_puts) dX9_bestPlace_103 l_R_138 v_KR_puts (c_KR_puts (by omega) (by omega)) rc_84 rfl rfl ⟨rfl, rfl⟩ ?_
              refine g_aload_n dX9_bestPlace_106 rfl ?_
              refine g_iload_n dX9_bestPlace_107 rfl ?_
              refine g_iconst dX9_bestPlace_108 ic_5 ?_
              refine g_iload_n dX9_bestPlace_109 rfl ?_
              refine g_v3n (M' := KR_puts) dX9_bestPlace_110 l_R_138 v_KR_puts (c_KR_puts (by omega) (by omega)) rc_84 rfl rfl ⟨rfl, rfl⟩ ?_
              refine n_iinc (b := 1) dX9_bestPlace_113 rfl rfl rfl ?_
              refine g_goto (tgt := 23) dX9_bestPlace_116 rfl ?_
              refine g_heap (by first | exact congrArg (fun z => HH z δ) (uI_back (by omega) hσ2) | rfl) ?_
              exact g_can _ (by exact ⟨rfl, rfl, rfl, rfl, rfl, rfl, rfl, trivial⟩) (ih23 (p + 1) _ _ (by omega) (by first | exact bs_n hb zc46 | exact bs_y hb zc46 (Or.inl zc80) | exact bs_w hb zc80 zc88 | exact bs_y hb zc46 (Or.inr zc88)) (by omega))
  exact g_can _ (by exact ⟨rfl, rfl, rfl, rfl, rfl, rfl, rfl, trivial⟩) (H23 _ 0 _ _ (by omega) rfl (Nat.lt_succ_self _))
set_option maxRecDepth 100000 in
theorem c_KR_freeNow1 {σ : SI} {δ : SD} {n : Nat} (hW : WF (σ 85) n) {k : Nat} (hk : k < n) : E KR_freeNow [.ref 84, .int (nI k), .int (nI 1)] (HH σ δ) (some (.int (bsS (fitP (σ 85) n k) (bsD (σ 85) n k) 256).1)) (HH σ δ) := by
  have h8 := hW.n8
  refine E.ofL [some (.ref 84), some (.int (nI k)), some (.int (nI 1))] rfl pn_RX9 rfl (fun sc => ?_)
  refine g_aload_n dX9_freeNow_0 rfl ?_
  refine g_iload_n dX9_freeNow_1 rfl ?_
  refine g_v1 (M' := KR_firstPlace) dX9_freeNow_2 l_R_188 v_KR_firstPlace (c_KR_firstPlace hW (by omega)) rc_84 rfl rfl ⟨rfl, rfl⟩ ?_
  refine g_istore_n dX9_freeNow_5 rfl ?_
  refine g_iload_n dX9_freeNow_6 rfl ?_
  refine g_iconst dX9_freeNow_7 ic_3 ?_
  refine n_icmp_ne (tgt := 19) (by omega) (by omega) dX9_freeNow_8 rfl (fun zc8 => ?_) (fun zc8 => ?_)
  · refine g_iload_n dX9_freeNow_19 rfl ?_
    refine g_iconst dX9_freeNow_20 ic_m1 ?_
    refine g_icmp_eq (tgt := 28) dX9_freeNow_21 rfl (fun zc21 => ?_) (fun zc21 => ?_)
    · refine g_iload_n dX9_freeNow_28 rfl ?_
      refine g_goto (tgt := 50) dX9_freeNow_29 rfl ?_
      exact e_iret dX9_freeNow_50 rfl (by first | (have zq := bs_none (f := fitP (σ 85) n k) (d := bsD (σ 85) n k) zc21; exact zq) | rfl) (by rfl)
    · refine g_iload_n dX9_freeNow_24 rfl ?_
      refine n_if_ne (tgt := 32) (by omega) dX9_freeNow_25 rfl (fun _ => ?_) (fun zc25 => absurd zc25 (by decide))
      refine g_iload_n dX9_freeNow_32 rfl ?_
      refine g_iconst dX9_freeNow_33 ic_1 ?_
      refine n_icmp_ne (tgt := 45) (by omega) (by omega) dX9_freeNow_34 rfl (fun zc34 => ?_) (fun zc34 => ?_)
      · exact absurd rfl zc34
      · refine g_aload_n dX9_freeNow_37 rfl ?_
        refine g_iload_n dX9_freeNow_38 rfl ?_
        refine g_v1 (M' := KR_bestPlace) dX9_freeNow_39 l_R_194 v_KR_bestPlace (c_KR_bestPlace hW (by omega)) rc_84 rfl rfl ⟨rfl, rfl⟩ ?_
        refine g_goto (tgt := 50) dX9_freeNow_42 rfl ?_
        exact e_iret dX9_freeNow_50 rfl (by first | (have zq := bs_none (f := fitP (σ 85) n k) (d := bsD (σ 85) n k) zc21; exact zq) | rfl) (by rfl)
  · exact absurd zc8 (by decide)
set_option maxRecDepth 100000 in
theorem c_KP_free_ok1 {σ : SI} {δ : SD} {a : Nat → Int32} {n s o tl : Nat} {P : Nat → Nat → Int32} {tx rf : Nat → Int32} (hI : IC σ a n s o P tl tx rf) {k : Nat} (hk : k < n) {w0 sx0 sy0 : Nat} (hw0 : swN (fun j => liesA a j && decide (¬ nI j = nI k)) (wgN a) n = w0) (hsx : swN (fun j => liesA a j && decide (¬ nI j = nI k)) (fun j => wgN a j * (2 * xN' a j + wN a j)) n = sx0) (hsy : swN (fun j => liesA a j && decide (¬ nI j = nI k)) (fun j => wgN a j * (2 * yN' a j + hN' a j)) n = sy0) : E KP_free [.ref 5, .int (nI k), .int (nI 1)] (HH σ δ) (some (.int ((bsS (fitP a n k) (bsD a n k) 256).1))) (HH σ (dS δ w0 sx0 sy0)) := by
  have hW := hI.hl.wf
  have hR := hI.hl.rb
  have hD := hI.hl.rd
  have h2 := hR.c
  have h8 := hW.n8
  have hB := LB_6
  refine E.ofL [some (.ref 5), some (.int (nI k)), some (.int (nI 1))] rfl pn_RX8 rfl (fun sc => ?_)
  refine g_aload_n dX8_free_0 rfl ?_
  refine q_getq dX8_free_1 f_P_12 ck_5 (by decide) ty_7_0 rf_5_0 ?_
  refine g_iload_n dX8_free_4 rfl ?_
  refine g_v1 (M' := KL_hasItem) dX8_free_5 l_P_78 v_KL_hasItem (c_KL_hasItem hB h2 h8) (rcL LB_6) rfl rfl ⟨rfl, rfl⟩ ?_
  refine g_top (it1 hk h8) ?_
  refine n_if_eq (tgt := 24) (by omega) dX8_free_8 rfl (fun zc8 => absurd zc8 (by decide)) (fun _ => ?_)
  refine g_iload_n dX8_free_11 rfl ?_
  refine g_iconst dX8_free_12 ic_0 ?_
  refine g_iconst dX8_free_13 ic_3 ?_
  refine g_s3 (M' := KP_within) dX8_free_14 l_P_96 s_KP_within c_KP_within rfl rfl ⟨rfl, rfl⟩ ?_
  refine g_top (in1 (Nat.zero_le _) (by omega) (by decide)) ?_
  refine n_if_eq (tgt := 24) (by omega) dX8_free_17 rfl (fun zc17 => absurd zc17 (by decide)) (fun _ => ?_)
  refine g_iconst dX8_free_20 ic_1 ?_
  refine g_top bI_t.symm ?_
  refine g_goto (tgt := 25) dX8_free_21 rfl ?_
  refine g_s1 (M' := KP_goodIf) dX8_free_25 l_P_81 s_KP_goodIf c_KP_goodIf rfl rfl ⟨rfl, rfl⟩ ?_
  refine g_top (if_pos rfl) ?_
  refine g_istore_n dX8_free_28 rfl ?_
  refine g_aload_n dX8_free_29 rfl ?_
  refine g_iload_n dX8_free_30 rfl ?_
  refine g_v1 (M' := KP_mayAnswer) dX8_free_31 l_P_100 v_KP_mayAnswer c_KP_mayAnswer0 rc_5 rfl rfl ⟨rfl, rfl⟩ ?_
  refine b_if_ne (tgt := 39) dX8_free_34 rfl (fun zc34 => ?_) (fun zc34 => ?_)
  · refine g_iload_n dX8_free_39 rfl ?_
    refine g_iconst dX8_free_40 ic_1 ?_
    refine n_icmp_ne (tgt := 63) (by omega) (by omega) dX8_free_41 rfl (fun zc41 => ?_) (fun zc41 => ?_)
    · exact absurd rfl zc41
    · refine g_aload_n dX8_free_44 rfl ?_
      refine q_getq dX8_free_45 f_P_36 ck_5 (by decide) ty_7_3 rf_5_3 ?_
      refine g_aload_n dX8_free_48 rfl ?_
      refine q_getq dX8_free_49 f_P_12 ck_5 (by decide) ty_7_0 rf_5_0 ?_
      refine g_aload_n dX8_free_52 rfl ?_
      refine q_getq dX8_free_53 f_P_29 ck_5 (by decide) ty_7_4 rf_5_4 ?_
      refine g_iload_n dX8_free_56 rfl ?_
      refine g_v3 (M' := KA_best) dX8_free_57 l_P_144 v_KA_best (c_KA_best LB_6 hW hR hD hk hw0 hsx hsy) rc_72 HH_len rfl ⟨rfl, rfl⟩ ?_
      refine g_goto (tgt := 76) dX8_free_60 rfl ?_
      exact e_iret dX8_free_76 rfl (by rfl) (by rfl)
  · exact absurd zc34 (by decide)
set_option maxRecDepth 100000 in
theorem c_KR_free_ok1 {σ : SI} {δ : SD} {a : Nat → Int32} {n s tl : Nat} {P : Nat → Nat → Int32} {tx rf : Nat → Int32} (hJ : IR σ a s P tl tx rf) (hs : s ≤ 5) (hW : WF a n) {k : Nat} (hk : k < n) : E KR_free [.ref 84, .int (nI k), .int (nI 1)] (HH σ δ) (some (.int ((bsS (fitP a n k) (bsD a n k) 256).1))) (HH σ δ) := by
  obtain rfl := hJ.row
  have h3 := hJ.sd
  have hn := hW.n8
  have h7 := hW.a7
  have h8 := hW.n8
  refine E.ofL [some (.ref 84), some (.int (nI k)), some (.int (nI 1))] rfl pn_RX9 rfl (fun sc => ?_)
  refine g_aload_n dX9_free_0 rfl ?_
  refine g_iload_n dX9_free_1 rfl ?_
  refine g_v1 (M' := KR_isItem) dX9_free_2 l_R_94 v_KR_isItem (c_KR_isItem h7 hn) rc_84 rfl rfl ⟨rfl, rfl⟩ ?_
  refine g_top (it1 hk hn) ?_
  refine n_if_eq (tgt := 29) (by omega) dX9_free_5 rfl (fun zc5 => absurd zc5 (by decide)) (fun _ => ?_)
  refine g_iload_n dX9_free_8 rfl ?_
  refine g_i2l dX9_free_9 ?_
  refine g_lconst (v := 0) dX9_free_10 rfl ?_
  refine g_ldcl dX9_free_11 c_R_131 ?_
  refine g_s3 (M' := KR_in) dX9_free_14 l_R_46 s_KR_in c_KR_in rfl rfl ⟨rfl, rfl⟩ ?_
  refine g_top (show _ = nI 1 by decide +kernel) ?_
  refine n_if_eq (tgt := 29) (by omega) dX9_free_17 rfl (fun zc17 => absurd zc17 (by decide)) (fun _ => ?_)
  refine g_aload_n dX9_free_20 rfl ?_
  refine g_iload_n dX9_free_21 rfl ?_
  refine g_iload_n dX9_free_22 rfl ?_
  refine g_v2 (M' := KR_freeNow) dX9_free_23 l_R_200 v_KR_freeNow (c_KR_freeNow1 hW hk) rc_84 rfl rfl ⟨rfl, rfl⟩ ?_
  refine g_goto (tgt := 35) dX9_free_26 rfl ?_
  exact e_iret dX9_free_35 rfl (by rfl) (by rfl)
set_option maxRecDepth 100000 in
theorem c_KP_centre_ok0 {σ : SI} {δ : SD} {a : Nat → Int32} {n s o tl : Nat} {P : Nat → Nat → Int32} {tx rf : Nat → Int32} (hI : IC σ a n s o P tl tx rf) {w0 sx0 sy0 : Nat} (hw0 : swN (liesA a) (wgN a) n = w0) (hsx : swN (liesA a) (fun j => wgN a j * (2 * xN' a j + wN a j)) n = sx0) (hsy : swN (liesA a) (fun j => wgN a j * (2 * yN' a j + hN' a j)) n = sy0) : E KP_centre [.ref 5, .int (nI 0)] (HH σ δ) (some (.long (cnD w0 sx0 (a 0).toNatClampNeg).toInt64)) (HH σ (dS δ w0 sx0 sy0)) := by
  have hW := hI.hl.wf
  have hR := hI.hl.rb
  have hD := hI.hl.rd
  have h2 := hR.c
  have h8 := hW.n8
  have hB := LB_6
  have hwd := hW.wid
  have hhg := hW.hei
  obtain ⟨bw, bx, by2, gx, gy⟩ := sw_fin (q := liesA a) hW (fun _ _ h => h)
  rw [hw0] at bw
  rw [hsx] at bx
  rw [hsy] at by2
  rw [hw0, hsx] at gx
  rw [hw0, hsy] at gy
  refine E.ofL [some (.ref 5), some (.int (nI 0))] rfl pn_RX8 rfl (fun sc => ?_)
  refine g_iload_n dX8_centre_0 rfl ?_
  refine g_iconst dX8_centre_1 ic_0 ?_
  refine g_iconst dX8_centre_2 ic_2 ?_
  refine g_s3 (M' := KP_within) dX8_centre_3 l_P_96 s_KP_within c_KP_within rfl rfl ⟨rfl, rfl⟩ ?_
  refine g_top (show _ = bI true by decide +kernel) ?_
  refine g_s1 (M' := KP_goodIf) dX8_centre_6 l_P_81 s_KP_goodIf c_KP_goodIf rfl rfl ⟨rfl, rfl⟩ ?_
  refine g_top (if_pos rfl) ?_
  refine g_istore_n dX8_centre_9 rfl ?_
  refine g_aload_n dX8_centre_10 rfl ?_
  refine g_iload_n dX8_centre_11 rfl ?_
  refine g_v1 (M' := KP_mayAnswer) dX8_centre_12 l_P_100 v_KP_mayAnswer c_KP_mayAnswer0 rc_5 rfl rfl ⟨rfl, rfl⟩ ?_
  refine b_if_ne (tgt := 21) dX8_centre_15 rfl (fun zc15 => ?_) (fun zc15 => ?_)
  · refine g_aload_n dX8_centre_21 rfl ?_
    refine q_getq dX8_centre_22 f_P_29 ck_5 (by decide) ty_7_4 rf_5_4 ?_
    refine g_aload_n dX8_centre_25 rfl ?_
    refine q_getq dX8_centre_26 f_P_12 ck_5 (by decide) ty_7_0 rf_5_0 ?_
    refine g_iconst dX8_centre_29 ic_m1 ?_
    refine g_v2n (M' := KS_weighAll) dX8_centre_30 l_P_181 v_KS_weighAll (by have zq := c_KS_weighAll (σ := σ) (δ := δ) (bt := -1) LB_6 hW hR hD; rw [sw_m1 h8, sw_m1 h8, sw_m1 h8, hw0, hsx, hsy] at zq; exact zq) rc_71 HH_len rfl ⟨rfl, rfl⟩ ?_
    refine g_aload_n dX8_centre_33 rfl ?_
    refine q_getq dX8_centre_34 f_P_29 ck_5 (by decide) ty_7_4 rf_5_4 ?_
    refine g_aload_n dX8_centre_37 rfl ?_
    refine q_getq dX8_centre_38 f_P_12 ck_5 (by decide) ty_7_0 rf_5_0 ?_
    refine g_iload_n dX8_centre_41 rfl ?_
    refine g_v2 (M' := KS_tell) dX8_centre_42 l_P_185 v_KS_tell (c_KS_tell0 LB_6 (hR.w.trans hwd.2.2) (hR.h.trans hhg.2.2) (by omega) (by omega) bw bx by2 gx gy) rc_71 rfl rfl ⟨rfl, rfl⟩ ?_
    refine g_s1 (M' := KB_ofDouble) dX8_centre_45 l_P_188 s_KB_ofDouble (cn_ofD bw bx (by omega) gx) rfl rfl ⟨rfl, rfl⟩ ?_
    exact e_lret dX8_centre_48 rfl (by rfl) (by rfl)
  · exact absurd zc15 (by decide)
set_option maxRecDepth 100000 in
theorem c_KR_centre_ok0 {σ : SI} {δ : SD} {a : Nat → Int32} {n s tl : Nat} {P : Nat → Nat → Int32} {tx rf : Nat → Int32} (hJ : IR σ a s P tl tx rf) (hs : s ≤ 5) (hW : WF a n) {w0 sx0 sy0 : Nat} (hw0 : swN (liesA a) (wgN a) n = w0) (hsx : swN (liesA a) (fun j => wgN a j * (2 * xN' a j + wN a j)) n = sx0) (hsy : swN (liesA a) (fun j => wgN a j * (2 * yN' a j + hN' a j)) n = sy0) : E KR_centre [.ref 84, .int (nI 0)] (HH σ δ) (some (.long (cnD w0 sx0 (a 0).toNatClampNeg).toInt64)) (HH σ δ) := by
  obtain rfl := hJ.row
  have h3 := hJ.sd
  have hn := hW.n8
  have h7 := hW.a7
  have h8 := hW.n8
  refine E.ofL [some (.ref 84), some (.int (nI 0))] rfl pn_RX9 rfl (fun sc => ?_)
  refine g_iload_n dX9_centre_0 rfl ?_
  refine g_i2l dX9_centre_1 ?_
  refine g_lconst (v := 0) dX9_centre_2 rfl ?_
  refine g_ldcl dX9_centre_3 c_R_117 ?_
  refine g_s3 (M' := KR_in) dX9_centre_6 l_R_46 s_KR_in c_KR_in rfl rfl ⟨rfl, rfl⟩ ?_
  refine g_top (show _ = nI 1 by decide +kernel) ?_
  refine n_if_eq (tgt := 20) (by omega) dX9_centre_9 rfl (fun zc9 => absurd zc9 (by decide)) (fun _ => ?_)
  refine g_aload_n dX9_centre_12 rfl ?_
  refine g_iload_n dX9_centre_13 rfl ?_
  refine g_v1 (M' := KR_centreBits) dX9_centre_14 l_R_274 v_KR_centreBits (by have zq := c_KR_centreBits0 (σ := σ) (δ := δ) hW rfl rfl; rw [hw0, hsx] at zq; exact zq) rc_84 rfl rfl ⟨rfl, rfl⟩ ?_
  refine g_goto (tgt := 27) dX9_centre_17 rfl ?_
  exact e_lret dX9_centre_27 rfl (by rfl) (by rfl)
set_option maxRecDepth 100000 in
theorem c_KP_centre_ok1 {σ : SI} {δ : SD} {a : Nat → Int32} {n s o tl : Nat} {P : Nat → Nat → Int32} {tx rf : Nat → Int32} (hI : IC σ a n s o P tl tx rf) {w0 sx0 sy0 : Nat} (hw0 : swN (liesA a) (wgN a) n = w0) (hsx : swN (liesA a) (fun j => wgN a j * (2 * xN' a j + wN a j)) n = sx0) (hsy : swN (liesA a) (fun j => wgN a j * (2 * yN' a j + hN' a j)) n = sy0) : E KP_centre [.ref 5, .int (nI 1)] (HH σ δ) (some (.long (cnD w0 sy0 (a 1).toNatClampNeg).toInt64)) (HH σ (dS δ w0 sx0 sy0)) := by
  have hW := hI.hl.wf
  have hR := hI.hl.rb
  have hD := hI.hl.rd
  have h2 := hR.c
  have h8 := hW.n8
  have hB := LB_6
  have hwd := hW.wid
  have hhg := hW.hei
  obtain ⟨bw, bx, by2, gx, gy⟩ := sw_fin (q := liesA a) hW (fun _ _ h => h)
  rw [hw0] at bw
  rw [hsx] at bx
  rw [hsy] at by2
  rw [hw0, hsx] at gx
  rw [hw0, hsy] at gy
  refine E.ofL [some (.ref 5), some (.int (nI 1))] rfl pn_RX8 rfl (fun sc => ?_)
  refine g_iload_n dX8_centre_0 rfl ?_
  refine g_iconst dX8_centre_1 ic_0 ?_
  refine g_iconst dX8_centre_2 ic_2 ?_
  refine g_s3 (M' := KP_within) dX8_centre_3 l_P_96 s_KP_within c_KP_within rfl rfl ⟨rfl, rfl⟩ ?_
  refine g_top (show _ = bI true by decide +kernel) ?_
  refine g_s1 (M' := KP_goodIf) dX8_centre_6 l_P_81 s_KP_goodIf c_KP_goodIf rfl rfl ⟨rfl, rfl⟩ ?_
  refine g_top (if_pos rfl) ?_
  refine g_istore_n dX8_centre_9 rfl ?_
  refine g_aload_n dX8_centre_10 rfl ?_
  refine g_iload_n dX8_centre_11 rfl ?_
  refine g_v1 (M' := KP_mayAnswer) dX8_centre_12 l_P_100 v_KP_mayAnswer c_KP_mayAnswer0 rc_5 rfl rfl ⟨rfl, rfl⟩ ?_
  refine b_if_ne (tgt := 21) dX8_centre_15 rfl (fun zc15 => ?_) (fun zc15 => ?_)
  · refine g_aload_n dX8_centre_21 rfl ?_
    refine q_getq dX8_centre_22 f_P_29 ck_5 (by decide) ty_7_4 rf_5_4 ?_
    refine g_aload_n dX8_centre_25 rfl ?_
    refine q_getq dX8_centre_26 f_P_12 ck_5 (by decide) ty_7_0 rf_5_0 ?_
    refine g_iconst dX8_centre_29 ic_m1 ?_
    refine g_v2n (M' := KS_weighAll) dX8_centre_30 l_P_181 v_KS_weighAll (by have zq := c_KS_weighAll (σ := σ) (δ := δ) (bt := -1) LB_6 hW hR hD; rw [sw_m1 h8, sw_m1 h8, sw_m1 h8, hw0, hsx, hsy] at zq; exact zq) rc_71 HH_len rfl ⟨rfl, rfl⟩ ?_
    refine g_aload_n dX8_centre_33 rfl ?_
    refine q_getq dX8_centre_34 f_P_29 ck_5 (by decide) ty_7_4 rf_5_4 ?_
    refine g_aload_n dX8_centre_37 rfl ?_
    refine q_getq dX8_centre_38 f_P_12 ck_5 (by decide) ty_7_0 rf_5_0 ?_
    refine g_iload_n dX8_centre_41 rfl ?_
    refine g_v2 (M' := KS_tell) dX8_centre_42 l_P_185 v_KS_tell (c_KS_tell1 LB_6 (hR.w.trans hwd.2.2) (hR.h.trans hhg.2.2) (by omega) (by omega) bw bx by2 gx gy) rc_71 rfl rfl ⟨rfl, rfl⟩ ?_
    refine g_s1 (M' := KB_ofDouble) dX8_centre_45 l_P_188 s_KB_ofDouble (cn_ofD bw by2 (by omega) gy) rfl rfl ⟨rfl, rfl⟩ ?_
    exact e_lret dX8_centre_48 rfl (by rfl) (by rfl)
  · exact absurd zc15 (by decide)
set_option maxRecDepth 100000 in
theorem c_KR_centre_ok1 {σ : SI} {δ : SD} {a : Nat → Int32} {n s tl : Nat} {P : Nat → Nat → Int32} {tx rf : Nat → Int32} (hJ : IR σ a s P tl tx rf) (hs : s ≤ 5) (hW : WF a n) {w0 sx0 sy0 : Nat} (hw0 : swN (liesA a) (wgN a) n = w0) (hsx : swN (liesA a) (fun j => wgN a j * (2 * xN' a j + wN a j)) n = sx0) (hsy : swN (liesA a) (fun j => wgN a j * (2 * yN' a j + hN' a j)) n = sy0) : E KR_centre [.ref 84, .int (nI 1)] (HH σ δ) (some (.long (cnD w0 sy0 (a 1).toNatClampNeg).toInt64)) (HH σ δ) := by
  obtain rfl := hJ.row
  have h3 := hJ.sd
  have hn := hW.n8
  have h7 := hW.a7
  have h8 := hW.n8
  refine E.ofL [some (.ref 84), some (.int (nI 1))] rfl pn_RX9 rfl (fun sc => ?_)
  refine g_iload_n dX9_centre_0 rfl ?_
  refine g_i2l dX9_centre_1 ?_
  refine g_lconst (v := 0) dX9_centre_2 rfl ?_
  refine g_ldcl dX9_centre_3 c_R_117 ?_
  refine g_s3 (M' := KR_in) dX9_centre_6 l_R_46 s_KR_in c_KR_in rfl rfl ⟨rfl, rfl⟩ ?_
  refine g_top (show _ = nI 1 by decide +kernel) ?_
  refine n_if_eq (tgt := 20) (by omega) dX9_centre_9 rfl (fun zc9 => absurd zc9 (by decide)) (fun _ => ?_)
  refine g_aload_n dX9_centre_12 rfl ?_
  refine g_iload_n dX9_centre_13 rfl ?_
  refine g_v1 (M' := KR_centreBits) dX9_centre_14 l_R_274 v_KR_centreBits (by have zq := c_KR_centreBits1 (σ := σ) (δ := δ) hW rfl rfl; rw [hw0, hsy] at zq; exact zq) rc_84 rfl rfl ⟨rfl, rfl⟩ ?_
  refine g_goto (tgt := 27) dX9_centre_17 rfl ?_
  exact e_lret dX9_centre_27 rfl (by rfl) (by rfl)
set_option maxRecDepth 100000 in
theorem c_KP_centre_ok2 {σ : SI} {δ : SD} {a : Nat → Int32} {n s o tl : Nat} {P : Nat → Nat → Int32} {tx rf : Nat → Int32} (hI : IC σ a n s o P tl tx rf) {w0 sx0 sy0 : Nat} (hw0 : swN (liesA a) (wgN a) n = w0) (hsx : swN (liesA a) (fun j => wgN a j * (2 * xN' a j + wN a j)) n = sx0) (hsy : swN (liesA a) (fun j => wgN a j * (2 * yN' a j + hN' a j)) n = sy0) : E KP_centre [.ref 5, .int (nI 2)] (HH σ δ) (some (.long (blD w0 sx0 sy0 (a 0).toNatClampNeg (a 1).toNatClampNeg).toInt64)) (HH σ (dS δ w0 sx0 sy0)) := by
  have hW := hI.hl.wf
  have hR := hI.hl.rb
  have hD := hI.hl.rd
  have h2 := hR.c
  have h8 := hW.n8
  have hB := LB_6
  have hwd := hW.wid
  have hhg := hW.hei
  obtain ⟨bw, bx, by2, gx, gy⟩ := sw_fin (q := liesA a) hW (fun _ _ h => h)
  rw [hw0] at bw
  rw [hsx] at bx
  rw [hsy] at by2
  rw [hw0, hsx] at gx
  rw [hw0, hsy] at gy
  refine E.ofL [some (.ref 5), some (.int (nI 2))] rfl pn_RX8 rfl (fun sc => ?_)
  refine g_iload_n dX8_centre_0 rfl ?_
  refine g_iconst dX8_centre_1 ic_0 ?_
  refine g_iconst dX8_centre_2 ic_2 ?_
  refine g_s3 (M' := KP_within) dX8_centre_3 l_P_96 s_KP_within c_KP_within rfl rfl ⟨rfl, rfl⟩ ?_
  refine g_top (show _ = bI true by decide +kernel) ?_
  refine g_s1 (M' := KP_goodIf) dX8_centre_6 l_P_81 s_KP_goodIf c_KP_goodIf rfl rfl ⟨rfl, rfl⟩ ?_
  refine g_top (if_pos rfl) ?_
  refine g_istore_n dX8_centre_9 rfl ?_
  refine g_aload_n dX8_centre_10 rfl ?_
  refine g_iload_n dX8_centre_11 rfl ?_
  refine g_v1 (M' := KP_mayAnswer) dX8_centre_12 l_P_100 v_KP_mayAnswer c_KP_mayAnswer0 rc_5 rfl rfl ⟨rfl, rfl⟩ ?_
  refine b_if_ne (tgt := 21) dX8_centre_15 rfl (fun zc15 => ?_) (fun zc15 => ?_)
  · refine g_aload_n dX8_centre_21 rfl ?_
    refine q_getq dX8_centre_22 f_P_29 ck_5 (by decide) ty_7_4 rf_5_4 ?_
    refine g_aload_n dX8_centre_25 rfl ?_
    refine q_getq dX8_centre_26 f_P_12 ck_5 (by decide) ty_7_0 rf_5_0 ?_
    refine g_iconst dX8_centre_29 ic_m1 ?_
    refine g_v2n (M' := KS_weighAll) dX8_centre_30 l_P_181 v_KS_weighAll (by have zq := c_KS_weighAll (σ := σ) (δ := δ) (bt := -1) LB_6 hW hR hD; rw [sw_m1 h8, sw_m1 h8, sw_m1 h8, hw0, hsx, hsy] at zq; exact zq) rc_71 HH_len rfl ⟨rfl, rfl⟩ ?_
    refine g_aload_n dX8_centre_33 rfl ?_
    refine q_getq dX8_centre_34 f_P_29 ck_5 (by decide) ty_7_4 rf_5_4 ?_
    refine g_aload_n dX8_centre_37 rfl ?_
    refine q_getq dX8_centre_38 f_P_12 ck_5 (by decide) ty_7_0 rf_5_0 ?_
    refine g_iload_n dX8_centre_41 rfl ?_
    refine g_v2 (M' := KS_tell) dX8_centre_42 l_P_185 v_KS_tell (c_KS_tell2 LB_6 (hR.w.trans hwd.2.2) (hR.h.trans hhg.2.2) (by omega) (by omega) bw bx by2 gx gy) rc_71 rfl rfl ⟨rfl, rfl⟩ ?_
    refine g_s1 (M' := KB_ofDouble) dX8_centre_45 l_P_188 s_KB_ofDouble (bl_ofD (by omega) (by omega) bw bx by2 gx gy) rfl rfl ⟨rfl, rfl⟩ ?_
    exact e_lret dX8_centre_48 rfl (by rfl) (by rfl)
  · exact absurd zc15 (by decide)
set_option maxRecDepth 100000 in
theorem c_KR_centre_ok2 {σ : SI} {δ : SD} {a : Nat → Int32} {n s tl : Nat} {P : Nat → Nat → Int32} {tx rf : Nat → Int32} (hJ : IR σ a s P tl tx rf) (hs : s ≤ 5) (hW : WF a n) {w0 sx0 sy0 : Nat} (hw0 : swN (liesA a) (wgN a) n = w0) (hsx : swN (liesA a) (fun j => wgN a j * (2 * xN' a j + wN a j)) n = sx0) (hsy : swN (liesA a) (fun j => wgN a j * (2 * yN' a j + hN' a j)) n = sy0) : E KR_centre [.ref 84, .int (nI 2)] (HH σ δ) (some (.long (blD w0 sx0 sy0 (a 0).toNatClampNeg (a 1).toNatClampNeg).toInt64)) (HH σ δ) := by
  obtain rfl := hJ.row
  have h3 := hJ.sd
  have hn := hW.n8
  have h7 := hW.a7
  have h8 := hW.n8
  refine E.ofL [some (.ref 84), some (.int (nI 2))] rfl pn_RX9 rfl (fun sc => ?_)
  refine g_iload_n dX9_centre_0 rfl ?_
  refine g_i2l dX9_centre_1 ?_
  refine g_lconst (v := 0) dX9_centre_2 rfl ?_
  refine g_ldcl dX9_centre_3 c_R_117 ?_
  refine g_s3 (M' := KR_in) dX9_centre_6 l_R_46 s_KR_in c_KR_in rfl rfl ⟨rfl, rfl⟩ ?_
  refine g_top (show _ = nI 1 by decide +kernel) ?_
  refine n_if_eq (tgt := 20) (by omega) dX9_centre_9 rfl (fun zc9 => absurd zc9 (by decide)) (fun _ => ?_)
  refine g_aload_n dX9_centre_12 rfl ?_
  refine g_iload_n dX9_centre_13 rfl ?_
  refine g_v1 (M' := KR_centreBits) dX9_centre_14 l_R_274 v_KR_centreBits (by have zq := c_KR_centreBits2 (σ := σ) (δ := δ) hW rfl rfl; rw [hw0, hsx, hsy] at zq; exact zq) rc_84 rfl rfl ⟨rfl, rfl⟩ ?_
  refine g_goto (tgt := 27) dX9_centre_17 rfl ?_
  exact e_lret dX9_centre_27 rfl (by rfl) (by rfl)
set_option maxRecDepth 100000 in
theorem c_KP_centre_no2 {σ : SI} {δ : SD} {a : Nat → Int32} {n s o tl : Nat} {P : Nat → Nat → Int32} {tx rf : Nat → Int32} (hI : IC σ a n s o P tl tx rf) {what : Int32} (hk : inB what (nI 0) (nI 2) = false) : E KP_centre [.ref 5, .int what] (HH σ δ) (some (.long (-2 : Int32).toInt64)) (HH (rfC σ 0) δ) := by
  have hW := hI.hl.wf
  have hR := hI.hl.rb
  have hD := hI.hl.rd
  have h2 := hR.c
  have h8 := hW.n8
  have hB := LB_6
  refine E.ofL [some (.ref 5), some (.int what)] rfl pn_RX8 rfl (fun sc => ?_)
  refine g_iload_n dX8_centre_0 rfl ?_
  refine g_iconst dX8_centre_1 ic_0 ?_
  refine g_iconst dX8_centre_2 ic_2 ?_
  refine g_s3 (M' := KP_within) dX8_centre_3 l_P_96 s_KP_within c_KP_within rfl rfl ⟨rfl, rfl⟩ ?_
  refine g_top (show _ = bI false by rw [hk]) ?_
  refine g_s1 (M' := KP_goodIf) dX8_centre_6 l_P_81 s_KP_goodIf c_KP_goodIf rfl rfl ⟨rfl, rfl⟩ ?_
  refine g_top (if_neg (by decide)) ?_
  refine g_istore_n dX8_centre_9 rfl ?_
  refine g_aload_n dX8_centre_10 rfl ?_
  refine g_iload_n dX8_centre_11 rfl ?_
  refine g_v1 (M' := KP_mayAnswer) dX8_centre_12 l_P_100 v_KP_mayAnswer c_KP_mayAnswer2 rc_5 rfl rfl ⟨rfl, rfl⟩ ?_
  refine b_if_ne (tgt := 21) dX8_centre_15 rfl (fun zc15 => ?_) (fun zc15 => ?_)
  · exact absurd zc15 (by decide)
  · refine g_iload_n dX8_centre_18 rfl ?_
    refine g_i2l dX8_centre_19 ?_
    exact e_lret dX8_centre_20 rfl (by rfl) (by rfl)
set_option maxRecDepth 100000 in
theorem c_KR_centre_no2 {σ : SI} {δ : SD} {a : Nat → Int32} {n s tl : Nat} {P : Nat → Nat → Int32} {tx rf : Nat → Int32} (hJ : IR σ a s P tl tx rf) (hs : s ≤ 5) (hW : WF a n) {what : Int32} (hk : inB what (nI 0) (nI 2) = false) : E KR_centre [.ref 84, .int what] (HH σ δ) (some (.long (-2 : Int32).toInt64)) (HH (rfM σ 0) δ) := by
  obtain rfl := hJ.row
  have h3 := hJ.sd
  have hn := hW.n8
  have h7 := hW.a7
  have h8 := hW.n8
  refine E.ofL [some (.ref 84), some (.int what)] rfl pn_RX9 rfl (fun sc => ?_)
  refine g_iload_n dX9_centre_0 rfl ?_
  refine g_i2l dX9_centre_1 ?_
  refine g_lconst (v := 0) dX9_centre_2 rfl ?_
  refine g_ldcl dX9_centre_3 c_R_117 ?_
  refine g_s3 (M' := KR_in) dX9_centre_6 l_R_46 s_KR_in c_KR_in rfl rfl ⟨rfl, rfl⟩ ?_
  refine b_if_eq (tgt := 20) dX9_centre_9 rfl (fun zc9 => ?_) (fun zc9 => ?_)
  · refine g_aload_n dX9_centre_20 rfl ?_
    refine g_bipush dX9_centre_21 bp_m2 ?_
    refine g_v1 (M' := KR_refuses) dX9_centre_23 l_R_101 v_KR_refuses c_KR_refuses0 rc_84 rfl rfl ⟨rfl, rfl⟩ ?_
    refine g_i2l dX9_centre_26 ?_
    exact e_lret dX9_centre_27 rfl (by rfl) (by rfl)
  · simp only [w64_0, w64_2, inL_wide] at zc9; exact absurd zc9 (by rw [hk]; decide)
section STEPS51
variable {σ : SI} {δ : SD}
theorem step_free {k what : Int32} (hT : InvT σ) : Step KP_free KR_free [.int k, .int what] σ δ := by
  obtain ⟨a, n, s, o, P, tl, tx, rf, hI, hJ⟩ := hT
  have hW := hI.hl.wf
  have hn := hW.n8
  by_cases hk : (itB k n && inB what (nI 0) (nI 3)) = true
  · have hq := hk
    rw [Bool.and_eq_true] at hq
    obtain ⟨k0, hk0, rfl⟩ := (itB_iff (by omega)).mp hq.1
    obtain ⟨j, -, hj, rfl⟩ := (inB_iff (by decide) (by decide)).mp hq.2
    rcases (show j = 0 ∨ j = 1 ∨ j = 2 ∨ j = 3 by omega) with rfl | rfl | rfl | rfl
    · exact Step.same hI hJ (c_KP_free_ok0 hI hk0) (c_KR_free_ok0 hJ hI.s5 hW hk0)
    · exact Step.of (c_KP_free_ok1 hI hk0 rfl rfl rfl) (c_KR_free_ok1 hJ hI.s5 hW hk0) hI hJ (fun _ _ => rfl)
    · exact Step.same hI hJ (c_KP_free_ok2 hI hk0) (c_KR_free_ok2 hJ hI.s5 hW hk0)
    · exact Step.same hI hJ (c_KP_free_ok3 hI hk0) (c_KR_free_ok3 hJ hI.s5 hW hk0)
  · exact Step.no (by decide) hI hJ (c_KP_free_no2 hI hk) (fun h1 => c_KR_free_no2 h1 hI.s5 hW hk)
theorem step_centre {what : Int32} (hT : InvT σ) : Step KP_centre KR_centre [.int what] σ δ := by
  obtain ⟨a, n, s, o, P, tl, tx, rf, hI, hJ⟩ := hT
  have hW := hI.hl.wf
  cases hk : inB what (nI 0) (nI 2) with
  | true =>
    obtain ⟨j, -, hj, rfl⟩ := (inB_iff (by decide) (by decide)).mp hk
    rcases (show j = 0 ∨ j = 1 ∨ j = 2 by omega) with rfl | rfl | rfl
    · exact Step.of (c_KP_centre_ok0 hI rfl rfl rfl) (c_KR_centre_ok0 hJ hI.s5 hW rfl rfl rfl) hI hJ (fun _ _ => rfl)
    · exact Step.of (c_KP_centre_ok1 hI rfl rfl rfl) (c_KR_centre_ok1 hJ hI.s5 hW rfl rfl rfl) hI hJ (fun _ _ => rfl)
    · exact Step.of (c_KP_centre_ok2 hI rfl rfl rfl) (c_KR_centre_ok2 hJ hI.s5 hW rfl rfl rfl) hI hJ (fun _ _ => rfl)
  | false => exact Step.no (by decide) hI hJ (c_KP_centre_no2 hI hk) (fun h1 => c_KR_centre_no2 h1 hI.s5 hW hk)
end STEPS51
