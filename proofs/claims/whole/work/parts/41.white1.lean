/-! CONTRACTS: white cells -/
def shP (a : Nat → Int32) (x y : Nat) : Bool := decide (x < (a 0).toNatClampNeg) && decide (y < (a 1).toNatClampNeg)
/-- white -/
def whP (a : Nat → Int32) (n p : Nat) : Bool := shP a (p % 16) (p / 16) && !anyN (fun k => coversA a k (p % 16) (p / 16)) n
section WH
variable {a : Nat → Int32} {n p k : Nat} {σ : SI}
theorem sh_in (hW : WF a n) {x y : Nat} (hx : x < 16) (hy : y < 16) : (inB (nI x) (nI 0) (a 0 - nI 1) && inB (nI y) (nI 0) (a 1 - nI 1)) = shP a x y := by
  have hw := hW.wid
  have hh := hW.hei
  unfold shP
  generalize (a 0).toNatClampNeg = w at *
  generalize (a 1).toNatClampNeg = h at *
  rw [hw.2.2, hh.2.2, pk_sub (by omega), pk_sub (by omega), inB_nI (by omega) (by omega) (by omega), inB_nI (by omega) (by omega) (by omega), Bool.eq_iff_iff]
  simp only [Bool.and_eq_true, decide_eq_true_eq]
  omega
theorem cov_none (hn : n ≤ 8) {f : Nat → Bool} : findI f n = -1 ↔ anyN f n = false := by
  constructor
  · intro h
    cases q : anyN f n with
    | false => rfl
    | true =>
      obtain ⟨k, h1, h2⟩ := anyN_iff.mp q
      rw [findI_none (by omega) h k h1] at h2
      exact absurd h2 (by decide)
  · intro h
    refine findI_no (fun i hi => ?_)
    cases q : f i with
    | false => rfl
    | true => rw [anyN_iff.mpr ⟨i, hi, q⟩] at h; exact absurd h (by decide)
theorem lw_n1 (h : shP a (p % 16) (p / 16) = false) : uI (fill σ 90 (fun i => bI (whP a n i)) p) 90 p (nI 0) = fill σ 90 (fun i => bI (whP a n i)) (p + 1) := by
  rw [← fill_succ, show bI (whP a n p) = nI 0 by unfold whP; rw [h]; rfl]
theorem lw_n2 (h : shP a (p % 16) (p / 16) = true) (h2 : ¬ findI (fun k => coversA a k (p % 16) (p / 16)) n = -1) (hn : n ≤ 8 := by omega) : uI (fill σ 90 (fun i => bI (whP a n i)) p) 90 p (nI 0) = fill σ 90 (fun i => bI (whP a n i)) (p + 1) := by
  rw [← fill_succ]
  have : anyN (fun k => coversA a k (p % 16) (p / 16)) n = true := by
    cases q : anyN (fun k => coversA a k (p % 16) (p / 16)) n with
    | true => rfl
    | false => exact absurd ((cov_none hn).mpr q) h2
  rw [show bI (whP a n p) = nI 0 by unfold whP; rw [h, this]; rfl]
theorem lw_y (h : shP a (p % 16) (p / 16) = true) (h2 : findI (fun k => coversA a k (p % 16) (p / 16)) n = -1) (hn : n ≤ 8 := by omega) : uI (fill σ 90 (fun i => bI (whP a n i)) p) 90 p (nI 1) = fill σ 90 (fun i => bI (whP a n i)) (p + 1) := by
  rw [← fill_succ]
  have := (cov_none hn).mp h2
  rw [show bI (whP a n p) = nI 1 by unfold whP; rw [h, this]; rfl]
theorem mn_is {x y : Nat} (hx : x < 2147483648) (hy : y < 2147483648) : (if nI y < nI x then nI y else nI x) = nI (min x y) := by
  by_cases h : y < x
  · rw [if_pos ((nI_ltI hy hx).mpr h), show min x y = y by omega]
  · rw [if_neg (fun q => h ((nI_ltI hy hx).mp q)), show min x y = x by omega]
theorem mx_0 {y : Nat} (hy : y < 2147483648) : (if nI 0 < nI y then nI y else nI 0) = nI y := by
  by_cases h : 0 < y
  · rw [if_pos ((nI_ltI (by decide) hy).mpr h)]
  · rw [show y = 0 by omega]; rfl
theorem uR_id {c : Nat} : uR σ c (σ c) = σ := by
  funext x y
  unfold uR
  split
  · rename_i h; rw [h]
  · rfl
theorem uI_uR {c k : Nat} {g : Nat → Int32} {v : Int32} : uI (uR σ c g) c k v = uR σ c (upd g k v) := by
  funext x y
  unfold uI uR upd
  by_cases h : x = c
  · by_cases h2 : y = k
    · simp [h, h2]
    · simp [h, h2]
  · simp [h]
theorem uR_uR {c : Nat} {f g : Nat → Int32} : uR (uR σ c f) c g = uR σ c g := by
  funext x y
  unfold uR
  by_cases h : x = c <;> simp [h]
/-- covered from x0, y0 on, up to the place x, y -/
def cvP (x0 x1 y0 y x p : Nat) : Bool := (decide (y0 ≤ p / 16) && decide (p / 16 < y) && decide (x0 ≤ p % 16) && decide (p % 16 < x1)) || (decide (p / 16 = y) && decide (x0 ≤ p % 16) && decide (p % 16 < x))
def cvF (g : Nat → Int32) (x0 x1 y0 y x : Nat) : Nat → Int32 := fun p => if cvP x0 x1 y0 y x p then nI 0 else g p
theorem cvF_0 {g : Nat → Int32} {x0 x1 y0 : Nat} : cvF g x0 x1 y0 y0 x0 = g := by
  funext p
  unfold cvF
  rw [if_neg]
  unfold cvP
  simp <;> omega
theorem cvF_row {g : Nat → Int32} {x0 x1 y0 y x : Nat} (hx : x1 ≤ x) (hx2 : x ≤ max x0 x1 ∧ y0 ≤ y) : cvF g x0 x1 y0 y x = cvF g x0 x1 y0 (y + 1) x0 := by
  funext p
  unfold cvF
  congr 1
  rw [eq_iff_iff]
  unfold cvP
  simp <;> omega
theorem cvF_at {g : Nat → Int32} {x0 x1 y0 y x : Nat} {c : SI} (hx : x < 16) (hx0 : x0 ≤ x) (hx1 : x < x1) (hy : y0 ≤ y) : uI (uR c 78 (cvF g x0 x1 y0 y x)) 78 (16 * y + x) (nI 0) = uR c 78 (cvF g x0 x1 y0 y (x + 1)) := by
  rw [uI_uR]
  congr 1
  funext p
  unfold upd cvF
  by_cases h : p = 16 * y + x
  · rw [if_pos h, if_pos]
    unfold cvP
    simp <;> omega
  · rw [if_neg h]
    congr 1
    rw [eq_iff_iff]
    unfold cvP
    simp <;> omega
/-- how many white ones stand one behind the other from p, m at most -/
def rnR (f : Nat → Bool) (p : Nat) : Nat → Nat
  | 0 => 0
  | m + 1 => if f p then rnR f (p + 1) m + 1 else 0
def rnG (f : Nat → Bool) (old : Nat → Int32) (W y x : Nat) : Nat → Int32 := fun p => if (decide (p / 16 < y) && decide (p % 16 < W)) || (decide (p / 16 = y) && decide (x ≤ p % 16) && decide (p % 16 < W)) then nI (rnR f p (W - p % 16)) else old p
def cdn (f : Nat → Bool) (y W : Nat) : Nat → Nat
  | 0 => 0
  | d + 1 => cdn f y W d + (if f (16 * y + (W - (d + 1))) = true then 1 else 0)
theorem decI_sub {w : Nat} (h : 1 ≤ w) : nI w - nI 1 = decI w := by
  cases w with
  | zero => omega
  | succ w => rw [pk_sub (by omega)]; rfl
theorem bI_nI {b : Bool} : bI b = nI (if b = true then 1 else 0) := by cases b <;> rfl
variable {f : Nat → Bool} {old : Nat → Int32} {W Hh y q m r c c1 : Nat}
theorem rnG_0 : rnG f old W 0 W = old := by
  funext p
  unfold rnG
  rw [if_neg]
  simp <;> omega
theorem rnG_row : rnG f old W y 0 = rnG f old W (y + 1) W := by
  funext p
  unfold rnG
  congr 1
  rw [eq_iff_iff]
  simp <;> omega
theorem rn_y (h : f (16 * y + q) = true) (hr : r = rnR f (16 * y + (q + 1)) (W - (q + 1))) (hq : q < W) : r + 1 = rnR f (16 * y + q) (W - q) := by
  rw [show W - q = (W - (q + 1)) + 1 by omega]
  unfold rnR
  rw [h, hr]
  rfl
theorem rn_n (h : f (16 * y + q) = false) (hq : q < W) : 0 = rnR f (16 * y + q) (W - q) := by
  rw [show W - q = (W - (q + 1)) + 1 by omega]
  unfold rnR
  rw [h]
  rfl
theorem cd_s (hq : q < W) : c + cdn f y W (W - (q + 1)) + (if f (16 * y + q) = true then 1 else 0) = c + cdn f y W (W - q) := by
  rw [show W - q = (W - (q + 1)) + 1 by omega]
  show _ = c + (cdn f y W (W - (q + 1)) + (if f (16 * y + (W - ((W - (q + 1)) + 1))) = true then 1 else 0))
  rw [show W - ((W - (q + 1)) + 1) = q by omega, Nat.add_assoc]
theorem cd_all : ∀ d, d ≤ W → cntN f (16 * y + (W - d)) + cdn f y W d = cntN f (16 * y + W)
  | 0, _ => by simp [cdn]
  | d + 1, h => by
    have := cd_all d (by omega)
    rw [show W - d = (W - (d + 1)) + 1 by omega] at this
    rw [← this]
    show _ + (cdn f y W d + _) = cntN f (16 * y + (W - (d + 1))) + (if f (16 * y + (W - (d + 1))) then 1 else 0) + cdn f y W d
    omega
theorem cd_row (hf : ∀ p, p < 256 → f p = true → p % 16 < W ∧ p / 16 < Hh) (hW : W ≤ 16) (hy : y < 16) : cntN f (16 * y) + cdn f y W (W - 0) = cntN f (16 * (y + 1)) := by
  have h1 := cd_all (f := f) (y := y) (W := W) W (Nat.le_refl _)
  rw [Nat.sub_self] at h1
  have h2 := skip_C (p := f) (k := 16 * y + W) (16 - W) (fun i g1 g2 => by
    cases e : f i with
    | false => rfl
    | true => have := hf i (by omega) e; omega)
  rw [show 16 * y + W + (16 - W) = 16 * (y + 1) by omega] at h2
  rw [Nat.sub_zero, h2, ← h1]
  rfl
theorem cnt_H (hf : ∀ p, p < 256 → f p = true → p % 16 < W ∧ p / 16 < Hh) (hH : Hh ≤ 16) : cntN f (16 * Hh) = cntN f 256 := by
  have h2 := skip_C (p := f) (k := 16 * Hh) (256 - 16 * Hh) (fun i g1 g2 => by
    cases e : f i with
    | false => rfl
    | true => have := hf i (by omega) e; omega)
  rw [show 16 * Hh + (256 - 16 * Hh) = 256 by omega] at h2
  exact h2.symm
theorem rnG_at (hq : q < W) (hW : W ≤ 16) : upd (rnG f old W y (q + 1)) (16 * y + q) (nI (rnR f (16 * y + q) (W - q))) = rnG f old W y q := by
  funext p
  unfold upd rnG
  by_cases h : p = 16 * y + q
  · rw [if_pos h, if_pos]
    · rw [h, show (16 * y + q) % 16 = q by omega]
    · simp; omega
  · rw [if_neg h]
    congr 1
    rw [eq_iff_iff]
    simp <;> omega
theorem cc_y {u : Nat} (h : f (16 * y + q) = true) (hr : r = rnR f (16 * y + (q + 1)) (W - (q + 1))) (hq : q < W ∧ W ≤ 16) : uI (uI (uI (uR σ 77 (rnG f old W y (q + 1))) 76 2 (nI c1)) 77 (16 * y + q) (nI (r + 1))) 76 2 (nI u) = uI (uR σ 77 (rnG f old W y q)) 76 2 (nI u) := by
  rw [uI_cm (by decide), uI_uI, uI_cm (by decide), uI_uR, rn_y h hr hq.1, rnG_at hq.1 hq.2]
theorem cc_n {u : Nat} (h : f (16 * y + q) = false) (hr : r = rnR f (16 * y + (q + 1)) (W - (q + 1))) (hq : q < W ∧ W ≤ 16) : uI (uI (uI (uR σ 77 (rnG f old W y (q + 1))) 76 2 (nI c1)) 77 (16 * y + q) (nI 0)) 76 2 (nI u) = uI (uR σ 77 (rnG f old W y q)) 76 2 (nI u) := by
  rw [uI_cm (by decide), uI_uI, uI_cm (by decide), uI_uR, show nI 0 = nI (rnR f (16 * y + q) (W - q)) by rw [← rn_n h hq.1], rnG_at hq.1 hq.2]
end WH
set_option maxRecDepth 100000 in
theorem c_KR_laysWhite {σ : SI} {δ : SD} {n : Nat} (hW : WF (σ 85) n) : E KR_laysWhite [.ref 84] (HH σ δ) (some (.int (nI (cntN (whP (σ 85) n) 256)))) (HH (fill σ 90 (fun i => bI (whP (σ 85) n i)) 256) δ) := by
  have h8 := hW.n8
  refine E.ofL [some (.ref 84)] rfl pn_RX9 rfl (fun sc => ?_)
  generalize hRz : (fun (zr : Option Value) (zk : XH) => zr = some (.int (nI (cntN (whP (σ 85) n) 256))) ∧ zk = HH (fill σ 90 (fun i => bI (whP (σ 85) n i)) 256) δ) = R
  refine g_iconst dX9_laysWhite_0 ic_0 ?_
  refine g_istore_n dX9_laysWhite_1 rfl ?_
  refine g_iconst dX9_laysWhite_2 ic_0 ?_
  refine g_istore_n dX9_laysWhite_3 rfl ?_
  refine g_heap (show HH σ δ = HH (fill σ 90 (fun i => bI (whP (σ 85) n i)) 0) δ by rw [fill_0]) ?_
  have H4 : ∀ (N : Nat) (p c : Nat), p ≤ 256 → c = cntN (whP (σ 85) n) p → 256 - p < N → G sc KR_laysWhite 4 (aL [some (.ref 84), some (.int (nI c)), some (.int (nI p))]) [] (HH (fill σ 90 (fun i => bI (whP (σ 85) n i)) p) δ) (0, 0) R := by
    intro N
    induction N with
    | zero => intro p c h1 hb hN4; exact absurd hN4 (Nat.not_lt_zero _)
    | succ N ih4 =>
      intro p c h1 hb hN4
      refine g_iload_n dX9_laysWhite_4 rfl ?_
      refine g_sipush dX9_laysWhite_5 sp_256 ?_
      refine n_icmp_ge (tgt := 76) (by omega) (by omega) dX9_laysWhite_8 rfl (fun zc8 => ?_) (fun zc8 => ?_)
      · refine g_iload_n dX9_laysWhite_76 rfl ?_
        exact g_iret (S := []) dX9_laysWhite_77 rfl (by rw [← hRz]; exact ⟨congrArg (fun zz => some (Value.int zz)) (show _ = _ by rw [hb, show p = 256 by omega]), by rw [show p = 256 by omega]⟩) (Nat.zero_le _) (Nat.zero_le _)
      · refine g_aload_n dX9_laysWhite_11 rfl ?_
        refine q_getq dX9_laysWhite_12 f_R_25 ck_84 (by decide) ty_8_6 rf_84_6 ?_
        refine g_iload_n dX9_laysWhite_15 rfl ?_
        refine g_aload_n dX9_laysWhite_16 rfl ?_
        refine g_iload_n dX9_laysWhite_17 rfl ?_
        refine g_bipush dX9_laysWhite_18 bp_16 ?_
        refine n_irem dX9_laysWhite_20 (by omega) (by omega) (by omega) ?_
        refine g_iload_n dX9_laysWhite_21 rfl ?_
        refine g_bipush dX9_laysWhite_22 bp_16 ?_
        refine n_idiv dX9_laysWhite_24 (by omega) (by omega) (by omega) ?_
        refine g_v2 (M' := KR_isCell) dX9_laysWhite_25 l_R_224 v_KR_isCell (c_KR_isCell (n := n) (by rw [fill_row (by decide)]; exact hW)) rc_84 rfl rfl ⟨rfl, rfl⟩ ?_
        refine g_top (show _ = bI (shP (σ 85) (p % 16) (p / 16)) by rw [fill_row (by decide)]; exact congrArg bI (sh_in hW (by omega) (by omega))) ?_
        refine b_if_eq (tgt := 51) dX9_laysWhite_28 rfl (fun zc28 => ?_) (fun zc28 => ?_)
        · refine g_iconst dX9_laysWhite_51 ic_0 ?_
          refine q_zast dX9_laysWhite_52 ck_90 (ixD_nI (by omega) (by decide)) (Or.inl rfl) ?_
          refine g_heap (congrArg (fun z => HH z δ) (show _ = fill σ 90 (fun i => bI (whP (σ 85) n i)) (p + 1) by first | exact lw_y zc28 zc44 | exact lw_n1 zc28 | exact lw_n2 zc28 zc44)) ?_
          refine g_iload_n dX9_laysWhite_53 rfl ?_
          refine g_aload_n dX9_laysWhite_54 rfl ?_
          refine q_getq dX9_laysWhite_55 f_R_25 ck_84 (by decide) ty_8_6 rf_84_6 ?_
          refine g_iload_n dX9_laysWhite_58 rfl ?_
          refine q_zald dX9_laysWhite_59 ck_90 (ixD_nI (by omega) (by decide)) ?_
          refine g_top (fill_in (show p < p + 1 by omega)) ?_
          refine b_if_eq (tgt := 67) dX9_laysWhite_60 rfl (fun zc60 => ?_) (fun zc60 => ?_)
          · refine g_iconst dX9_laysWhite_67 ic_0 ?_
            refine n_iadd dX9_laysWhite_68 ?_
            refine g_istore_n dX9_laysWhite_69 rfl ?_
            refine n_iinc (b := 1) dX9_laysWhite_70 rfl rfl rfl ?_
            refine g_goto (tgt := 4) dX9_laysWhite_73 rfl ?_
            exact g_can _ (by exact ⟨rfl, rfl, rfl, trivial⟩) (ih4 (p + 1) _ (by omega) (by rw [hb, cntN, zc60]; rfl) (by omega))
          · refine g_iconst dX9_laysWhite_63 ic_1 ?_
            refine g_goto (tgt := 68) dX9_laysWhite_64 rfl ?_
            refine n_iadd dX9_laysWhite_68 ?_
            refine g_istore_n dX9_laysWhite_69 rfl ?_
            refine n_iinc (b := 1) dX9_laysWhite_70 rfl rfl rfl ?_
            refine g_goto (tgt := 4) dX9_laysWhite_73 rfl ?_
            exact g_can _ (by exact ⟨rfl, rfl, rfl, trivial⟩) (ih4 (p + 1) _ (by omega) (by rw [hb, cntN, zc60]; rfl) (by omega))
        · refine g_aload_n dX9_laysWhite_31 rfl ?_
          refine g_iload_n dX9_laysWhite_32 rfl ?_
          refine g_bipush dX9_laysWhite_33 bp_16 ?_
          refine n_irem dX9_laysWhite_35 (by omega) (by omega) (by omega) ?_
          refine g_iload_n dX9_laysWhite_36 rfl ?_
          refine g_bipush dX9_laysWhite_37 bp_16 ?_
          refine n_idiv dX9_laysWhite_39 (by omega) (by omega) (by omega) ?_
          refine g_v2 (M' := KR_covering) dX9_laysWhite_40 l_R_227 v_KR_covering (c_KR_covering (n := n) (by rw [fill_row (by decide)]; exact hW) (by omega) (by omega)) rc_84 rfl rfl ⟨rfl, rfl⟩ ?_
          refine g_top (show _ = findI (fun k => coversA (σ 85) k (p % 16) (p / 16)) n by rw [fill_row (by decide)]) ?_
          refine g_iconst dX9_laysWhite_43 ic_m1 ?_
          refine g_icmp_ne (tgt := 51) dX9_laysWhite_44 rfl (fun zc44 => ?_) (fun zc44 => ?_)
          · refine g_iconst dX9_laysWhite_51 ic_0 ?_
            refine q_zast dX9_laysWhite_52 ck_90 (ixD_nI (by omega) (by decide)) (Or.inl rfl) ?_
            refine g_heap (congrArg (fun z => HH z δ) (show _ = fill σ 90 (fun i => bI (whP (σ 85) n i)) (p + 1) by first | exact lw_y zc28 zc44 | exact lw_n1 zc28 | exact lw_n2 zc28 zc44)) ?_
            refine g_iload_n dX9_laysWhite_53 rfl ?_
            refine g_aload_n dX9_laysWhite_54 rfl ?_
            refine q_getq dX9_laysWhite_55 f_R_25 ck_84 (by decide) ty_8_6 rf_84_6 ?_
            refine g_iload_n dX9_laysWhite_58 rfl ?_
            refine q_zald dX9_laysWhite_59 ck_90 (ixD_nI (by omega) (by decide)) ?_
            refine g_top (fill_in (show p < p + 1 by omega)) ?_
            refine b_if_eq (tgt := 67) dX9_laysWhite_60 rfl (fun zc60 => ?_) (fun zc60 => ?_)
            · refine g_iconst dX9_laysWhite_67 ic_0 ?_
              refine n_iadd dX9_laysWhite_68 ?_
              refine g_istore_n dX9_laysWhite_69 rfl ?_
              refine n_iinc (b := 1) dX9_laysWhite_70 rfl rfl rfl ?_
              refine g_goto (tgt := 4) dX9_laysWhite_73 rfl ?_
              exact g_can _ (by exact ⟨rfl, rfl, rfl, trivial⟩) (ih4 (p + 1) _ (by omega) (by rw [hb, cntN, zc60]; rfl) (by omega))
            · refine g_iconst dX9_laysWhite_63 ic_1 ?_
              refine g_goto (tgt := 68) dX9_laysWhite_64 rfl ?_
              refine n_iadd dX9_laysWhite_68 ?_
              refine g_istore_n dX9_laysWhite_69 rfl ?_
              refine n_iinc (b := 1) dX9_laysWhite_70 rfl rfl rfl ?_
              refine g_goto (tgt := 4) dX9_laysWhite_73 rfl ?_
              exact g_can _ (by exact ⟨rfl, rfl, rfl, trivial⟩) (ih4 (p + 1) _ (by omega) (by rw [hb, cntN, zc60]; rfl) (by omega))
          · refine g_iconst dX9_laysWhite_47 ic_1 ?_
            refine g_goto (tgt := 52) dX9_laysWhite_48 rfl ?_
            refine q_zast dX9_laysWhite_52 ck_90 (ixD_nI (by omega) (by decide)) (Or.inr rfl) ?_
            refine g_heap (congrArg (fun z => HH z δ) (show _ = fill σ 90 (fun i => bI (whP (σ 85) n i)) (p + 1) by first | exact lw_y zc28 zc44 | exact lw_n1 zc28 | exact lw_n2 zc28 zc44)) ?_
            refine g_iload_n dX9_laysWhite_53 rfl ?_
            refine g_aload_n dX9_laysWhite_54 rfl ?_
            refine q_getq dX9_laysWhite_55 f_R_25 ck_84 (by decide) ty_8_6 rf_84_6 ?_
            refine g_iload_n dX9_laysWhite_58 rfl ?_
            refine q_zald dX9_laysWhite_59 ck_90 (ixD_nI (by omega) (by decide)) ?_
            refine g_top (fill_in (show p < p + 1 by omega)) ?_
            refine b_if_eq (tgt := 67) dX9_laysWhite_60 rfl (fun zc60 => ?_) (fun zc60 => ?_)
            · refine g_iconst dX9_laysWhite_67 ic_0 ?_
              refine n_iadd dX9_laysWhite_68 ?_
              refine g_istore_n dX9_laysWhite_69 rfl ?_
              refine n_iinc (b := 1) dX9_laysWhite_70 rfl rfl rfl ?_
              refine g_goto (tgt := 4) dX9_laysWhite_73 rfl ?_
              exact g_can _ (by exact ⟨rfl, rfl, rfl, trivial⟩) (ih4 (p + 1) _ (by omega) (by rw [hb, cntN, zc60]; rfl) (by omega))
            · refine g_iconst dX9_laysWhite_63 ic_1 ?_
              refine g_goto (tgt := 68) dX9_laysWhite_64 rfl ?_
              refine n_iadd dX9_laysWhite_68 ?_
              refine g_istore_n dX9_laysWhite_69 rfl ?_
              refine n_iinc (b := 1) dX9_laysWhite_70 rfl rfl rfl ?_
              refine g_goto (tgt := 4) dX9_laysWhite_73 rfl ?_
              exact g_can _ (by exact ⟨rfl, rfl, rfl, trivial⟩) (ih4 (p + 1) _ (by omega) (by rw [hb, cntN, zc60]; rfl) (by omega))
  exact g_can _ (by exact ⟨rfl, rfl, rfl, trivial⟩) (H4 _ 0 0 (by omega) rfl (Nat.lt_succ_self _))
set_option maxRecDepth 100000 in
theorem c_KJ_fill {σ : SI} {δ : SD} {v : Int32} : E KJ_fill [.ref 78, .int v] (HH σ δ) (none) (HH (fill σ 78 (fun _ => v) 256) δ) := by
  refine E.ofL [some (.ref 78), some (.int v)] rfl pn_KJ_fill rfl (fun sc => ?_)
  generalize hRz : (fun (zr : Option Value) (zk : XH) => zr = none ∧ zk = HH (fill σ 78 (fun _ => v) 256) δ) = R
  refine g_iconst dJ7_fill_53178_0 ic_0 ?_
  refine g_istore_n dJ7_fill_53178_1 rfl ?_
  refine g_aload_n dJ7_fill_53178_2 rfl ?_
  refine q_alen dJ7_fill_53178_3 ck_78 ?_
  refine g_istore_n dJ7_fill_53178_4 rfl ?_
  refine g_heap (show HH σ δ = HH (fill σ 78 (fun _ => v) 0) δ by rw [fill_0]) ?_
  have H5 : ∀ (N : Nat) (k : Nat), k ≤ 256 → 256 - k < N → G sc KJ_fill 5 (aL [some (.ref 78), some (.int v), some (.int (nI k)), some (.int (nI 256))]) [] (HH (fill σ 78 (fun _ => v) k) δ) (0, 0) R := by
    intro N
    induction N with
    | zero => intro k h1 hN5; exact absurd hN5 (Nat.not_lt_zero _)
    | succ N ih5 =>
      intro k h1 hN5
      refine g_iload_n dJ7_fill_53178_5 rfl ?_
      refine g_iload_n dJ7_fill_53178_6 rfl ?_
      refine n_icmp_ge (tgt := 20) (by omega) (by omega) dJ7_fill_53178_7 rfl (fun zc7 => ?_) (fun zc7 => ?_)
      · exact g_vret (S := []) dJ7_fill_53178_20 rfl (by rw [← hRz]; exact ⟨rfl, by rw [show k = 256 by omega]⟩) (Nat.zero_le _) (Nat.zero_le _)
      · refine g_aload_n dJ7_fill_53178_10 rfl ?_
        refine g_iload_n dJ7_fill_53178_11 rfl ?_
        refine g_iload_n dJ7_fill_53178_12 rfl ?_
        refine q_iast dJ7_fill_53178_13 ck_78 (ixD_nI (by omega) (by decide)) ?_
        refine n_iinc (b := 1) dJ7_fill_53178_14 rfl rfl rfl ?_
        refine g_goto (tgt := 5) dJ7_fill_53178_17 rfl ?_
        refine g_heap (congrArg (fun z => HH z δ) (fill_succ σ 78 (fun _ => v) k)) ?_
        exact g_can _ (by exact ⟨rfl, rfl, rfl, rfl, trivial⟩) (ih5 (k + 1) (by omega) (by omega))
  exact g_can _ (by exact ⟨rfl, rfl, rfl, rfl, trivial⟩) (H5 _ 0 (by omega) (Nat.lt_succ_self _))
set_option maxRecDepth 100000 in
theorem c_KW_cover {σ : SI} {δ : SD} {B n : Nat} {a : Nat → Int32} (hB : LB B) (hW : WF a n) (hR : RB σ B a n) (hD : RD σ B a n) {W Hh : Nat} (h0 : σ 76 0 = nI W) (h1 : σ 76 1 = nI Hh) (hw : 6 ≤ W ∧ W ≤ 16) (hh : 6 ≤ Hh ∧ Hh ≤ 16) {k X1 Y1 : Nat} (hk : k < n) (hl : liesA a k = true) (hx1 : min W (xN' a k + wN a k) = X1) (hy1 : min Hh (yN' a k + hN' a k) = Y1) : E KW_cover [.ref 76, .ref B, .int (nI k)] (HH σ δ) (none) (HH (uR σ 78 (cvF (σ 78) (xN' a k) X1 (yN' a k) (max (yN' a k) Y1) (xN' a k))) δ) := by
  have h8 := hW.n8
  have h2 := hR.c
  have hxy := hW.xy hk hl
  have hwd := hW.wide hk
  have hhg := hW.high hk
  have hBL := LB_le hB
  refine E.ofL [some (.ref 76), some (.ref B), some (.int (nI k))] rfl pn_RX7 rfl (fun sc => ?_)
  generalize hRz : (fun (zr : Option Value) (zk : XH) => zr = none ∧ zk = HH (uR σ 78 (cvF (σ 78) (xN' a k) X1 (yN' a k) (max (yN' a k) Y1) (xN' a k))) δ) = R
  refine g_aload_n dX7_cover_0 rfl ?_
  refine q_geti dX7_cover_1 f_W_33 ck_76 (by decide) ty_6_0 ?_
  refine g_top h0 ?_
  refine g_aload_n dX7_cover_4 rfl ?_
  refine g_iload_n dX7_cover_5 rfl ?_
  refine g_v1 (M' := KL_xOf) dX7_cover_6 l_W_89 v_KL_xOf (c_KL_xOf hB hW hR (by omega)) (rcL hB) rfl rfl ⟨rfl, rfl⟩ ?_
  refine g_top hxy.2.2.1 ?_
  refine g_aload_n dX7_cover_9 rfl ?_
  refine g_iload_n dX7_cover_10 rfl ?_
  refine g_v1 (M' := KL_wide) dX7_cover_11 l_W_93 v_KL_wide (c_KL_wide hB hW hR hD (by omega)) (rcL hB) rfl rfl ⟨rfl, rfl⟩ ?_
  refine g_top hwd.2.2 ?_
  refine n_iadd dX7_cover_14 ?_
  refine g_mmin dX7_cover_15 l_W_27 mw_min rfl ?_
  refine g_top ((mn_is (by omega) (by omega)).trans (congrArg nI hx1)) ?_
  refine g_istore_n dX7_cover_18 rfl ?_
  refine g_aload_n dX7_cover_19 rfl ?_
  refine q_geti dX7_cover_20 f_W_37 ck_76 (by decide) ty_6_1 ?_
  refine g_top h1 ?_
  refine g_aload_n dX7_cover_23 rfl ?_
  refine g_iload_n dX7_cover_24 rfl ?_
  refine g_v1 (M' := KL_yOf) dX7_cover_25 l_W_96 v_KL_yOf (c_KL_yOf hB hW hR (by omega)) (rcL hB) rfl rfl ⟨rfl, rfl⟩ ?_
  refine g_top hxy.2.2.2 ?_
  refine g_aload_n dX7_cover_28 rfl ?_
  refine g_iload_n dX7_cover_29 rfl ?_
  refine g_v1 (M' := KL_high) dX7_cover_30 l_W_99 v_KL_high (c_KL_high hB hW hR hD (by omega)) (rcL hB) rfl rfl ⟨rfl, rfl⟩ ?_
  refine g_top hhg.2.2 ?_
  refine n_iadd dX7_cover_33 ?_
  refine g_mmin dX7_cover_34 l_W_27 mw_min rfl ?_
  refine g_top ((mn_is (by omega) (by omega)).trans (congrArg nI hy1)) ?_
  refine g_istore dX7_cover_37 rfl ?_
  refine g_iconst dX7_cover_39 ic_0 ?_
  refine g_aload_n dX7_cover_40 rfl ?_
  refine g_iload_n dX7_cover_41 rfl ?_
  refine g_v1 (M' := KL_yOf) dX7_cover_42 l_W_96 v_KL_yOf (c_KL_yOf hB hW hR (by omega)) (rcL hB) rfl rfl ⟨rfl, rfl⟩ ?_
  refine g_top hxy.2.2.2 ?_
  refine g_mmax dX7_cover_45 l_W_102 mw_max rfl ?_
  refine g_top (mx_0 (by omega)) ?_
  refine g_istore dX7_cover_48 rfl ?_
  refine g_heap (show HH σ δ = HH (uR σ 78 (cvF (σ 78) (xN' a k) X1 (yN' a k) (yN' a k) (xN' a k))) δ by rw [cvF_0, uR_id]) ?_
  have H50 : ∀ (N : Nat) (y : Nat), yN' a k ≤ y → y ≤ max (yN' a k) Y1 → Y1 - y < N → G sc KW_cover 50 (aL [some (.ref 76), some (.ref B), some (.int (nI k)), some (.int (nI X1)), some (.int (nI Y1)), some (.int (nI y))]) [] (HH (uR σ 78 (cvF (σ 78) (xN' a k) X1 (yN' a k) y (xN' a k))) δ) (0, 0) R := by
    intro N
    induction N with
    | zero => intro y h3 h4 hN50; exact absurd hN50 (Nat.not_lt_zero _)
    | succ N ih50 =>
      intro y h3 h4 hN50
      have hWu := hW
      have hRu : RB (uR σ 78 (cvF (σ 78) (xN' a k) X1 (yN' a k) y (xN' a k))) B a n := hR.cong (fun j hj => by rw [uR_ne (by omega)]) (fun i h1 h2 => by rw [uR_ne (by omega)])
      refine g_iload dX7_cover_50 rfl ?_
      refine g_iload dX7_cover_52 rfl ?_
      refine n_icmp_ge (tgt := 99) (by omega) (by omega) dX7_cover_54 rfl (fun zc54 => ?_) (fun zc54 => ?_)
      · exact g_vret (S := []) dX7_cover_99 rfl (by rw [← hRz]; exact ⟨rfl, by rw [show y = max (yN' a k) Y1 by omega]⟩) (Nat.zero_le _) (Nat.zero_le _)
      · refine g_iconst dX7_cover_57 ic_0 ?_
        refine g_aload_n dX7_cover_58 rfl ?_
        refine g_iload_n dX7_cover_59 rfl ?_
        refine g_v1 (M' := KL_xOf) dX7_cover_60 l_W_89 v_KL_xOf (c_KL_xOf hB hWu hRu hk) (rcL hB) rfl rfl ⟨rfl, rfl⟩ ?_
        refine g_top hxy.2.2.1 ?_
        refine g_mmax dX7_cover_63 l_W_102 mw_max rfl ?_
        refine g_top (mx_0 (by omega)) ?_
        refine g_istore dX7_cover_66 rfl ?_
        have H68 : ∀ (N : Nat) (x : Nat), xN' a k ≤ x → x ≤ max (xN' a k) X1 → X1 - x < N → G sc KW_cover 68 (aL [some (.ref 76), some (.ref B), some (.int (nI k)), some (.int (nI X1)), some (.int (nI Y1)), some (.int (nI y)), some (.int (nI x))]) [] (HH (uR σ 78 (cvF (σ 78) (xN' a k) X1 (yN' a k) y x)) δ) (0, 0) R := by
          intro N
          induction N with
          | zero => intro x h5 h6 hN68; exact absurd hN68 (Nat.not_lt_zero _)
          | succ N ih68 =>
            intro x h5 h6 hN68
            refine g_iload dX7_cover_68 rfl ?_
            refine g_iload_n dX7_cover_70 rfl ?_
            refine n_icmp_ge (tgt := 93) (by omega) (by omega) dX7_cover_71 rfl (fun zc71 => ?_) (fun zc71 => ?_)
            · refine n_iinc (b := 1) dX7_cover_93 rfl rfl rfl ?_
              refine g_goto (tgt := 50) dX7_cover_96 rfl ?_
              refine g_heap (congrArg (fun z => HH (uR σ 78 z) δ) (cvF_row (by omega) (by omega))) ?_
              exact g_can _ (by exact ⟨rfl, rfl, rfl, rfl, rfl, rfl, trivial⟩) (ih50 (y + 1) (by omega) (by omega) (by omega))
            · refine g_aload_n dX7_cover_74 rfl ?_
              refine q_getq dX7_cover_75 f_W_15 ck_76 (by decide) ty_6_9 rf_76_9 ?_
              refine g_iload dX7_cover_78 rfl ?_
              refine g_iload dX7_cover_80 rfl ?_
              refine g_s2N (M' := KP_placeOf) dX7_cover_82 l_W_105 s_KP_placeOf c_KP_placeOf rfl rfl ⟨rfl, rfl⟩ ?_
              refine g_iconst dX7_cover_85 ic_0 ?_
              refine q_iast dX7_cover_86 ck_78 (ixD_nI (by omega) (by decide)) ?_
              refine n_iinc (b := 1) dX7_cover_87 rfl rfl rfl ?_
              refine g_goto (tgt := 68) dX7_cover_90 rfl ?_
              refine g_heap (congrArg (fun z => HH z δ) (cvF_at (by omega) (by omega) (by omega) (by omega))) ?_
              exact g_can _ (by exact ⟨rfl, rfl, rfl, rfl, rfl, rfl, rfl, trivial⟩) (ih68 (x + 1) (by omega) (by omega) (by omega))
        exact g_can _ (by exact ⟨rfl, rfl, rfl, rfl, rfl, rfl, rfl, trivial⟩) (H68 _ (xN' a k) (by omega) (by omega) (Nat.lt_succ_self _))
  exact g_can _ (by exact ⟨rfl, rfl, rfl, rfl, rfl, rfl, trivial⟩) (H50 _ (yN' a k) (by omega) (by omega) (Nat.lt_succ_self _))
set_option maxRecDepth 100000 in
theorem c_KW_countCells {σ : SI} {δ : SD} {W Hh : Nat} (h0 : σ 76 0 = nI W) (h1 : σ 76 1 = nI Hh) (hw : 6 ≤ W ∧ W ≤ 16) (hh : 6 ≤ Hh ∧ Hh ≤ 16) {f : Nat → Bool} (hop : ∀ x y, x < W → y < Hh → σ 78 (16 * y + x) = bI (f (16 * y + x))) (hf : ∀ p, p < 256 → f p = true → p % 16 < W ∧ p / 16 < Hh) : E KW_countCells [.ref 76] (HH σ δ) (none) (HH (uI (uR σ 77 (rnG f (σ 77) W Hh W)) 76 2 (nI (cntN f 256))) δ) := by
  refine E.ofL [some (.ref 76)] rfl pn_RX7 rfl (fun sc => ?_)
  generalize hRz : (fun (zr : Option Value) (zk : XH) => zr = none ∧ zk = HH (uI (uR σ 77 (rnG f (σ 77) W Hh W)) 76 2 (nI (cntN f 256))) δ) = R
  refine g_aload_n dX7_countCells_0 rfl ?_
  refine g_iconst dX7_countCells_1 ic_0 ?_
  refine q_puti dX7_countCells_2 f_W_64 ck_76 (by decide) ty_6_2 fi_6_2 ?_
  refine g_iconst dX7_countCells_5 ic_0 ?_
  refine g_istore_n dX7_countCells_6 rfl ?_
  refine g_heap (show HH (uI σ 76 2 (nI 0)) δ = HH (uI (uR σ 77 (rnG f (σ 77) W 0 W)) 76 2 (nI 0)) δ by rw [rnG_0, uR_id]) ?_
  have H7 : ∀ (N : Nat) (y c : Nat), y ≤ Hh → c = cntN f (16 * y) → Hh - y < N → G sc KW_countCells 7 (aL [some (.ref 76), some (.int (nI y))]) [] (HH (uI (uR σ 77 (rnG f (σ 77) W y W)) 76 2 (nI c)) δ) (0, 0) R := by
    intro N
    induction N with
    | zero => intro y c h3 hb hN7; exact absurd hN7 (Nat.not_lt_zero _)
    | succ N ih7 =>
      intro y c h3 hb hN7
      refine g_iload_n dX7_countCells_7 rfl ?_
      refine g_aload_n dX7_countCells_8 rfl ?_
      refine q_geti dX7_countCells_9 f_W_37 ck_76 (by decide) ty_6_1 ?_
      refine g_top (show _ = nI Hh by rw [uI_oth (by omega), uR_ne (by omega)]; exact h1) ?_
      refine n_icmp_ge (tgt := 90) (by omega) (by omega) dX7_countCells_12 rfl (fun zc12 => ?_) (fun zc12 => ?_)
      · exact g_vret (S := []) dX7_countCells_90 rfl (by rw [← hRz]; exact ⟨rfl, by rw [show y = Hh by omega, hb, show y = Hh by omega]; rw [cnt_H hf hh.2]⟩) (Nat.zero_le _) (Nat.zero_le _)
      · refine g_iconst dX7_countCells_15 ic_0 ?_
        refine g_istore_n dX7_countCells_16 rfl ?_
        refine g_aload_n dX7_countCells_17 rfl ?_
        refine q_geti dX7_countCells_18 f_W_33 ck_76 (by decide) ty_6_0 ?_
        refine g_top (show _ = nI W by rw [uI_oth (by omega), uR_ne (by omega)]; exact h0) ?_
        refine g_iconst dX7_countCells_21 ic_1 ?_
        refine g_isub dX7_countCells_22 ?_
        refine g_top (decI_sub (by omega)) ?_
        refine g_istore_n dX7_countCells_23 rfl ?_
        have H24 : ∀ (N : Nat) (m r c1 : Nat), m ≤ W → r = rnR f (16 * y + m) (W - m) → c1 = c + cdn f y W (W - m) → m < N → G sc KW_countCells 24 (aL [some (.ref 76), some (.int (nI y)), some (.int (nI r)), some (.int (decI m))]) [] (HH (uI (uR σ 77 (rnG f (σ 77) W y m)) 76 2 (nI c1)) δ) (0, 0) R := by
          intro N
          induction N with
          | zero => intro m r c1 h5 hr1 hc1 hN24; exact absurd hN24 (Nat.not_lt_zero _)
          | succ N ih24 =>
            intro m r c1 h5 hr1 hc1 hN24
            refine g_iload_n dX7_countCells_24 rfl ?_
            refine g_if_lt (tgt := 84) dX7_countCells_25 rfl (fun zc25 => ?_) (fun zc25 => ?_)
            · refine n_iinc (b := 1) dX7_countCells_84 rfl rfl rfl ?_
              refine g_goto (tgt := 7) dX7_countCells_87 rfl ?_
              refine g_heap (congrArg (fun z => HH z δ) (show uI (uR σ 77 (rnG f (σ 77) W y m)) 76 2 (nI c1) = uI (uR σ 77 (rnG f (σ 77) W (y + 1) W)) 76 2 (nI c1) by rw [show m = 0 from decI_neg zc25 (by omega), rnG_row])) ?_
              exact g_can _ (by exact ⟨rfl, rfl, trivial⟩) (ih7 (y + 1) c1 (by omega) (by rw [hc1, show m = 0 from decI_neg zc25 (by omega), hb]; exact cd_row hf (by omega) (by omega)) (by omega))
            · obtain ⟨q, rfl⟩ := decI_pos zc25
              refine g_iload_n dX7_countCells_28 rfl ?_
              refine g_top (show decI (q + 1) = nI q from rfl) ?_
              refine g_iload_n dX7_countCells_29 rfl ?_
              refine g_s2N (M' := KP_placeOf) dX7_countCells_30 l_W_105 s_KP_placeOf c_KP_placeOf rfl rfl ⟨rfl, rfl⟩ ?_
              refine g_istore dX7_countCells_33 rfl ?_
              refine g_aload_n dX7_countCells_35 rfl ?_
              refine q_getq dX7_countCells_36 f_W_15 ck_76 (by decide) ty_6_9 rf_76_9 ?_
              refine g_iload dX7_countCells_39 rfl ?_
              refine q_iald dX7_countCells_41 ck_78 (ixD_nI (by omega) (by decide)) ?_
              refine g_top (show _ = bI (f (16 * y + q)) by rw [uI_ne (by omega), uR_ne (by omega)]; exact hop q y (by omega) (by omega)) ?_
              refine g_iconst dX7_countCells_42 ic_1 ?_
              refine b1_icmp_ne (tgt := 52) dX7_countCells_43 rfl (fun zc43 => ?_) (fun zc43 => ?_)
              · refine g_iconst dX7_countCells_52 ic_0 ?_
                refine g_istore_n dX7_countCells_53 rfl ?_
                refine g_aload_n dX7_countCells_54 rfl ?_
                refine q_getq dX7_countCells_55 f_W_9 ck_76 (by decide) ty_6_8 rf_76_8 ?_
                refine g_iload dX7_countCells_58 rfl ?_
                refine g_iload_n dX7_countCells_60 rfl ?_
                refine q_iast dX7_countCells_61 ck_77 (ixD_nI (by omega) (by decide)) ?_
                refine g_aload_n dX7_countCells_62 rfl ?_
                refine g_dup dX7_countCells_63 rfl ?_
                refine q_geti dX7_countCells_64 f_W_64 ck_76 (by decide) ty_6_2 ?_
                refine g_top (show _ = nI c1 by rw [uI_ne (by omega), uI_same]) ?_
                refine g_aload_n dX7_countCells_67 rfl ?_
                refine q_getq dX7_countCells_68 f_W_15 ck_76 (by decide) ty_6_9 rf_76_9 ?_
                refine g_iload dX7_countCells_71 rfl ?_
                refine q_iald dX7_countCells_73 ck_78 (ixD_nI (by omega) (by decide)) ?_
                refine g_top (show _ = nI (if f (16 * y + q) = true then 1 else 0) by rw [uI_ne (by omega), uI_ne (by omega), uR_ne (by omega), hop q y (by omega) (by omega)]; exact bI_nI) ?_
                refine n_iadd dX7_countCells_74 ?_
                refine q_puti dX7_countCells_75 f_W_64 ck_76 (by decide) ty_6_2 fi_6_2 ?_
                refine d_idec dX7_countCells_78 rfl rfl ?_
                refine g_goto (tgt := 24) dX7_countCells_81 rfl ?_
                refine g_heap (congrArg (fun z => HH z δ) (show _ = uI (uR σ 77 (rnG f (σ 77) W y q)) 76 2 (nI (c1 + (if f (16 * y + q) = true then 1 else 0))) by first | exact cc_y zc43 hr1 (by omega) | exact cc_n zc43 hr1 (by omega))) ?_
                exact g_can _ (by exact ⟨rfl, rfl, rfl, rfl, trivial⟩) (ih24 q _ _ (by omega) (by first | exact rn_y zc43 hr1 (by omega) | exact rn_n zc43 (by omega)) (by rw [hc1]; exact cd_s (by omega)) (by omega))
              · refine g_iload_n dX7_countCells_46 rfl ?_
                refine g_iconst dX7_countCells_47 ic_1 ?_
                refine n_iadd dX7_countCells_48 ?_
                refine g_goto (tgt := 53) dX7_countCells_49 rfl ?_
                refine g_istore_n dX7_countCells_53 rfl ?_
                refine g_aload_n dX7_countCells_54 rfl ?_
                refine q_getq dX7_countCells_55 f_W_9 ck_76 (by decide) ty_6_8 rf_76_8 ?_
                refine g_iload dX7_countCells_58 rfl ?_
                refine g_iload_n dX7_countCells_60 rfl ?_
                refine q_iast dX7_countCells_61 ck_77 (ixD_nI (by omega) (by decide)) ?_
                refine g_aload_n dX7_countCells_62 rfl ?_
                refine g_dup dX7_countCells_63 rfl ?_
                refine q_geti dX7_countCells_64 f_W_64 ck_76 (by decide) ty_6_2 ?_
                refine g_top (show _ = nI c1 by rw [uI_ne (by omega), uI_same]) ?_
                refine g_aload_n dX7_countCells_67 rfl ?_
                refine q_getq dX7_countCells_68 f_W_15 ck_76 (by decide) ty_6_9 rf_76_9 ?_
                refine g_iload dX7_countCells_71 rfl ?_
                refine q_iald dX7_countCells_73 ck_78 (ixD_nI (by omega) (by decide)) ?_
                refine g_top (show _ = nI (if f (16 * y + q) = true then 1 else 0) by rw [uI_ne (by omega), uI_ne (by omega), uR_ne (by omega), hop q y (by omega) (by omega)]; exact bI_nI) ?_
                refine n_iadd dX7_countCells_74 ?_
                refine q_puti dX7_countCells_75 f_W_64 ck_76 (by decide) ty_6_2 fi_6_2 ?_
                refine d_idec dX7_countCells_78 rfl rfl ?_
                refine g_goto (tgt := 24) dX7_countCells_81 rfl ?_
                refine g_heap (congrArg (fun z => HH z δ) (show _ = uI (uR σ 77 (rnG f (σ 77) W y q)) 76 2 (nI (c1 + (if f (16 * y + q) = true then 1 else 0))) by first | exact cc_y zc43 hr1 (by omega) | exact cc_n zc43 hr1 (by omega))) ?_
                exact g_can _ (by exact ⟨rfl, rfl, rfl, rfl, trivial⟩) (ih24 q _ _ (by omega) (by first | exact rn_y zc43 hr1 (by omega) | exact rn_n zc43 (by omega)) (by rw [hc1]; exact cd_s (by omega)) (by omega))
        exact g_can _ (by exact ⟨rfl, rfl, rfl, rfl, trivial⟩) (H24 _ W 0 c (by omega) (by rw [Nat.sub_self]; rfl) (by rw [Nat.sub_self]; rfl) (Nat.lt_succ_self _))
  exact g_can _ (by exact ⟨rfl, rfl, trivial⟩) (H7 _ 0 0 (by omega) rfl (Nat.lt_succ_self _))
