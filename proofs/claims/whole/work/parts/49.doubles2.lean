/-! DOUBLES: the centre, the balance -/
theorem HH_len {σ σ' : SI} {δ δ' : SD} : (HH σ δ).1.length = (HH σ' δ').1.length := rfl
theorem hfD_0 : hfD 0 = FP.dconst0 := by decide +kernel
theorem i2d_0 : FP.i2d (nI 0) = FP.dconst0 := by decide +kernel
def swN (q : Nat → Bool) (g : Nat → Nat) : Nat → Nat
  | 0 => 0
  | k + 1 => swN q g k + (if q k then g k else 0)
theorem sw_y {q : Nat → Bool} {g : Nat → Nat} {k : Nat} (h : q k = true) : swN q g (k + 1) = swN q g k + g k := by unfold swN; rw [if_pos h]; cases k <;> rfl
theorem sw_n {q : Nat → Bool} {g : Nat → Nat} {k : Nat} (h : q k = false) : swN q g (k + 1) = swN q g k := by
  show swN q g k + (if q k = true then g k else 0) = _
  rw [if_neg (by rw [h]; decide), Nat.add_zero]
theorem sw_le {q : Nat → Bool} {g : Nat → Nat} {b n : Nat} (hg : ∀ k, k < n → q k = true → g k ≤ b) : ∀ k, k ≤ n → swN q g k ≤ k * b
  | 0, _ => Nat.zero_le _
  | k + 1, hk => by
    have ih := sw_le hg k (by omega)
    rw [Nat.add_mul, Nat.one_mul]
    cases e : q k with
    | true => rw [sw_y e]; have := hg k (by omega) e; omega
    | false => rw [sw_n e]; omega
theorem sq_y {a : Nat → Int32} {k : Nat} {bt : Int32} (h : liesA a k = true) (h2 : ¬ nI k = bt) : (fun j => liesA a j && decide (¬ nI j = bt)) k = true := by
  show (liesA a k && decide (¬ nI k = bt)) = true
  rw [h, decide_eq_true h2]; rfl
theorem sq_n1 {a : Nat → Int32} {k : Nat} {bt : Int32} (h : liesA a k = false) : (fun j => liesA a j && decide (¬ nI j = bt)) k = false := by
  show (liesA a k && decide (¬ nI k = bt)) = false
  rw [h]; rfl
theorem sq_n2 {a : Nat → Int32} {k : Nat} {bt : Int32} (h2 : nI k = bt) : (fun j => liesA a j && decide (¬ nI j = bt)) k = false := by
  show (liesA a k && decide (¬ nI k = bt)) = false
  rw [decide_eq_false (fun q => q h2), Bool.and_false]
section SWB
variable {a : Nat → Int32} {n k : Nat} {q : Nat → Bool}
theorem g_bd (hW : WF a n) (hk : k < n) (hl : liesA a k = true) : wgN a k * (2 * xN' a k + wN a k) ≤ 672000 ∧ wgN a k * (2 * yN' a k + hN' a k) ≤ 672000 ∧ wgN a k ≤ wgN a k * (2 * xN' a k + wN a k) ∧ wgN a k ≤ wgN a k * (2 * yN' a k + hN' a k) ∧ wgN a k * (2 * xN' a k + wN a k) ≤ 200 * wgN a k ∧ wgN a k * (2 * yN' a k + hN' a k) ≤ 200 * wgN a k := by
  have h1 := hW.wide hk
  have h2 := hW.high hk
  have h3 := hW.xy hk hl
  have h4 := wg_nI hW hk
  refine ⟨Nat.mul_le_mul (show wgN a k ≤ 9600 by omega) (show 2 * xN' a k + wN a k ≤ 70 by omega), Nat.mul_le_mul (show wgN a k ≤ 9600 by omega) (show 2 * yN' a k + hN' a k ≤ 70 by omega), Nat.le_mul_of_pos_right _ (by omega), Nat.le_mul_of_pos_right _ (by omega), ?_, ?_⟩
  · rw [Nat.mul_comm]; exact Nat.mul_le_mul_right _ (by omega)
  · rw [Nat.mul_comm]; exact Nat.mul_le_mul_right _ (by omega)
theorem sw_all (hW : WF a n) (hq : ∀ k, k < n → q k = true → liesA a k = true) : ∀ k, k ≤ n → swN q (wgN a) k ≤ 76800 ∧ swN q (fun j => wgN a j * (2 * xN' a j + wN a j)) k ≤ 5376000 ∧ swN q (fun j => wgN a j * (2 * yN' a j + hN' a j)) k ≤ 5376000 := fun k hk => by
  have h8 := hW.n8
  have a1 := sw_le (q := q) (g := wgN a) (b := 9600) (n := n) (fun k hk _ => (wg_nI hW hk).2.1) k hk
  have a2 := sw_le (q := q) (g := fun j => wgN a j * (2 * xN' a j + wN a j)) (b := 672000) (n := n) (fun k hk hl => (g_bd hW hk (hq k hk hl)).1) k hk
  have a3 := sw_le (q := q) (g := fun j => wgN a j * (2 * yN' a j + hN' a j)) (b := 672000) (n := n) (fun k hk hl => (g_bd hW hk (hq k hk hl)).2.1) k hk
  omega
theorem sw_bd {bt : Int32} (hW : WF a n) (hk : k < n) (hl : liesA a k = true) (hq : q = fun j => liesA a j && decide (¬ nI j = bt) := by rfl) : swN q (wgN a) k + wgN a k < 2 ^ 24 ∧ swN q (fun j => wgN a j * (2 * xN' a j + wN a j)) k + wgN a k * (2 * xN' a k + wN a k) < 2 ^ 30 ∧ swN q (fun j => wgN a j * (2 * yN' a j + hN' a j)) k + wgN a k * (2 * yN' a k + hN' a k) < 2 ^ 30 := by
  have h1 := sw_all (q := q) hW (fun k _ h => by rw [hq] at h; exact (Bool.and_eq_true _ _ ▸ h : _ ∧ _).1) k (by omega)
  have h2 := g_bd hW hk hl
  have h3 := wg_nI hW hk
  omega
/-- between: how the sums lie to each other -/
theorem sw_rl (hW : WF a n) (hq : ∀ k, k < n → q k = true → liesA a k = true) : ∀ k, k ≤ n → swN q (wgN a) k ≤ swN q (fun j => wgN a j * (2 * xN' a j + wN a j)) k ∧ swN q (fun j => wgN a j * (2 * xN' a j + wN a j)) k ≤ 200 * swN q (wgN a) k ∧ swN q (wgN a) k ≤ swN q (fun j => wgN a j * (2 * yN' a j + hN' a j)) k ∧ swN q (fun j => wgN a j * (2 * yN' a j + hN' a j)) k ≤ 200 * swN q (wgN a) k
  | 0, _ => ⟨Nat.le_refl 0, Nat.zero_le _, Nat.le_refl 0, Nat.zero_le _⟩
  | k + 1, hk => by
    have ih := sw_rl hW hq k (by omega)
    cases e : q k with
    | true =>
      rw [sw_y e, sw_y e, sw_y e]
      have h := g_bd hW (by omega) (hq k (by omega) e)
      omega
    | false => rw [sw_n e, sw_n e, sw_n e]; exact ih
end SWB
/-- the centre, from the weight and the sum of halves -/
def cnD (w sx W : Nat) : UInt64 := if w = 0 then hfD W else FP.ddiv (hfD sx) (FP.i2d (nI w))
def blD (w sx sy W Hh : Nat) : UInt64 := FP.dadd (FP.dmul (FP.dsub (cnD w sx W) (hfD W)) (FP.dsub (cnD w sx W) (hfD W))) (FP.dmul (FP.dsub (cnD w sy Hh) (hfD Hh)) (FP.dsub (cnD w sy Hh) (hfD Hh)))
section CEN
variable {w sx sy W Hh : Nat}
theorem cn_0 (h : w = 0) : cnD w sx W = hfD W := if_pos h
theorem cn_1 (h : ¬ w = 0) : cnD w sx W = FP.ddiv (hfD sx) (FP.i2d (nI w)) := if_neg h
theorem cn_z (hw : w < 2 ^ 31) (h : cI (FP.i2d (nI w)).toNat 0 ≤ 0) : w = 0 := by
  have h1 := (u_i2d hw).1
  rw [show (FP.i2d (nI w)).toNat = 0 by have := cI_le.mp h; omega, FP.Core.unitsOf_zero] at h1
  rcases Nat.mul_eq_zero.mp h1.symm with e | e
  · exact e
  · exact absurd e (Nat.pos_iff_ne_zero.mp fuP_pos)
theorem cn_p (h : ¬ cI (FP.i2d (nI w)).toNat 0 ≤ 0) : ¬ w = 0 := fun e => h (by subst e; decide +kernel)
theorem d_pos (hw : w < 2 ^ 31) (h : ¬ w = 0) : fuP FP.Core.b64 ≤ FP.Core.unitsOf FP.Core.b64 (FP.i2d (nI w)).toNat := by
  rw [(u_i2d hw).1]
  exact Nat.le_mul_of_pos_left _ (by omega)
theorem cn_le (hw : w < 2 ^ 31) (hs : sx < 2 ^ 31) (h : ¬ w = 0) : (FP.ddiv (hfD sx) (FP.i2d (nI w))).toNat ≤ (hfD sx).toNat := by
  obtain ⟨a1, a2⟩ := hfD_u hs
  obtain ⟨b1, b2⟩ := u_i2d hw
  have h1 := d_pos hw h
  have h0 := u_pos h1
  rw [t_ddiv a2 b2 h0]
  exact fd_le FP.Core.good_b64 (by rw [inf64]; exact a2) (by rw [inf64]; exact b2) (un_pos h0) (Nat.mul_le_mul_left _ h1)
theorem cn_fp (hw : w < 2 ^ 31) (hs : sx < 2 ^ 31) (h : ¬ w = 0) : vf_n64 (FP.ddiv (hfD sx) (FP.i2d (nI w))) := n64_lt (Nat.le_trans (cn_le hw hs h) (Nat.le_of_lt (hfD_u hs).2))
/-- a half, 128 -/
theorem b_half : FP.Core.unitsOf FP.Core.b64 4602678819172646912 = hU := by decide +kernel
theorem b_128 : FP.Core.unitsOf FP.Core.b64 4638707616191610880 = 256 * hU := by decide +kernel
/-- the centre lies between a half and 128 -/
theorem cn_b (hw : w < 2 ^ 24) (hs : sx < 2 ^ 30) (hW : 1 ≤ W ∧ W ≤ 16) (g : 0 < w → w ≤ sx ∧ sx ≤ 200 * w) : 4602678819172646912 ≤ (cnD w sx W).toNat ∧ (cnD w sx W).toNat ≤ 4638707616191610880 := by
  unfold cnD
  by_cases h : w = 0
  · rw [if_pos h]
    have h1 := (hfD_u (j := W) (by omega)).1
    constructor
    · refine FP.Core.unitsOf_le_iff (f := FP.Core.b64) |>.mp ?_
      rw [b_half, h1]
      exact Nat.le_mul_of_pos_left _ (by omega)
    · refine FP.Core.unitsOf_le_iff (f := FP.Core.b64) |>.mp ?_
      rw [b_128, h1]
      exact Nat.mul_le_mul_right _ (by omega)
  · rw [if_neg h]
    obtain ⟨g1, g2⟩ := g (by omega)
    obtain ⟨a1, a2⟩ := hfD_u (j := sx) (by omega)
    obtain ⟨b1, b2⟩ := u_i2d (j := w) (by omega)
    have h1 := d_pos (w := w) (by omega) h
    have h0 := u_pos h1
    rw [t_ddiv a2 b2 h0]
    rw [← inf64] at a2 b2
    constructor
    · refine fd_ge FP.Core.good_b64 a2 b2 (un_pos h0) (by rw [inf64]; decide) ?_
      rw [b_half, a1, b1]
      generalize fuP FP.Core.b64 = P
      generalize hU = u
      rw [Nat.mul_left_comm, Nat.mul_assoc]
      exact Nat.mul_le_mul_right _ g1
    · refine fd_le FP.Core.good_b64 a2 b2 (un_pos h0) ?_
      rw [b_128, a1, b1]
      generalize fuP FP.Core.b64 = P
      generalize hU = u
      rw [Nat.mul_mul_mul_comm, Nat.mul_assoc]
      exact Nat.mul_le_mul_right _ (by omega)
end CEN
/-! DOUBLES: less the middle, squared, added: never lost below -/
def hqU : Nat := 2 ^ 1021
theorem hqU_U : hU = 4503599627370496 * hqU := by decide +kernel
theorem hqU_pos : 0 < hqU := Nat.two_pow_pos _
theorem b_q : FP.Core.unitsOf FP.Core.b64 4368491638549381120 = hqU := by decide +kernel
theorem b_qq : FP.Core.unitsOf FP.Core.b64 4129800858298744832 * fuP FP.Core.b64 = hqU * hqU := by decide +kernel
theorem b_qq2 : FP.Core.unitsOf FP.Core.b64 4129800858298744832 * 2 ^ (-FP.Core.b64.qmin).toNat = hqU * hqU := by decide +kernel
theorem b_14 : FP.Core.unitsOf FP.Core.b64 4670232813583204352 = 32768 * hU := by decide +kernel
theorem b_15 : FP.Core.unitsOf FP.Core.b64 4674736413210574848 = 65536 * hU := by decide +kernel
/-- a number from a half on: its units are whole quarters of its last figures -/
theorem un_q {n : Nat} (h1 : 4602678819172646912 ≤ n) (h2 : n ≤ 4638707616191610880) : ∃ k, FP.Core.unitsOf FP.Core.b64 n = k * hqU := by
  obtain ⟨E, t, e1, e2⟩ : ∃ E t, n = E * 4503599627370496 + t ∧ t < 4503599627370496 := ⟨n / 4503599627370496, n % 4503599627370496, by omega, Nat.mod_lt _ (by decide)⟩
  have hE : 1022 ≤ E := by omega
  have := un_norm (f := FP.Core.b64) (E := E) (t := t) (by omega) (by rw [tl_64]; exact e2)
  rw [tl_64, ← e1] at this
  refine ⟨(4503599627370496 + t) * 2 ^ (E - 1022), ?_⟩
  have hp : 2 ^ (E - 1) = 2 ^ (E - 1022) * hqU := by
    unfold hqU
    rw [← Nat.pow_add, show E - 1022 + 1021 = E - 1 by omega]
  rw [this, hp, Nat.mul_assoc]
/-- a sign, a magnitude -/
theorem v_fin {v : UInt64} (h : v.toNat < 9218868437227405312) : ∃ c q, FP.Core.val64 v = .fin false c q ∧ FP.Core.fits FP.Core.b64 (.fin false c q) ∧ FP.Core.inUnits c q FP.Core.b64.qmin = FP.Core.unitsOf FP.Core.b64 v.toNat := by
  obtain ⟨c, q, h1, h2⟩ := fu_dec (f := FP.Core.b64) (n := v.toNat) (by rw [inf64]; exact h)
  exact ⟨c, q, h1, h1 ▸ FP.Core.val64_fits v, h2⟩
theorem df_all {a b : UInt64} (ha : a.toNat < 9218868437227405312) (hb : b.toNat < 9218868437227405312) (hA : ∃ k, FP.Core.unitsOf FP.Core.b64 a.toNat = k * hqU) (hB : ∃ k, FP.Core.unitsOf FP.Core.b64 b.toNat = k * hqU) (ua : FP.Core.unitsOf FP.Core.b64 a.toNat ≤ 256 * hU) (ub : FP.Core.unitsOf FP.Core.b64 b.toNat ≤ 256 * hU) :
    ∃ s c q, FP.Core.val64 (FP.dsub a b) = .fin s c q ∧ FP.Core.zmag FP.Core.b64 (.fin s c q) ≤ 256 * hU ∧ (c = 0 ∨ hqU ≤ FP.Core.zmag FP.Core.b64 (.fin s c q)) := by
  obtain ⟨c, q, x1, fx, x2⟩ := v_fin ha
  obtain ⟨d, r, y1, fy0, y2⟩ := v_fin hb
  have fy : FP.Core.fits FP.Core.b64 (.fin true d r) := FP.Core.negate_fits fy0
  obtain ⟨sg, w, e, p1, p2, p3⟩ := FP.Core.sum_units fx fy
  have hv : FP.Core.val64 (FP.dsub a b) = FP.Core.roundRatio FP.Core.b64 sg w 1 e := by
    rw [show FP.Core.val64 (FP.dsub a b) = _ from FP.Core.val64_dsub a b, x1, y1]
    show FP.Core.round FP.Core.b64 (FP.Core.exactSum (.fin false c q) (.fin true d r)) = _
    rw [p1]; rfl
  have p4 : FP.Core.signed sg (FP.Core.inUnits w e FP.Core.b64.qmin) = (FP.Core.unitsOf FP.Core.b64 a.toNat : Int) - (FP.Core.unitsOf FP.Core.b64 b.toNat : Int) := by
    rw [p3]
    show (FP.Core.inUnits c q FP.Core.b64.qmin : Int) + -(FP.Core.inUnits d r FP.Core.b64.qmin : Int) = _
    rw [x2, y2]; omega
  have p5 := congrArg Int.natAbs p4
  rw [FP.Core.natAbs_signed] at p5
  obtain ⟨k1, hk1⟩ := hA
  obtain ⟨k2, hk2⟩ := hB
  have hfD : FP.Core.inUnits w e FP.Core.b64.qmin ≤ 256 * hU := by rw [p5]; omega
  have hL : w = 0 ∨ hqU ≤ FP.Core.inUnits w e FP.Core.b64.qmin := by
    rcases Nat.lt_trichotomy k1 k2 with g | g | g
    · right
      have : (k1 + 1) * hqU ≤ k2 * hqU := Nat.mul_le_mul_right _ g
      rw [Nat.add_mul, Nat.one_mul, ← hk1, ← hk2] at this
      rw [p5]; omega
    · left
      rw [hk1, hk2, g, Int.sub_self] at p5
      rcases Nat.mul_eq_zero.mp p5 with z | z
      · exact z
      · exact absurd z (Nat.pos_iff_ne_zero.mp (Nat.two_pow_pos _))
    · right
      have : (k2 + 1) * hqU ≤ k1 * hqU := Nat.mul_le_mul_right _ g
      rw [Nat.add_mul, Nat.one_mul, ← hk1, ← hk2] at this
      rw [p5]; omega
  have f1 := FP.Core.decode_fits FP.Core.good_b64 4638707616191610880
  have f2 := FP.Core.decode_fits FP.Core.good_b64 4368491638549381120
  have z1 : FP.Core.zmag FP.Core.b64 (FP.Core.decode FP.Core.b64 4638707616191610880) = 256 * hU := by
    rw [FP.Core.zmag_decode FP.Core.good_b64 (by decide +kernel), show FP.Core.mag FP.Core.b64 4638707616191610880 = 4638707616191610880 by decide +kernel, b_128]
  have z2 : FP.Core.zmag FP.Core.b64 (FP.Core.decode FP.Core.b64 4368491638549381120) = hqU := by
    rw [FP.Core.zmag_decode FP.Core.good_b64 (by decide +kernel), show FP.Core.mag FP.Core.b64 4368491638549381120 = 4368491638549381120 by decide +kernel, b_q]
  have n1 : FP.Core.decode FP.Core.b64 4638707616191610880 ≠ .nan := by decide +kernel
  have up := FP.Core.zmag_roundRatio_le FP.Core.good_b64 (s := sg) (A := w) (B := 1) (e := e) (e0 := FP.Core.b64.qmin) (by decide) f1 n1 (Int.le_refl _) p2 (by rw [z1, Int.sub_self]; simpa using hfD)
  rw [z1] at up
  rcases FP.Core.roundRatio_cases FP.Core.b64 sg w 1 e with ⟨c3, q3, hR⟩ | hR
  · refine ⟨sg, c3, q3, hv.trans hR, by rw [← hR]; exact up, ?_⟩
    rcases hL with z | z
    · left
      have : FP.Core.roundRatio FP.Core.b64 sg w 1 e = .fin sg 0 FP.Core.b64.qmin := by unfold FP.Core.roundRatio; rw [if_pos z]
      rw [hR] at this
      injection this
    · right
      have lo := FP.Core.zmag_roundRatio_ge FP.Core.good_b64 (s := sg) (A := w) (B := 1) (e := e) (e0 := FP.Core.b64.qmin) (by decide) f2 (Int.le_refl _) p2 (by rw [z2, Int.sub_self]; simpa using z)
      rw [z2, hR] at lo
      exact lo
  · exfalso
    rw [hR] at up
    have : FP.Core.zmag FP.Core.b64 (.inf sg) = FP.Core.unitsOf FP.Core.b64 9218868437227405312 := by
      rw [show (9218868437227405312 : Nat) = FP.Core.infBits FP.Core.b64 from inf64.symm, FP.Core.unitsOf_inf FP.Core.good_b64]; rfl
    rw [this, ← b_128] at up
    exact absurd (FP.Core.unitsOf_le_iff.mp up) (by decide)
theorem n64_ne {v : UInt64} (h : FP.Core.val64 v ≠ .nan) : vf_n64 v := by
  unfold vf_n64
  rw [UInt64.le_iff_toNat_le, FP.Core.mask_toNat]
  exact (FP.Core.ne_nan v).mp h
theorem sq_all {v : UInt64} {s : Bool} {c : Nat} {q : Int} (hv : FP.Core.val64 v = .fin s c q) (hu : FP.Core.zmag FP.Core.b64 (.fin s c q) ≤ 256 * hU) (hl : c = 0 ∨ hqU ≤ FP.Core.zmag FP.Core.b64 (.fin s c q)) : (FP.dmul v v).toNat ≤ 4670232813583204352 ∧ ((FP.dmul v v).toNat = 0 ∨ 4129800858298744832 ≤ (FP.dmul v v).toNat) := by
  have fv : FP.Core.fits FP.Core.b64 (.fin s c q) := hv ▸ FP.Core.val64_fits v
  obtain ⟨p1, p2, p3⟩ := FP.Core.product_units fv fv
  have hd : FP.Core.decode FP.Core.b64 (FP.dmul v v).toNat = FP.Core.roundRatio FP.Core.b64 false (c * c) 1 (q + q) := by
    rw [show FP.Core.decode FP.Core.b64 (FP.dmul v v).toNat = _ from FP.Core.val64_dmul v v, hv, p1, show (s != s) = false by cases s <;> rfl]
    rfl
  have hl2 : (FP.dmul v v).toNat < 2 * FP.Core.half FP.Core.b64 := by rw [sz64]; exact UInt64.toNat_lt _
  have hq := FP.Core.qmin_neg FP.Core.good_b64
  have hqq := fm_q FP.Core.good_b64
  generalize FP.Core.zmag FP.Core.b64 (.fin s c q) = z at *
  constructor
  · refine fu_le FP.Core.good_b64 hd hl2 (by decide) (e0 := 2 * FP.Core.b64.qmin) (by omega) p2 ?_
    rw [p3, hqq, Nat.mul_one]
    rw [b_14, show 2 ^ (-FP.Core.b64.qmin).toNat = 2 * hU from hU_P]
    generalize hU = u at *
    calc z * z ≤ (256 * u) * (256 * u) := Nat.mul_le_mul hu hu
      _ = 32768 * u * (2 * u) := by rw [Nat.mul_mul_mul_comm, Nat.mul_mul_mul_comm 32768]
  · rcases hl with h | h
    · left
      have : (FP.dmul v v).toNat ≤ 0 := by
        refine fu_le FP.Core.good_b64 hd hl2 (by decide) (e0 := 2 * FP.Core.b64.qmin) (by omega) p2 ?_
        rw [h]
        rw [show FP.Core.inUnits (0 * 0) (q + q) (2 * FP.Core.b64.qmin) = 0 by unfold FP.Core.inUnits; rw [Nat.zero_mul]]
        exact Nat.zero_le _
      omega
    · right
      refine fu_ge FP.Core.good_b64 hd hl2 (by decide) (e0 := 2 * FP.Core.b64.qmin) (by omega) p2 (by rw [inf64]; decide) ?_
      rw [p3, hqq, Nat.mul_one]
      rw [b_qq2]
      exact Nat.mul_le_mul h h
section DF
variable {w sx sy W Hh : Nat}
theorem df_one (hW : 1 ≤ W ∧ W ≤ 16) (bw : w < 2 ^ 24) (bx : sx < 2 ^ 30) (g : 0 < w → w ≤ sx ∧ sx ≤ 200 * w) : ∃ s c q, FP.Core.val64 (FP.dsub (cnD w sx W) (hfD W)) = .fin s c q ∧ FP.Core.zmag FP.Core.b64 (.fin s c q) ≤ 256 * hU ∧ (c = 0 ∨ hqU ≤ FP.Core.zmag FP.Core.b64 (.fin s c q)) := by
  obtain ⟨a1, a2⟩ := cn_b bw bx hW g
  obtain ⟨b1, b2⟩ := hfD_u (j := W) (by omega)
  have ua := un_mono (f := FP.Core.b64) a2
  rw [b_128] at ua
  refine df_all (by omega) b2 (un_q a1 a2) ⟨W * 4503599627370496, by rw [b1, hqU_U, Nat.mul_assoc]⟩ ua ?_
  rw [b1]
  exact Nat.mul_le_mul_right _ (by omega)
theorem df_fp (hW : 1 ≤ W ∧ W ≤ 16) (bw : w < 2 ^ 24) (bx : sx < 2 ^ 30) (g : 0 < w → w ≤ sx ∧ sx ≤ 200 * w) : vf_n64 (FP.dsub (cnD w sx W) (hfD W)) := by
  obtain ⟨s, c, q, h1, -, -⟩ := df_one hW bw bx g
  exact n64_ne (by rw [h1]; intro z; cases z)
theorem df_sq (hW : 1 ≤ W ∧ W ≤ 16) (bw : w < 2 ^ 24) (bx : sx < 2 ^ 30) (g : 0 < w → w ≤ sx ∧ sx ≤ 200 * w) : (FP.dmul (FP.dsub (cnD w sx W) (hfD W)) (FP.dsub (cnD w sx W) (hfD W))).toNat ≤ 4670232813583204352 ∧ ((FP.dmul (FP.dsub (cnD w sx W) (hfD W)) (FP.dsub (cnD w sx W) (hfD W))).toNat = 0 ∨ 4129800858298744832 ≤ (FP.dmul (FP.dsub (cnD w sx W) (hfD W)) (FP.dsub (cnD w sx W) (hfD W))).toNat) := by
  obtain ⟨s, c, q, h1, h2, h3⟩ := df_one hW bw bx g
  exact sq_all h1 h2 h3
theorem bl_fp (hW : 1 ≤ W ∧ W ≤ 16) (hH : 1 ≤ Hh ∧ Hh ≤ 16) (bw : w < 2 ^ 24) (bx : sx < 2 ^ 30) (by2 : sy < 2 ^ 30) (gx : 0 < w → w ≤ sx ∧ sx ≤ 200 * w) (gy : 0 < w → w ≤ sy ∧ sy ≤ 200 * w) : (blD w sx sy W Hh).toNat ≤ 4674736413210574848 ∧ ((blD w sx sy W Hh).toNat = 0 ∨ 4129800858298744832 ≤ (blD w sx sy W Hh).toNat) := by
  obtain ⟨p1, p2⟩ := df_sq hW bw bx gx
  obtain ⟨q1, q2⟩ := df_sq hH bw by2 gy
  unfold blD
  generalize FP.dmul (FP.dsub (cnD w sx W) (hfD W)) (FP.dsub (cnD w sx W) (hfD W)) = a at *
  generalize FP.dmul (FP.dsub (cnD w sy Hh) (hfD Hh)) (FP.dsub (cnD w sy Hh) (hfD Hh)) = b at *
  have ua := un_mono (f := FP.Core.b64) p1
  have ub := un_mono (f := FP.Core.b64) q1
  rw [b_14] at ua ub
  have ia : a.toNat < FP.Core.infBits FP.Core.b64 := by rw [inf64]; omega
  have ib : b.toNat < FP.Core.infBits FP.Core.b64 := by rw [inf64]; omega
  rw [t_dadd (by omega) (by omega)]
  constructor
  · refine fa_le FP.Core.good_b64 ia ib ?_
    rw [b_15]
    generalize hU = u at *
    omega
  · by_cases h : a.toNat = 0 ∧ b.toNat = 0
    · left
      have : FP.Core.add FP.Core.b64 a.toNat b.toNat ≤ 0 := fa_le FP.Core.good_b64 ia ib (by rw [h.1, h.2, FP.Core.unitsOf_zero]; exact Nat.le_refl _)
      omega
    · right
      refine fa_ge FP.Core.good_b64 ia ib (by rw [inf64]; decide) ?_
      rcases p2 with z | z
      · rcases q2 with z2 | z2
        · exact absurd ⟨z, z2⟩ h
        · exact Nat.le_trans (un_mono z2) (Nat.le_add_left _ _)
      · exact Nat.le_trans (un_mono z) (Nat.le_add_right _ _)
end DF
set_option maxRecDepth 100000 in
theorem c_KS_weighAll {σ : SI} {δ : SD} {B n : Nat} {a : Nat → Int32} (hB : LB B) (hW : WF a n) (hR : RB σ B a n) (hD : RD σ B a n) {bt : Int32} : E KS_weighAll [.ref 71, .ref B, .int bt] (HH σ δ) (none) (HH σ (dS δ (swN (fun j => liesA a j && decide (¬ nI j = bt)) (wgN a) n) (swN (fun j => liesA a j && decide (¬ nI j = bt)) (fun j => wgN a j * (2 * xN' a j + wN a j)) n) (swN (fun j => liesA a j && decide (¬ nI j = bt)) (fun j => wgN a j * (2 * yN' a j + hN' a j)) n))) := by
  have h8 := hW.n8
  have h2 := hR.c
  refine E.ofL [some (.ref 71), some (.ref B), some (.int bt)] rfl pn_RX3 rfl (fun sc => ?_)
  generalize hRz : (fun (zr : Option Value) (zk : XH) => zr = none ∧ zk = HH σ (dS δ (swN (fun j => liesA a j && decide (¬ nI j = bt)) (wgN a) n) (swN (fun j => liesA a j && decide (¬ nI j = bt)) (fun j => wgN a j * (2 * xN' a j + wN a j)) n) (swN (fun j => liesA a j && decide (¬ nI j = bt)) (fun j => wgN a j * (2 * yN' a j + hN' a j)) n))) = R
  refine g_aload_n dX3_weighAll_0 rfl ?_
  refine g_dconst0 dX3_weighAll_1 ?_
  refine q_putd dX3_weighAll_2 f_S_7 ck_71 (by decide) ty_2_0 fd_2_0 ?_
  refine g_aload_n dX3_weighAll_5 rfl ?_
  refine g_dconst0 dX3_weighAll_6 ?_
  refine q_putd dX3_weighAll_7 f_S_13 ck_71 (by decide) ty_2_1 fd_2_1 ?_
  refine g_aload_n dX3_weighAll_10 rfl ?_
  refine g_dconst0 dX3_weighAll_11 ?_
  refine q_putd dX3_weighAll_12 f_S_16 ck_71 (by decide) ty_2_2 fd_2_2 ?_
  refine g_iconst dX3_weighAll_15 ic_0 ?_
  refine g_istore_n dX3_weighAll_16 rfl ?_
  refine g_heap (show _ = HH σ (dS δ 0 0 0) from by unfold dS; rw [hfD_0, i2d_0]) ?_
  have H17 : ∀ (N : Nat) (k : Nat), k ≤ n → n - k < N → G sc KS_weighAll 17 (aL [some (.ref 71), some (.ref B), some (.int bt), some (.int (nI k))]) [] (HH σ (dS δ (swN (fun j => liesA a j && decide (¬ nI j = bt)) (wgN a) k) (swN (fun j => liesA a j && decide (¬ nI j = bt)) (fun j => wgN a j * (2 * xN' a j + wN a j)) k) (swN (fun j => liesA a j && decide (¬ nI j = bt)) (fun j => wgN a j * (2 * yN' a j + hN' a j)) k))) (0, 0) R := by
    intro N
    induction N with
    | zero => intro k h1 hN17; exact absurd hN17 (Nat.not_lt_zero _)
    | succ N ih17 =>
      intro k h1 hN17
      refine g_iload_n dX3_weighAll_17 rfl ?_
      refine g_aload_n dX3_weighAll_18 rfl ?_
      refine q_geti dX3_weighAll_19 f_S_19 (ckL_0 hB) (by decide) ty_0_2 ?_
      refine g_top h2 ?_
      refine n_icmp_ge (tgt := 60) (by omega) (by omega) dX3_weighAll_22 rfl (fun zc22 => ?_) (fun zc22 => ?_)
      · exact g_vret (S := []) dX3_weighAll_60 rfl (by rw [← hRz]; exact ⟨rfl, by rw [show k = n by omega]⟩) (Nat.zero_le _) (Nat.zero_le _)
      · have hk : k < n := by omega
        have hwg := wg_nI hW hk
        refine g_iload_n dX3_weighAll_25 rfl ?_
        refine g_iload_n dX3_weighAll_26 rfl ?_
        refine g_icmp_eq (tgt := 54) dX3_weighAll_27 rfl (fun zc27 => ?_) (fun zc27 => ?_)
        · refine n_iinc (b := 1) dX3_weighAll_54 rfl rfl rfl ?_
          refine g_goto (tgt := 17) dX3_weighAll_57 rfl ?_
          refine g_heap (congrArg (HH σ) (show _ = dS δ (swN (fun j => liesA a j && decide (¬ nI j = bt)) (wgN a) (k + 1)) (swN (fun j => liesA a j && decide (¬ nI j = bt)) (fun j => wgN a j * (2 * xN' a j + wN a j)) (k + 1)) (swN (fun j => liesA a j && decide (¬ nI j = bt)) (fun j => wgN a j * (2 * yN' a j + hN' a j)) (k + 1)) by first | rw [sw_y (q := (fun j => liesA a j && decide (¬ nI j = bt))) (sq_y zc35 zc27), sw_y (q := (fun j => liesA a j && decide (¬ nI j = bt))) (sq_y zc35 zc27), sw_y (q := (fun j => liesA a j && decide (¬ nI j = bt))) (sq_y zc35 zc27)] | rw [sw_n (q := (fun j => liesA a j && decide (¬ nI j = bt))) (sq_n1 zc35), sw_n (q := (fun j => liesA a j && decide (¬ nI j = bt))) (sq_n1 zc35), sw_n (q := (fun j => liesA a j && decide (¬ nI j = bt))) (sq_n1 zc35)] | rw [sw_n (q := (fun j => liesA a j && decide (¬ nI j = bt))) (sq_n2 zc27), sw_n (q := (fun j => liesA a j && decide (¬ nI j = bt))) (sq_n2 zc27), sw_n (q := (fun j => liesA a j && decide (¬ nI j = bt))) (sq_n2 zc27)])) ?_
          exact g_can _ (by exact ⟨rfl, rfl, rfl, rfl, trivial⟩) (ih17 (k + 1) (by omega) (by omega))
        · refine g_aload_n dX3_weighAll_30 rfl ?_
          refine g_iload_n dX3_weighAll_31 rfl ?_
          refine g_v1 (M' := KL_lies) dX3_weighAll_32 l_S_25 v_KL_lies (c_KL_lies hB hW hR (by omega)) (rcL hB) rfl rfl ⟨rfl, rfl⟩ ?_
          refine b_if_eq (tgt := 54) dX3_weighAll_35 rfl (fun zc35 => ?_) (fun zc35 => ?_)
          · refine n_iinc (b := 1) dX3_weighAll_54 rfl rfl rfl ?_
            refine g_goto (tgt := 17) dX3_weighAll_57 rfl ?_
            refine g_heap (congrArg (HH σ) (show _ = dS δ (swN (fun j => liesA a j && decide (¬ nI j = bt)) (wgN a) (k + 1)) (swN (fun j => liesA a j && decide (¬ nI j = bt)) (fun j => wgN a j * (2 * xN' a j + wN a j)) (k + 1)) (swN (fun j => liesA a j && decide (¬ nI j = bt)) (fun j => wgN a j * (2 * yN' a j + hN' a j)) (k + 1)) by first | rw [sw_y (q := (fun j => liesA a j && decide (¬ nI j = bt))) (sq_y zc35 zc27), sw_y (q := (fun j => liesA a j && decide (¬ nI j = bt))) (sq_y zc35 zc27), sw_y (q := (fun j => liesA a j && decide (¬ nI j = bt))) (sq_y zc35 zc27)] | rw [sw_n (q := (fun j => liesA a j && decide (¬ nI j = bt))) (sq_n1 zc35), sw_n (q := (fun j => liesA a j && decide (¬ nI j = bt))) (sq_n1 zc35), sw_n (q := (fun j => liesA a j && decide (¬ nI j = bt))) (sq_n1 zc35)] | rw [sw_n (q := (fun j => liesA a j && decide (¬ nI j = bt))) (sq_n2 zc27), sw_n (q := (fun j => liesA a j && decide (¬ nI j = bt))) (sq_n2 zc27), sw_n (q := (fun j => liesA a j && decide (¬ nI j = bt))) (sq_n2 zc27)])) ?_
            exact g_can _ (by exact ⟨rfl, rfl, rfl, rfl, trivial⟩) (ih17 (k + 1) (by omega) (by omega))
          · obtain ⟨hb1, hb2, hb3⟩ := sw_bd (q := (fun j => liesA a j && decide (¬ nI j = bt))) hW hk zc35
            refine g_aload_n dX3_weighAll_38 rfl ?_
            refine g_aload_n dX3_weighAll_39 rfl ?_
            refine g_iload_n dX3_weighAll_40 rfl ?_
            refine g_aload_n dX3_weighAll_41 rfl ?_
            refine g_iload_n dX3_weighAll_42 rfl ?_
            refine g_v1 (M' := KL_xOf) dX3_weighAll_43 l_S_29 v_KL_xOf (c_KL_xOf hB hW hR (by omega)) (rcL hB) rfl rfl ⟨rfl, rfl⟩ ?_
            refine g_top (hW.xy hk zc35).2.2.1 ?_
            refine g_aload_n dX3_weighAll_46 rfl ?_
            refine g_iload_n dX3_weighAll_47 rfl ?_
            refine g_v1 (M' := KL_yOf) dX3_weighAll_48 l_S_33 v_KL_yOf (c_KL_yOf hB hW hR (by omega)) (rcL hB) rfl rfl ⟨rfl, rfl⟩ ?_
            refine g_top (hW.xy hk zc35).2.2.2 ?_
            refine g_v4n (M' := KS_add) dX3_weighAll_51 l_S_36 v_KS_add (c_KS_add hB hW hR hD hk (by have := (hW.xy hk zc35).1; omega) (by have := (hW.xy hk zc35).2.1; omega) hb1 hb2 hb3) rc_71 HH_len rfl ⟨rfl, rfl⟩ ?_
            refine n_iinc (b := 1) dX3_weighAll_54 rfl rfl rfl ?_
            refine g_goto (tgt := 17) dX3_weighAll_57 rfl ?_
            refine g_heap (congrArg (HH σ) (show _ = dS δ (swN (fun j => liesA a j && decide (¬ nI j = bt)) (wgN a) (k + 1)) (swN (fun j => liesA a j && decide (¬ nI j = bt)) (fun j => wgN a j * (2 * xN' a j + wN a j)) (k + 1)) (swN (fun j => liesA a j && decide (¬ nI j = bt)) (fun j => wgN a j * (2 * yN' a j + hN' a j)) (k + 1)) by first | rw [sw_y (q := (fun j => liesA a j && decide (¬ nI j = bt))) (sq_y zc35 zc27), sw_y (q := (fun j => liesA a j && decide (¬ nI j = bt))) (sq_y zc35 zc27), sw_y (q := (fun j => liesA a j && decide (¬ nI j = bt))) (sq_y zc35 zc27)] | rw [sw_n (q := (fun j => liesA a j && decide (¬ nI j = bt))) (sq_n1 zc35), sw_n (q := (fun j => liesA a j && decide (¬ nI j = bt))) (sq_n1 zc35), sw_n (q := (fun j => liesA a j && decide (¬ nI j = bt))) (sq_n1 zc35)] | rw [sw_n (q := (fun j => liesA a j && decide (¬ nI j = bt))) (sq_n2 zc27), sw_n (q := (fun j => liesA a j && decide (¬ nI j = bt))) (sq_n2 zc27), sw_n (q := (fun j => liesA a j && decide (¬ nI j = bt))) (sq_n2 zc27)])) ?_
            exact g_can _ (by exact ⟨rfl, rfl, rfl, rfl, trivial⟩) (ih17 (k + 1) (by omega) (by omega))
  exact g_can _ (by exact ⟨rfl, rfl, rfl, rfl, trivial⟩) (H17 _ 0 (by omega) (Nat.lt_succ_self _))
set_option maxRecDepth 100000 in
theorem c_KS_centreX {σ : SI} {δ : SD} {B : Nat} (hB : LB B) {W w sx sy : Nat} (hw : σ B 0 = nI W) (hW6 : W ≤ 16) (hw2 : w < 2 ^ 24) (hsx : sx < 2 ^ 30) : E KS_centreX [.ref 71, .ref B] (HH σ (dS δ w sx sy)) (some (.double (cnD w sx W))) (HH σ (dS δ w sx sy)) := by
  refine E.ofL [some (.ref 71), some (.ref B)] rfl pn_RX3 rfl (fun sc => ?_)
  refine g_aload_n dX3_centreX_0 rfl ?_
  refine q_getd dX3_centreX_1 f_S_7 ck_71 (by decide) ty_2_0 ?_
  refine g_topd dS_0 ?_
  refine g_dconst0 dX3_centreX_4 ?_
  refine g_dcmp dX3_centreX_5 ?_
  refine g_top (show _ = cI (FP.i2d (nI w)).toNat 0 from cI_64 (u_i2d (by omega)).2 (by decide)) ?_
  refine g_if_le (tgt := 21) dX3_centreX_6 rfl (fun zc6 => ?_) (fun zc6 => ?_)
  · refine g_aload_n dX3_centreX_21 rfl ?_
    refine q_geti dX3_centreX_22 f_S_51 (ckL_0 hB) (by decide) ty_0_0 ?_
    refine g_top hw ?_
    refine g_i2d dX3_centreX_25 ?_
    refine g_ldcd dX3_centreX_26 c_S_46 ?_
    refine g_ddiv dX3_centreX_29 (n64_lt (Nat.le_of_lt (hfD_u (j := W) (by omega)).2)) ?_
    refine g_topd (show _ = hfD W from rfl) ?_
    exact e_dret dX3_centreX_30 rfl (by first | exact (cn_0 (cn_z (by omega) zc6)).symm | exact (cn_1 (cn_p zc6)).symm) (by rfl)
  · refine g_aload_n dX3_centreX_9 rfl ?_
    refine q_getd dX3_centreX_10 f_S_13 ck_71 (by decide) ty_2_1 ?_
    refine g_topd dS_1 ?_
    refine g_aload_n dX3_centreX_13 rfl ?_
    refine q_getd dX3_centreX_14 f_S_7 ck_71 (by decide) ty_2_0 ?_
    refine g_topd dS_0 ?_
    refine g_ddiv dX3_centreX_17 (cn_fp (by omega) (by omega) (cn_p zc6)) ?_
    refine g_goto (tgt := 30) dX3_centreX_18 rfl ?_
    exact e_dret dX3_centreX_30 rfl (by first | exact (cn_0 (cn_z (by omega) zc6)).symm | exact (cn_1 (cn_p zc6)).symm) (by rfl)
set_option maxRecDepth 100000 in
theorem c_KS_centreY {σ : SI} {δ : SD} {B : Nat} (hB : LB B) {W w sx sy : Nat} (hw : σ B 1 = nI W) (hW6 : W ≤ 16) (hw2 : w < 2 ^ 24) (hsx : sy < 2 ^ 30) : E KS_centreY [.ref 71, .ref B] (HH σ (dS δ w sx sy)) (some (.double (cnD w sy W))) (HH σ (dS δ w sx sy)) := by
  refine E.ofL [some (.ref 71), some (.ref B)] rfl pn_RX3 rfl (fun sc => ?_)
  refine g_aload_n dX3_centreY_0 rfl ?_
  refine q_getd dX3_centreY_1 f_S_7 ck_71 (by decide) ty_2_0 ?_
  refine g_topd dS_0 ?_
  refine g_dconst0 dX3_centreY_4 ?_
  refine g_dcmp dX3_centreY_5 ?_
  refine g_top (show _ = cI (FP.i2d (nI w)).toNat 0 from cI_64 (u_i2d (by omega)).2 (by decide)) ?_
  refine g_if_le (tgt := 21) dX3_centreY_6 rfl (fun zc6 => ?_) (fun zc6 => ?_)
  · refine g_aload_n dX3_centreY_21 rfl ?_
    refine q_geti dX3_centreY_22 f_S_54 (ckL_0 hB) (by decide) ty_0_1 ?_
    refine g_top hw ?_
    refine g_i2d dX3_centreY_25 ?_
    refine g_ldcd dX3_centreY_26 c_S_46 ?_
    refine g_ddiv dX3_centreY_29 (n64_lt (Nat.le_of_lt (hfD_u (j := W) (by omega)).2)) ?_
    refine g_topd (show _ = hfD W from rfl) ?_
    exact e_dret dX3_centreY_30 rfl (by first | exact (cn_0 (cn_z (by omega) zc6)).symm | exact (cn_1 (cn_p zc6)).symm) (by rfl)
  · refine g_aload_n dX3_centreY_9 rfl ?_
    refine q_getd dX3_centreY_10 f_S_16 ck_71 (by decide) ty_2_2 ?_
    refine g_topd dS_2 ?_
    refine g_aload_n dX3_centreY_13 rfl ?_
    refine q_getd dX3_centreY_14 f_S_7 ck_71 (by decide) ty_2_0 ?_
    refine g_topd dS_0 ?_
    refine g_ddiv dX3_centreY_17 (cn_fp (by omega) (by omega) (cn_p zc6)) ?_
    refine g_goto (tgt := 30) dX3_centreY_18 rfl ?_
    exact e_dret dX3_centreY_30 rfl (by first | exact (cn_0 (cn_z (by omega) zc6)).symm | exact (cn_1 (cn_p zc6)).symm) (by rfl)
set_option maxRecDepth 100000 in
theorem c_KS_balance {σ : SI} {δ : SD} {B : Nat} (hB : LB B) {W Hh w sx sy : Nat} (hw : σ B 0 = nI W) (hh : σ B 1 = nI Hh) (hW6 : 1 ≤ W ∧ W ≤ 16) (hH6 : 1 ≤ Hh ∧ Hh ≤ 16) (bw : w < 2 ^ 24) (bx : sx < 2 ^ 30) (by2 : sy < 2 ^ 30) (gx : 0 < w → w ≤ sx ∧ sx ≤ 200 * w) (gy : 0 < w → w ≤ sy ∧ sy ≤ 200 * w) : E KS_balance [.ref 71, .ref B] (HH σ (dS δ w sx sy)) (some (.double (blD w sx sy W Hh))) (HH σ (dS δ w sx sy)) := by
  refine E.ofL [some (.ref 71), some (.ref B)] rfl pn_RX3 rfl (fun sc => ?_)
  refine g_aload_n dX3_balance_0 rfl ?_
  refine g_aload_n dX3_balance_1 rfl ?_
  refine g_v1 (M' := KS_centreX) dX3_balance_2 l_S_57 v_KS_centreX (c_KS_centreX hB hw hW6.2 bw bx) rc_71 rfl rfl ⟨rfl, rfl⟩ ?_
  refine g_aload_n dX3_balance_5 rfl ?_
  refine q_geti dX3_balance_6 f_S_51 (ckL_0 hB) (by decide) ty_0_0 ?_
  refine g_top hw ?_
  refine g_i2d dX3_balance_9 ?_
  refine g_ldcd dX3_balance_10 c_S_46 ?_
  refine g_ddiv dX3_balance_13 (n64_lt (Nat.le_of_lt (hfD_u (j := W) (by omega)).2)) ?_
  refine g_topd (show _ = hfD W from rfl) ?_
  refine g_dsub dX3_balance_14 (df_fp (by omega) bw bx gx) ?_
  refine g_dstore_n dX3_balance_15 rfl ?_
  refine g_aload_n dX3_balance_16 rfl ?_
  refine g_aload_n dX3_balance_17 rfl ?_
  refine g_v1 (M' := KS_centreY) dX3_balance_18 l_S_61 v_KS_centreY (c_KS_centreY hB hh hH6.2 bw by2) rc_71 rfl rfl ⟨rfl, rfl⟩ ?_
  refine g_aload_n dX3_balance_21 rfl ?_
  refine q_geti dX3_balance_22 f_S_54 (ckL_0 hB) (by decide) ty_0_1 ?_
  refine g_top hh ?_
  refine g_i2d dX3_balance_25 ?_
  refine g_ldcd dX3_balance_26 c_S_46 ?_
  refine g_ddiv dX3_balance_29 (n64_lt (Nat.le_of_lt (hfD_u (j := Hh) (by omega)).2)) ?_
  refine g_topd (show _ = hfD Hh from rfl) ?_
  refine g_dsub dX3_balance_30 (df_fp (by omega) bw by2 gy) ?_
  refine g_dstore dX3_balance_31 rfl ?_
  refine g_dload_n dX3_balance_33 rfl ?_
  refine g_dload_n dX3_balance_34 rfl ?_
  refine g_dmul dX3_balance_35 (n64_lt (Nat.le_trans (df_sq hW6 bw bx gx).1 (by decide))) ?_
  refine g_dload dX3_balance_36 rfl ?_
  refine g_dload dX3_balance_38 rfl ?_
  refine g_dmul dX3_balance_40 (n64_lt (Nat.le_trans (df_sq hH6 bw by2 gy).1 (by decide))) ?_
  refine g_dadd dX3_balance_41 (n64_lt (Nat.le_trans (bl_fp hW6 hH6 bw bx by2 gx gy).1 (by decide))) ?_
  exact e_dret dX3_balance_42 rfl (by rfl) (by rfl)
set_option maxRecDepth 100000 in
theorem c_KS_tell0 {σ : SI} {δ : SD} {B : Nat} (hB : LB B) {W Hh w sx sy : Nat} (hw : σ B 0 = nI W) (hh : σ B 1 = nI Hh) (hW6 : 1 ≤ W ∧ W ≤ 16) (hH6 : 1 ≤ Hh ∧ Hh ≤ 16) (bw : w < 2 ^ 24) (bx : sx < 2 ^ 30) (by2 : sy < 2 ^ 30) (gx : 0 < w → w ≤ sx ∧ sx ≤ 200 * w) (gy : 0 < w → w ≤ sy ∧ sy ≤ 200 * w) : E KS_tell [.ref 71, .ref B, .int (nI 0)] (HH σ (dS δ w sx sy)) (some (.double (cnD w sx W))) (HH σ (dS δ w sx sy)) := by
  refine E.ofL [some (.ref 71), some (.ref B), some (.int (nI 0))] rfl pn_RX3 rfl (fun sc => ?_)
  refine g_iload_n dX3_tell_0 rfl ?_
  refine g_lsw (tgt := 28) dX3_tell_1 (by decide +kernel) (by decide +kernel) ?_
  refine g_aload_n dX3_tell_28 rfl ?_
  refine g_aload_n dX3_tell_29 rfl ?_
  refine g_v1 (M' := KS_centreX) dX3_tell_30 l_S_57 v_KS_centreX (c_KS_centreX hB hw hW6.2 bw bx) rc_71 rfl rfl ⟨rfl, rfl⟩ ?_
  exact e_dret dX3_tell_33 rfl (by rfl) (by rfl)
set_option maxRecDepth 100000 in
theorem c_KS_tell1 {σ : SI} {δ : SD} {B : Nat} (hB : LB B) {W Hh w sx sy : Nat} (hw : σ B 0 = nI W) (hh : σ B 1 = nI Hh) (hW6 : 1 ≤ W ∧ W ≤ 16) (hH6 : 1 ≤ Hh ∧ Hh ≤ 16) (bw : w < 2 ^ 24) (bx : sx < 2 ^ 30) (by2 : sy < 2 ^ 30) (gx : 0 < w → w ≤ sx ∧ sx ≤ 200 * w) (gy : 0 < w → w ≤ sy ∧ sy ≤ 200 * w) : E KS_tell [.ref 71, .ref B, .int (nI 1)] (HH σ (dS δ w sx sy)) (some (.double (cnD w sy Hh))) (HH σ (dS δ w sx sy)) := by
  refine E.ofL [some (.ref 71), some (.ref B), some (.int (nI 1))] rfl pn_RX3 rfl (fun sc => ?_)
  refine g_iload_n dX3_tell_0 rfl ?_
  refine g_lsw (tgt := 34) dX3_tell_1 (by decide +kernel) (by decide +kernel) ?_
  refine g_aload_n dX3_tell_34 rfl ?_
  refine g_aload_n dX3_tell_35 rfl ?_
  refine g_v1 (M' := KS_centreY) dX3_tell_36 l_S_61 v_KS_centreY (c_KS_centreY hB hh hH6.2 bw by2) rc_71 rfl rfl ⟨rfl, rfl⟩ ?_
  exact e_dret dX3_tell_39 rfl (by rfl) (by rfl)
set_option maxRecDepth 100000 in
theorem c_KS_tell2 {σ : SI} {δ : SD} {B : Nat} (hB : LB B) {W Hh w sx sy : Nat} (hw : σ B 0 = nI W) (hh : σ B 1 = nI Hh) (hW6 : 1 ≤ W ∧ W ≤ 16) (hH6 : 1 ≤ Hh ∧ Hh ≤ 16) (bw : w < 2 ^ 24) (bx : sx < 2 ^ 30) (by2 : sy < 2 ^ 30) (gx : 0 < w → w ≤ sx ∧ sx ≤ 200 * w) (gy : 0 < w → w ≤ sy ∧ sy ≤ 200 * w) : E KS_tell [.ref 71, .ref B, .int (nI 2)] (HH σ (dS δ w sx sy)) (some (.double (blD w sx sy W Hh))) (HH σ (dS δ w sx sy)) := by
  refine E.ofL [some (.ref 71), some (.ref B), some (.int (nI 2))] rfl pn_RX3 rfl (fun sc => ?_)
  refine g_iload_n dX3_tell_0 rfl ?_
  refine g_lsw (tgt := 40) dX3_tell_1 (by decide +kernel) (by decide +kernel) ?_
  refine g_aload_n dX3_tell_40 rfl ?_
  refine g_aload_n dX3_tell_41 rfl ?_
  refine g_v1 (M' := KS_balance) dX3_tell_42 l_S_64 v_KS_balance (c_KS_balance hB hw hh hW6 hH6 bw bx by2 gx gy) rc_71 rfl rfl ⟨rfl, rfl⟩ ?_
  exact e_dret dX3_tell_45 rfl (by rfl) (by rfl)
