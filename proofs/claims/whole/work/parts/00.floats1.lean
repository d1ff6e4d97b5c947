/-! FLOATS: sums, products, quotients by units, from below and from above -/
section FU
variable {f : FP.Core.Fmt} {n m x y A B : Nat} {e e0 : Int}
theorem fu_lt (h : n < FP.Core.infBits f) : n < FP.Core.half f := Nat.lt_trans h (FP.Core.infBits_lt f)
theorem fu_dec (h : n < FP.Core.infBits f) : ∃ c q, FP.Core.decode f n = .fin false c q ∧ FP.Core.inUnits c q f.qmin = FP.Core.unitsOf f n := by
  have h1 := fu_lt h
  have h2 := FP.Core.mag_of_lt h1
  obtain ⟨c, q, h3, h4⟩ := FP.Core.decode_fin (show FP.Core.mag f n < FP.Core.infBits f by rw [h2]; exact h)
  rw [FP.Core.fieldS_mag f (by omega), decide_eq_false (by omega)] at h3
  rw [h2] at h4
  exact ⟨c, q, h3, h4⟩
/-- a rounded number of sign +: its encoding has no sign -/
theorem fu_pos (hn : FP.Core.decode f n = FP.Core.roundRatio f false A B e) (hl : n < 2 * FP.Core.half f) : n < FP.Core.half f ∧ n ≤ FP.Core.infBits f := by
  have h1 : FP.Core.mag f n ≤ FP.Core.infBits f := Nat.le_of_not_lt fun h1 => FP.Core.roundRatio_ne_nan f false A B e (hn ▸ (FP.Core.decode_nan n).mpr h1)
  have h2 := FP.Core.sgn_decode h1 hl
  rw [hn, FP.Core.sgn_roundRatio] at h2
  have h3 : n < FP.Core.half f := Nat.lt_of_not_le (of_decide_eq_false h2.symm)
  rw [FP.Core.mag_of_lt h3] at h1
  exact ⟨h3, h1⟩
theorem fu_le (hf : FP.Core.Good f) (hn : FP.Core.decode f n = FP.Core.roundRatio f false A B e) (hl : n < 2 * FP.Core.half f) (hB : 0 < B) (h0 : e0 ≤ f.qmin) (h0e : e0 ≤ e) (h : FP.Core.inUnits A e e0 ≤ FP.Core.unitsOf f m * 2 ^ (f.qmin - e0).toNat * B) : n ≤ m := by
  have := FP.Core.mag_le hf hn hB h0 h0e h
  rwa [FP.Core.mag_of_lt (fu_pos hn hl).1] at this
theorem fu_ge (hf : FP.Core.Good f) (hn : FP.Core.decode f n = FP.Core.roundRatio f false A B e) (hl : n < 2 * FP.Core.half f) (hB : 0 < B) (h0 : e0 ≤ f.qmin) (h0e : e0 ≤ e) (hm : m ≤ FP.Core.infBits f) (h : FP.Core.unitsOf f m * 2 ^ (f.qmin - e0).toNat * B ≤ FP.Core.inUnits A e e0) : m ≤ n := by
  have := FP.Core.mag_ge hf hn hB h0 h0e hm h
  rwa [FP.Core.mag_of_lt (fu_pos hn hl).1] at this
theorem fu_el (hf : FP.Core.Good f) {d : FP.Core.Datum} (h : FP.Core.fits f d) : FP.Core.encode f d < 2 * FP.Core.half f := by
  have := FP.Core.encode_lt hf d h
  unfold FP.Core.half
  rw [← Nat.mul_assoc]
  exact this
/-- one of the format's own units, as many as 1 -/
def fuP (f : FP.Core.Fmt) : Nat := 2 ^ (-f.qmin).toNat
theorem fuP_pos : 0 < fuP f := Nat.two_pow_pos _
theorem fu_add (hf : FP.Core.Good f) (hx : x < FP.Core.infBits f) (hy : y < FP.Core.infBits f) : ∃ A e, FP.Core.decode f (FP.Core.add f x y) = FP.Core.roundRatio f false A 1 e ∧ FP.Core.add f x y < 2 * FP.Core.half f ∧ f.qmin ≤ e ∧ FP.Core.inUnits A e f.qmin = FP.Core.unitsOf f x + FP.Core.unitsOf f y := by
  obtain ⟨c, q, x1, x2⟩ := fu_dec hx
  obtain ⟨d, r, y1, y2⟩ := fu_dec hy
  have fx : FP.Core.fits f (.fin false c q) := x1 ▸ FP.Core.decode_fits hf x
  have fy : FP.Core.fits f (.fin false d r) := y1 ▸ FP.Core.decode_fits hf y
  obtain ⟨sg, w, e, p1, p2, p3⟩ := FP.Core.sum_units fx fy
  have p4 : FP.Core.zval f (.fin false c q) + FP.Core.zval f (.fin false d r) = ((FP.Core.unitsOf f x + FP.Core.unitsOf f y : Nat) : Int) := by
    show (FP.Core.inUnits c q f.qmin : Int) + (FP.Core.inUnits d r f.qmin : Int) = _
    rw [x2, y2]; rfl
  rw [p4] at p3
  have sgf : sg = false := by
    have e1 : sg = FP.Core.sumSign false false (FP.Core.sumUnits false c q false d r (min q r)) := by
      have : FP.Core.exactSum (.fin false c q) (.fin false d r) = .fin (FP.Core.sumSign false false (FP.Core.sumUnits false c q false d r (min q r))) (FP.Core.sumUnits false c q false d r (min q r)).natAbs (min q r) := rfl
      rw [this] at p1
      injection p1 with h1 h2 h3
      exact h1.symm
    have e2 : 0 ≤ FP.Core.sumUnits false c q false d r (min q r) := by
      show (0 : Int) ≤ (FP.Core.inUnits c q (min q r) : Int) + (FP.Core.inUnits d r (min q r) : Int)
      omega
    rw [e1]
    unfold FP.Core.sumSign
    split
    · rfl
    · exact decide_eq_false (by omega)
  subst sgf
  refine ⟨w, e, ?_, fu_el hf (FP.Core.round_fits hf _), p2, ?_⟩
  · unfold FP.Core.add
    rw [FP.Core.decode_enc hf (FP.Core.round_fits hf _), x1, y1, p1]; rfl
  · have p5 : ((FP.Core.inUnits w e f.qmin : Nat) : Int) = ((FP.Core.unitsOf f x + FP.Core.unitsOf f y : Nat) : Int) := p3
    exact Int.ofNat.inj p5
theorem fu_mul (hf : FP.Core.Good f) (hx : x < FP.Core.infBits f) (hy : y < FP.Core.infBits f) : ∃ A e, FP.Core.decode f (FP.Core.mul f x y) = FP.Core.roundRatio f false A 1 e ∧ FP.Core.mul f x y < 2 * FP.Core.half f ∧ 2 * f.qmin ≤ e ∧ FP.Core.inUnits A e (2 * f.qmin) = FP.Core.unitsOf f x * FP.Core.unitsOf f y := by
  obtain ⟨c, q, x1, x2⟩ := fu_dec hx
  obtain ⟨d, r, y1, y2⟩ := fu_dec hy
  have fx : FP.Core.fits f (.fin false c q) := x1 ▸ FP.Core.decode_fits hf x
  have fy : FP.Core.fits f (.fin false d r) := y1 ▸ FP.Core.decode_fits hf y
  obtain ⟨p1, p2, p3⟩ := FP.Core.product_units fx fy
  refine ⟨c * d, q + r, ?_, fu_el hf (FP.Core.round_fits hf _), p2, ?_⟩
  · unfold FP.Core.mul
    rw [FP.Core.decode_enc hf (FP.Core.round_fits hf _), x1, y1, p1]; rfl
  · rw [p3, ← x2, ← y2]; rfl
theorem fu_div (hf : FP.Core.Good f) (hx : x < FP.Core.infBits f) (hy : y < FP.Core.infBits f) (h0 : 0 < FP.Core.unitsOf f y) : ∃ A B e e0, FP.Core.decode f (FP.Core.div f x y) = FP.Core.roundRatio f false A B e ∧ FP.Core.div f x y < 2 * FP.Core.half f ∧ 0 < B ∧ e0 ≤ f.qmin ∧ e0 ≤ e ∧ FP.Core.inUnits A e e0 = FP.Core.unitsOf f x * fuP f ∧ 2 ^ (f.qmin - e0).toNat * B = FP.Core.unitsOf f y := by
  obtain ⟨c, q, x1, x2⟩ := fu_dec hx
  obtain ⟨d, r, y1, y2⟩ := fu_dec hy
  have fx : FP.Core.fits f (.fin false c q) := x1 ▸ FP.Core.decode_fits hf x
  have fy : FP.Core.fits f (.fin false d r) := y1 ▸ FP.Core.decode_fits hf y
  have hd0 : d ≠ 0 := by
    rintro rfl
    rw [← y2] at h0
    unfold FP.Core.inUnits at h0
    rw [Nat.zero_mul] at h0
    exact absurd h0 (Nat.lt_irrefl 0)
  have hx1 := fx.2.1
  have hy1 := fy.2.1
  have hq := FP.Core.qmin_neg hf
  refine ⟨c, d, q - r, 2 * f.qmin - r, ?_, fu_el hf (FP.Core.quotient_fits hf _ _), by omega, by omega, by omega, ?_, ?_⟩
  · unfold FP.Core.div
    rw [FP.Core.decode_enc hf (FP.Core.quotient_fits hf _ _), x1, y1]
    simp only [FP.Core.quotient, if_neg hd0]
    rfl
  · rw [← x2]
    unfold fuP
    show c * _ = c * _ * _
    rw [Nat.mul_assoc, ← Nat.pow_add]; congr 2; omega
  · rw [← y2]
    show _ = d * _
    rw [Nat.mul_comm]; congr 2; omega
theorem fu_sub (hf : FP.Core.Good f) (hx : x < FP.Core.infBits f) (hy : y < FP.Core.infBits f) (h : FP.Core.unitsOf f y ≤ FP.Core.unitsOf f x) : ∃ A e, FP.Core.decode f (FP.Core.sub f x y) = FP.Core.roundRatio f false A 1 e ∧ FP.Core.sub f x y < 2 * FP.Core.half f ∧ f.qmin ≤ e ∧ FP.Core.inUnits A e f.qmin = FP.Core.unitsOf f x - FP.Core.unitsOf f y := by
  obtain ⟨c, q, x1, x2⟩ := fu_dec hx
  obtain ⟨d, r, y1, y2⟩ := fu_dec hy
  have fx : FP.Core.fits f (.fin false c q) := x1 ▸ FP.Core.decode_fits hf x
  have fy : FP.Core.fits f (.fin true d r) := FP.Core.negate_fits (y1 ▸ FP.Core.decode_fits hf y : FP.Core.fits f (.fin false d r))
  obtain ⟨sg, w, e, p1, p2, p3⟩ := FP.Core.sum_units fx fy
  have p4 : FP.Core.zval f (.fin false c q) + FP.Core.zval f (.fin true d r) = ((FP.Core.unitsOf f x - FP.Core.unitsOf f y : Nat) : Int) := by
    show (FP.Core.inUnits c q f.qmin : Int) + -(FP.Core.inUnits d r f.qmin : Int) = _
    rw [x2, y2]; omega
  have p6 := p3
  rw [p4] at p3
  have sgf : sg = false := by
    have e1 : sg = FP.Core.sumSign false true (FP.Core.sumUnits false c q true d r (min q r)) := by
      have : FP.Core.exactSum (.fin false c q) (.fin true d r) = .fin (FP.Core.sumSign false true (FP.Core.sumUnits false c q true d r (min q r))) (FP.Core.sumUnits false c q true d r (min q r)).natAbs (min q r) := rfl
      rw [this] at p1
      injection p1 with h1 h2 h3
      exact h1.symm
    rw [e1]
    unfold FP.Core.sumSign
    split
    · rfl
    · rename_i hne
      refine decide_eq_false ?_
      intro hlt
      have e2 : sg = true := by rw [e1]; unfold FP.Core.sumSign; rw [if_neg hne]; exact decide_eq_true hlt
      rw [e2] at p3
      have p5 : -((FP.Core.inUnits w e f.qmin : Nat) : Int) = ((FP.Core.unitsOf f x - FP.Core.unitsOf f y : Nat) : Int) := p3
      have hw : w = (FP.Core.sumUnits false c q true d r (min q r)).natAbs := by
        have : FP.Core.exactSum (.fin false c q) (.fin true d r) = .fin (FP.Core.sumSign false true (FP.Core.sumUnits false c q true d r (min q r))) (FP.Core.sumUnits false c q true d r (min q r)).natAbs (min q r) := rfl
        rw [this] at p1
        injection p1 with h1 h2 h3
        exact h2.symm
      have hw0 : 0 < w := by omega
      have : 0 < FP.Core.inUnits w e f.qmin := Nat.mul_pos hw0 (Nat.two_pow_pos _)
      omega
  subst sgf
  refine ⟨w, e, ?_, fu_el hf (FP.Core.round_fits hf _), p2, ?_⟩
  · unfold FP.Core.sub
    rw [FP.Core.decode_enc hf (FP.Core.round_fits hf _), x1, y1]
    show FP.Core.round f (FP.Core.exactSum (.fin false c q) (.fin true d r)) = _
    rw [p1]; rfl
  · have p5 : ((FP.Core.inUnits w e f.qmin : Nat) : Int) = ((FP.Core.unitsOf f x - FP.Core.unitsOf f y : Nat) : Int) := p3
    exact Int.ofNat.inj p5
/-! what is wanted -/
theorem fa_le (hf : FP.Core.Good f) (hx : x < FP.Core.infBits f) (hy : y < FP.Core.infBits f) (h : FP.Core.unitsOf f x + FP.Core.unitsOf f y ≤ FP.Core.unitsOf f m) : FP.Core.add f x y ≤ m := by
  obtain ⟨A, e, a1, a2, a3, a4⟩ := fu_add hf hx hy
  refine fu_le hf a1 a2 (by decide) (Int.le_refl _) a3 ?_
  rw [a4, Int.sub_self]; simpa using h
theorem fa_ge (hf : FP.Core.Good f) (hx : x < FP.Core.infBits f) (hy : y < FP.Core.infBits f) (hm : m ≤ FP.Core.infBits f) (h : FP.Core.unitsOf f m ≤ FP.Core.unitsOf f x + FP.Core.unitsOf f y) : m ≤ FP.Core.add f x y := by
  obtain ⟨A, e, a1, a2, a3, a4⟩ := fu_add hf hx hy
  refine fu_ge hf a1 a2 (by decide) (Int.le_refl _) a3 hm ?_
  rw [a4, Int.sub_self]; simpa using h
theorem fs_le (hf : FP.Core.Good f) (hx : x < FP.Core.infBits f) (hy : y < FP.Core.infBits f) (hxy : FP.Core.unitsOf f y ≤ FP.Core.unitsOf f x) (h : FP.Core.unitsOf f x - FP.Core.unitsOf f y ≤ FP.Core.unitsOf f m) : FP.Core.sub f x y ≤ m := by
  obtain ⟨A, e, a1, a2, a3, a4⟩ := fu_sub hf hx hy hxy
  refine fu_le hf a1 a2 (by decide) (Int.le_refl _) a3 ?_
  rw [a4, Int.sub_self]; simpa using h
theorem fs_ge (hf : FP.Core.Good f) (hx : x < FP.Core.infBits f) (hy : y < FP.Core.infBits f) (hxy : FP.Core.unitsOf f y ≤ FP.Core.unitsOf f x) (hm : m ≤ FP.Core.infBits f) (h : FP.Core.unitsOf f m ≤ FP.Core.unitsOf f x - FP.Core.unitsOf f y) : m ≤ FP.Core.sub f x y := by
  obtain ⟨A, e, a1, a2, a3, a4⟩ := fu_sub hf hx hy hxy
  refine fu_ge hf a1 a2 (by decide) (Int.le_refl _) a3 hm ?_
  rw [a4, Int.sub_self]; simpa using h
theorem fm_q (hf : FP.Core.Good f) : (f.qmin - 2 * f.qmin).toNat = (-f.qmin).toNat := by congr 1; omega
theorem fm_le (hf : FP.Core.Good f) (hx : x < FP.Core.infBits f) (hy : y < FP.Core.infBits f) (h : FP.Core.unitsOf f x * FP.Core.unitsOf f y ≤ FP.Core.unitsOf f m * fuP f) : FP.Core.mul f x y ≤ m := by
  obtain ⟨A, e, a1, a2, a3, a4⟩ := fu_mul hf hx hy
  have hq := FP.Core.qmin_neg hf
  refine fu_le hf a1 a2 (by decide) (e0 := 2 * f.qmin) (by omega) a3 ?_
  rw [a4, fm_q hf, Nat.mul_one]; exact h
theorem fm_ge (hf : FP.Core.Good f) (hx : x < FP.Core.infBits f) (hy : y < FP.Core.infBits f) (hm : m ≤ FP.Core.infBits f) (h : FP.Core.unitsOf f m * fuP f ≤ FP.Core.unitsOf f x * FP.Core.unitsOf f y) : m ≤ FP.Core.mul f x y := by
  obtain ⟨A, e, a1, a2, a3, a4⟩ := fu_mul hf hx hy
  have hq := FP.Core.qmin_neg hf
  refine fu_ge hf a1 a2 (by decide) (e0 := 2 * f.qmin) (by omega) a3 hm ?_
  rw [a4, fm_q hf, Nat.mul_one]; exact h
theorem fd_le (hf : FP.Core.Good f) (hx : x < FP.Core.infBits f) (hy : y < FP.Core.infBits f) (h0 : 0 < FP.Core.unitsOf f y) (h : FP.Core.unitsOf f x * fuP f ≤ FP.Core.unitsOf f m * FP.Core.unitsOf f y) : FP.Core.div f x y ≤ m := by
  obtain ⟨A, B, e, e0, a1, a2, a3, a4, a5, a6, a7⟩ := fu_div hf hx hy h0
  refine fu_le hf a1 a2 a3 a4 a5 ?_
  rw [a6, Nat.mul_assoc, a7]; exact h
theorem fd_ge (hf : FP.Core.Good f) (hx : x < FP.Core.infBits f) (hy : y < FP.Core.infBits f) (h0 : 0 < FP.Core.unitsOf f y) (hm : m ≤ FP.Core.infBits f) (h : FP.Core.unitsOf f m * FP.Core.unitsOf f y ≤ FP.Core.unitsOf f x * fuP f) : m ≤ FP.Core.div f x y := by
  obtain ⟨A, B, e, e0, a1, a2, a3, a4, a5, a6, a7⟩ := fu_div hf hx hy h0
  refine fu_ge hf a1 a2 a3 a4 a5 hm ?_
  rw [a6, Nat.mul_assoc, a7]; exact h
/-- units of a number with a leading digit -/
theorem un_norm {E t : Nat} (hE : 1 ≤ E) (ht : t < f.tails) : FP.Core.unitsOf f (E * f.tails + t) = (f.tails + t) * 2 ^ (E - 1) := by
  have h0 := FP.Core.tails_pos f
  have h1 : f.tails ≤ E * f.tails := Nat.le_mul_of_pos_left _ hE
  unfold FP.Core.unitsOf
  rw [if_neg (by omega), Nat.mul_comm E, Nat.mul_add_mod, Nat.mod_eq_of_lt ht, Nat.mul_add_div h0, Nat.div_eq_of_lt ht, Nat.add_zero]
theorem un_pos (h : 0 < n) : 0 < FP.Core.unitsOf f n := by
  have := FP.Core.unitsOf_lt (f := f) h
  rw [FP.Core.unitsOf_zero] at this
  exact this
theorem un_mono (h : n ≤ m) : FP.Core.unitsOf f n ≤ FP.Core.unitsOf f m := FP.Core.unitsOf_le_iff.mpr h
end FU
/-! on the numbers of 32 and 64 bits -/
theorem sz32 : 2 * FP.Core.half FP.Core.b32 = 2 ^ 32 := by decide +kernel
theorem sz64 : 2 * FP.Core.half FP.Core.b64 = 2 ^ 64 := by decide +kernel
theorem inf32 : FP.Core.infBits FP.Core.b32 = 2139095040 := by decide +kernel
theorem inf64 : FP.Core.infBits FP.Core.b64 = 9218868437227405312 := by decide +kernel
theorem t_fadd {a b : UInt32} (ha : a.toNat < 2139095040) (hb : b.toNat < 2139095040) : (FP.fadd a b).toNat = FP.Core.add FP.Core.b32 a.toNat b.toNat := by
  obtain ⟨A, e, a1, a2, -⟩ := fu_add FP.Core.good_b32 (by rw [inf32]; exact ha) (by rw [inf32]; exact hb)
  rw [sz32] at a2
  exact UInt32.toNat_ofNat_of_lt' a2
theorem t_fmul {a b : UInt32} (ha : a.toNat < 2139095040) (hb : b.toNat < 2139095040) : (FP.fmul a b).toNat = FP.Core.mul FP.Core.b32 a.toNat b.toNat := by
  obtain ⟨A, e, a1, a2, -⟩ := fu_mul FP.Core.good_b32 (by rw [inf32]; exact ha) (by rw [inf32]; exact hb)
  rw [sz32] at a2
  exact UInt32.toNat_ofNat_of_lt' a2
theorem t_fdiv {a b : UInt32} (ha : a.toNat < 2139095040) (hb : b.toNat < 2139095040) (h0 : 0 < b.toNat) : (FP.fdiv a b).toNat = FP.Core.div FP.Core.b32 a.toNat b.toNat := by
  obtain ⟨A, B, e, e0, a1, a2, -⟩ := fu_div FP.Core.good_b32 (by rw [inf32]; exact ha) (by rw [inf32]; exact hb) (un_pos h0)
  rw [sz32] at a2
  exact UInt32.toNat_ofNat_of_lt' a2
theorem t_fsub {a b : UInt32} (ha : a.toNat < 2139095040) (hb : b.toNat < 2139095040) (h0 : b.toNat ≤ a.toNat) : (FP.fsub a b).toNat = FP.Core.sub FP.Core.b32 a.toNat b.toNat := by
  obtain ⟨A, e, a1, a2, -⟩ := fu_sub FP.Core.good_b32 (by rw [inf32]; exact ha) (by rw [inf32]; exact hb) (un_mono h0)
  rw [sz32] at a2
  exact UInt32.toNat_ofNat_of_lt' a2
theorem t_dadd {a b : UInt64} (ha : a.toNat < 9218868437227405312) (hb : b.toNat < 9218868437227405312) : (FP.dadd a b).toNat = FP.Core.add FP.Core.b64 a.toNat b.toNat := by
  obtain ⟨A, e, a1, a2, -⟩ := fu_add FP.Core.good_b64 (by rw [inf64]; exact ha) (by rw [inf64]; exact hb)
  rw [sz64] at a2
  exact UInt64.toNat_ofNat_of_lt' a2
theorem t_dmul {a b : UInt64} (ha : a.toNat < 9218868437227405312) (hb : b.toNat < 9218868437227405312) : (FP.dmul a b).toNat = FP.Core.mul FP.Core.b64 a.toNat b.toNat := by
  obtain ⟨A, e, a1, a2, -⟩ := fu_mul FP.Core.good_b64 (by rw [inf64]; exact ha) (by rw [inf64]; exact hb)
  rw [sz64] at a2
  exact UInt64.toNat_ofNat_of_lt' a2
theorem t_ddiv {a b : UInt64} (ha : a.toNat < 9218868437227405312) (hb : b.toNat < 9218868437227405312) (h0 : 0 < b.toNat) : (FP.ddiv a b).toNat = FP.Core.div FP.Core.b64 a.toNat b.toNat := by
  obtain ⟨A, B, e, e0, a1, a2, -⟩ := fu_div FP.Core.good_b64 (by rw [inf64]; exact ha) (by rw [inf64]; exact hb) (un_pos h0)
  rw [sz64] at a2
  exact UInt64.toNat_ofNat_of_lt' a2
theorem t_dsub {a b : UInt64} (ha : a.toNat < 9218868437227405312) (hb : b.toNat < 9218868437227405312) (h0 : b.toNat ≤ a.toNat) : (FP.dsub a b).toNat = FP.Core.sub FP.Core.b64 a.toNat b.toNat := by
  obtain ⟨A, e, a1, a2, -⟩ := fu_sub FP.Core.good_b64 (by rw [inf64]; exact ha) (by rw [inf64]; exact hb) (un_mono h0)
  rw [sz64] at a2
  exact UInt64.toNat_ofNat_of_lt' a2
theorem n32_lt {v : UInt32} (h : v.toNat ≤ 2139095040) : vf_n32 v := by
  unfold vf_n32
  rw [UInt32.le_iff_toNat_le, FP.Core.mask_toNat32]
  have : (0x7f800000 : UInt32).toNat = 2139095040 := rfl
  omega
theorem n64_lt {v : UInt64} (h : v.toNat ≤ 9218868437227405312) : vf_n64 v := by
  unfold vf_n64
  rw [UInt64.le_iff_toNat_le, FP.Core.mask_toNat]
  have : (0x7ff0000000000000 : UInt64).toNat = 9218868437227405312 := rfl
  omega
