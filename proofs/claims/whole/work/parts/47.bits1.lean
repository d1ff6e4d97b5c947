/-! BITS of floats and doubles -/
def cI (x y : Nat) : Int32 := if x < y then -1 else if x = y then 0 else 1
theorem cI_lt {x y : Nat} : cI x y < 0 ↔ x < y := by
  unfold cI
  by_cases h : x < y
  · rw [if_pos h]; exact ⟨fun _ => h, fun _ => by decide⟩
  · rw [if_neg h]
    by_cases e : x = y
    · rw [if_pos e]; exact ⟨fun q => absurd q (by decide), fun q => absurd q h⟩
    · rw [if_neg e]; exact ⟨fun q => absurd q (by decide), fun q => absurd q h⟩
theorem cI_ge {x y : Nat} : 0 ≤ cI x y ↔ y ≤ x := by
  rw [← Int32.not_lt, cI_lt, Nat.not_lt]
theorem cI_gt {x y : Nat} : 0 < cI x y ↔ y < x := by
  unfold cI
  by_cases h : x < y
  · rw [if_pos h]; exact ⟨fun q => absurd q (by decide), fun q => by omega⟩
  · rw [if_neg h]
    by_cases e : x = y
    · rw [if_pos e]; exact ⟨fun q => absurd q (by decide), fun q => by omega⟩
    · rw [if_neg e]; exact ⟨fun _ => by omega, fun _ => by decide⟩
theorem cI_le {x y : Nat} : cI x y ≤ 0 ↔ x ≤ y := by
  rw [← Int32.not_lt, cI_gt, Nat.not_lt]
theorem cI_eq {x y : Nat} (h : x = y) : cI x y = 0 := by unfold cI; rw [if_neg (by omega), if_pos h]
theorem nn32 {v : UInt32} (hv : v.toNat < 2139095040) : FP.Core.val32 v ≠ .nan := fun e => by
  have := (FP.Core.decode_nan (f := FP.Core.b32) v.toNat).mp e
  rw [inf32, FP.Core.mag_of_lt (by rw [show FP.Core.half FP.Core.b32 = 2147483648 by decide +kernel]; omega)] at this
  omega
theorem nn64 {v : UInt64} (hv : v.toNat < 9218868437227405312) : FP.Core.val64 v ≠ .nan := fun e => by
  have := (FP.Core.decode_nan (f := FP.Core.b64) v.toNat).mp e
  rw [inf64, FP.Core.mag_of_lt (by rw [FP.Core.half_b64]; omega)] at this
  omega
theorem cV_all {x y : Nat} {op : CmpOp} : Op.cmpValue (some (compare (x : Int) (y : Int))) op = cI x y := by
  unfold cI
  rcases Nat.lt_trichotomy x y with h | h | h
  · rw [if_pos h, (FP.Core.compare_lt_iff _ _).mpr (by omega)]; cases op <;> rfl
  · rw [if_neg (by omega), if_pos h, (FP.Core.compare_eq_iff _ _).mpr (by omega)]; cases op <;> rfl
  · rw [if_neg (by omega), if_neg (by omega), (FP.Core.compare_gt_iff _ _).mpr (by omega)]; cases op <;> rfl
theorem cI_32 {a b : UInt32} {op : CmpOp} (ha : a.toNat < 2139095040) (hb : b.toNat < 2139095040) : Op.cmpValue (FP.fcmp a b) op = cI a.toNat b.toNat := by
  have h := FP.Core.fcmp_key (nn32 ha) (nn32 hb)
  unfold FP.Core.fkey at h
  rw [if_neg (by omega), if_neg (by omega)] at h
  rw [show FP.fcmp a b = _ from h]
  exact cV_all
theorem cI_64 {a b : UInt64} {op : CmpOp} (ha : a.toNat < 9218868437227405312) (hb : b.toNat < 9218868437227405312) : Op.cmpValue (FP.dcmp a b) op = cI a.toNat b.toNat := by
  have h := FP.Core.dcmp_key (nn64 ha) (nn64 hb)
  unfold FP.Core.dkey at h
  rw [if_neg (by omega), if_neg (by omega)] at h
  rw [show FP.dcmp a b = _ from h]
  exact cV_all
theorem toI32 {v : UInt32} : v.toInt32 = nI v.toNat := by
  apply Int32.toBitVec_inj.mp
  show v.toBitVec = BitVec.ofNat 32 v.toNat
  exact (BitVec.ofNat_toNat 32 v.toBitVec).symm.trans (by simp) |>.symm.symm
def lI (k : Nat) : Int64 := Int64.ofNat k
theorem toI64 {v : UInt64} : v.toInt64 = lI v.toNat := by
  apply Int64.toBitVec_inj.mp
  show v.toBitVec = BitVec.ofNat 64 v.toNat
  simp
theorem lI_add (a b : Nat) : lI a + lI b = lI (a + b) := by
  apply Int64.toBitVec_inj.mp
  show BitVec.ofNat 64 a + BitVec.ofNat 64 b = BitVec.ofNat 64 (a + b)
  exact (BitVec.ofNat_add a b).symm
theorem lI_sub1 (a : Nat) : lI (a + 1) - 1 = lI a := by
  rw [← lI_add]
  show lI a + lI 1 - lI 1 = lI a
  generalize lI a = x
  generalize lI 1 = y
  apply Int64.toBitVec_inj.mp
  rw [Int64.toBitVec_sub, Int64.toBitVec_add, BitVec.add_sub_cancel]
section FB
variable {f : FP.Core.Fmt}
/-- a number of so many digits is one of the format's -/
theorem un_ex (hf : FP.Core.Good f) {c k : Nat} (hc : c < 2 ^ f.p) (hk : (k : Int) ≤ f.qmax - f.qmin) : ∃ m, m < FP.Core.infBits f ∧ FP.Core.unitsOf f m = c * 2 ^ k := by
  obtain ⟨c', q', h1, h2⟩ := FP.Core.round_exact hf false (c := c) (q := f.qmin + k) hc (by omega) (by omega)
  have hft : FP.Core.fits f (.fin false c' q') := h1 ▸ FP.Core.round_fits hf _
  refine ⟨FP.Core.encode f (.fin false c' q'), ?_, ?_⟩
  · have hl := fu_el hf hft
    have hd := FP.Core.decode_enc hf hft
    have hm : FP.Core.mag f (FP.Core.encode f (.fin false c' q')) < FP.Core.infBits f := by
      rcases Nat.lt_trichotomy (FP.Core.mag f (FP.Core.encode f (.fin false c' q'))) (FP.Core.infBits f) with g | g | g
      · exact g
      · have := FP.Core.decode_inf g; rw [hd] at this; exact absurd this (by intro z; cases z)
      · have := (FP.Core.decode_nan _).mpr g; rw [hd] at this; exact absurd this (by intro z; cases z)
    have hs := FP.Core.sgn_decode (Nat.le_of_lt hm) hl
    rw [hd] at hs
    have hh : ¬ FP.Core.half f ≤ FP.Core.encode f (.fin false c' q') := of_decide_eq_false hs.symm
    rwa [FP.Core.mag_of_lt (by omega)] at hm
  · have hl := fu_el hf hft
    have hd := FP.Core.decode_enc hf hft
    have hz := FP.Core.zval_decode hf hl (by rw [hd]; intro z; cases z)
    have hm : FP.Core.mag f (FP.Core.encode f (.fin false c' q')) ≤ FP.Core.infBits f := by
      refine Nat.le_of_not_lt fun g => ?_
      have := (FP.Core.decode_nan _).mpr g; rw [hd] at this; exact absurd this (by intro z; cases z)
    have hs := FP.Core.sgn_decode hm hl
    rw [hd] at hs hz
    have hh : ¬ FP.Core.half f ≤ FP.Core.encode f (.fin false c' q') := of_decide_eq_false hs.symm
    rw [decide_eq_false hh, FP.Core.mag_of_lt (by omega)] at hz
    have hz2 : ((FP.Core.inUnits c' q' f.qmin : Nat) : Int) = ((FP.Core.unitsOf f (FP.Core.encode f (.fin false c' q')) : Nat) : Int) := hz
    rw [← Int.ofNat.inj hz2, h2]
    unfold FP.Core.inUnits
    rw [show (f.qmin + k - f.qmin).toNat = k by omega]
theorem pow_s {E : Nat} (h : 2 ≤ E) (a : Nat) : a * 2 ^ (E - 1) = 2 * (a * 2 ^ (E - 1 - 1)) := by
  rw [show E - 1 = (E - 1 - 1) + 1 by omega, Nat.pow_succ, show E - 1 - 1 + 1 - 1 = E - 1 - 1 by omega]
  rw [Nat.mul_comm (2 ^ (E - 1 - 1)) 2, Nat.mul_left_comm]
/-- halved -/
theorem fb_half (hf : FP.Core.Good f) {x two E t : Nat} (hx : x = E * f.tails + t) (hE : 2 ≤ E) (hE2 : E < f.exps - 1) (ht : t < f.tails) (h2 : FP.Core.unitsOf f two = 2 * fuP f) (h2l : two < FP.Core.infBits f) : FP.Core.div f x two = (E - 1) * f.tails + t := by
  have hl : ∀ {K : Nat}, K ≤ E → K * f.tails + t < FP.Core.infBits f := fun {K} hK => by
    have : (K + 1) * f.tails ≤ (f.exps - 1) * f.tails := Nat.mul_le_mul_right _ (by omega)
    rw [Nat.add_mul, Nat.one_mul] at this
    exact Nat.lt_of_lt_of_le (by omega) this
  have hu := pow_s hE (f.tails + t)
  rw [← un_norm (f := f) (by omega) ht, ← un_norm (f := f) (E := E - 1) (by omega) ht] at hu
  have h0 : 0 < FP.Core.unitsOf f two := by rw [h2]; have := fuP_pos (f := f); omega
  have he : FP.Core.unitsOf f x * fuP f = FP.Core.unitsOf f ((E - 1) * f.tails + t) * FP.Core.unitsOf f two := by
    rw [hx, hu, h2, Nat.mul_comm 2 (FP.Core.unitsOf f _), Nat.mul_assoc]
  have hx2 : x < FP.Core.infBits f := by rw [hx]; exact hl (Nat.le_refl _)
  exact Nat.le_antisymm (fd_le hf hx2 h2l h0 (Nat.le_of_eq he)) (fd_ge hf hx2 h2l h0 (Nat.le_of_lt (hl (by omega))) (Nat.le_of_eq he.symm))
/-- doubled -/
theorem fb_dbl (hf : FP.Core.Good f) {x two E t : Nat} (hx : x = E * f.tails + t) (hE : 1 ≤ E) (hE2 : E + 1 < f.exps - 1) (ht : t < f.tails) (h2 : FP.Core.unitsOf f two = 2 * fuP f) (h2l : two < FP.Core.infBits f) : FP.Core.mul f x two = (E + 1) * f.tails + t := by
  have hl : ∀ {K : Nat}, K ≤ E + 1 → K * f.tails + t < FP.Core.infBits f := fun {K} hK => by
    have : (K + 1) * f.tails ≤ (f.exps - 1) * f.tails := Nat.mul_le_mul_right _ (by omega)
    rw [Nat.add_mul, Nat.one_mul] at this
    exact Nat.lt_of_lt_of_le (by omega) this
  have hu := pow_s (E := E + 1) (by omega) (f.tails + t)
  rw [← un_norm (f := f) (E := E + 1) (by omega) ht] at hu
  rw [show E + 1 - 1 - 1 = E - 1 by omega, ← un_norm (f := f) hE ht] at hu
  have he : FP.Core.unitsOf f x * FP.Core.unitsOf f two = FP.Core.unitsOf f ((E + 1) * f.tails + t) * fuP f := by
    rw [hx, hu, h2, Nat.mul_left_comm, Nat.mul_assoc]
  have hx2 : x < FP.Core.infBits f := by rw [hx]; exact hl (by omega)
  exact Nat.le_antisymm (fm_le hf hx2 h2l (Nat.le_of_eq he)) (fm_ge hf hx2 h2l (Nat.le_of_lt (hl (Nat.le_refl _))) (Nat.le_of_eq he.symm))
/-- the figures: less 1, by 2 to the p less 1, a whole number -/
theorem fb_sub1 (hf : FP.Core.Good f) {x one E t : Nat} (hx : x = E * f.tails + t) (hE : 1 ≤ E) (hE2 : E < f.exps - 1) (ht : t < f.tails) (h1 : one = E * f.tails) : FP.Core.sub f x one < FP.Core.infBits f ∧ FP.Core.unitsOf f (FP.Core.sub f x one) = t * 2 ^ (E - 1) := by
  have hl : ∀ {u : Nat}, u < f.tails → E * f.tails + u < FP.Core.infBits f := fun {u} hu => by
    have : (E + 1) * f.tails ≤ (f.exps - 1) * f.tails := Nat.mul_le_mul_right _ (by omega)
    rw [Nat.add_mul, Nat.one_mul] at this
    exact Nat.lt_of_lt_of_le (by omega) this
  have ux : FP.Core.unitsOf f x = (f.tails + t) * 2 ^ (E - 1) := by rw [hx]; exact un_norm hE ht
  have uo : FP.Core.unitsOf f one = f.tails * 2 ^ (E - 1) := by
    have := un_norm (f := f) (E := E) (t := 0) hE (FP.Core.tails_pos f)
    rwa [Nat.add_zero, Nat.add_zero, ← h1] at this
  have q1 := FP.Core.qmax_qmin f
  have q2 := FP.Core.emax_exps hf
  have q3 := FP.Core.two_tails hf
  obtain ⟨m, m1, m2⟩ := un_ex hf (c := t) (k := E - 1) (by omega) (by omega)
  have hd : FP.Core.unitsOf f x - FP.Core.unitsOf f one = FP.Core.unitsOf f m := by
    rw [ux, uo, m2, Nat.add_mul, Nat.add_sub_cancel_left]
  have hxy : FP.Core.unitsOf f one ≤ FP.Core.unitsOf f x := by rw [ux, uo]; exact Nat.mul_le_mul_right _ (by omega)
  have hx2 : x < FP.Core.infBits f := by rw [hx]; exact hl ht
  have ho2 : one < FP.Core.infBits f := by rw [h1]; exact hl (u := 0) (FP.Core.tails_pos f)
  have e : FP.Core.sub f x one = m := Nat.le_antisymm (fs_le hf hx2 ho2 hxy (Nat.le_of_eq hd)) (fs_ge hf hx2 ho2 hxy (Nat.le_of_lt m1) (Nat.le_of_eq hd.symm))
  rw [e]
  exact ⟨m1, m2⟩
end FB
theorem un_inj {f : FP.Core.Fmt} {a b : Nat} (h : FP.Core.unitsOf f a = FP.Core.unitsOf f b) : a = b := by
  rcases Nat.lt_trichotomy a b with g | g | g
  · have := FP.Core.unitsOf_lt (f := f) g; omega
  · exact g
  · have := FP.Core.unitsOf_lt (f := f) g; omega
/-! a float of 32 bits by its exponent and its figures -/
theorem z2_32 : FP.Core.unitsOf FP.Core.b32 1073741824 = 2 * fuP FP.Core.b32 := by decide +kernel
theorem z23_32 : FP.Core.unitsOf FP.Core.b32 1258291200 = 8388608 * fuP FP.Core.b32 := by decide +kernel
theorem tl_32 : FP.Core.b32.tails = 8388608 := by decide +kernel
theorem ex_32 : FP.Core.b32.exps - 1 = 255 := by decide +kernel
theorem fq_half {x : UInt32} {E t : Nat} (hx : x.toNat = E * 8388608 + t) (hE : 2 ≤ E) (hE2 : E < 255) (ht : t < 8388608) : (FP.fdiv x 1073741824).toNat = (E - 1) * 8388608 + t := by
  rw [t_fdiv (by omega) (by decide) (by decide), ← tl_32]
  exact fb_half FP.Core.good_b32 (by rw [tl_32]; exact hx) hE (by rw [ex_32]; exact hE2) (by rw [tl_32]; exact ht) z2_32 (by rw [inf32]; decide)
theorem fq_dbl {x : UInt32} {E t : Nat} (hx : x.toNat = E * 8388608 + t) (hE : 1 ≤ E) (hE2 : E + 1 < 255) (ht : t < 8388608) : (FP.fmul x 1073741824).toNat = (E + 1) * 8388608 + t := by
  rw [t_fmul (by omega) (by decide), ← tl_32]
  exact fb_dbl FP.Core.good_b32 (by rw [tl_32]; exact hx) hE (by rw [ex_32]; exact hE2) (by rw [tl_32]; exact ht) z2_32 (by rw [inf32]; decide)
theorem fq_sub {x : UInt32} {t : Nat} (hx : x.toNat = 127 * 8388608 + t) (ht : t < 8388608) : (FP.fsub x 1065353216).toNat < 2139095040 ∧ FP.Core.unitsOf FP.Core.b32 (FP.fsub x 1065353216).toNat = t * 2 ^ 126 := by
  rw [t_fsub (by omega) (by decide) (by show 1065353216 ≤ x.toNat; omega)]
  have := fb_sub1 FP.Core.good_b32 (x := x.toNat) (one := 1065353216) (E := 127) (t := t) (by rw [tl_32]; exact hx) (by decide) (by rw [ex_32]; decide) (by rw [tl_32]; exact ht) (by rw [tl_32])
  rw [inf32] at this
  exact this
theorem fuP_32b : fuP FP.Core.b32 = 2 ^ 126 * 8388608 := by decide +kernel
theorem fq_fig {x : UInt32} {t : Nat} (hx : x.toNat = 127 * 8388608 + t) (ht : t < 8388608) : FP.fmul (FP.fsub x 1065353216) 1258291200 = FP.i2f (nI t) := by
  obtain ⟨s1, s2⟩ := fq_sub hx ht
  obtain ⟨i1, i2⟩ := u_i2f (j := t) (by omega)
  apply UInt32.toNat_inj.mp
  rw [t_fmul s1 (by decide)]
  have he : FP.Core.unitsOf FP.Core.b32 (FP.fsub x 1065353216).toNat * FP.Core.unitsOf FP.Core.b32 (1258291200 : UInt32).toNat = FP.Core.unitsOf FP.Core.b32 (FP.i2f (nI t)).toNat * fuP FP.Core.b32 := by
    rw [s2, i1, show (1258291200 : UInt32).toNat = 1258291200 from rfl, z23_32, ← Nat.mul_assoc, Nat.mul_assoc t, ← fuP_32b]
  rw [← inf32] at s1 i2
  exact Nat.le_antisymm (fm_le FP.Core.good_b32 s1 (by rw [inf32]; decide) (Nat.le_of_eq he)) (fm_ge FP.Core.good_b32 s1 (by rw [inf32]; decide) (Nat.le_of_lt i2) (Nat.le_of_eq he.symm))
theorem fq_int {t : Nat} (ht : t < 8388608) : FP.f2i (FP.i2f (nI t)) = nI t := FP.Core.f2i_i2f (by rw [nI_int (by omega)]; omega)
theorem shl_23 : ∀ E, E < 256 → nI E <<< (nI 23 &&& 31) = nI (E * 8388608) := by decide +kernel
/-! a double -/
theorem z2_64 : FP.Core.unitsOf FP.Core.b64 4611686018427387904 = 2 * fuP FP.Core.b64 := by decide +kernel
theorem z52_64 : FP.Core.unitsOf FP.Core.b64 4841369599423283200 = 4503599627370496 * fuP FP.Core.b64 := by decide +kernel
theorem tl_64 : FP.Core.b64.tails = 4503599627370496 := by decide +kernel
theorem ex_64 : FP.Core.b64.exps - 1 = 2047 := by decide +kernel
theorem dq_half {x : UInt64} {E t : Nat} (hx : x.toNat = E * 4503599627370496 + t) (hE : 2 ≤ E) (hE2 : E < 2047) (ht : t < 4503599627370496) : (FP.ddiv x 4611686018427387904).toNat = (E - 1) * 4503599627370496 + t := by
  rw [t_ddiv (by omega) (by decide) (by decide), ← tl_64]
  exact fb_half FP.Core.good_b64 (by rw [tl_64]; exact hx) hE (by rw [ex_64]; exact hE2) (by rw [tl_64]; exact ht) z2_64 (by rw [inf64]; decide)
theorem dq_dbl {x : UInt64} {E t : Nat} (hx : x.toNat = E * 4503599627370496 + t) (hE : 1 ≤ E) (hE2 : E + 1 < 2047) (ht : t < 4503599627370496) : (FP.dmul x 4611686018427387904).toNat = (E + 1) * 4503599627370496 + t := by
  rw [t_dmul (by omega) (by decide), ← tl_64]
  exact fb_dbl FP.Core.good_b64 (by rw [tl_64]; exact hx) hE (by rw [ex_64]; exact hE2) (by rw [tl_64]; exact ht) z2_64 (by rw [inf64]; decide)
theorem dq_sub {x : UInt64} {t : Nat} (hx : x.toNat = 1023 * 4503599627370496 + t) (ht : t < 4503599627370496) : (FP.dsub x 4607182418800017408).toNat < 9218868437227405312 ∧ FP.Core.unitsOf FP.Core.b64 (FP.dsub x 4607182418800017408).toNat = t * 2 ^ 1022 := by
  rw [t_dsub (by omega) (by decide) (by show 4607182418800017408 ≤ x.toNat; omega)]
  have := fb_sub1 FP.Core.good_b64 (x := x.toNat) (one := 4607182418800017408) (E := 1023) (t := t) (by rw [tl_64]; exact hx) (by decide) (by rw [ex_64]; decide) (by rw [tl_64]; exact ht) (by rw [tl_64])
  rw [inf64] at this
  exact this
theorem lI_int {k : Nat} (h : k < 2 ^ 63) : (lI k).toInt = (k : Int) := Int64.toInt_ofNat_of_lt h
theorem u_l2d {j : Nat} (h : j ≤ 2 ^ 53) : FP.Core.unitsOf FP.Core.b64 (FP.l2d (lI j)).toNat = j * fuP FP.Core.b64 ∧ (FP.l2d (lI j)).toNat < 9218868437227405312 := by
  rcases Nat.eq_zero_or_pos j with h0 | h0
  · subst h0
    decide +kernel
  · have e : (lI j).toInt = (j : Int) := lI_int (by omega)
    have h1 : FP.Core.DInt (lI j).toInt (FP.l2d (lI j)) := FP.Core.l2d_int (by rw [e]; omega)
    rw [e] at h1
    have h2 := fw_int (f := FP.Core.b64) FP.Core.good_b64 (n := (FP.l2d (lI j)).toNat) (by rw [sz64]; exact UInt64.toNat_lt _) h0 h1
    rw [inf64] at h2
    exact h2
theorem fuP_64 : fuP FP.Core.b64 = 2 ^ 1022 * 4503599627370496 := by decide +kernel
theorem dq_fig {x : UInt64} {t : Nat} (hx : x.toNat = 1023 * 4503599627370496 + t) (ht : t < 4503599627370496) : FP.dmul (FP.dsub x 4607182418800017408) 4841369599423283200 = FP.l2d (lI t) := by
  obtain ⟨s1, s2⟩ := dq_sub hx ht
  obtain ⟨i1, i2⟩ := u_l2d (j := t) (by omega)
  apply UInt64.toNat_inj.mp
  rw [t_dmul s1 (by decide)]
  have he : FP.Core.unitsOf FP.Core.b64 (FP.dsub x 4607182418800017408).toNat * FP.Core.unitsOf FP.Core.b64 (4841369599423283200 : UInt64).toNat = FP.Core.unitsOf FP.Core.b64 (FP.l2d (lI t)).toNat * fuP FP.Core.b64 := by
    rw [s2, i1, show (4841369599423283200 : UInt64).toNat = 4841369599423283200 from rfl, z52_64, ← Nat.mul_assoc, Nat.mul_assoc t, ← fuP_64]
  rw [← inf64] at s1 i2
  exact Nat.le_antisymm (fm_le FP.Core.good_b64 s1 (by rw [inf64]; decide) (Nat.le_of_eq he)) (fm_ge FP.Core.good_b64 s1 (by rw [inf64]; decide) (Nat.le_of_lt i2) (Nat.le_of_eq he.symm))
theorem dq_int {t : Nat} (ht : t < 4503599627370496) : FP.d2l (FP.l2d (lI t)) = lI t := FP.Core.d2l_l2d (by rw [lI_int (by omega)]; omega)
theorem shl_52 : ∀ E, E < 2048 → lI E <<< ((nI 52).toInt64 &&& 63) = lI (E * 4503599627370496) := by decide +kernel
set_option maxRecDepth 100000 in
theorem c_KJ_isNaNF {σ : SI} {δ : SD} {v : UInt32} (hv : v.toNat < 2139095040) : E KJ_isNaNF [.float v] (HH σ δ) (some (.int (bI false))) (HH σ δ) := by
  refine E.ofL [some (.float v)] rfl pn_KJ_isNaNF rfl (fun sc => ?_)
  refine g_fload_n dJxf58ca_isNaN_12338_0 rfl ?_
  refine g_fload_n dJxf58ca_isNaN_12338_1 rfl ?_
  refine g_fcmp dJxf58ca_isNaN_12338_2 ?_
  refine g_top (cI_32 hv hv) ?_
  refine g_if_eq (tgt := 10) dJxf58ca_isNaN_12338_3 rfl (fun zc3 => ?_) (fun zc3 => ?_)
  · refine g_iconst dJxf58ca_isNaN_12338_10 ic_0 ?_
    exact e_z0 dJxf58ca_isNaN_12338_11 rfl (by rfl) (by rfl)
  · exact absurd (cI_eq rfl) zc3
set_option maxRecDepth 100000 in
theorem c_KJ_isNaND {σ : SI} {δ : SD} {v : UInt64} (hv : v.toNat < 9218868437227405312) : E KJ_isNaND [.double v] (HH σ δ) (some (.int (bI false))) (HH σ δ) := by
  refine E.ofL [some (.double v), none] rfl pn_KJ_isNaND rfl (fun sc => ?_)
  refine g_dload_n dJxe99ae_isNaN_b9ae7_0 rfl ?_
  refine g_dload_n dJxe99ae_isNaN_b9ae7_1 rfl ?_
  refine g_dcmp dJxe99ae_isNaN_b9ae7_2 ?_
  refine g_top (cI_64 hv hv) ?_
  refine g_if_eq (tgt := 10) dJxe99ae_isNaN_b9ae7_3 rfl (fun zc3 => ?_) (fun zc3 => ?_)
  · refine g_iconst dJxe99ae_isNaN_b9ae7_10 ic_0 ?_
    exact e_z0 dJxe99ae_isNaN_b9ae7_11 rfl (by rfl) (by rfl)
  · exact absurd (cI_eq rfl) zc3
set_option maxRecDepth 100000 in
theorem c_KJ_floatToIntBits {σ : SI} {δ : SD} {v : UInt32} (hv : v.toNat < 2139095040) : E KJ_floatToIntBits [.float v] (HH σ δ) (some (.int v.toInt32)) (HH σ δ) := by
  refine E.ofL [some (.float v)] rfl pn_KJ_floatToIntBits rfl (fun sc => ?_)
  refine g_fload_n dJxf58ca_floatToIntBits_5c35a_0 rfl ?_
  refine g_s1 (M' := KJ_isNaNF) dJxf58ca_floatToIntBits_5c35a_1 l_JRJxf58ca_59 s_KJ_isNaNF (c_KJ_isNaNF hv) rfl rfl ⟨rfl, rfl⟩ ?_
  refine b_if_ne (tgt := 12) dJxf58ca_floatToIntBits_5c35a_4 rfl (fun zc4 => ?_) (fun zc4 => ?_)
  · exact absurd zc4 (by decide)
  · refine g_fload_n dJxf58ca_floatToIntBits_5c35a_7 rfl ?_
    refine g_rawF dJxf58ca_floatToIntBits_5c35a_8 l_JRJxf58ca_74 nw_rawF rfl ?_
    exact e_iret dJxf58ca_floatToIntBits_5c35a_11 rfl (by rfl) (by rfl)
set_option maxRecDepth 100000 in
theorem c_KJ_doubleToLongBits {σ : SI} {δ : SD} {v : UInt64} (hv : v.toNat < 9218868437227405312) : E KJ_doubleToLongBits [.double v] (HH σ δ) (some (.long v.toInt64)) (HH σ δ) := by
  refine E.ofL [some (.double v), none] rfl pn_KJ_doubleToLongBits rfl (fun sc => ?_)
  refine g_dload_n dJxe99ae_doubleToLongBits_ccdee_0 rfl ?_
  refine g_s1 (M' := KJ_isNaND) dJxe99ae_doubleToLongBits_ccdee_1 l_JRJxe99ae_122 s_KJ_isNaND (c_KJ_isNaND hv) rfl rfl ⟨rfl, rfl⟩ ?_
  refine b_if_ne (tgt := 12) dJxe99ae_doubleToLongBits_ccdee_4 rfl (fun zc4 => ?_) (fun zc4 => ?_)
  · exact absurd zc4 (by decide)
  · refine g_dload_n dJxe99ae_doubleToLongBits_ccdee_7 rfl ?_
    refine g_rawD dJxe99ae_doubleToLongBits_ccdee_8 l_JRJxe99ae_134 nw_rawD rfl ?_
    exact e_lret dJxe99ae_doubleToLongBits_ccdee_11 rfl (by rfl) (by rfl)
set_option maxRecDepth 100000 in
theorem c_KB_ofFloat0 {σ : SI} {δ : SD} {v : UInt32} (hv : v.toNat = 0) : E KB_ofFloat [.float v] (HH σ δ) (some (.int v.toInt32)) (HH σ δ) := by
  refine E.ofL [some (.float v)] rfl pn_RX0 rfl (fun sc => ?_)
  refine g_fload_n dX0_ofFloat_0 rfl ?_
  refine g_fconst0 dX0_ofFloat_1 ?_
  refine g_fcmp dX0_ofFloat_2 ?_
  refine g_top (show _ = cI v.toNat 0 from cI_32 (by omega) (by decide)) ?_
  refine g_if_gt (tgt := 8) dX0_ofFloat_3 rfl (fun zc3 => ?_) (fun zc3 => ?_)
  · exact absurd (cI_gt.mp zc3) (by omega)
  · refine g_iconst dX0_ofFloat_6 ic_0 ?_
    exact e_iret dX0_ofFloat_7 rfl (by rw [toI32, hv]) (by rfl)
set_option maxRecDepth 100000 in
theorem c_KB_ofFloat {σ : SI} {δ : SD} {v : UInt32} {Ex t : Nat} (hv : v.toNat = Ex * 8388608 + t) (hE : 1 ≤ Ex) (hE2 : Ex < 255) (ht : t < 8388608) : E KB_ofFloat [.float v] (HH σ δ) (some (.int v.toInt32)) (HH σ δ) := by
  refine E.ofL [some (.float v)] rfl pn_RX0 rfl (fun sc => ?_)
  generalize hRz : (fun (zr : Option Value) (zk : XH) => zr = some (.int v.toInt32) ∧ zk = HH σ δ) = R
  refine g_fload_n dX0_ofFloat_0 rfl ?_
  refine g_fconst0 dX0_ofFloat_1 ?_
  refine g_fcmp dX0_ofFloat_2 ?_
  refine g_top (show _ = cI v.toNat 0 from cI_32 (by omega) (by decide)) ?_
  refine g_if_gt (tgt := 8) dX0_ofFloat_3 rfl (fun zc3 => ?_) (fun zc3 => ?_)
  · refine g_fload_n dX0_ofFloat_8 rfl ?_
    refine g_fstore_n dX0_ofFloat_9 rfl ?_
    refine g_bipush dX0_ofFloat_10 bp_127 ?_
    refine g_istore_n dX0_ofFloat_12 rfl ?_
    refine g_iconst dX0_ofFloat_13 ic_0 ?_
    refine g_istore_n dX0_ofFloat_14 rfl ?_
    have H15 : ∀ (N : Nat) (i r : Nat) (x : UInt32), x.toNat = r * 8388608 + t → r + i = Ex → i ≤ 127 → (i = 0 ∨ 127 ≤ r) → 127 - i < N → G sc KB_ofFloat 15 (aL [some (.float v), some (.float x), some (.int (nI (127 + i))), some (.int (nI i))]) [] (HH σ δ) (0, 0) R := by
      intro N
      induction N with
      | zero => intro i r x hr hi h3 h4 hN15; exact absurd hN15 (Nat.not_lt_zero _)
      | succ N ih15 =>
        intro i r x hr hi h3 h4 hN15
        refine g_iload_n dX0_ofFloat_15 rfl ?_
        refine g_bipush dX0_ofFloat_16 bp_127 ?_
        refine n_icmp_ge (tgt := 40) (by omega) (by omega) dX0_ofFloat_18 rfl (fun zc18 => ?_) (fun zc18 => ?_)
        · refine g_iconst dX0_ofFloat_40 ic_0 ?_
          refine g_istore_n dX0_ofFloat_41 rfl ?_
          have H42 : ∀ (N : Nat) (j r2 e : Nat) (x2 : UInt32), x2.toNat = r2 * 8388608 + t → e + r2 = Ex + 127 → 1 ≤ r2 → r2 ≤ 127 → j + r = r2 → 127 - j < N → G sc KB_ofFloat 42 (aL [some (.float v), some (.float x2), some (.int (nI e)), some (.int (nI j))]) [] (HH σ δ) (0, 0) R := by
            intro N
            induction N with
            | zero => intro j r2 e x2 hr2 he h5 h6 h7 hN42; exact absurd hN42 (Nat.not_lt_zero _)
            | succ N ih42 =>
              intro j r2 e x2 hr2 he h5 h6 h7 hN42
              refine g_iload_n dX0_ofFloat_42 rfl ?_
              refine g_bipush dX0_ofFloat_43 bp_127 ?_
              refine n_icmp_ge (tgt := 67) (by omega) (by omega) dX0_ofFloat_45 rfl (fun zc45 => ?_) (fun zc45 => ?_)
              · exact absurd zc45 (by omega)
              · refine g_fload_n dX0_ofFloat_48 rfl ?_
                refine g_fconst1 dX0_ofFloat_49 ?_
                refine g_topf (show FP.fconst1 = 1065353216 from rfl) ?_
                refine g_fcmp dX0_ofFloat_50 ?_
                refine g_top (show _ = cI x2.toNat 1065353216 from cI_32 (by omega) (by decide)) ?_
                refine g_if_ge (tgt := 67) dX0_ofFloat_51 rfl (fun zc51 => ?_) (fun zc51 => ?_)
                · have hg2 := cI_ge.mp zc51
                  obtain rfl : 127 = r2 := by omega
                  obtain rfl : Ex = e := by omega
                  refine g_iload_n dX0_ofFloat_67 rfl ?_
                  refine g_bipush dX0_ofFloat_68 bp_23 ?_
                  refine g_ishl dX0_ofFloat_70 ?_
                  refine g_top (shl_23 Ex (by omega)) ?_
                  refine g_fload_n dX0_ofFloat_71 rfl ?_
                  refine g_fconst1 dX0_ofFloat_72 ?_
                  refine g_topf (show FP.fconst1 = 1065353216 from rfl) ?_
                  refine g_fsub dX0_ofFloat_73 (n32_lt (Nat.le_of_lt (fq_sub hr2 ht).1)) ?_
                  refine g_ldcf dX0_ofFloat_74 c_B_9 ?_
                  refine g_fmul dX0_ofFloat_76 (n32_lt (by rw [fq_fig hr2 ht]; exact Nat.le_of_lt (u_i2f (by omega)).2)) ?_
                  refine g_topf (fq_fig hr2 ht) ?_
                  refine g_f2i dX0_ofFloat_77 ?_
                  refine g_top (fq_int ht) ?_
                  refine n_iadd dX0_ofFloat_78 ?_
                  exact g_iret (S := []) dX0_ofFloat_79 rfl (by rw [← hRz]; exact ⟨congrArg (fun zz => some (Value.int zz)) (show _ = _ by rw [toI32, hv]), by rfl⟩) (Nat.zero_le _) (Nat.zero_le _)
                · have hg2 : ¬ 1065353216 ≤ x2.toNat := fun q => zc51 (cI_ge.mpr q)
                  obtain ⟨e1, rfl⟩ : ∃ e1, e = e1 + 1 := ⟨e - 1, by omega⟩
                  refine g_fload_n dX0_ofFloat_54 rfl ?_
                  refine g_fconst2 dX0_ofFloat_55 ?_
                  refine g_topf (show FP.fconst2 = 1073741824 from rfl) ?_
                  refine g_fmul dX0_ofFloat_56 (n32_lt (by rw [fq_dbl hr2 (by omega) (by omega) ht]; omega)) ?_
                  refine g_fstore_n dX0_ofFloat_57 rfl ?_
                  refine n_idec dX0_ofFloat_58 rfl rfl ?_
                  refine n_iinc (b := 1) dX0_ofFloat_61 rfl rfl rfl ?_
                  refine g_goto (tgt := 42) dX0_ofFloat_64 rfl ?_
                  exact g_can _ (by exact ⟨rfl, rfl, rfl, rfl, trivial⟩) (ih42 (j + 1) (r2 + 1) e1 _ (fq_dbl hr2 (by omega) (by omega) ht) (by omega) (by omega) (by omega) (by omega) (by omega))
          exact g_can _ (by exact ⟨rfl, rfl, rfl, rfl, trivial⟩) (H42 _ 0 r (127 + i) x hr (by omega) (by omega) (by omega) (by omega) (Nat.lt_succ_self _))
        · refine g_fload_n dX0_ofFloat_21 rfl ?_
          refine g_fconst2 dX0_ofFloat_22 ?_
          refine g_topf (show FP.fconst2 = 1073741824 from rfl) ?_
          refine g_fcmp dX0_ofFloat_23 ?_
          refine g_top (show _ = cI x.toNat 1073741824 from cI_32 (by omega) (by decide)) ?_
          refine g_if_lt (tgt := 40) dX0_ofFloat_24 rfl (fun zc24 => ?_) (fun zc24 => ?_)
          · have hg := cI_lt.mp zc24
            refine g_iconst dX0_ofFloat_40 ic_0 ?_
            refine g_istore_n dX0_ofFloat_41 rfl ?_
            have H42 : ∀ (N : Nat) (j r2 e : Nat) (x2 : UInt32), x2.toNat = r2 * 8388608 + t → e + r2 = Ex + 127 → 1 ≤ r2 → r2 ≤ 127 → j + r = r2 → 127 - j < N → G sc KB_ofFloat 42 (aL [some (.float v), some (.float x2), some (.int (nI e)), some (.int (nI j))]) [] (HH σ δ) (0, 0) R := by
              intro N
              induction N with
              | zero => intro j r2 e x2 hr2 he h5 h6 h7 hN42; exact absurd hN42 (Nat.not_lt_zero _)
              | succ N ih42 =>
                intro j r2 e x2 hr2 he h5 h6 h7 hN42
                refine g_iload_n dX0_ofFloat_42 rfl ?_
                refine g_bipush dX0_ofFloat_43 bp_127 ?_
                refine n_icmp_ge (tgt := 67) (by omega) (by omega) dX0_ofFloat_45 rfl (fun zc45 => ?_) (fun zc45 => ?_)
                · exact absurd zc45 (by omega)
                · refine g_fload_n dX0_ofFloat_48 rfl ?_
                  refine g_fconst1 dX0_ofFloat_49 ?_
                  refine g_topf (show FP.fconst1 = 1065353216 from rfl) ?_
                  refine g_fcmp dX0_ofFloat_50 ?_
                  refine g_top (show _ = cI x2.toNat 1065353216 from cI_32 (by omega) (by decide)) ?_
                  refine g_if_ge (tgt := 67) dX0_ofFloat_51 rfl (fun zc51 => ?_) (fun zc51 => ?_)
                  · have hg2 := cI_ge.mp zc51
                    obtain rfl : 127 = r2 := by omega
                    obtain rfl : Ex = e := by omega
                    refine g_iload_n dX0_ofFloat_67 rfl ?_
                    refine g_bipush dX0_ofFloat_68 bp_23 ?_
                    refine g_ishl dX0_ofFloat_70 ?_
                    refine g_top (shl_23 Ex (by omega)) ?_
                    refine g_fload_n dX0_ofFloat_71 rfl ?_
                    refine g_fconst1 dX0_ofFloat_72 ?_
                    refine g_topf (show FP.fconst1 = 1065353216 from rfl) ?_
                    refine g_fsub dX0_ofFloat_73 (n32_lt (Nat.le_of_lt (fq_sub hr2 ht).1)) ?_
                    refine g_ldcf dX0_ofFloat_74 c_B_9 ?_
                    refine g_fmul dX0_ofFloat_76 (n32_lt (by rw [fq_fig hr2 ht]; exact Nat.le_of_lt (u_i2f (by omega)).2)) ?_
                    refine g_topf (fq_fig hr2 ht) ?_
                    refine g_f2i dX0_ofFloat_77 ?_
                    refine g_top (fq_int ht) ?_
                    refine n_iadd dX0_ofFloat_78 ?_
                    exact g_iret (S := []) dX0_ofFloat_79 rfl (by rw [← hRz]; exact ⟨congrArg (fun zz => some (Value.int zz)) (show _ = _ by rw [toI32, hv]), by rfl⟩) (Nat.zero_le _) (Nat.zero_le _)
                  · have hg2 : ¬ 1065353216 ≤ x2.toNat := fun q => zc51 (cI_ge.mpr q)
                    obtain ⟨e1, rfl⟩ : ∃ e1, e = e1 + 1 := ⟨e - 1, by omega⟩
                    refine g_fload_n dX0_ofFloat_54 rfl ?_
                    refine g_fconst2 dX0_ofFloat_55 ?_
                    refine g_topf (show FP.fconst2 = 1073741824 from rfl) ?_
                    refine g_fmul dX0_ofFloat_56 (n32_lt (by rw [fq_dbl hr2 (by omega) (by omega) ht]; omega)) ?_
                    refine g_fstore_n dX0_ofFloat_57 rfl ?_
                    refine n_idec dX0_ofFloat_58 rfl rfl ?_
                    refine n_iinc (b := 1) dX0_ofFloat_61 rfl rfl rfl ?_
                    refine g_goto (tgt := 42) dX0_ofFloat_64 rfl ?_
                    exact g_can _ (by exact ⟨rfl, rfl, rfl, rfl, trivial⟩) (ih42 (j + 1) (r2 + 1) e1 _ (fq_dbl hr2 (by omega) (by omega) ht) (by omega) (by omega) (by omega) (by omega) (by omega))
            exact g_can _ (by exact ⟨rfl, rfl, rfl, rfl, trivial⟩) (H42 _ 0 r (127 + i) x hr (by omega) (by omega) (by omega) (by omega) (Nat.lt_succ_self _))
          · have hg : ¬ x.toNat < 1073741824 := fun q => zc24 (cI_lt.mpr q)
            refine g_fload_n dX0_ofFloat_27 rfl ?_
            refine g_fconst2 dX0_ofFloat_28 ?_
            refine g_topf (show FP.fconst2 = 1073741824 from rfl) ?_
            refine g_fdiv dX0_ofFloat_29 (n32_lt (by rw [fq_half hr (by omega) (by omega) ht]; omega)) ?_
            refine g_fstore_n dX0_ofFloat_30 rfl ?_
            refine n_iinc (b := 1) dX0_ofFloat_31 rfl rfl rfl ?_
            refine n_iinc (b := 1) dX0_ofFloat_34 rfl rfl rfl ?_
            refine g_goto (tgt := 15) dX0_ofFloat_37 rfl ?_
            exact g_can _ (by exact ⟨rfl, rfl, rfl, rfl, trivial⟩) (ih15 (i + 1) (r - 1) _ (fq_half hr (by omega) (by omega) ht) (by omega) (by omega) (Or.inr (by omega)) (by omega))
    exact g_can _ (by exact ⟨rfl, rfl, rfl, rfl, trivial⟩) (H15 _ 0 Ex v hv (by omega) (by omega) (Or.inl rfl) (Nat.lt_succ_self _))
  · exact absurd (cI_gt.mpr (by omega)) zc3
set_option maxRecDepth 100000 in
theorem c_KB_ofDouble0 {σ : SI} {δ : SD} {v : UInt64} (hv : v.toNat = 0) : E KB_ofDouble [.double v] (HH σ δ) (some (.long v.toInt64)) (HH σ δ) := by
  refine E.ofL [some (.double v), none] rfl pn_RX0 rfl (fun sc => ?_)
  refine g_dload_n dX0_ofDouble_0 rfl ?_
  refine g_dconst0 dX0_ofDouble_1 ?_
  refine g_dcmp dX0_ofDouble_2 ?_
  refine g_top (show _ = cI v.toNat 0 from cI_64 (by omega) (by decide)) ?_
  refine g_if_gt (tgt := 8) dX0_ofDouble_3 rfl (fun zc3 => ?_) (fun zc3 => ?_)
  · exact absurd (cI_gt.mp zc3) (by omega)
  · refine g_lconst (v := 0) dX0_ofDouble_6 rfl ?_
    exact e_lret dX0_ofDouble_7 rfl (by rw [toI64, hv]; rfl) (by rfl)
set_option maxRecDepth 100000 in
theorem c_KB_ofDouble {σ : SI} {δ : SD} {v : UInt64} {Ex t : Nat} (hv : v.toNat = Ex * 4503599627370496 + t) (hE : 1 ≤ Ex) (hE2 : Ex < 2047) (ht : t < 4503599627370496) : E KB_ofDouble [.double v] (HH σ δ) (some (.long v.toInt64)) (HH σ δ) := by
  refine E.ofL [some (.double v), none] rfl pn_RX0 rfl (fun sc => ?_)
  generalize hRz : (fun (zr : Option Value) (zk : XH) => zr = some (.long v.toInt64) ∧ zk = HH σ δ) = R
  refine g_dload_n dX0_ofDouble_0 rfl ?_
  refine g_dconst0 dX0_ofDouble_1 ?_
  refine g_dcmp dX0_ofDouble_2 ?_
  refine g_top (show _ = cI v.toNat 0 from cI_64 (by omega) (by decide)) ?_
  refine g_if_gt (tgt := 8) dX0_ofDouble_3 rfl (fun zc3 => ?_) (fun zc3 => ?_)
  · refine g_dload_n dX0_ofDouble_8 rfl ?_
    refine g_dstore_n dX0_ofDouble_9 rfl ?_
    refine g_ldcl dX0_ofDouble_10 c_B_10 ?_
    refine g_topl (show (1023 : Int64) = lI 1023 from rfl) ?_
    refine g_lstore dX0_ofDouble_13 rfl ?_
    refine g_iconst dX0_ofDouble_15 ic_0 ?_
    refine g_istore dX0_ofDouble_16 rfl ?_
    have H18 : ∀ (N : Nat) (i r : Nat) (x : UInt64), x.toNat = r * 4503599627370496 + t → r + i = Ex → i ≤ 1023 → (i = 0 ∨ 1023 ≤ r) → 1023 - i < N → G sc KB_ofDouble 18 (aL [some (.double v), none, some (.double x), none, some (.long (lI (1023 + i))), none, some (.int (nI i))]) [] (HH σ δ) (0, 0) R := by
      intro N
      induction N with
      | zero => intro i r x hr hi h3 h4 hN18; exact absurd hN18 (Nat.not_lt_zero _)
      | succ N ih18 =>
        intro i r x hr hi h3 h4 hN18
        refine g_iload dX0_ofDouble_18 rfl ?_
        refine g_sipush dX0_ofDouble_20 sp_1023 ?_
        refine n_icmp_ge (tgt := 52) (by omega) (by omega) dX0_ofDouble_23 rfl (fun zc23 => ?_) (fun zc23 => ?_)
        · refine g_iconst dX0_ofDouble_52 ic_0 ?_
          refine g_istore dX0_ofDouble_53 rfl ?_
          have H55 : ∀ (N : Nat) (j r2 e : Nat) (x2 : UInt64), x2.toNat = r2 * 4503599627370496 + t → e + r2 = Ex + 1023 → 1 ≤ r2 → r2 ≤ 1023 → j + r = r2 → 1023 - j < N → G sc KB_ofDouble 55 (aL [some (.double v), none, some (.double x2), none, some (.long (lI e)), none, some (.int (nI j))]) [] (HH σ δ) (0, 0) R := by
            intro N
            induction N with
            | zero => intro j r2 e x2 hr2 he h5 h6 h7 hN55; exact absurd hN55 (Nat.not_lt_zero _)
            | succ N ih55 =>
              intro j r2 e x2 hr2 he h5 h6 h7 hN55
              refine g_iload dX0_ofDouble_55 rfl ?_
              refine g_sipush dX0_ofDouble_57 sp_1023 ?_
              refine n_icmp_ge (tgt := 87) (by omega) (by omega) dX0_ofDouble_60 rfl (fun zc60 => ?_) (fun zc60 => ?_)
              · exact absurd zc60 (by omega)
              · refine g_dload_n dX0_ofDouble_63 rfl ?_
                refine g_dconst1 dX0_ofDouble_64 ?_
                refine g_topd (show FP.dconst1 = 4607182418800017408 from rfl) ?_
                refine g_dcmp dX0_ofDouble_65 ?_
                refine g_top (show _ = cI x2.toNat 4607182418800017408 from cI_64 (by omega) (by decide)) ?_
                refine g_if_ge (tgt := 87) dX0_ofDouble_66 rfl (fun zc66 => ?_) (fun zc66 => ?_)
                · have hg2 := cI_ge.mp zc66
                  obtain rfl : 1023 = r2 := by omega
                  obtain rfl : Ex = e := by omega
                  refine g_lload dX0_ofDouble_87 rfl ?_
                  refine g_bipush dX0_ofDouble_89 bp_52 ?_
                  refine g_lshl dX0_ofDouble_91 ?_
                  refine g_topl (shl_52 Ex (by omega)) ?_
                  refine g_dload_n dX0_ofDouble_92 rfl ?_
                  refine g_dconst1 dX0_ofDouble_93 ?_
                  refine g_topd (show FP.dconst1 = 4607182418800017408 from rfl) ?_
                  refine g_dsub dX0_ofDouble_94 (n64_lt (Nat.le_of_lt (dq_sub hr2 ht).1)) ?_
                  refine g_ldcd dX0_ofDouble_95 c_B_14 ?_
                  refine g_dmul dX0_ofDouble_98 (n64_lt (by rw [dq_fig hr2 ht]; exact Nat.le_of_lt (u_l2d (by omega)).2)) ?_
                  refine g_topd (dq_fig hr2 ht) ?_
                  refine g_d2l dX0_ofDouble_99 ?_
                  refine g_topl (dq_int ht) ?_
                  refine g_ladd dX0_ofDouble_100 ?_
                  refine g_topl (lI_add (Ex * 4503599627370496) t) ?_
                  exact g_lret (S := []) dX0_ofDouble_101 rfl (by rw [← hRz]; exact ⟨congrArg (fun zz => some (Value.long zz)) (show _ = _ by rw [toI64, hv]), by rfl⟩) (Nat.zero_le _) (Nat.zero_le _)
                · have hg2 : ¬ 4607182418800017408 ≤ x2.toNat := fun q => zc66 (cI_ge.mpr q)
                  obtain ⟨e1, rfl⟩ : ∃ e1, e = e1 + 1 := ⟨e - 1, by omega⟩
                  refine g_dload_n dX0_ofDouble_69 rfl ?_
                  refine g_ldcd dX0_ofDouble_70 c_B_12 ?_
                  refine g_dmul dX0_ofDouble_73 (n64_lt (by rw [dq_dbl hr2 (by omega) (by omega) ht]; omega)) ?_
                  refine g_dstore_n dX0_ofDouble_74 rfl ?_
                  refine g_lload dX0_ofDouble_75 rfl ?_
                  refine g_lconst (v := 1) dX0_ofDouble_77 rfl ?_
                  refine g_lsub dX0_ofDouble_78 ?_
                  refine g_topl (lI_sub1 e1) ?_
                  refine g_lstore dX0_ofDouble_79 rfl ?_
                  refine n_iinc (b := 1) dX0_ofDouble_81 rfl rfl rfl ?_
                  refine g_goto (tgt := 55) dX0_ofDouble_84 rfl ?_
                  exact g_can _ (by exact ⟨rfl, rfl, rfl, rfl, trivial⟩) (ih55 (j + 1) (r2 + 1) e1 _ (dq_dbl hr2 (by omega) (by omega) ht) (by omega) (by omega) (by omega) (by omega) (by omega))
          exact g_can _ (by exact ⟨rfl, rfl, rfl, rfl, trivial⟩) (H55 _ 0 r (1023 + i) x hr (by omega) (by omega) (by omega) (by omega) (Nat.lt_succ_self _))
        · refine g_dload_n dX0_ofDouble_26 rfl ?_
          refine g_ldcd dX0_ofDouble_27 c_B_12 ?_
          refine g_dcmp dX0_ofDouble_30 ?_
          refine g_top (show _ = cI x.toNat 4611686018427387904 from cI_64 (by omega) (by decide)) ?_
          refine g_if_lt (tgt := 52) dX0_ofDouble_31 rfl (fun zc31 => ?_) (fun zc31 => ?_)
          · have hg := cI_lt.mp zc31
            refine g_iconst dX0_ofDouble_52 ic_0 ?_
            refine g_istore dX0_ofDouble_53 rfl ?_
            have H55 : ∀ (N : Nat) (j r2 e : Nat) (x2 : UInt64), x2.toNat = r2 * 4503599627370496 + t → e + r2 = Ex + 1023 → 1 ≤ r2 → r2 ≤ 1023 → j + r = r2 → 1023 - j < N → G sc KB_ofDouble 55 (aL [some (.double v), none, some (.double x2), none, some (.long (lI e)), none, some (.int (nI j))]) [] (HH σ δ) (0, 0) R := by
              intro N
              induction N with
              | zero => intro j r2 e x2 hr2 he h5 h6 h7 hN55; exact absurd hN55 (Nat.not_lt_zero _)
              | succ N ih55 =>
                intro j r2 e x2 hr2 he h5 h6 h7 hN55
                refine g_iload dX0_ofDouble_55 rfl ?_
                refine g_sipush dX0_ofDouble_57 sp_1023 ?_
                refine n_icmp_ge (tgt := 87) (by omega) (by omega) dX0_ofDouble_60 rfl (fun zc60 => ?_) (fun zc60 => ?_)
                · exact absurd zc60 (by omega)
                · refine g_dload_n dX0_ofDouble_63 rfl ?_
                  refine g_dconst1 dX0_ofDouble_64 ?_
                  refine g_topd (show FP.dconst1 = 4607182418800017408 from rfl) ?_
                  refine g_dcmp dX0_ofDouble_65 ?_
                  refine g_top (show _ = cI x2.toNat 4607182418800017408 from cI_64 (by omega) (by decide)) ?_
                  refine g_if_ge (tgt := 87) dX0_ofDouble_66 rfl (fun zc66 => ?_) (fun zc66 => ?_)
                  · have hg2 := cI_ge.mp zc66
                    obtain rfl : 1023 = r2 := by omega
                    obtain rfl : Ex = e := by omega
                    refine g_lload dX0_ofDouble_87 rfl ?_
                    refine g_bipush dX0_ofDouble_89 bp_52 ?_
                    refine g_lshl dX0_ofDouble_91 ?_
                    refine g_topl (shl_52 Ex (by omega)) ?_
                    refine g_dload_n dX0_ofDouble_92 rfl ?_
                    refine g_dconst1 dX0_ofDouble_93 ?_
                    refine g_topd (show FP.dconst1 = 4607182418800017408 from rfl) ?_
                    refine g_dsub dX0_ofDouble_94 (n64_lt (Nat.le_of_lt (dq_sub hr2 ht).1)) ?_
                    refine g_ldcd dX0_ofDouble_95 c_B_14 ?_
                    refine g_dmul dX0_ofDouble_98 (n64_lt (by rw [dq_fig hr2 ht]; exact Nat.le_of_lt (u_l2d (by omega)).2)) ?_
                    refine g_topd (dq_fig hr2 ht) ?_
                    refine g_d2l dX0_ofDouble_99 ?_
                    refine g_topl (dq_int ht) ?_
                    refine g_ladd dX0_ofDouble_100 ?_
                    refine g_topl (lI_add (Ex * 4503599627370496) t) ?_
                    exact g_lret (S := []) dX0_ofDouble_101 rfl (by rw [← hRz]; exact ⟨congrArg (fun zz => some (Value.long zz)) (show _ = _ by rw [toI64, hv]), by rfl⟩) (Nat.zero_le _) (Nat.zero_le _)
                  · have hg2 : ¬ 4607182418800017408 ≤ x2.toNat := fun q => zc66 (cI_ge.mpr q)
                    obtain ⟨e1, rfl⟩ : ∃ e1, e = e1 + 1 := ⟨e - 1, by omega⟩
                    refine g_dload_n dX0_ofDouble_69 rfl ?_
                    refine g_ldcd dX0_ofDouble_70 c_B_12 ?_
                    refine g_dmul dX0_ofDouble_73 (n64_lt (by rw [dq_dbl hr2 (by omega) (by omega) ht]; omega)) ?_
                    refine g_dstore_n dX0_ofDouble_74 rfl ?_
                    refine g_lload dX0_ofDouble_75 rfl ?_
                    refine g_lconst (v := 1) dX0_ofDouble_77 rfl ?_
                    refine g_lsub dX0_ofDouble_78 ?_
                    refine g_topl (lI_sub1 e1) ?_
                    refine g_lstore dX0_ofDouble_79 rfl ?_
                    refine n_iinc (b := 1) dX0_ofDouble_81 rfl rfl rfl ?_
                    refine g_goto (tgt := 55) dX0_ofDouble_84 rfl ?_
                    exact g_can _ (by exact ⟨rfl, rfl, rfl, rfl, trivial⟩) (ih55 (j + 1) (r2 + 1) e1 _ (dq_dbl hr2 (by omega) (by omega) ht) (by omega) (by omega) (by omega) (by omega) (by omega))
            exact g_can _ (by exact ⟨rfl, rfl, rfl, rfl, trivial⟩) (H55 _ 0 r (1023 + i) x hr (by omega) (by omega) (by omega) (by omega) (Nat.lt_succ_self _))
          · have hg : ¬ x.toNat < 4611686018427387904 := fun q => zc31 (cI_lt.mpr q)
            refine g_dload_n dX0_ofDouble_34 rfl ?_
            refine g_ldcd dX0_ofDouble_35 c_B_12 ?_
            refine g_ddiv dX0_ofDouble_38 (n64_lt (by rw [dq_half hr (by omega) (by omega) ht]; omega)) ?_
            refine g_dstore_n dX0_ofDouble_39 rfl ?_
            refine g_lload dX0_ofDouble_40 rfl ?_
            refine g_lconst (v := 1) dX0_ofDouble_42 rfl ?_
            refine g_ladd dX0_ofDouble_43 ?_
            refine g_topl (lI_add (1023 + i) 1) ?_
            refine g_lstore dX0_ofDouble_44 rfl ?_
            refine n_iinc (b := 1) dX0_ofDouble_46 rfl rfl rfl ?_
            refine g_goto (tgt := 18) dX0_ofDouble_49 rfl ?_
            exact g_can _ (by exact ⟨rfl, rfl, rfl, rfl, trivial⟩) (ih18 (i + 1) (r - 1) _ (dq_half hr (by omega) (by omega) ht) (by omega) (by omega) (Or.inr (by omega)) (by omega))
    exact g_can _ (by exact ⟨rfl, rfl, rfl, rfl, trivial⟩) (H18 _ 0 Ex v hv (by omega) (by omega) (Or.inl rfl) (Nat.lt_succ_self _))
  · exact absurd (cI_gt.mpr (by omega)) zc3
