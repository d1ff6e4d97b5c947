/-! FLOATS: whole numbers, what is wanted of sides and lines -/
section FW
variable {f : FP.Core.Fmt} {n : Nat}
theorem fw_int (hf : FP.Core.Good f) (hn : n < 2 * FP.Core.half f) {j : Nat} (hj : 0 < j) (h : FP.Core.Whole (j : Int) (FP.Core.decode f n)) : FP.Core.unitsOf f n = j * fuP f ∧ n < FP.Core.infBits f := by
  have h1 := FP.Core.whole_zval hf (FP.Core.decode_fits hf n) h
  have hnn : FP.Core.decode f n ≠ .nan := fun e => by rw [e] at h; exact h
  have hni : FP.Core.mag f n < FP.Core.infBits f := by
    rcases Nat.lt_trichotomy (FP.Core.mag f n) (FP.Core.infBits f) with g | g | g
    · exact g
    · rw [FP.Core.decode_inf g] at h; exact absurd h (fun z => z)
    · exact absurd ((FP.Core.decode_nan n).mpr g) hnn
  rw [FP.Core.zval_decode hf hn hnn] at h1
  have hP : (0 : Int) < ((2 ^ (-f.qmin).toNat : Nat) : Int) := Int.ofNat_lt.mpr (Nat.two_pow_pos _)
  have hs : ¬ FP.Core.half f ≤ n := fun g => by
    rw [decide_eq_true g] at h1
    have h2 : -((FP.Core.unitsOf f (FP.Core.mag f n) : Nat) : Int) = (j : Int) * ((2 ^ (-f.qmin).toNat : Nat) : Int) := h1
    have h3 : (0 : Int) < (j : Int) * ((2 ^ (-f.qmin).toNat : Nat) : Int) := Int.mul_pos (by omega) hP
    omega
  rw [FP.Core.mag_of_lt (by omega)] at h1 hni
  rw [decide_eq_false hs] at h1
  have h2 : ((FP.Core.unitsOf f n : Nat) : Int) = (j : Int) * ((2 ^ (-f.qmin).toNat : Nat) : Int) := h1
  refine ⟨?_, hni⟩
  rw [← Int.natCast_mul] at h2
  exact Int.ofNat.inj h2
end FW
theorem u_i2f {j : Nat} (h : j ≤ 2 ^ 24) : FP.Core.unitsOf FP.Core.b32 (FP.i2f (nI j)).toNat = j * fuP FP.Core.b32 ∧ (FP.i2f (nI j)).toNat < 2139095040 := by
  rcases Nat.eq_zero_or_pos j with h0 | h0
  · subst h0
    decide +kernel
  · have e : (nI j).toInt = (j : Int) := nI_toInt (by omega)
    have h1 : FP.Core.FInt (nI j).toInt (FP.i2f (nI j)) := FP.Core.i2f_int (by rw [e]; omega)
    rw [e] at h1
    have h2 := fw_int (f := FP.Core.b32) FP.Core.good_b32 (n := (FP.i2f (nI j)).toNat) (by rw [sz32]; exact UInt32.toNat_lt _) h0 h1
    rw [inf32] at h2
    exact h2
theorem u_i2d {j : Nat} (h : j < 2 ^ 31) : FP.Core.unitsOf FP.Core.b64 (FP.i2d (nI j)).toNat = j * fuP FP.Core.b64 ∧ (FP.i2d (nI j)).toNat < 9218868437227405312 := by
  rcases Nat.eq_zero_or_pos j with h0 | h0
  · subst h0
    decide +kernel
  · have e : (nI j).toInt = (j : Int) := nI_toInt (by omega)
    have h1 : FP.Core.DInt (nI j).toInt (FP.i2d (nI j)) := FP.Core.i2d_int _
    rw [e] at h1
    have h2 := fw_int (f := FP.Core.b64) FP.Core.good_b64 (n := (FP.i2d (nI j)).toNat) (by rw [sz64]; exact UInt64.toNat_lt _) h0 h1
    rw [inf64] at h2
    exact h2
theorem u32_1 : FP.Core.unitsOf FP.Core.b32 1065353216 = fuP FP.Core.b32 := by decide +kernel
theorem u32_8 : FP.Core.unitsOf FP.Core.b32 1090519040 = 8 * fuP FP.Core.b32 := by decide +kernel
theorem u32_10 : FP.Core.unitsOf FP.Core.b32 1092616192 = 10 * fuP FP.Core.b32 := by decide +kernel
theorem u32_32 : FP.Core.unitsOf FP.Core.b32 1107296256 = 32 * fuP FP.Core.b32 := by decide +kernel
theorem u32_h : 2 * FP.Core.unitsOf FP.Core.b32 1056964608 = fuP FP.Core.b32 := by decide +kernel
theorem u32_32h : 2 * FP.Core.unitsOf FP.Core.b32 1107427328 = 65 * fuP FP.Core.b32 := by decide +kernel
theorem u32_256 : FP.Core.unitsOf FP.Core.b32 1132462080 = 256 * fuP FP.Core.b32 := by decide +kernel
theorem fuP_32 : fuP FP.Core.b32 = FP.Core.one32 := rfl
theorem u_pos {v : Nat} {f : FP.Core.Fmt} (h : fuP f ≤ FP.Core.unitsOf f v) : 0 < v := by
  rcases Nat.eq_zero_or_pos v with e | e
  · subst e
    rw [FP.Core.unitsOf_zero] at h
    exact absurd h (Nat.not_le.mpr fuP_pos)
  · exact e
/-- by ten -/
theorem f_ten {b : Nat} (h1 : 10 ≤ b) (h2 : b ≤ 80) : 1065353216 ≤ (FP.fdiv (FP.i2f (nI b)) tenF).toNat ∧ (FP.fdiv (FP.i2f (nI b)) tenF).toNat ≤ 1090519040 := by
  obtain ⟨e1, e2⟩ := u_i2f (j := b) (by omega)
  have ht : tenF.toNat = 1092616192 := rfl
  have t := t_fdiv (a := FP.i2f (nI b)) (b := tenF) e2 (by rw [ht]; decide) (by rw [ht]; decide)
  rw [t, ht]
  rw [← inf32] at e2
  have hu : 0 < FP.Core.unitsOf FP.Core.b32 1092616192 := un_pos (by decide)
  generalize (FP.i2f (nI b)).toNat = x at *
  constructor
  · refine fd_ge FP.Core.good_b32 e2 (by rw [inf32]; decide) hu (by rw [inf32]; decide) ?_
    rw [e1, u32_1, u32_10]
    generalize fuP FP.Core.b32 = P
    calc P * (10 * P) = 10 * (P * P) := by rw [Nat.mul_left_comm]
      _ ≤ b * (P * P) := Nat.mul_le_mul_right _ h1
      _ = b * P * P := (Nat.mul_assoc ..).symm
  · refine fd_le FP.Core.good_b32 e2 (by rw [inf32]; decide) hu ?_
    rw [e1, u32_8, u32_10]
    generalize fuP FP.Core.b32 = P
    calc b * P * P = b * (P * P) := Nat.mul_assoc ..
      _ ≤ 80 * (P * P) := Nat.mul_le_mul_right _ h2
      _ = 8 * P * (10 * P) := by rw [Nat.mul_mul_mul_comm]
/-- by a step of 1 or more: no greater -/
theorem f_dle {x q : UInt32} (hx : x.toNat < 2139095040) (hq : q.toNat < 2139095040) (h1 : fuP FP.Core.b32 ≤ FP.Core.unitsOf FP.Core.b32 q.toNat) : (FP.fdiv x q).toNat ≤ x.toNat := by
  have h0 := u_pos h1
  rw [t_fdiv hx hq h0]
  refine fd_le FP.Core.good_b32 (by rw [inf32]; exact hx) (by rw [inf32]; exact hq) (un_pos h0) ?_
  exact Nat.mul_le_mul_left _ h1
theorem f_step {q : Nat} (h3 : 10 ≤ q) (h4 : q ≤ 30) : fuP FP.Core.b32 ≤ FP.Core.unitsOf FP.Core.b32 (FP.fdiv (FP.i2f (nI q)) tenF).toNat ∧ (FP.fdiv (FP.i2f (nI q)) tenF).toNat ≤ 1090519040 := by
  obtain ⟨a, b⟩ := f_ten h3 (by omega : q ≤ 80)
  refine ⟨?_, b⟩
  rw [← u32_1]
  exact un_mono a
theorem f_sd {b q : Nat} (h1 : 10 ≤ b) (h2 : b ≤ 80) (h3 : 10 ≤ q) (h4 : q ≤ 30) : ∀ r, (sdF (FP.fdiv (FP.i2f (nI b)) tenF) (FP.fdiv (FP.i2f (nI q)) tenF) r).toNat ≤ 1090519040
  | 0 => (f_ten h1 h2).2
  | r + 1 => by
    obtain ⟨s1, s2⟩ := f_step h3 h4
    have ih := f_sd h1 h2 h3 h4 r
    exact Nat.le_trans (f_dle (by omega) (by omega) s1) ih
theorem f_side {b q r : Nat} (h1 : 10 ≤ b) (h2 : b ≤ 80) (h3 : 10 ≤ q) (h4 : q ≤ 30) : (sideN b q r).toNat ≤ 1090519040 := f_sd h1 h2 h3 h4 (r - 1)
theorem f_mul {b q r a : Nat} (h1 : 10 ≤ b) (h2 : b ≤ 80) (h3 : 10 ≤ q) (h4 : q ≤ 30) (h5 : 1 ≤ a) (h6 : a ≤ 4) : (FP.fmul (sideN b q r) (FP.i2f (nI a))).toNat ≤ 1107296256 := by
  obtain ⟨e1, e2⟩ := u_i2f (j := a) (by omega)
  have hs := f_side (r := r) h1 h2 h3 h4
  rw [t_fmul (by omega) e2]
  rw [← inf32] at e2
  refine fm_le FP.Core.good_b32 (by rw [inf32]; omega) e2 ?_
  have hu := un_mono (f := FP.Core.b32) hs
  rw [u32_8] at hu
  rw [e1, u32_32]
  generalize fuP FP.Core.b32 = P at *
  generalize FP.Core.unitsOf FP.Core.b32 (sideN b q r).toNat = u at *
  calc u * (a * P) ≤ (8 * P) * (4 * P) := Nat.mul_le_mul hu (Nat.mul_le_mul_right _ h6)
    _ = 32 * P * P := by rw [Nat.mul_mul_mul_comm]; exact (Nat.mul_assoc 32 P P).symm
theorem f_div {b q r a d : Nat} (h1 : 10 ≤ b) (h2 : b ≤ 80) (h3 : 10 ≤ q) (h4 : q ≤ 30) (h5 : 1 ≤ a) (h6 : a ≤ 4) (h7 : 1 ≤ d) (h8 : d ≤ 4) : (FP.fdiv (FP.fmul (sideN b q r) (FP.i2f (nI a))) (FP.i2f (nI d))).toNat ≤ 1107296256 := by
  obtain ⟨e1, e2⟩ := u_i2f (j := d) (by omega)
  have hm := f_mul (r := r) h1 h2 h3 h4 h5 h6
  refine Nat.le_trans (f_dle (by omega) e2 ?_) hm
  rw [e1]
  exact Nat.le_mul_of_pos_left _ h7
theorem f_half {v : UInt32} (h : v.toNat ≤ 1107296256) : (FP.fadd v halfF).toNat ≤ 1107427328 := by
  have ht : halfF.toNat = 1056964608 := rfl
  rw [t_fadd (by omega) (by rw [ht]; decide), ht]
  refine fa_le FP.Core.good_b32 (by rw [inf32]; omega) (by rw [inf32]; decide) ?_
  have hu := un_mono (f := FP.Core.b32) h
  rw [u32_32] at hu
  have a1 := u32_h
  have a2 := u32_32h
  generalize fuP FP.Core.b32 = P at *
  generalize FP.Core.unitsOf FP.Core.b32 v.toNat = u at *
  omega
theorem f_cut {v : UInt32} (h : v.toNat ≤ 1107296256) : btw (cutF v) 1 40 := by
  have hh := f_half h
  unfold cutF
  generalize FP.fadd v halfF = w at *
  have hw : FP.Core.decode FP.Core.b32 w.toNat ≠ .nan := fun e => by
    have := (FP.Core.decode_nan (f := FP.Core.b32) w.toNat).mp e
    rw [inf32, FP.Core.mag_of_lt (by rw [show FP.Core.half FP.Core.b32 = 2147483648 by decide +kernel]; omega)] at this
    omega
  have hv := FP.Core.f2i_val (a := w) hw
  obtain ⟨c, q, d1, d2⟩ := fu_dec (f := FP.Core.b32) (n := w.toNat) (by rw [inf32]; omega)
  have e1 : FP.Core.sgn (FP.Core.val32 w) = false := by unfold FP.Core.val32; rw [d1]; rfl
  have e2 : FP.Core.zmag FP.Core.b32 (FP.Core.val32 w) = FP.Core.unitsOf FP.Core.b32 w.toNat := by unfold FP.Core.val32; rw [d1]; exact d2
  have hu := un_mono (f := FP.Core.b32) hh
  have a2 := u32_32h
  rw [e1, e2] at hv
  have hP : 0 < FP.Core.one32 := FP.Core.one32_pos
  have hd : FP.Core.unitsOf FP.Core.b32 w.toNat / FP.Core.one32 < 33 := (Nat.div_lt_iff_lt_mul hP).mpr (by rw [fuP_32] at a2; omega)
  have hv2 : (FP.f2i w).toInt = max (-2 ^ 31) (min (2 ^ 31 - 1) ((FP.Core.unitsOf FP.Core.b32 w.toNat / FP.Core.one32 : Nat) : Int)) := hv
  generalize FP.Core.unitsOf FP.Core.b32 w.toNat / FP.Core.one32 = k at *
  have hk : (FP.f2i w).toInt = (k : Int) := by rw [hv2]; omega
  have e : FP.f2i w = nI k := i32_eq (by rw [hk, nI_int (by omega)])
  rw [e]
  by_cases h1 : nI k < nI 1
  · rw [if_pos h1]; exact ⟨1, by decide, by decide, rfl⟩
  · rw [if_neg h1]
    refine ⟨k, ?_, by omega, rfl⟩
    rcases Nat.lt_or_ge k 1 with g | g
    · exact absurd ((nI_ltI (by omega) (by omega)).mpr g) h1
    · exact g
/-! FLOATS (what is wanted of them) -/
theorem fl_ten {b : Nat} (h1 : 10 ≤ b) (h2 : b ≤ 80) : vf_n32 (FP.fdiv (FP.i2f (nI b)) tenF) := n32_lt (by have := (f_ten h1 h2).2; omega)
theorem fl_side {b q : Nat} (h1 : 10 ≤ b) (h2 : b ≤ 80) (h3 : 10 ≤ q) (h4 : q ≤ 30) (r : Nat) : vf_n32 (FP.fdiv (sdF (FP.fdiv (FP.i2f (nI b)) tenF) (FP.fdiv (FP.i2f (nI q)) tenF) r) (FP.fdiv (FP.i2f (nI q)) tenF)) := n32_lt (by have := f_sd h1 h2 h3 h4 (r + 1); exact Nat.le_trans this (by decide))
theorem fl_mul {b q r a : Nat} (h1 : 10 ≤ b) (h2 : b ≤ 80) (h3 : 10 ≤ q) (h4 : q ≤ 30) (h5 : 1 ≤ a) (h6 : a ≤ 4) : vf_n32 (FP.fmul (sideN b q r) (FP.i2f (nI a))) := n32_lt (Nat.le_trans (f_mul h1 h2 h3 h4 h5 h6) (by decide))
theorem fl_div {b q r a d : Nat} (h1 : 10 ≤ b) (h2 : b ≤ 80) (h3 : 10 ≤ q) (h4 : q ≤ 30) (h5 : 1 ≤ a) (h6 : a ≤ 4) (h7 : 1 ≤ d) (h8 : d ≤ 4) : vf_n32 (FP.fdiv (FP.fmul (sideN b q r) (FP.i2f (nI a))) (FP.i2f (nI d))) := n32_lt (Nat.le_trans (f_div h1 h2 h3 h4 h5 h6 h7 h8) (by decide))
theorem fl_half {b q r : Nat} (h1 : 10 ≤ b) (h2 : b ≤ 80) (h3 : 10 ≤ q) (h4 : q ≤ 30) : vf_n32 (FP.fadd (sideN b q r) halfF) := n32_lt (Nat.le_trans (f_half (Nat.le_trans (f_side h1 h2 h3 h4) (by decide))) (by decide))
theorem f_wd {b q so r a d : Nat} (h1 : 10 ≤ b) (h2 : b ≤ 80) (h3 : 10 ≤ q) (h4 : q ≤ 30) (h5 : 1 ≤ a) (h6 : a ≤ 4) (h7 : 1 ≤ d) (h8 : d ≤ 4) : (if so = 1 then FP.fdiv (FP.fmul (sideN b q r) (FP.i2f (nI a))) (FP.i2f (nI d)) else FP.fmul (sideN b q r) (FP.i2f (nI a))).toNat ≤ 1107296256 := by
  split
  · exact f_div h1 h2 h3 h4 h5 h6 h7 h8
  · exact f_mul h1 h2 h3 h4 h5 h6
theorem fl_halfW {b q so r a d : Nat} (h1 : 10 ≤ b) (h2 : b ≤ 80) (h3 : 10 ≤ q) (h4 : q ≤ 30) (h5 : 1 ≤ a) (h6 : a ≤ 4) (h7 : 1 ≤ d) (h8 : d ≤ 4) : vf_n32 (FP.fadd (if so = 1 then FP.fdiv (FP.fmul (sideN b q r) (FP.i2f (nI a))) (FP.i2f (nI d)) else FP.fmul (sideN b q r) (FP.i2f (nI a))) halfF) := n32_lt (Nat.le_trans (f_half (f_wd h1 h2 h3 h4 h5 h6 h7 h8)) (by decide))
theorem fl_line {k c : Nat} {z : Int32} (hz : ∃ j, j ≤ 96 ∧ z = nI j) (h1 : 1 ≤ c) (h2 : c ≤ 6) : vf_n32 (FP.fdiv (FP.i2f z) (FP.i2f (nI c))) := by
  obtain ⟨j, hj, rfl⟩ := hz
  obtain ⟨e1, e2⟩ := u_i2f (j := c) (by omega)
  obtain ⟨g1, g2⟩ := u_i2f (j := j) (by omega)
  exact n32_lt (Nat.le_trans (f_dle g2 e2 (by rw [e1]; exact Nat.le_mul_of_pos_left _ h1)) (by omega))
theorem fl_high {b q r : Nat} (h1 : 10 ≤ b) (h2 : b ≤ 80) (h3 : 10 ≤ q) (h4 : q ≤ 30) : btw (highN b q r) 1 40 := f_cut (Nat.le_trans (f_side h1 h2 h3 h4) (by decide))
theorem fl_wide {b q so r a d : Nat} (h1 : 10 ≤ b) (h2 : b ≤ 80) (h3 : 10 ≤ q) (h4 : q ≤ 30) (h5 : 1 ≤ a) (h6 : a ≤ 4) (h7 : 1 ≤ d) (h8 : d ≤ 4) : btw (wideN b q so r a d) 1 40 := f_cut (f_wd h1 h2 h3 h4 h5 h6 h7 h8)
