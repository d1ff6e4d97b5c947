/-! DOUBLES: halves, exactly -/
def hU : Nat := 2 ^ 1073
theorem hU_P : fuP FP.Core.b64 = 2 * hU := by decide +kernel
theorem hU_pos : 0 < hU := Nat.two_pow_pos _
theorem q_64 : FP.Core.b64.qmax - FP.Core.b64.qmin = 2045 := by decide +kernel
theorem p_64 : FP.Core.b64.p = 53 := rfl
/-- j halves -/
def hfD (j : Nat) : UInt64 := FP.ddiv (FP.i2d (nI j)) 4611686018427387904
theorem ex_h {j : Nat} (h : j < 2 ^ 53) : ∃ m, m < FP.Core.infBits FP.Core.b64 ∧ FP.Core.unitsOf FP.Core.b64 m = j * hU := un_ex FP.Core.good_b64 (c := j) (k := 1073) h (by rw [q_64]; decide)
theorem hfD_u {j : Nat} (h : j < 2 ^ 31) : FP.Core.unitsOf FP.Core.b64 (hfD j).toNat = j * hU ∧ (hfD j).toNat < 9218868437227405312 := by
  obtain ⟨e1, e2⟩ := u_i2d h
  obtain ⟨m, m1, m2⟩ := ex_h (j := j) (by omega)
  have t := t_ddiv (a := FP.i2d (nI j)) (b := 4611686018427387904) e2 (by decide) (by decide)
  rw [show (4611686018427387904 : UInt64).toNat = 4611686018427387904 from rfl] at t
  have hu2 : FP.Core.unitsOf FP.Core.b64 4611686018427387904 = 2 * fuP FP.Core.b64 := z2_64
  have h0 : 0 < FP.Core.unitsOf FP.Core.b64 4611686018427387904 := un_pos (by decide)
  have he : FP.Core.unitsOf FP.Core.b64 (FP.i2d (nI j)).toNat * fuP FP.Core.b64 = FP.Core.unitsOf FP.Core.b64 m * FP.Core.unitsOf FP.Core.b64 4611686018427387904 := by
    rw [e1, hu2, m2, hU_P]
    generalize hU = u
    rw [Nat.mul_assoc j (2 * u), Nat.mul_assoc j u, Nat.mul_left_comm u 2, Nat.mul_assoc 2 u]
  rw [← inf64] at e2
  have e : (hfD j).toNat = m := by
    unfold hfD
    rw [t]
    exact Nat.le_antisymm (fd_le FP.Core.good_b64 e2 (by rw [inf64]; decide) h0 (Nat.le_of_eq he)) (fd_ge FP.Core.good_b64 e2 (by rw [inf64]; decide) h0 (Nat.le_of_lt m1) (Nat.le_of_eq he.symm))
  rw [e, ← inf64]
  exact ⟨m2, m1⟩
theorem u64_inj {a b : UInt64} (h : FP.Core.unitsOf FP.Core.b64 a.toNat = FP.Core.unitsOf FP.Core.b64 b.toNat) : a = b := UInt64.toNat_inj.mp (un_inj h)
theorem i2d_hD {j : Nat} (h : 2 * j < 2 ^ 31) : FP.i2d (nI j) = hfD (2 * j) := by
  refine u64_inj ?_
  rw [(u_i2d (by omega)).1, (hfD_u h).1, hU_P]
  rw [Nat.mul_comm 2 j, Nat.mul_assoc]
theorem d_add {a b c : UInt64} (ha : a.toNat < 9218868437227405312) (hb : b.toNat < 9218868437227405312) (hc : c.toNat < 9218868437227405312) (h : FP.Core.unitsOf FP.Core.b64 a.toNat + FP.Core.unitsOf FP.Core.b64 b.toNat = FP.Core.unitsOf FP.Core.b64 c.toNat) : FP.dadd a b = c := by
  apply UInt64.toNat_inj.mp
  rw [t_dadd ha hb]
  rw [← inf64] at ha hb hc
  exact Nat.le_antisymm (fa_le FP.Core.good_b64 ha hb (Nat.le_of_eq h)) (fa_ge FP.Core.good_b64 ha hb (Nat.le_of_lt hc) (Nat.le_of_eq h.symm))
theorem d_mul {a b c : UInt64} (ha : a.toNat < 9218868437227405312) (hb : b.toNat < 9218868437227405312) (hc : c.toNat < 9218868437227405312) (h : FP.Core.unitsOf FP.Core.b64 a.toNat * FP.Core.unitsOf FP.Core.b64 b.toNat = FP.Core.unitsOf FP.Core.b64 c.toNat * fuP FP.Core.b64) : FP.dmul a b = c := by
  apply UInt64.toNat_inj.mp
  rw [t_dmul ha hb]
  rw [← inf64] at ha hb hc
  exact Nat.le_antisymm (fm_le FP.Core.good_b64 ha hb (Nat.le_of_eq h)) (fm_ge FP.Core.good_b64 ha hb (Nat.le_of_lt hc) (Nat.le_of_eq h.symm))
theorem hfD_add {i j : Nat} (h : i + j < 2 ^ 31) : FP.dadd (hfD i) (hfD j) = hfD (i + j) := by
  obtain ⟨a1, a2⟩ := hfD_u (j := i) (by omega)
  obtain ⟨b1, b2⟩ := hfD_u (j := j) (by omega)
  obtain ⟨c1, c2⟩ := hfD_u h
  exact d_add a2 b2 c2 (by rw [a1, b1, c1, Nat.add_mul])
theorem dI_add {i j : Nat} (h : i + j < 2 ^ 31) : FP.dadd (FP.i2d (nI i)) (FP.i2d (nI j)) = FP.i2d (nI (i + j)) := by
  obtain ⟨a1, a2⟩ := u_i2d (j := i) (by omega)
  obtain ⟨b1, b2⟩ := u_i2d (j := j) (by omega)
  obtain ⟨c1, c2⟩ := u_i2d h
  exact d_add a2 b2 c2 (by rw [a1, b1, c1, Nat.add_mul])
theorem hfD_ia {x j : Nat} (h : 2 * x + j < 2 ^ 31) : FP.dadd (FP.i2d (nI x)) (hfD j) = hfD (2 * x + j) := by rw [i2d_hD (by omega), hfD_add h]
theorem hfD_mul {w j : Nat} (hw : w < 2 ^ 31) (h : w * j < 2 ^ 31 ∧ j < 2 ^ 31) : FP.dmul (FP.i2d (nI w)) (hfD j) = hfD (w * j) := by
  obtain ⟨a1, a2⟩ := u_i2d hw
  obtain ⟨b1, b2⟩ := hfD_u h.2
  obtain ⟨c1, c2⟩ := hfD_u h.1
  refine d_mul a2 b2 c2 ?_
  rw [a1, b1, c1]
  generalize fuP FP.Core.b64 = P
  generalize hU = u
  rw [Nat.mul_mul_mul_comm, Nat.mul_comm P u, Nat.mul_assoc (w * j)]
/-- weights as numbers -/
def wgN (a : Nat → Int32) (k : Nat) : Nat := wN a k * hN' a k * (7 - itN a k 1)
theorem wg_nI {a : Nat → Int32} {n k : Nat} (hW : WF a n) (hk : k < n) : 1 ≤ wgN a k ∧ wgN a k ≤ 9600 ∧ wgtF a k = nI (wgN a k) := by
  have h1 := hW.wide hk
  have h2 := hW.high hk
  have h3 := hW.it1 hk
  refine ⟨Nat.mul_pos (Nat.mul_pos (by omega) (by omega)) (by omega), ?_, ?_⟩
  · have : wN a k * hN' a k ≤ 40 * 40 := Nat.mul_le_mul h1.2.1 h2.2.1
    exact Nat.mul_le_mul this (show 7 - itN a k 1 ≤ 6 by omega)
  · unfold wgtF wgN
    rw [h1.2.2, h2.2.2, h3.2.2, pk_mul, pk_sub (by omega), pk_mul]
theorem wg_b {s w u v : Nat} (h : s + w * (2 * u + v) < 2 ^ 30) : s < 2 ^ 30 ∧ w * (2 * u + v) < 2 ^ 30 := by omega
/-- the three doubles of the scales -/
def dS (δ : SD) (w sx sy : Nat) : SD := uI (uI (uI δ 71 0 (FP.i2d (nI w))) 71 1 (hfD sx)) 71 2 (hfD sy)
section DS
variable {δ : SD} {w sx sy w2 sx2 sy2 : Nat}
theorem uD_same {c k : Nat} {v : UInt64} : uI δ c k v c k = v := by unfold uI; rw [if_pos ⟨rfl, rfl⟩]
theorem uD_oth {c k a b : Nat} {v : UInt64} (h : ¬ (a = c ∧ b = k)) : uI δ c k v a b = δ a b := by unfold uI; rw [if_neg h]
theorem dS_0 : dS δ w sx sy 71 0 = FP.i2d (nI w) := by unfold dS; rw [uD_oth (by omega), uD_oth (by omega), uD_same]
theorem dS_1 : dS δ w sx sy 71 1 = hfD sx := by unfold dS; rw [uD_oth (by omega), uD_same]
theorem dS_2 : dS δ w sx sy 71 2 = hfD sy := by unfold dS; rw [uD_same]
theorem dS_tri {b1 b2 b3 : UInt64} : uI (uI (uI (dS δ w sx sy) 71 0 b1) 71 1 b2) 71 2 b3 = uI (uI (uI δ 71 0 b1) 71 1 b2) 71 2 b3 := by
  unfold dS
  funext x y
  unfold uI
  by_cases h3 : x = 71 ∧ y = 2
  · simp only [if_pos h3]
  · by_cases h2 : x = 71 ∧ y = 1
    · simp only [if_neg h3, if_pos h2]
    · by_cases h1 : x = 71 ∧ y = 0
      · simp only [if_neg h3, if_neg h2, if_pos h1]
      · simp only [if_neg h3, if_neg h2, if_neg h1]
theorem dS_put : uI (uI (uI (dS δ w sx sy) 71 0 (FP.i2d (nI w2))) 71 1 (hfD sx2)) 71 2 (hfD sy2) = dS δ w2 sx2 sy2 := dS_tri
end DS
set_option maxRecDepth 100000 in
theorem c_KS_add {σ : SI} {δ : SD} {B n : Nat} {a : Nat → Int32} (hB : LB B) (hW : WF a n) (hR : RB σ B a n) (hD : RD σ B a n) {k x y w sx sy : Nat} (hk : k < n) (hx : x ≤ 16) (hy : y ≤ 16) (bw : w + wgN a k < 2 ^ 24) (bx : sx + wgN a k * (2 * x + wN a k) < 2 ^ 30) (by_ : sy + wgN a k * (2 * y + hN' a k) < 2 ^ 30) : E KS_add [.ref 71, .ref B, .int (nI k), .int (nI x), .int (nI y)] (HH σ (dS δ w sx sy)) (none) (HH σ (dS δ (w + wgN a k) (sx + wgN a k * (2 * x + wN a k)) (sy + wgN a k * (2 * y + hN' a k)))) := by
  have hwd := hW.wide hk
  have hhg := hW.high hk
  have hwg := wg_nI hW hk
  have bx2 := wg_b (u := x) (v := wN a k) bx
  have by2 := wg_b (u := y) (v := hN' a k) by_
  refine E.ofL [some (.ref 71), some (.ref B), some (.int (nI k)), some (.int (nI x)), some (.int (nI y))] rfl pn_RX3 rfl (fun sc => ?_)
  refine g_aload_n dX3_add_0 rfl ?_
  refine g_iload_n dX3_add_1 rfl ?_
  refine g_v1 (M' := KL_weight) dX3_add_2 l_S_40 v_KL_weight (c_KL_weight hB hW hR hD (by omega)) (rcL hB) rfl rfl ⟨rfl, rfl⟩ ?_
  refine g_top hwg.2.2 ?_
  refine g_i2d dX3_add_5 ?_
  refine g_dstore dX3_add_6 rfl ?_
  refine g_aload_n dX3_add_8 rfl ?_
  refine g_aload_n dX3_add_9 rfl ?_
  refine q_getd dX3_add_10 f_S_7 ck_71 (by decide) ty_2_0 ?_
  refine g_topd dS_0 ?_
  refine g_dload dX3_add_13 rfl ?_
  refine g_dadd dX3_add_15 (n64_lt (by rw [dI_add (by omega)]; exact Nat.le_of_lt (u_i2d (by omega)).2)) ?_
  refine g_topd (dI_add (by omega)) ?_
  refine q_putd dX3_add_16 f_S_7 ck_71 (by decide) ty_2_0 fd_2_0 ?_
  refine g_aload_n dX3_add_19 rfl ?_
  refine g_aload_n dX3_add_20 rfl ?_
  refine q_getd dX3_add_21 f_S_13 ck_71 (by decide) ty_2_1 ?_
  refine g_topd (show _ = hfD sx from rfl) ?_
  refine g_dload dX3_add_24 rfl ?_
  refine g_iload_n dX3_add_26 rfl ?_
  refine g_i2d dX3_add_27 ?_
  refine g_aload_n dX3_add_28 rfl ?_
  refine g_iload_n dX3_add_29 rfl ?_
  refine g_v1 (M' := KL_wide) dX3_add_30 l_S_43 v_KL_wide (c_KL_wide hB hW hR hD (by omega)) (rcL hB) rfl rfl ⟨rfl, rfl⟩ ?_
  refine g_top hwd.2.2 ?_
  refine g_i2d dX3_add_33 ?_
  refine g_ldcd dX3_add_34 c_S_46 ?_
  refine g_ddiv dX3_add_37 (n64_lt (Nat.le_of_lt (hfD_u (j := wN a k) (by omega)).2)) ?_
  refine g_topd (show _ = hfD (wN a k) from rfl) ?_
  refine g_dadd dX3_add_38 (n64_lt (by rw [hfD_ia (by omega)]; exact Nat.le_of_lt (hfD_u (by omega)).2)) ?_
  refine g_topd (hfD_ia (by omega)) ?_
  refine g_dmul dX3_add_39 (n64_lt (by rw [hfD_mul (by omega) (by omega)]; exact Nat.le_of_lt (hfD_u (by omega)).2)) ?_
  refine g_topd (hfD_mul (by omega) (by omega)) ?_
  refine g_dadd dX3_add_40 (n64_lt (by rw [hfD_add (by omega)]; exact Nat.le_of_lt (hfD_u (by omega)).2)) ?_
  refine g_topd (hfD_add (by omega)) ?_
  refine q_putd dX3_add_41 f_S_13 ck_71 (by decide) ty_2_1 fd_2_1 ?_
  refine g_aload_n dX3_add_44 rfl ?_
  refine g_aload_n dX3_add_45 rfl ?_
  refine q_getd dX3_add_46 f_S_16 ck_71 (by decide) ty_2_2 ?_
  refine g_topd (show _ = hfD sy from rfl) ?_
  refine g_dload dX3_add_49 rfl ?_
  refine g_iload dX3_add_51 rfl ?_
  refine g_i2d dX3_add_53 ?_
  refine g_aload_n dX3_add_54 rfl ?_
  refine g_iload_n dX3_add_55 rfl ?_
  refine g_v1 (M' := KL_high) dX3_add_56 l_S_48 v_KL_high (c_KL_high hB hW hR hD (by omega)) (rcL hB) rfl rfl ⟨rfl, rfl⟩ ?_
  refine g_top hhg.2.2 ?_
  refine g_i2d dX3_add_59 ?_
  refine g_ldcd dX3_add_60 c_S_46 ?_
  refine g_ddiv dX3_add_63 (n64_lt (Nat.le_of_lt (hfD_u (j := hN' a k) (by omega)).2)) ?_
  refine g_topd (show _ = hfD (hN' a k) from rfl) ?_
  refine g_dadd dX3_add_64 (n64_lt (by rw [hfD_ia (by omega)]; exact Nat.le_of_lt (hfD_u (by omega)).2)) ?_
  refine g_topd (hfD_ia (by omega)) ?_
  refine g_dmul dX3_add_65 (n64_lt (by rw [hfD_mul (by omega) (by omega)]; exact Nat.le_of_lt (hfD_u (by omega)).2)) ?_
  refine g_topd (hfD_mul (by omega) (by omega)) ?_
  refine g_dadd dX3_add_66 (n64_lt (by rw [hfD_add (by omega)]; exact Nat.le_of_lt (hfD_u (by omega)).2)) ?_
  refine g_topd (hfD_add (by omega)) ?_
  refine q_putd dX3_add_67 f_S_16 ck_71 (by decide) ty_2_2 fd_2_2 ?_
  exact e_vret dX3_add_70 rfl (by exact congrArg (HH σ) dS_put)
