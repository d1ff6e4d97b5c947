/-! RULES: copies, natives, what is made, calls -/
theorem gW_b {sc : XS} {M : MM} {x : XX} {p : Program} {s : State} {mI : MethodId} {args : Array Value} {meth : Method} {c : Code} (F : gFix sc M x p s mI args meth c) {w : Cond} (h : w ∈ gW) : w.before args s = true := F.2.2.2.2.1 _ h
/-- the words of the three natives -/
def NW (y : MethodName) : Prop := Cond.native y ∈ gW ∧ Cond.static y ∈ gW ∧ Cond.initialized y.cls ∈ gW
theorem cat_map (x : XX) (S : List Value) : ((S.map (xUp x)).map fun v => v.category).sum = (S.map fun v => v.category).sum := by
  rw [List.map_map]
  congr 1
  exact List.map_congr_left fun a _ => xUp_cat x a
theorem xTys_0 (x : XX) : (xTys x)[0]? = some (xCA x 10, .int) := rfl
theorem g_copy {sc : XS} {M : MM} {pc : Nat} {L : XL} {S : List Value} {h : XH} {w : Nat × Nat} {R : Option Value → XH → Prop} {idx c0 c n0 n1 j0 j1 k : Nat} {sp dp n : Int32} (hd : decode (mB M) pc = .ok (.invokestatic idx, 3)) (hl : Cond.methodLink (mY M).cls idx arraycopyName ∈ gW) (hw : NW arraycopyName) (h0 : CK h c0 10 n0) (h1 : CK h c 10 n1) (e0 : ¬ sp < 0 ∧ sp.toNatClampNeg = j0) (e1 : ¬ dp < 0 ∧ dp.toNatClampNeg = j1) (e2 : ¬ n < 0 ∧ n.toNatClampNeg = k) (b0 : j0 + k ≤ n0) (b1 : j1 + k ≤ n1) (hr : (decide (1 ≤ mFr M) && decide ((S.map fun v => v.category).sum + 18 ≤ mLo M)) = true) (kk : G sc M (pc + 3) L S (hR h c (va_cpy (h.2.2.1 c0) (h.2.2.1 c) j0 j1 k)) w R) : G sc M pc L (.int n :: .int dp :: .ref c :: .int sp :: .ref c0 :: S) h w R := by
  intro x p l e s mI args below meth cd Q H locs ls F X hH hS hz hL
  obtain ⟨e0, rfl⟩ := e0
  obtain ⟨e1, rfl⟩ := e1
  obtain ⟨e2, rfl⟩ := e2
  simp only [Bool.and_eq_true, decide_eq_true_eq] at hr
  refine va_copyi (q0 := c0 - 5) (q1 := c - 5) (t0 := 0) (t1 := 0) F.1 F.2.1 (F.2.2.1.trans hL.1.1.symm) F.2.2.2.1 (gW_b F hl) (gW_b F hw.1) (gW_b F hw.2.1) (gW_b F hw.2.2) F.2.2.2.2.2.2.2.2.1.1 hH.2 (xWs_D x h) hS.self (h0.i (by decide) (by decide)) (h1.i (by decide) (by decide)) rfl rfl rfl e0 e1 e2 b0 b1 (fun _ _ => rfl) hr.1 (by rw [cat_map]; exact hr.2) hd (fun H1 locs1 hP hD' hS1 => W_sz fun hz1 => ?_)
  have hz2 : H1.size = s.heap.size + w.1 := Nat.le_antisymm hz1 (by rw [← hz]; exact hS1.1)
  generalize va_cpy (h.2.2.1 c0) (h.2.2.1 c) sp.toNatClampNeg dp.toNatClampNeg n.toNatClampNeg = g at kk hP
  refine kk x p l e s mI args below meth cd Q H1 locs1 ls F X ⟨by rw [hz2, ← hz]; exact hH.1, ?_⟩ (hS.tr hS1) hz2 hL
  rw [xWs_set (h' := hR h c g) (h := h) rfl h1.2 (fun j r hj => xEn_ne (h := h) (h' := hR h c g) rfl (uR_ne (by have := h1.1; omega)) rfl r), ← h1.ad, show c - 5 + 5 = c by have := h1.1; omega]
  have e : xEn x (hR h c g) c (10, n1) = .inl (xCA x 10, n1, .inl g) := by
    unfold xEn
    rw [if_neg (show ¬ (10 : Nat) < 9 by decide), if_neg (show ¬ (10 : Nat) = 12 by decide)]
    rw [show (hR h c g).2.2.1 c = g from uR_eq]
  rw [e]
  exact hP
def rawF : MethodName := ⟨"java/lang/Float", "floatToRawIntBits", "(F)I"⟩
def rawD : MethodName := ⟨"java/lang/Double", "doubleToRawLongBits", "(D)J"⟩
theorem g_rawF {sc : XS} {M : MM} {pc : Nat} {L : XL} {S : List Value} {h : XH} {w : Nat × Nat} {R : Option Value → XH → Prop} {idx : Nat} {z : UInt32} (hd : decode (mB M) pc = .ok (.invokestatic idx, 3)) (hl : Cond.methodLink (mY M).cls idx rawF ∈ gW) (hw : NW rawF) (hr : (decide (1 ≤ mFr M) && decide ((S.map fun v => v.category).sum + 15 ≤ mLo M)) = true) (kk : G sc M (pc + 3) L (.int z.toInt32 :: S) h w R) : G sc M pc L (.float z :: S) h w R := by
  intro x p l e s mI args below meth cd Q H locs ls F X hH hS hz hL
  simp only [Bool.and_eq_true, decide_eq_true_eq] at hr
  exact vn_f2i F.1 F.2.1 (F.2.2.1.trans hL.1.1.symm) F.2.2.2.1 (gW_b F hl) (gW_b F hw.1) (gW_b F hw.2.1) (gW_b F hw.2.2) hr.1 (by rw [cat_map]; exact hr.2) hd (kk x p l e s mI args below meth cd Q H locs ls F X hH hS hz hL)
theorem g_rawD {sc : XS} {M : MM} {pc : Nat} {L : XL} {S : List Value} {h : XH} {w : Nat × Nat} {R : Option Value → XH → Prop} {idx : Nat} {z : UInt64} (hd : decode (mB M) pc = .ok (.invokestatic idx, 3)) (hl : Cond.methodLink (mY M).cls idx rawD ∈ gW) (hw : NW rawD) (hr : (decide (1 ≤ mFr M) && decide ((S.map fun v => v.category).sum + 15 ≤ mLo M)) = true) (kk : G sc M (pc + 3) L (.long z.toInt64 :: S) h w R) : G sc M pc L (.double z :: S) h w R := by
  intro x p l e s mI args below meth cd Q H locs ls F X hH hS hz hL
  simp only [Bool.and_eq_true, decide_eq_true_eq] at hr
  exact vn_d2l F.1 F.2.1 (F.2.2.1.trans hL.1.1.symm) F.2.2.2.1 (gW_b F hl) (gW_b F hw.1) (gW_b F hw.2.1) (gW_b F hw.2.2) hr.1 (by rw [cat_map]; exact hr.2) hd (kk x p l e s mI args below meth cd Q H locs ls F X hH hS hz hL)
theorem g_obj {sc : XS} {M : MM} {pc : Nat} {L : XL} {S : List Value} {h : XH} {w : Nat × Nat} {R : Option Value → XH → Prop} {idx c : Nat} (hd : decode (mB M) pc = .ok (.invokespecial idx, 3)) (hl : Cond.methodLink (mY M).cls idx objectInit ∈ gW) (hw : Cond.instanceMethod objectInit ∈ gW ∧ Cond.code objectInit ⟨#[0xb1]⟩ 1 none ∈ gW) (hr : (decide (1 ≤ mFr M) && decide ((S.map fun v => v.category).sum + 12 ≤ mLo M)) = true) (kk : G sc M (pc + 3) L S h w R) : G sc M pc L (.ref c :: S) h w R := by
  intro x p l e s mI args below meth cd Q H locs ls F X hH hS hz hL
  simp only [Bool.and_eq_true, decide_eq_true_eq] at hr
  refine W.objInit F.1 F.2.1 F.2.2.2.1 (gW_b F hl) (gW_b F hw.1) (gW_b F hw.2) rfl (hL.1.1.trans F.2.2.1.symm) rfl hd hr.1 (by show 2 * 0 + _ + 12 ≤ _; rw [cat_map]; have := hr.2; show _ ≤ mLo M; omega) (kk x p l e s mI args below meth cd Q H locs ls F X hH hS hz hL)
/-- one cell more -/
def hN (h : XH) (q : Nat × Nat) : XH := (h.1 ++ [q], uR h.2.1 (h.1.length + 5) (fun _ => 0), uR h.2.2.1 (h.1.length + 5) (fun _ => 0), uR h.2.2.2 (h.1.length + 5) (fun _ => 0))
theorem xWs_N {x : XX} {h : XH} {q : Nat × Nat} : xWs x (hN h q) = xWs x h ++ [(xN x + h.1.length, xEn x (hN h q) (h.1.length + 5) q)] := by
  refine List.ext_getElem? fun j => ?_
  have hl : (hN h q).1.length = h.1.length + 1 := by simp [hN]
  rcases Nat.lt_trichotomy j h.1.length with hj | hj | hj
  · have hq : h.1[j]? = some h.1[j] := List.getElem?_eq_getElem hj
    rw [xWs_get (h := hN h q) (q := h.1[j]) (by show (h.1 ++ [q])[j]? = _; rw [List.getElem?_append_left hj]; exact hq), List.getElem?_append_left (by rw [xWs_len]; exact hj), xWs_get hq, xEn_ne (h := h) (h' := hN h q) (uR_ne (by omega)) (uR_ne (by omega)) (uR_ne (by omega))]
  · subst hj
    rw [xWs_get (h := hN h q) (q := q) (by show (h.1 ++ [q])[_]? = _; simp), List.getElem?_append_right (by rw [xWs_len]; exact Nat.le_refl _), xWs_len, Nat.sub_self]
    rfl
  · rw [List.getElem?_eq_none (by rw [xWs_len, hl]; omega), List.getElem?_eq_none (by rw [List.length_append, xWs_len]; simp; omega)]
theorem new_ad {x : XX} {h : XH} {H H1 : Heap} {q : Nat} {e : va_E} {k : Nat} (hz : H.size = xN x + h.1.length) (hz1 : H1.size ≤ xN x + h.1.length + 1) (hP : va_P (xD x) vwCl (xWs x h ++ [(q, e)]) H1) (hD : va_D (xA x) (xWs x h ++ [(q, e)])) : q = xN x + h.1.length := by
  have hg : (xWs x h ++ [(q, e)])[h.1.length]? = some (q, e) := by
    rw [List.getElem?_append_right (by rw [xWs_len]; exact Nat.le_refl _), xWs_len, Nat.sub_self]
    rfl
  have h1 : q < H1.size := (hP _ _ hg).lt
  have h2 : xN x ≤ q := hD.2 _ _ hg
  rcases Nat.lt_or_ge q (xN x + h.1.length) with hq | hq
  · exfalso
    have hi : q - xN x < h.1.length := by omega
    have hgi : (xWs x h ++ [(q, e)])[q - xN x]? = some (xN x + (q - xN x), xEn x h (q - xN x + 5) h.1[q - xN x]) := by
      rw [List.getElem?_append_left (by rw [xWs_len]; exact hi)]
      exact xWs_get (List.getElem?_eq_getElem hi)
    have := hD.1 _ _ _ _ hgi hg (by show xN x + (q - xN x) = q; omega)
    omega
  · omega
theorem xHp_N {x : XX} {h : XH} {H H1 : Heap} {s : State} {w : Nat × Nat} {q : Nat} {r : Nat × Nat} {e : va_E} {locs : List Loc} (hH : xHp x h H) (hz : H.size = s.heap.size + w.1) (hz1 : H1.size ≤ s.heap.size + (w.1 + 1)) (hP : va_P (xD x) vwCl (xWs x h ++ [(q, e)]) H1) (hD : va_D (xA x) (xWs x h ++ [(q, e)])) (he : e = xEn x (hN h r) (h.1.length + 5) r) : q = xAd x (h.1.length + 5) ∧ xHp x (hN h r) H1 ∧ H1.size = s.heap.size + (w.1 + 1) := by
  have h1 := hH.1
  have hq := new_ad (k := 0) hH.1 (by omega) hP hD
  have hg : (xWs x h ++ [(q, e)])[h.1.length]? = some (q, e) := by
    rw [List.getElem?_append_right (by rw [xWs_len]; exact Nat.le_refl _), xWs_len, Nat.sub_self]
    rfl
  have h3 : q < H1.size := (hP _ _ hg).lt
  refine ⟨by rw [xAd_5]; exact hq, ⟨by show _ = xN x + (h.1 ++ [r]).length; rw [List.length_append]; simp; omega, ?_⟩, by omega⟩
  rw [xWs_N, ← he, ← hq]
  exact hP
theorem g_new {sc : XS} {M : MM} {pc : Nat} {L : XL} {S : List Value} {h : XH} {w : Nat × Nat} {R : Option Value → XH → Prop} {idx ci n : Nat} {C : String} {T : u_T} (hd : decode (mB M) pc = .ok (.new idx, 3)) (hq : vwCl[ci]? = some (C, T, n)) (h1 : Cond.classLink (mY M).cls idx C ∈ gW) (h2 : Cond.instantiable C n ∈ gW) (h3 : Cond.initialized C ∈ gW) (hty : ∀ k, k < n → ∃ ty, parseFieldDescriptor (T k).2.2.1 = some ty ∧ ((xTy ci k = 0 ∧ defaultValue ty = .int 0) ∨ (xTy ci k = 1 ∧ defaultValue ty = .double 0) ∨ (xTy ci k = 2 ∧ defaultValue ty = .null))) (hr : (decide (w.1 + 1 ≤ mCe M) && decide (w.2 + n ≤ mSl M)) = true) (kk : G sc M (pc + 3) L (.ref (h.1.length + 5) :: S) (hN h (ci, n)) (w.1 + 1, w.2 + n) R) : G sc M pc L S h w R := by
  intro x p l e s mI args below meth cd Q H locs ls F X hH hS hz hL
  simp only [Bool.and_eq_true, decide_eq_true_eq] at hr
  obtain ⟨hw, ⟨ty, hty0⟩, hnm⟩ := cl_ok _ _ hq
  have hci := vwCl_lt hq
  refine va_new (ci := ci) (fs := (List.range n).map (fun k => xFv x (hN h (ci, n)) (h.1.length + 5) ci k)) F.1 F.2.1 F.2.2.2.2.1 hw ty hty0 F.2.2.2.1 (gW_b F h1) (gW_b F h2) (gW_b F h3) F.2.2.2.2.2.2.2.2.1.1 hH.2 (xWs_D x h) hS.self (fun q hq => (show xN x ≤ q by have := hH.1; omega)) hq ?_ hr.1 hr.2 hd (fun q H1 hP hD' hS1 => W_sz fun hz1 => ?_)
  · intro j hj
    obtain ⟨t, ht, hc⟩ := hty j hj
    have e1 : ty j = t := Option.some.inj ((hty0 j hj).symm.trans ht)
    rw [e1]
    unfold vp_V
    rw [List.getD_eq_getElem?_getD, List.getElem?_map, List.getElem?_range hj]
    show _ = xFv x (hN h (ci, n)) (h.1.length + 5) ci j
    unfold xFv hN
    rcases hc with ⟨a, b⟩ | ⟨a, b⟩ | ⟨a, b⟩
    · rw [b, a]; simp [uR]
    · rw [b, a]; simp [uR]
    · rw [b, a]; simp [uR, xRo, va_rf]
  · obtain ⟨e1, e2, e3⟩ := xHp_N (r := (ci, n)) (locs := locs) hH hz hz1 hP hD' (by unfold xEn; rw [if_pos hci])
    rw [e1]
    exact kk x p l e s mI args below meth cd Q H1 locs ls F X e2 (hS.tr hS1) e3 hL
theorem xCA_of {x : XX} {s : State} {cA : ClassId} {ty : FieldType} {t0 : Nat} {c0 : ClassId} (hK : va_K (xD x) vwCl (xTys x) s) (ht : (xTys x)[t0]? = some (c0, ty)) (hK1 : va_K (xD x) vwCl (xTys x ++ [(cA, ty)]) s) : cA = c0 := by
  have a := (hK.2 t0 _ ht).2
  have b := (hK1.2 3 (cA, ty) rfl).2
  cases ty with
  | object C =>
    obtain ⟨_, _, _, _, _, a⟩ := a
    obtain ⟨_, _, _, _, _, b⟩ := b
    exact Option.some.inj (b.symm.trans a)
  | _ => exact Option.some.inj (Eq.trans (Eq.symm (show s.vm.findClass _ = some cA from b)) (show s.vm.findClass _ = some c0 from a))
theorem g_newai {sc : XS} {M : MM} {pc : Nat} {L : XL} {S : List Value} {h : XH} {w : Nat × Nat} {R : Option Value → XH → Prop} {n : Nat} {i : Int32} (hd : decode (mB M) pc = .ok (.newarray .int, 2)) (hw : Cond.arrayClass .int ∈ gW) (h1 : ¬ i < 0) (h2 : i.toNatClampNeg = n) (h3 : n * 4 ≤ 536870912) (hr : (decide (w.1 + 1 ≤ mCe M) && decide (w.2 + n ≤ mSl M)) = true) (kk : G sc M (pc + 2) L (.ref (h.1.length + 5) :: S) (hN h (10, n)) (w.1 + 1, w.2 + n) R) : G sc M pc L (.int i :: S) h w R := by
  intro x p l e s mI args below meth cd Q H locs ls F X hH hS hz hL
  simp only [Bool.and_eq_true, decide_eq_true_eq] at hr
  refine va_newa (atype := .int) (ty := .int) (a0 := (n, .inl (fun _ => 0))) F.1 F.2.1 (gW_b F hw) rfl F.2.2.2.2.2.2.2.2.1.1 hH.2 (xWs_D x h) hS.self (fun q hq => (show xN x ≤ q by have := hH.1; omega)) (fun _ => rfl) h1 h2 h3 hr.1 hr.2 hd (fun q cA H1 hK1 hP hD' hS1 => W_sz fun hz1 => ?_)
  have hcA := xCA_of (t0 := 0) F.2.2.2.2.2.2.2.2.1.1 rfl hK1
  subst hcA
  obtain ⟨e1, e2, e3⟩ := xHp_N (r := (10, n)) (locs := locs) hH hz hz1 hP hD' (by
    unfold xEn
    rw [if_neg (show ¬ (10 : Nat) < 9 by decide), if_neg (show ¬ (10 : Nat) = 12 by decide)]
    rw [show (hN h (10, n)).2.2.1 (h.1.length + 5) = fun _ => 0 from uR_eq])
  rw [e1]
  exact kk x p l e s mI args below meth cd Q H1 locs ls F X e2 (hS.tr hS1) e3 hL
theorem g_newaz {sc : XS} {M : MM} {pc : Nat} {L : XL} {S : List Value} {h : XH} {w : Nat × Nat} {R : Option Value → XH → Prop} {n : Nat} {i : Int32} (hd : decode (mB M) pc = .ok (.newarray .boolean, 2)) (hw : Cond.arrayClass .boolean ∈ gW) (h1 : ¬ i < 0) (h2 : i.toNatClampNeg = n) (h3 : n * componentBytes .boolean ≤ 536870912) (hr : (decide (w.1 + 1 ≤ mCe M) && decide (w.2 + n ≤ mSl M)) = true) (kk : G sc M (pc + 2) L (.ref (h.1.length + 5) :: S) (hN h (11, n)) (w.1 + 1, w.2 + n) R) : G sc M pc L (.int i :: S) h w R := by
  intro x p l e s mI args below meth cd Q H locs ls F X hH hS hz hL
  simp only [Bool.and_eq_true, decide_eq_true_eq] at hr
  refine va_newa (atype := .boolean) (ty := .boolean) (a0 := (n, .inl (fun _ => 0))) F.1 F.2.1 (gW_b F hw) rfl F.2.2.2.2.2.2.2.2.1.1 hH.2 (xWs_D x h) hS.self (fun q hq => (show xN x ≤ q by have := hH.1; omega)) (fun _ => rfl) h1 h2 h3 hr.1 hr.2 hd (fun q cA H1 hK1 hP hD' hS1 => W_sz fun hz1 => ?_)
  have hcA := xCA_of (t0 := 1) F.2.2.2.2.2.2.2.2.1.1 rfl hK1
  subst hcA
  obtain ⟨e1, e2, e3⟩ := xHp_N (r := (11, n)) (locs := locs) hH hz hz1 hP hD' (by
    unfold xEn
    rw [if_neg (show ¬ (11 : Nat) < 9 by decide), if_neg (show ¬ (11 : Nat) = 12 by decide)]
    rw [show (hN h (11, n)).2.2.1 (h.1.length + 5) = fun _ => 0 from uR_eq])
  rw [e1]
  exact kk x p l e s mI args below meth cd Q H1 locs ls F X e2 (hS.tr hS1) e3 hL
theorem g_newaq {sc : XS} {M : MM} {pc : Nat} {L : XL} {S : List Value} {h : XH} {w : Nat × Nat} {R : Option Value → XH → Prop} {n idx : Nat} {i : Int32} (hd : decode (mB M) pc = .ok (.anewarray idx, 3)) (hw : Cond.classLink (mY M).cls idx "PosterSheet$Layout" ∈ gW) (h1 : ¬ i < 0) (h2 : i.toNatClampNeg = n) (h3 : n * 4 ≤ 536870912) (hr : (decide (w.1 + 1 ≤ mCe M) && decide (w.2 + n ≤ mSl M)) = true) (kk : G sc M (pc + 3) L (.ref (h.1.length + 5) :: S) (hN h (12, n)) (w.1 + 1, w.2 + n) R) : G sc M pc L (.int i :: S) h w R := by
  intro x p l e s mI args below meth cd Q H locs ls F X hH hS hz hL
  simp only [Bool.and_eq_true, decide_eq_true_eq] at hr
  refine va_newq F.1 F.2.1 F.2.2.2.1 (gW_b F hw) F.2.2.2.2.2.2.2.2.1.2.2.2 F.2.2.2.2.2.2.2.2.1.1 hH.2 (xWs_D x h) hS.self (fun q hq => (show xN x ≤ q by have := hH.1; omega)) h1 h2 h3 hr.1 hr.2 hd (fun q cA H1 hK1 hP hD' hS1 => W_sz fun hz1 => ?_)
  have hcA := xCA_of (t0 := 2) F.2.2.2.2.2.2.2.2.1.1 rfl hK1
  subst hcA
  obtain ⟨e1, e2, e3⟩ := xHp_N (r := (12, n)) (locs := locs) hH hz hz1 hP hD' (by
    unfold xEn
    rw [if_neg (show ¬ (12 : Nat) < 9 by decide), if_pos rfl]
    rw [show (hN h (12, n)).2.1 (h.1.length + 5) = fun _ => 0 from uR_eq]
    rfl)
  rw [e1]
  exact kk x p l e s mI args below meth cd Q H1 locs ls F X e2 (hS.tr hS1) e3 hL
theorem g_aast {sc : XS} {M : MM} {pc : Nat} {L : XL} {S : List Value} {h : XH} {w : Nat × Nat} {R : Option Value → XH → Prop} {c d n nd j : Nat} {i : Int32} (hd : decode (mB M) pc = .ok (.aastore, 1)) (hc : CK h c 12 n) (hj : ixD i j n) (hv : CK h d 0 nd) (kk : G sc M (pc + 1) L S (hQ h c j d) w R) : G sc M pc L (.ref d :: .int i :: .ref c :: S) h w R := by
  intro x p l e s mI args below meth cd Q H locs ls F X hH hS hz hL
  obtain ⟨h1, rfl⟩ := hj
  refine va_astq (q0 := c - 5) (t0 := 2) (qk := d - 5) (ci := 0) (r := (RX1, TX1, 11)) F.1 F.2.1 F.2.2.2.2.2.2.2.2.1.1 hH.2 (xWs_D x h) hS.self hc.q rfl (hv.o (by decide)) rfl h1 hd (fun H1 locs1 hP hD' hS1 => W_sz fun hz1 => ?_)
  have hz2 : H1.size = s.heap.size + w.1 := Nat.le_antisymm hz1 (by rw [← hz]; exact hS1.1)
  refine kk x p l e s mI args below meth cd Q H1 locs1 ls F X ⟨by rw [hz2, ← hz]; exact hH.1, ?_⟩ (hS.tr hS1) hz2 hL
  rw [xWs_set (h' := hQ h c i.toNatClampNeg d) (h := h) rfl hc.2 (fun j r hj => xEn_ne (h := h) (h' := hQ h c i.toNatClampNeg d) (uI_ne (by have := hc.1; omega)) rfl rfl r), ← hc.ad, show c - 5 + 5 = c by have := hc.1; omega]
  have hee : xEn x (hQ h c i.toNatClampNeg d) c (12, n) = .inl (xCA x 12, n, .inr (.inr (.inr (.inr (va_up (fun i => xRo x (h.2.1 c i)) i.toNatClampNeg (some (xAd x d))))))) := by
    unfold xEn
    rw [if_neg (show ¬ (12 : Nat) < 9 by decide), if_pos rfl]
    have : (fun i_1 => xRo x ((hQ h c i.toNatClampNeg d).2.1 c i_1)) = va_up (fun i => xRo x (h.2.1 c i)) i.toNatClampNeg (some (xAd x d)) := by
      funext b
      simp only [hQ, uI, va_up]
      by_cases hb : b = i.toNatClampNeg
      · simp [hb, xRo]
      · simp [hb]
    rw [this]
  rw [hee]
  exact hP
