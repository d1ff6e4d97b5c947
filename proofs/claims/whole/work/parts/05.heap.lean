theorem gin1 : ∀ w ∈ wsX10, w ∈ gW := fun w hw => gW_of (List.mem_append_right _ ((show ∀ w ∈ wsX10, w ∈ tables_1 by decide +kernel) w hw)) ((show ∀ w ∈ wsX10, goodWord w = true by decide +kernel) w hw)
theorem gin2 : ∀ w ∈ wsX20, w ∈ gW := fun w hw => gW_of (List.mem_append_right _ ((show ∀ w ∈ wsX20, w ∈ tables_1 by decide +kernel) w hw)) ((show ∀ w ∈ wsX20, goodWord w = true by decide +kernel) w hw)
theorem gin3 : ∀ w ∈ wsX30, w ∈ gW := fun w hw => gW_of (List.mem_append_right _ ((show ∀ w ∈ wsX30, w ∈ tables_1 by decide +kernel) w hw)) ((show ∀ w ∈ wsX30, goodWord w = true by decide +kernel) w hw)
theorem gin4 : ∀ w ∈ wsX40, w ∈ gW := fun w hw => gW_of (List.mem_append_right _ ((show ∀ w ∈ wsX40, w ∈ tables_1 by decide +kernel) w hw)) ((show ∀ w ∈ wsX40, goodWord w = true by decide +kernel) w hw)
theorem gin5 : ∀ w ∈ wsX50, w ∈ gW := fun w hw => gW_of (List.mem_append_right _ ((show ∀ w ∈ wsX50, w ∈ tables_1 by decide +kernel) w hw)) ((show ∀ w ∈ wsX50, goodWord w = true by decide +kernel) w hw)
theorem gin6 : ∀ w ∈ wsX60, w ∈ gW := fun w hw => gW_of (List.mem_append_right _ ((show ∀ w ∈ wsX60, w ∈ tables_1 by decide +kernel) w hw)) ((show ∀ w ∈ wsX60, goodWord w = true by decide +kernel) w hw)
theorem gin7 : ∀ w ∈ wsX70, w ∈ gW := fun w hw => gW_of (List.mem_append_right _ ((show ∀ w ∈ wsX70, w ∈ tables_1 by decide +kernel) w hw)) ((show ∀ w ∈ wsX70, goodWord w = true by decide +kernel) w hw)
theorem gin8 : ∀ w ∈ wsX80, w ∈ gW := fun w hw => gW_of (List.mem_append_right _ ((show ∀ w ∈ wsX80, w ∈ tables_1 by decide +kernel) w hw)) ((show ∀ w ∈ wsX80, goodWord w = true by decide +kernel) w hw)
theorem gin9 : ∀ w ∈ wsX90, w ∈ gW := fun w hw => gW_of (List.mem_append_right _ ((show ∀ w ∈ wsX90, w ∈ tables_1 by decide +kernel) w hw)) ((show ∀ w ∈ wsX90, goodWord w = true by decide +kernel) w hw)
/-! RULES of the heap -/
theorem cl_ok : ∀ (ci : Nat) (q : vw_C), vwCl[ci]? = some q → (∀ w ∈ u_ws q.1 q.2.1 q.2.2, w ∈ gW) ∧ (∃ ty : Nat → FieldType, ∀ k, k < q.2.2 → parseFieldDescriptor (q.2.1 k).2.2.1 = some (ty k)) ∧ (∀ a, a < q.2.2 → ∀ b, b < q.2.2 → a ≠ b → (q.2.1 a).2.1 ≠ (q.2.1 b).2.1) := by
  intro ci q hq
  match ci, hq with
  | 0, hq => cases hq; exact ⟨gin1, ⟨tyX1, tyX1_ok⟩, nmX1⟩
  | 1, hq => cases hq; exact ⟨gin2, ⟨tyX2, tyX2_ok⟩, nmX2⟩
  | 2, hq => cases hq; exact ⟨gin3, ⟨tyX3, tyX3_ok⟩, nmX3⟩
  | 3, hq => cases hq; exact ⟨gin4, ⟨tyX4, tyX4_ok⟩, nmX4⟩
  | 4, hq => cases hq; exact ⟨gin5, ⟨tyX5, tyX5_ok⟩, nmX5⟩
  | 5, hq => cases hq; exact ⟨gin6, ⟨tyX6, tyX6_ok⟩, nmX6⟩
  | 6, hq => cases hq; exact ⟨gin7, ⟨tyX7, tyX7_ok⟩, nmX7⟩
  | 7, hq => cases hq; exact ⟨gin8, ⟨tyX8, tyX8_ok⟩, nmX8⟩
  | 8, hq => cases hq; exact ⟨gin9, ⟨tyX9, tyX9_ok⟩, nmX9⟩
  | n + 9, hq => simp [vwCl] at hq
/-- field k of class ci is what the class 'own' links by idx -/
def FL (own : String) (idx ci k : Nat) : Prop := ∃ q : vw_C, vwCl[ci]? = some q ∧ k < q.2.2 ∧ Cond.fieldLink own idx (q.2.1 k).1 (q.2.1 k).2.1 (q.2.1 k).2.2.1 ∈ gW
/-- cell c has this kind and length -/
def CK (h : XH) (c ki n : Nat) : Prop := 5 ≤ c ∧ h.1[c - 5]? = some (ki, n)
theorem CK.get {x : XX} {h : XH} {c ki n : Nat} (hc : CK h c ki n) : (xWs x h)[c - 5]? = some (xAd x c, xEn x h c (ki, n)) := by
  have h1 := xWs_get (x := x) hc.2
  have e : c - 5 + 5 = c := by have := hc.1; omega
  rw [e] at h1
  rw [h1]
  congr 2
  have h2 := xAd_5 x (c - 5)
  rw [e] at h2
  exact h2.symm
theorem CK.ad {x : XX} {h : XH} {c ki n : Nat} (hc : CK h c ki n) : xAd x c = xN x + (c - 5) := by
  have h2 := xAd_5 x (c - 5)
  rwa [show c - 5 + 5 = c by have := hc.1; omega] at h2
theorem CK.o {x : XX} {h : XH} {c ki n : Nat} (hc : CK h c ki n) (hk : ki < 9) : (xWs x h)[c - 5]? = some (xAd x c, .inr (ki, (List.range n).map (fun k => xFv x h c ki k))) := by
  rw [hc.get]
  unfold xEn
  rw [if_pos hk]
theorem CK.i {x : XX} {h : XH} {c ki n : Nat} (hc : CK h c ki n) (h1 : ¬ ki < 9) (h2 : ¬ ki = 12) : (xWs x h)[c - 5]? = some (xAd x c, .inl (xCA x ki, n, .inl (h.2.2.1 c))) := by
  rw [hc.get]
  unfold xEn
  rw [if_neg h1, if_neg h2]
theorem CK.q {x : XX} {h : XH} {c n : Nat} (hc : CK h c 12 n) : (xWs x h)[c - 5]? = some (xAd x c, .inl (xCA x 12, n, .inr (.inr (.inr (.inr (fun i => xRo x (h.2.1 c i))))))) := by
  rw [hc.get]
  unfold xEn
  rw [if_neg (show ¬ (12 : Nat) < 9 by decide), if_pos rfl]
theorem vp_len {i : Int32} {n : Nat} (h : vp_in i n) : i.toNatClampNeg < n := Nat.not_le.mp fun q => h (Or.inr q)
theorem vwCl_lt {ci : Nat} {q : vw_C} (h : vwCl[ci]? = some q) : ci < 9 := (List.getElem?_eq_some_iff.mp h).1
/-- one place of a function of two numbers -/
def uI {α : Type} (f : Nat → Nat → α) (c k : Nat) (v : α) : Nat → Nat → α := fun a b => if a = c ∧ b = k then v else f a b
def hI (h : XH) (c k : Nat) (v : Int32) : XH := (h.1, h.2.1, uI h.2.2.1 c k v, h.2.2.2)
def hD (h : XH) (c k : Nat) (v : UInt64) : XH := (h.1, h.2.1, h.2.2.1, uI h.2.2.2 c k v)
def hQ (h : XH) (c k : Nat) (d : Nat) : XH := (h.1, uI h.2.1 c k (d + 1), h.2.2.1, h.2.2.2)
theorem xRo_some (x : XX) (d : Nat) : va_rf (xRo x (d + 1)) = .ref (xAd x d) := rfl
/-- a field that holds an int, a double, a reference -/
theorem g_geti {sc : XS} {M : MM} {pc : Nat} {L : XL} {S : List Value} {h : XH} {w : Nat × Nat} {R : Option Value → XH → Prop} {idx ci k n c : Nat} (hd : decode (mB M) pc = .ok (.getfield idx, 3)) (hf : FL (mY M).cls idx ci k) (hc : CK h c ci n) (hk : k < n) (ht : xTy ci k = 0) (kk : G sc M (pc + 3) L (.int (h.2.2.1 c k) :: S) h w R) : G sc M pc L (.ref c :: S) h w R := by
  intro x p l e s mI args below meth cd Q H locs ls F X hH hS hz hL
  obtain ⟨q, hq, hk1, hl⟩ := hf
  refine va_get (q0 := c - 5) F.1 F.2.1 F.2.2.2.2.1 (cl_ok _ q hq).1 F.2.2.2.1 F.2.2.2.2.2.2.2.2.1.1 hH.2 (hc.o (vwCl_lt hq)) hq _ hk1 (F.2.2.2.2.1 _ hl) (fun _ z => z) (v := xUp x (.int (h.2.2.1 c k))) ?_ hd (kk x p l e s mI args below meth cd Q H locs ls F X hH hS hz hL)
  rw [List.getElem?_map, List.getElem?_range hk]
  simp [xFv, ht, xUp]
theorem g_getd {sc : XS} {M : MM} {pc : Nat} {L : XL} {S : List Value} {h : XH} {w : Nat × Nat} {R : Option Value → XH → Prop} {idx ci k n c : Nat} (hd : decode (mB M) pc = .ok (.getfield idx, 3)) (hf : FL (mY M).cls idx ci k) (hc : CK h c ci n) (hk : k < n) (ht : xTy ci k = 1) (kk : G sc M (pc + 3) L (.double (h.2.2.2 c k) :: S) h w R) : G sc M pc L (.ref c :: S) h w R := by
  intro x p l e s mI args below meth cd Q H locs ls F X hH hS hz hL
  obtain ⟨q, hq, hk1, hl⟩ := hf
  refine va_get (q0 := c - 5) F.1 F.2.1 F.2.2.2.2.1 (cl_ok _ q hq).1 F.2.2.2.1 F.2.2.2.2.2.2.2.2.1.1 hH.2 (hc.o (vwCl_lt hq)) hq _ hk1 (F.2.2.2.2.1 _ hl) (fun _ z => z) (v := xUp x (.double (h.2.2.2 c k))) ?_ hd (kk x p l e s mI args below meth cd Q H locs ls F X hH hS hz hL)
  rw [List.getElem?_map, List.getElem?_range hk]
  simp [xFv, ht, xUp]
theorem g_getq {sc : XS} {M : MM} {pc : Nat} {L : XL} {S : List Value} {h : XH} {w : Nat × Nat} {R : Option Value → XH → Prop} {idx ci k n c d : Nat} (hd : decode (mB M) pc = .ok (.getfield idx, 3)) (hf : FL (mY M).cls idx ci k) (hc : CK h c ci n) (hk : k < n) (ht : xTy ci k = 2) (hr : h.2.1 c k = d + 1) (kk : G sc M (pc + 3) L (.ref d :: S) h w R) : G sc M pc L (.ref c :: S) h w R := by
  intro x p l e s mI args below meth cd Q H locs ls F X hH hS hz hL
  obtain ⟨q, hq, hk1, hl⟩ := hf
  refine va_get (q0 := c - 5) F.1 F.2.1 F.2.2.2.2.1 (cl_ok _ q hq).1 F.2.2.2.1 F.2.2.2.2.2.2.2.2.1.1 hH.2 (hc.o (vwCl_lt hq)) hq _ hk1 (F.2.2.2.2.1 _ hl) (fun _ z => z) (v := .ref (xAd x d)) ?_ hd (kk x p l e s mI args below meth cd Q H locs ls F X hH hS hz hL)
  rw [List.getElem?_map, List.getElem?_range hk]
  simp [xFv, ht, hr, xRo_some]
theorem W_sz {p : Program} {l : Launch} {e : Env} {Rm : Room} {s : State} {m : MethodId} {args : Array Value} {below : List Frame} {meth : Method} {c : Code} {H : Heap} {locs : List Loc} {cells slots : Nat} {Q : State → Prop} {g : JFrame} (k : H.size ≤ s.heap.size + cells → W p l e Rm s m args below meth c H locs cells slots Q g) : W p l e Rm s m args below meth c H locs cells slots Q g := fun T hT X => k (by rw [← hT]; exact X.same.2.2.1) T hT X
theorem va_S.tr {A : Nat → Prop} {H0 H H1 : Heap} {l1 l2 : List Loc} (h1 : va_S A H0 H l1) (h2 : va_S A H H1 l2) : va_S A H0 H1 l2 := ⟨Nat.le_trans h1.1 h2.1, fun q hq hn => (h2.2.1 q (Nat.lt_of_lt_of_le hq h1.1) hn).trans (h1.2.1 q hq hn), h2.2.2⟩
theorem va_S.self {A : Nat → Prop} {H0 H : Heap} {l1 : List Loc} (h1 : va_S A H0 H l1) : va_S A H H l1 := ⟨Nat.le_refl _, fun _ _ _ => rfl, h1.2.2⟩
theorem xFv_set {x : XX} {h h' : XH} {c ci n k : Nat} {v : Value} (hv : xFv x h' c ci k = v) (ho : ∀ j, j ≠ k → xFv x h' c ci j = xFv x h c ci j) : ((List.range n).map (fun j => xFv x h c ci j)).set k v = (List.range n).map (fun j => xFv x h' c ci j) := by
  refine List.ext_getElem? fun j => ?_
  by_cases hj : j < n
  · by_cases e : j = k
    · subst e
      rw [List.getElem?_set_self (by simpa using hj), List.getElem?_map, List.getElem?_range hj]
      simp [hv]
    · rw [List.getElem?_set_ne (Ne.symm e), List.getElem?_map, List.getElem?_map, List.getElem?_range hj]
      simp [ho j e]
  · rw [List.getElem?_eq_none (by simp; omega), List.getElem?_eq_none (by simp; omega)]
theorem xEn_ne {x : XX} {h h' : XH} {c : Nat} (h1 : h'.2.1 c = h.2.1 c) (h2 : h'.2.2.1 c = h.2.2.1 c) (h3 : h'.2.2.2 c = h.2.2.2 c) (q : Nat × Nat) : xEn x h' c q = xEn x h c q := by
  unfold xEn xFv
  rw [h1, h2, h3]
theorem uI_ne {α : Type} {f : Nat → Nat → α} {c k a : Nat} {v : α} (h : a ≠ c) : uI f c k v a = f a := by
  funext b
  unfold uI
  rw [if_neg (fun q => h q.1)]
/-- field k of class ci isn't final, and an int -/
def FI (ci k : Nat) : Prop := ∀ q : vw_C, vwCl[ci]? = some q → (q.2.1 k).2.2.2 = false ∧ parseFieldDescriptor (q.2.1 k).2.2.1 = some .int
theorem g_puti {sc : XS} {M : MM} {pc : Nat} {L : XL} {S : List Value} {h : XH} {w : Nat × Nat} {R : Option Value → XH → Prop} {idx ci k n c : Nat} {z : Int32} (hd : decode (mB M) pc = .ok (.putfield idx, 3)) (hf : FL (mY M).cls idx ci k) (hc : CK h c ci n) (hk : k < n) (ht : xTy ci k = 0) (hb : FI ci k) (kk : G sc M (pc + 3) L S (hI h c k z) w R) : G sc M pc L (.int z :: .ref c :: S) h w R := by
  intro x p l e s mI args below meth cd Q H locs ls F X hH hS hz hL
  obtain ⟨q, hq, hk1, hl⟩ := hf
  obtain ⟨hw, ⟨ty, hty⟩, hnm⟩ := cl_ok _ q hq
  obtain ⟨hb1, hb2⟩ := hb q hq
  refine va_put (q0 := c - 5) F.1 F.2.1 F.2.2.2.2.1 hw ty hty hnm F.2.2.2.1 F.2.2.2.2.2.2.2.2.1.1 hH.2 (xWs_D x h) hS.self (hc.o (vwCl_lt hq)) hq _ hk1 (F.2.2.2.2.1 _ hl) (fun _ z => z) hb1 (ty := .int) (v := .int z) hb2 rfl rfl (by simpa using hk) hd (fun H1 locs1 hP hD' hS1 => W_sz fun hz1 => ?_)
  have hz2 : H1.size = s.heap.size + w.1 := Nat.le_antisymm hz1 (by rw [← hz]; exact hS1.1)
  refine kk x p l e s mI args below meth cd Q H1 locs1 ls F X ⟨by rw [hz2, ← hz]; exact hH.1, ?_⟩ (hS.tr hS1) hz2 hL
  rw [xWs_set (h' := hI h c k z) (h := h) rfl hc.2 (fun j r hj => xEn_ne (h := h) (h' := hI h c k z) rfl (uI_ne (by have := hc.1; omega)) rfl r), ← hc.ad, show c - 5 + 5 = c by have := hc.1; omega]
  have e : xEn x (hI h c k z) c (ci, n) = .inr (ci, ((List.range n).map (fun j => xFv x h c ci j)).set k (.int z)) := by
    unfold xEn
    rw [if_pos (vwCl_lt hq)]
    rw [xFv_set (h' := hI h c k z) (v := .int z)]
    · simp [xFv, ht, hI, uI]
    · intro j hj
      simp [xFv, hI, uI, hj]
  rw [e]
  exact hP
/-- field k of class ci isn't final, and a double -/
def FD (ci k : Nat) : Prop := ∀ q : vw_C, vwCl[ci]? = some q → (q.2.1 k).2.2.2 = false ∧ parseFieldDescriptor (q.2.1 k).2.2.1 = some .double
theorem g_putd {sc : XS} {M : MM} {pc : Nat} {L : XL} {S : List Value} {h : XH} {w : Nat × Nat} {R : Option Value → XH → Prop} {idx ci k n c : Nat} {z : UInt64} (hd : decode (mB M) pc = .ok (.putfield idx, 3)) (hf : FL (mY M).cls idx ci k) (hc : CK h c ci n) (hk : k < n) (ht : xTy ci k = 1) (hb : FD ci k) (kk : G sc M (pc + 3) L S (hD h c k z) w R) : G sc M pc L (.double z :: .ref c :: S) h w R := by
  intro x p l e s mI args below meth cd Q H locs ls F X hH hS hz hL
  obtain ⟨q, hq, hk1, hl⟩ := hf
  obtain ⟨hw, ⟨ty, hty⟩, hnm⟩ := cl_ok _ q hq
  obtain ⟨hb1, hb2⟩ := hb q hq
  refine va_put (q0 := c - 5) F.1 F.2.1 F.2.2.2.2.1 hw ty hty hnm F.2.2.2.1 F.2.2.2.2.2.2.2.2.1.1 hH.2 (xWs_D x h) hS.self (hc.o (vwCl_lt hq)) hq _ hk1 (F.2.2.2.2.1 _ hl) (fun _ z => z) hb1 (ty := .double) (v := .double z) hb2 rfl rfl (by simpa using hk) hd (fun H1 locs1 hP hD' hS1 => W_sz fun hz1 => ?_)
  have hz2 : H1.size = s.heap.size + w.1 := Nat.le_antisymm hz1 (by rw [← hz]; exact hS1.1)
  refine kk x p l e s mI args below meth cd Q H1 locs1 ls F X ⟨by rw [hz2, ← hz]; exact hH.1, ?_⟩ (hS.tr hS1) hz2 hL
  rw [xWs_set (h' := hD h c k z) (h := h) rfl hc.2 (fun j r hj => xEn_ne (h := h) (h' := hD h c k z) rfl rfl (uI_ne (by have := hc.1; omega)) r), ← hc.ad, show c - 5 + 5 = c by have := hc.1; omega]
  have e : xEn x (hD h c k z) c (ci, n) = .inr (ci, ((List.range n).map (fun j => xFv x h c ci j)).set k (.double z)) := by
    unfold xEn
    rw [if_pos (vwCl_lt hq)]
    rw [xFv_set (h' := hD h c k z) (v := .double z)]
    · simp [xFv, ht, hD, uI]
    · intro j hj
      simp [xFv, hD, uI, hj]
  rw [e]
  exact hP
/-- field k of class ci is final, of class own, a reference of type ty -/
def FQ (own : String) (ci k : Nat) (ty : FieldType) : Prop := ∀ q : vw_C, vwCl[ci]? = some q → (q.2.1 k).2.2.2 = true ∧ (q.2.1 k).1 = own ∧ parseFieldDescriptor (q.2.1 k).2.2.1 = some ty ∧ ∀ a : Nat, narrow ty (.ref a) = .ref a ∧ fits ty (.ref a) = true
theorem g_putq {sc : XS} {M : MM} {pc : Nat} {L : XL} {S : List Value} {h : XH} {w : Nat × Nat} {R : Option Value → XH → Prop} {idx ci k n c d : Nat} {ty0 : FieldType} (hd : decode (mB M) pc = .ok (.putfield idx, 3)) (hf : FL (mY M).cls idx ci k) (hc : CK h c ci n) (hk : k < n) (ht : xTy ci k = 2) (hb : FQ (mY M).cls ci k ty0) (hin : (mY M).name = "<init>") (kk : G sc M (pc + 3) L S (hQ h c k d) w R) : G sc M pc L (.ref d :: .ref c :: S) h w R := by
  intro x p l e s mI args below meth cd Q H locs ls F X hH hS hz hL
  obtain ⟨q, hq, hk1, hl⟩ := hf
  obtain ⟨hw, ⟨ty, hty⟩, hnm⟩ := cl_ok _ q hq
  obtain ⟨hb1, hb2, hb3, hb4⟩ := hb q hq
  refine va_putF (q0 := c - 5) F.1 F.2.1 F.2.2.2.2.1 hw ty hty hnm F.2.2.2.1 F.2.2.2.2.2.2.2.2.1.1 hH.2 (xWs_D x h) hS.self (hc.o (vwCl_lt hq)) hq _ hk1 (F.2.2.2.2.1 _ hl) (fun _ z => z) hb1 (F.2.2.2.2.2.2.2.1.trans hin) hb2 (ty := ty0) (v := .ref (xAd x d)) hb3 (hb4 _).1 (hb4 _).2 (by simpa using hk) hd (fun H1 locs1 hP hD' hS1 => W_sz fun hz1 => ?_)
  have hz2 : H1.size = s.heap.size + w.1 := Nat.le_antisymm hz1 (by rw [← hz]; exact hS1.1)
  refine kk x p l e s mI args below meth cd Q H1 locs1 ls F X ⟨by rw [hz2, ← hz]; exact hH.1, ?_⟩ (hS.tr hS1) hz2 hL
  rw [xWs_set (h' := hQ h c k d) (h := h) rfl hc.2 (fun j r hj => xEn_ne (h := h) (h' := hQ h c k d) (uI_ne (by have := hc.1; omega)) rfl rfl r), ← hc.ad, show c - 5 + 5 = c by have := hc.1; omega]
  have e : xEn x (hQ h c k d) c (ci, n) = .inr (ci, ((List.range n).map (fun j => xFv x h c ci j)).set k (.ref (xAd x d))) := by
    unfold xEn
    rw [if_pos (vwCl_lt hq)]
    rw [xFv_set (h' := hQ h c k d) (v := .ref (xAd x d))]
    · simp [xFv, ht, hQ, uI, xRo_some]
    · intro j hj
      simp [xFv, hQ, uI, hj]
  rw [e]
  exact hP
/-- an index i is j, inside of n -/
def ixD (i : Int32) (j n : Nat) : Prop := vp_in i n ∧ i.toNatClampNeg = j
theorem ixD.lt {i : Int32} {j n : Nat} (h : ixD i j n) : j < n := by rw [← h.2]; exact vp_len h.1
theorem ixD_nI {j n : Nat} (h : j < n) (hn : n < 2 ^ 31) : ixD (nI j) j n := ⟨vp_in_nI h hn, nI_clamp (Nat.lt_trans h hn)⟩
theorem g_iald {sc : XS} {M : MM} {pc : Nat} {L : XL} {S : List Value} {h : XH} {w : Nat × Nat} {R : Option Value → XH → Prop} {c n j : Nat} {i : Int32} (hd : decode (mB M) pc = .ok (.iaload, 1)) (hc : CK h c 10 n) (hj : ixD i j n) (kk : G sc M (pc + 1) L (.int (h.2.2.1 c j) :: S) h w R) : G sc M pc L (.int i :: .ref c :: S) h w R := by
  intro x p l e s mI args below meth cd Q H locs ls F X hH hS hz hL
  obtain ⟨h1, rfl⟩ := hj
  exact va_iald (q0 := c - 5) (t0 := 0) F.1 F.2.1 F.2.2.2.2.2.2.2.2.1.1 hH.2 (hc.i (by decide) (by decide)) rfl h1 hd (kk x p l e s mI args below meth cd Q H locs ls F X hH hS hz hL)
theorem g_zald {sc : XS} {M : MM} {pc : Nat} {L : XL} {S : List Value} {h : XH} {w : Nat × Nat} {R : Option Value → XH → Prop} {c n j : Nat} {i : Int32} (hd : decode (mB M) pc = .ok (.baload, 1)) (hc : CK h c 11 n) (hj : ixD i j n) (kk : G sc M (pc + 1) L (.int (h.2.2.1 c j) :: S) h w R) : G sc M pc L (.int i :: .ref c :: S) h w R := by
  intro x p l e s mI args below meth cd Q H locs ls F X hH hS hz hL
  obtain ⟨h1, rfl⟩ := hj
  exact va_zald (q0 := c - 5) (t0 := 1) F.1 F.2.1 F.2.2.2.2.2.2.2.2.1.1 hH.2 (hc.i (by decide) (by decide)) rfl h1 hd (kk x p l e s mI args below meth cd Q H locs ls F X hH hS hz hL)
theorem g_aald {sc : XS} {M : MM} {pc : Nat} {L : XL} {S : List Value} {h : XH} {w : Nat × Nat} {R : Option Value → XH → Prop} {c n j d : Nat} {i : Int32} (hd : decode (mB M) pc = .ok (.aaload, 1)) (hc : CK h c 12 n) (hj : ixD i j n) (hr : h.2.1 c j = d + 1) (kk : G sc M (pc + 1) L (.ref d :: S) h w R) : G sc M pc L (.int i :: .ref c :: S) h w R := by
  intro x p l e s mI args below meth cd Q H locs ls F X hH hS hz hL
  obtain ⟨h1, rfl⟩ := hj
  have hee : va_rf (xRo x (h.2.1 c i.toNatClampNeg)) = .ref (xAd x d) := by rw [hr]; rfl
  refine va_aldq (q0 := c - 5) (t0 := 2) F.1 F.2.1 F.2.2.2.2.2.2.2.2.1.1 hH.2 hc.q rfl h1 hd ?_
  rw [hee]
  exact (kk x p l e s mI args below meth cd Q H locs ls F X hH hS hz hL)
/-- a row of ints is another -/
def uR {α : Type} (f : Nat → Nat → α) (c : Nat) (g : Nat → α) : Nat → Nat → α := fun a b => if a = c then g b else f a b
theorem uR_ne {α : Type} {f : Nat → Nat → α} {c a : Nat} {g : Nat → α} (h : a ≠ c) : uR f c g a = f a := by
  funext b
  unfold uR
  rw [if_neg h]
theorem uR_eq {α : Type} {f : Nat → Nat → α} {c : Nat} {g : Nat → α} : uR f c g c = g := by
  funext b
  unfold uR
  rw [if_pos rfl]
def hR (h : XH) (c : Nat) (g : Nat → Int32) : XH := (h.1, h.2.1, uR h.2.2.1 c g, h.2.2.2)
theorem uI_row {f : Nat → Nat → Int32} {c k : Nat} {v : Int32} : uI f c k v c = upd (f c) k v := by
  funext b
  simp [uI, upd]
theorem g_iast {sc : XS} {M : MM} {pc : Nat} {L : XL} {S : List Value} {h : XH} {w : Nat × Nat} {R : Option Value → XH → Prop} {c n j : Nat} {i z : Int32} (hd : decode (mB M) pc = .ok (.iastore, 1)) (hc : CK h c 10 n) (hj : ixD i j n) (kk : G sc M (pc + 1) L S (hI h c j z) w R) : G sc M pc L (.int z :: .int i :: .ref c :: S) h w R := by
  intro x p l e s mI args below meth cd Q H locs ls F X hH hS hz hL
  obtain ⟨h1, rfl⟩ := hj
  refine va_iast (q0 := c - 5) (t0 := 0) F.1 F.2.1 F.2.2.2.2.2.2.2.2.1.1 hH.2 (xWs_D x h) hS.self (hc.i (by decide) (by decide)) rfl h1 hd (fun H1 locs1 hP hD' hS1 => W_sz fun hz1 => ?_)
  have hz2 : H1.size = s.heap.size + w.1 := Nat.le_antisymm hz1 (by rw [← hz]; exact hS1.1)
  refine kk x p l e s mI args below meth cd Q H1 locs1 ls F X ⟨by rw [hz2, ← hz]; exact hH.1, ?_⟩ (hS.tr hS1) hz2 hL
  rw [xWs_set (h' := hI h c i.toNatClampNeg z) (h := h) rfl hc.2 (fun j r hj => xEn_ne (h := h) (h' := hI h c i.toNatClampNeg z) rfl (uI_ne (by have := hc.1; omega)) rfl r), ← hc.ad, show c - 5 + 5 = c by have := hc.1; omega]
  have e : xEn x (hI h c i.toNatClampNeg z) c (10, n) = .inl (xCA x 10, n, .inl (upd (h.2.2.1 c) i.toNatClampNeg z)) := by
    unfold xEn
    rw [if_neg (show ¬ (10 : Nat) < 9 by decide), if_neg (show ¬ (10 : Nat) = 12 by decide)]
    rw [show (hI h c i.toNatClampNeg z).2.2.1 c = upd (h.2.2.1 c) i.toNatClampNeg z from uI_row]
  rw [e]
  exact hP
theorem g_zast {sc : XS} {M : MM} {pc : Nat} {L : XL} {S : List Value} {h : XH} {w : Nat × Nat} {R : Option Value → XH → Prop} {c n j : Nat} {i z : Int32} (hd : decode (mB M) pc = .ok (.bastore, 1)) (hc : CK h c 11 n) (hj : ixD i j n) (hzz : z = 0 ∨ z = 1) (kk : G sc M (pc + 1) L S (hI h c j z) w R) : G sc M pc L (.int z :: .int i :: .ref c :: S) h w R := by
  intro x p l e s mI args below meth cd Q H locs ls F X hH hS hz hL
  obtain ⟨h1, rfl⟩ := hj
  refine va_zast (q0 := c - 5) (t0 := 1) F.1 F.2.1 F.2.2.2.2.2.2.2.2.1.1 hH.2 (xWs_D x h) hS.self (hc.i (by decide) (by decide)) rfl h1 hd (fun H1 locs1 hP hD' hS1 => W_sz fun hz1 => ?_)
  have hz2 : H1.size = s.heap.size + w.1 := Nat.le_antisymm hz1 (by rw [← hz]; exact hS1.1)
  refine kk x p l e s mI args below meth cd Q H1 locs1 ls F X ⟨by rw [hz2, ← hz]; exact hH.1, ?_⟩ (hS.tr hS1) hz2 hL
  rw [xWs_set (h' := hI h c i.toNatClampNeg z) (h := h) rfl hc.2 (fun j r hj => xEn_ne (h := h) (h' := hI h c i.toNatClampNeg z) rfl (uI_ne (by have := hc.1; omega)) rfl r), ← hc.ad, show c - 5 + 5 = c by have := hc.1; omega]
  have hn : vp_nar .boolean z = z := by rcases hzz with rfl | rfl <;> decide
  rw [hn] at hP
  have e : xEn x (hI h c i.toNatClampNeg z) c (11, n) = .inl (xCA x 11, n, .inl (upd (h.2.2.1 c) i.toNatClampNeg z)) := by
    unfold xEn
    rw [if_neg (show ¬ (11 : Nat) < 9 by decide), if_neg (show ¬ (11 : Nat) = 12 by decide)]
    rw [show (hI h c i.toNatClampNeg z).2.2.1 c = upd (h.2.2.1 c) i.toNatClampNeg z from uI_row]
  rw [e]
  exact hP
theorem g_alen {sc : XS} {M : MM} {pc : Nat} {L : XL} {S : List Value} {h : XH} {w : Nat × Nat} {R : Option Value → XH → Prop} {c n : Nat} (hd : decode (mB M) pc = .ok (.arraylength, 1)) (hc : CK h c 10 n) (kk : G sc M (pc + 1) L (.int (nI n) :: S) h w R) : G sc M pc L (.ref c :: S) h w R := by
  intro x p l e s mI args below meth cd Q H locs ls F X hH hS hz hL
  exact va_alen (q0 := c - 5) (t0 := 0) F.1 F.2.1 F.2.2.2.2.2.2.2.2.1.1 hH.2 (hc.i (by decide) (by decide)) rfl rfl hd (kk x p l e s mI args below meth cd Q H locs ls F X hH hS hz hL)
/-! the script, the static arrays -/
theorem g_sald {sc : XS} {M : MM} {pc : Nat} {L : XL} {S : List Value} {h : XH} {w : Nat × Nat} {R : Option Value → XH → Prop} {j : Nat} {i : Int32} (hd : decode (mB M) pc = .ok (.iaload, 1)) (hj : ixD i j sc.1) (kk : G sc M (pc + 1) L (.int (sc.2 j) :: S) h w R) : G sc M pc L (.int i :: .ref 0 :: S) h w R := by
  intro x p l e s mI args below meth c Q H locs ls F X hH hS hz hL
  obtain ⟨h1, rfl⟩ := hj
  have hE := F.2.2.2.2.2.2.2.2.2.1
  exact va_sld F.1 F.2.1 hE.1 (Nat.lt_of_lt_of_le hE.2.1 F.2.2.2.2.2.2.2.2.2.2) (show ¬ xN x ≤ xB x by have := hE.2.1; omega) hS h1 hd (kk x p l e s mI args below meth c Q H locs ls F X hH hS hz hL)
theorem g_slen {sc : XS} {M : MM} {pc : Nat} {L : XL} {S : List Value} {h : XH} {w : Nat × Nat} {R : Option Value → XH → Prop} (hd : decode (mB M) pc = .ok (.arraylength, 1)) (kk : G sc M (pc + 1) L (.int (nI sc.1) :: S) h w R) : G sc M pc L (.ref 0 :: S) h w R := by
  intro x p l e s mI args below meth c Q H locs ls F X hH hS hz hL
  have hE := F.2.2.2.2.2.2.2.2.2.1
  exact va_slen F.1 F.2.1 hE.1 (Nat.lt_of_lt_of_le hE.2.1 F.2.2.2.2.2.2.2.2.2.2) (show ¬ xN x ≤ xB x by have := hE.2.1; omega) hS hd (kk x p l e s mI args below meth c Q H locs ls F X hH hS hz hL)
theorem xAd_st {x : XX} {j : Nat} (h1 : 1 ≤ j) (h2 : j < 5) : xAd x j = xSt x j := by
  unfold xAd
  rw [if_neg (by omega), if_pos h2]
theorem g_getsN {sc : XS} {M : MM} {pc : Nat} {L : XL} {S : List Value} {h : XH} {w : Nat × Nat} {R : Option Value → XH → Prop} {idx j : Nat} (h1 : 1 ≤ j) (h2 : j < 5) (hd : decode (mB M) pc = .ok (.getstatic idx, 3)) (hq : ((mY M).cls, idx, "PosterSheet", sNm j, "[I", "PosterSheet") ∈ nF) (kk : G sc M (pc + 3) L (.ref j :: S) h w R) : G sc M pc L S h w R := by
  intro x p l e s mI args below meth c Q H locs ls F X hH hS hz hL
  have hE := F.2.2.2.2.2.2.2.2.2.1
  refine va_getsN F.1 F.2.1 (hE.2.2 j h1 h2).2 hS F.2.2.2.1 (va_Nw.use rfl (F.2.2.2.2.2.2.2.2.1.2.1 _ hq)) (fun _ z => z) hd ?_
  rw [← xAd_st h1 h2]
  exact (kk x p l e s mI args below meth c Q H locs ls F X hH hS hz hL)
theorem g_gets {sc : XS} {M : MM} {pc : Nat} {L : XL} {S : List Value} {h : XH} {w : Nat × Nat} {R : Option Value → XH → Prop} {idx j : Nat} (h1 : 1 ≤ j) (h2 : j < 5) (hd : decode (mB M) pc = .ok (.getstatic idx, 3)) (hq : Cond.fieldLink (mY M).cls idx "PosterSheet" (sNm j) "[I" ∈ gW) (kk : G sc M (pc + 3) L (.ref j :: S) h w R) : G sc M pc L S h w R := by
  intro x p l e s mI args below meth c Q H locs ls F X hH hS hz hL
  have hE := F.2.2.2.2.2.2.2.2.2.1
  refine va_gets F.1 F.2.1 (hE.2.2 j h1 h2).2 hS F.2.2.2.1 (F.2.2.2.2.1 _ hq) (fun _ z => z) hd ?_
  rw [← xAd_st h1 h2]
  exact (kk x p l e s mI args below meth c Q H locs ls F X hH hS hz hL)
theorem g_tald {sc : XS} {M : MM} {pc : Nat} {L : XL} {S : List Value} {h : XH} {w : Nat × Nat} {R : Option Value → XH → Prop} {c j : Nat} {i : Int32} (h1 : 1 ≤ c) (h2 : c < 5) (hd : decode (mB M) pc = .ok (.iaload, 1)) (hj : ixD i j (sRow c).length) (kk : G sc M (pc + 1) L (.int ((sRow c).getD j 0) :: S) h w R) : G sc M pc L (.int i :: .ref c :: S) h w R := by
  intro x p l e s mI args below meth cd Q H locs ls F X hH hS hz hL
  obtain ⟨h3, rfl⟩ := hj
  have hE := F.2.2.2.2.2.2.2.2.2.1
  have hT := (hE.2.2 c h1 h2).1
  rw [← xAd_st h1 h2] at hT
  exact va_ti F.1 F.2.1 hT hS h3 rfl hd (kk x p l e s mI args below meth cd Q H locs ls F X hH hS hz hL)
