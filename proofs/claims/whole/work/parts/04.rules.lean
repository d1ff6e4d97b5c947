/-! RULES: one instruction each, out of the kit's rows -/
theorem g_iconst {sc : XS} {M : MM} {pc : Nat} {L : XL} {S : List Value} {h : XH} {w : Nat × Nat} {R : Option Value → XH → Prop} {n : Int} {v : Int32} (hd : decode (mB M) pc = .ok (.iconst n, 1)) (hv : Int32.ofInt n = v) (k : G sc M (pc + 1) L (.int v :: S) h w R) : G sc M pc L (S) h w R := by
  intro x p l e s mI args below meth c Q H locs ls F X hH hS hz hL
  exact lv_iconst F.1 F.2.1 hd hv (k x p l e s mI args below meth c Q H locs ls F X hH hS hz hL)
theorem g_bipush {sc : XS} {M : MM} {pc : Nat} {L : XL} {S : List Value} {h : XH} {w : Nat × Nat} {R : Option Value → XH → Prop} {n : Int} {v : Int32} (hd : decode (mB M) pc = .ok (.bipush n, 2)) (hv : (Int8.ofInt n).toInt32 = v) (k : G sc M (pc + 2) L (.int v :: S) h w R) : G sc M pc L (S) h w R := by
  intro x p l e s mI args below meth c Q H locs ls F X hH hS hz hL
  exact lv_bipush F.1 F.2.1 hd hv (k x p l e s mI args below meth c Q H locs ls F X hH hS hz hL)
theorem g_sipush {sc : XS} {M : MM} {pc : Nat} {L : XL} {S : List Value} {h : XH} {w : Nat × Nat} {R : Option Value → XH → Prop} {n : Int} {v : Int32} (hd : decode (mB M) pc = .ok (.sipush n, 3)) (hv : (Int16.ofInt n).toInt32 = v) (k : G sc M (pc + 3) L (.int v :: S) h w R) : G sc M pc L (S) h w R := by
  intro x p l e s mI args below meth c Q H locs ls F X hH hS hz hL
  exact lv_sipush F.1 F.2.1 hd hv (k x p l e s mI args below meth c Q H locs ls F X hH hS hz hL)
theorem g_lconst {sc : XS} {M : MM} {pc : Nat} {L : XL} {S : List Value} {h : XH} {w : Nat × Nat} {R : Option Value → XH → Prop} {n : Fin 2} {v : Int64} (hd : decode (mB M) pc = .ok (.lconst n, 1)) (hv : Int64.ofNat (n : Nat) = v) (k : G sc M (pc + 1) L (.long v :: S) h w R) : G sc M pc L (S) h w R := by
  intro x p l e s mI args below meth c Q H locs ls F X hH hS hz hL
  exact lv_lconst F.1 F.2.1 hd hv (k x p l e s mI args below meth c Q H locs ls F X hH hS hz hL)
theorem g_fconst0 {sc : XS} {M : MM} {pc : Nat} {L : XL} {S : List Value} {h : XH} {w : Nat × Nat} {R : Option Value → XH → Prop}  (hd : decode (mB M) pc = .ok (.fconst 0, 1))  (k : G sc M (pc + 1) L (.float FP.fconst0 :: S) h w R) : G sc M pc L (S) h w R := by
  intro x p l e s mI args below meth c Q H locs ls F X hH hS hz hL
  exact lv_fconst0 F.1 F.2.1 hd (k x p l e s mI args below meth c Q H locs ls F X hH hS hz hL)
theorem g_fconst1 {sc : XS} {M : MM} {pc : Nat} {L : XL} {S : List Value} {h : XH} {w : Nat × Nat} {R : Option Value → XH → Prop}  (hd : decode (mB M) pc = .ok (.fconst 1, 1))  (k : G sc M (pc + 1) L (.float FP.fconst1 :: S) h w R) : G sc M pc L (S) h w R := by
  intro x p l e s mI args below meth c Q H locs ls F X hH hS hz hL
  exact lv_fconst1 F.1 F.2.1 hd (k x p l e s mI args below meth c Q H locs ls F X hH hS hz hL)
theorem g_fconst2 {sc : XS} {M : MM} {pc : Nat} {L : XL} {S : List Value} {h : XH} {w : Nat × Nat} {R : Option Value → XH → Prop}  (hd : decode (mB M) pc = .ok (.fconst 2, 1))  (k : G sc M (pc + 1) L (.float FP.fconst2 :: S) h w R) : G sc M pc L (S) h w R := by
  intro x p l e s mI args below meth c Q H locs ls F X hH hS hz hL
  exact lv_fconst2 F.1 F.2.1 hd (k x p l e s mI args below meth c Q H locs ls F X hH hS hz hL)
theorem g_dconst0 {sc : XS} {M : MM} {pc : Nat} {L : XL} {S : List Value} {h : XH} {w : Nat × Nat} {R : Option Value → XH → Prop}  (hd : decode (mB M) pc = .ok (.dconst 0, 1))  (k : G sc M (pc + 1) L (.double FP.dconst0 :: S) h w R) : G sc M pc L (S) h w R := by
  intro x p l e s mI args below meth c Q H locs ls F X hH hS hz hL
  exact lv_dconst0 F.1 F.2.1 hd (k x p l e s mI args below meth c Q H locs ls F X hH hS hz hL)
theorem g_dconst1 {sc : XS} {M : MM} {pc : Nat} {L : XL} {S : List Value} {h : XH} {w : Nat × Nat} {R : Option Value → XH → Prop}  (hd : decode (mB M) pc = .ok (.dconst 1, 1))  (k : G sc M (pc + 1) L (.double FP.dconst1 :: S) h w R) : G sc M pc L (S) h w R := by
  intro x p l e s mI args below meth c Q H locs ls F X hH hS hz hL
  exact lv_dconst1 F.1 F.2.1 hd (k x p l e s mI args below meth c Q H locs ls F X hH hS hz hL)
theorem g_iload_n {sc : XS} {M : MM} {pc : Nat} {L : XL} {S : List Value} {h : XH} {w : Nat × Nat} {R : Option Value → XH → Prop} {i : Fin 4} {z : Int32} (hd : decode (mB M) pc = .ok (.iload_n i, 1)) (hl : L i = some (.int z)) (k : G sc M (pc + 1) L (.int z :: S) h w R) : G sc M pc L (S) h w R := by
  intro x p l e s mI args below meth c Q H locs ls F X hH hS hz hL
  exact lv_iload_n F.1 F.2.1 hd rfl (hL.2 _ _ hl).1 (k x p l e s mI args below meth c Q H locs ls F X hH hS hz hL)
theorem g_iload {sc : XS} {M : MM} {pc : Nat} {L : XL} {S : List Value} {h : XH} {w : Nat × Nat} {R : Option Value → XH → Prop} {i : Nat} {z : Int32} (hd : decode (mB M) pc = .ok (.iload i, 2)) (hl : L i = some (.int z)) (k : G sc M (pc + 2) L (.int z :: S) h w R) : G sc M pc L (S) h w R := by
  intro x p l e s mI args below meth c Q H locs ls F X hH hS hz hL
  exact lv_iload F.1 F.2.1 hd (hL.2 _ _ hl).1 (k x p l e s mI args below meth c Q H locs ls F X hH hS hz hL)
theorem g_lload_n {sc : XS} {M : MM} {pc : Nat} {L : XL} {S : List Value} {h : XH} {w : Nat × Nat} {R : Option Value → XH → Prop} {i : Fin 4} {z : Int64} (hd : decode (mB M) pc = .ok (.lload_n i, 1)) (hl : L i = some (.long z)) (k : G sc M (pc + 1) L (.long z :: S) h w R) : G sc M pc L (S) h w R := by
  intro x p l e s mI args below meth c Q H locs ls F X hH hS hz hL
  exact lv_lload_n F.1 F.2.1 hd rfl (hL.2 _ _ hl).1 (k x p l e s mI args below meth c Q H locs ls F X hH hS hz hL)
theorem g_lload {sc : XS} {M : MM} {pc : Nat} {L : XL} {S : List Value} {h : XH} {w : Nat × Nat} {R : Option Value → XH → Prop} {i : Nat} {z : Int64} (hd : decode (mB M) pc = .ok (.lload i, 2)) (hl : L i = some (.long z)) (k : G sc M (pc + 2) L (.long z :: S) h w R) : G sc M pc L (S) h w R := by
  intro x p l e s mI args below meth c Q H locs ls F X hH hS hz hL
  exact lv_lload F.1 F.2.1 hd (hL.2 _ _ hl).1 (k x p l e s mI args below meth c Q H locs ls F X hH hS hz hL)
theorem g_fload_n {sc : XS} {M : MM} {pc : Nat} {L : XL} {S : List Value} {h : XH} {w : Nat × Nat} {R : Option Value → XH → Prop} {i : Fin 4} {z : UInt32} (hd : decode (mB M) pc = .ok (.fload_n i, 1)) (hl : L i = some (.float z)) (k : G sc M (pc + 1) L (.float z :: S) h w R) : G sc M pc L (S) h w R := by
  intro x p l e s mI args below meth c Q H locs ls F X hH hS hz hL
  exact lv_fload_n F.1 F.2.1 hd rfl (hL.2 _ _ hl).1 (k x p l e s mI args below meth c Q H locs ls F X hH hS hz hL)
theorem g_fload {sc : XS} {M : MM} {pc : Nat} {L : XL} {S : List Value} {h : XH} {w : Nat × Nat} {R : Option Value → XH → Prop} {i : Nat} {z : UInt32} (hd : decode (mB M) pc = .ok (.fload i, 2)) (hl : L i = some (.float z)) (k : G sc M (pc + 2) L (.float z :: S) h w R) : G sc M pc L (S) h w R := by
  intro x p l e s mI args below meth c Q H locs ls F X hH hS hz hL
  exact lv_fload F.1 F.2.1 hd (hL.2 _ _ hl).1 (k x p l e s mI args below meth c Q H locs ls F X hH hS hz hL)
theorem g_dload_n {sc : XS} {M : MM} {pc : Nat} {L : XL} {S : List Value} {h : XH} {w : Nat × Nat} {R : Option Value → XH → Prop} {i : Fin 4} {z : UInt64} (hd : decode (mB M) pc = .ok (.dload_n i, 1)) (hl : L i = some (.double z)) (k : G sc M (pc + 1) L (.double z :: S) h w R) : G sc M pc L (S) h w R := by
  intro x p l e s mI args below meth c Q H locs ls F X hH hS hz hL
  exact lv_dload_n F.1 F.2.1 hd rfl (hL.2 _ _ hl).1 (k x p l e s mI args below meth c Q H locs ls F X hH hS hz hL)
theorem g_dload {sc : XS} {M : MM} {pc : Nat} {L : XL} {S : List Value} {h : XH} {w : Nat × Nat} {R : Option Value → XH → Prop} {i : Nat} {z : UInt64} (hd : decode (mB M) pc = .ok (.dload i, 2)) (hl : L i = some (.double z)) (k : G sc M (pc + 2) L (.double z :: S) h w R) : G sc M pc L (S) h w R := by
  intro x p l e s mI args below meth c Q H locs ls F X hH hS hz hL
  exact lv_dload F.1 F.2.1 hd (hL.2 _ _ hl).1 (k x p l e s mI args below meth c Q H locs ls F X hH hS hz hL)
theorem g_aload_n {sc : XS} {M : MM} {pc : Nat} {L : XL} {S : List Value} {h : XH} {w : Nat × Nat} {R : Option Value → XH → Prop} {i : Fin 4} {z : Nat} (hd : decode (mB M) pc = .ok (.aload_n i, 1)) (hl : L i = some (.ref z)) (k : G sc M (pc + 1) L (.ref z :: S) h w R) : G sc M pc L (S) h w R := by
  intro x p l e s mI args below meth c Q H locs ls F X hH hS hz hL
  exact lv_aload_n F.1 F.2.1 hd rfl (hL.2 _ _ hl).1 (k x p l e s mI args below meth c Q H locs ls F X hH hS hz hL)
theorem g_aload {sc : XS} {M : MM} {pc : Nat} {L : XL} {S : List Value} {h : XH} {w : Nat × Nat} {R : Option Value → XH → Prop} {i : Nat} {z : Nat} (hd : decode (mB M) pc = .ok (.aload i, 2)) (hl : L i = some (.ref z)) (k : G sc M (pc + 2) L (.ref z :: S) h w R) : G sc M pc L (S) h w R := by
  intro x p l e s mI args below meth c Q H locs ls F X hH hS hz hL
  exact lv_aload F.1 F.2.1 hd (hL.2 _ _ hl).1 (k x p l e s mI args below meth c Q H locs ls F X hH hS hz hL)
def sL (L : XL) (i : Nat) (v : Value) : XL := fun j => if j = i then some v else L j
def sL2 (L : XL) (i : Nat) (v : Value) : XL := fun j => if j = i then some v else if j = i + 1 then none else L j
def okS (M : MM) (i : Nat) : Bool := decide (i < mL M) && (decide (i = 0) || !(mC2 M).contains (i - 1))
def okS2 (M : MM) (i : Nat) : Bool := decide (i + 1 < mL M) && (mC2 M).contains i && (decide (i = 0) || !(mC2 M).contains (i - 1))
def xLv (x : XX) (M : MM) (L : XL) : List (Nat × Value) := (List.range (mL M)).filterMap (fun j => (L j).map (fun v => (j, xUp x v)))
theorem xLv_in {x : XX} {M : MM} {L : XL} {j : Nat} {v : Value} (hj : j < mL M) (h : L j = some v) : (j, xUp x v) ∈ xLv x M L := List.mem_filterMap.mpr ⟨j, List.mem_range.mpr hj, by rw [h]; rfl⟩
theorem xLR.has {x : XX} {M : MM} {ls : Array Slot} {L : XL} (h : xLR x M ls L) : lv_has ls (mL M) (xLv x M L) := by
  refine ⟨h.1.1, h.1.2.1, fun q hq => ?_⟩
  obtain ⟨j, -, hj⟩ := List.mem_filterMap.mp hq
  cases hv : L j with
  | none => rw [hv] at hj; cases hj
  | some v => rw [hv] at hj; cases hj; exact (h.2 j v hv).1
theorem xLR.lt {x : XX} {M : MM} {ls : Array Slot} {L : XL} (h : xLR x M ls L) {j : Nat} {v : Value} (hj : L j = some v) : j < mL M := by
  have := (Array.getElem?_eq_some_iff.mp (h.2 j v hj).1).1
  rw [h.1.1] at this
  exact this
theorem xUp_cat (x : XX) (u : Value) : (xUp x u).category = u.category := by cases u <;> rfl
theorem okS_lt {M : MM} {i : Nat} (h : okS M i = true) : i < mL M := by unfold okS at h; simp at h; exact h.1
theorem okS2_lt {M : MM} {i : Nat} (h : okS2 M i = true) : i + 1 < mL M := by unfold okS2 at h; simp at h; exact h.1.1
theorem okS_no {M : MM} {i j : Nat} (h : okS M i = true) (e : j + 1 = i) : ¬ j ∈ mC2 M := by
  unfold okS at h
  simp at h
  rcases h.2 with h | h
  · omega
  · rw [← e] at h; exact h
theorem okS2_no {M : MM} {i j : Nat} (h : okS2 M i = true) (e : j + 1 = i) : ¬ j ∈ mC2 M := by
  unfold okS2 at h
  simp at h
  rcases h.2 with h | h
  · omega
  · rw [← e] at h; exact h
theorem okS2_in {M : MM} {i : Nat} (h : okS2 M i = true) : i ∈ mC2 M := by
  unfold okS2 at h
  simp at h
  exact h.1.2
theorem xLR.set1 {x : XX} {M : MM} {ls ls' : Array Slot} {L : XL} {i : Nat} {v u : Value} (h : xLR x M ls L) (hi : okS M i = true) (hc : ¬ v.category = 2) (hu : u = xUp x v) (h' : lv_has ls' (mL M) ((i, u) :: (xLv x M L).filter (fun q => !(q.1 == i) && !(q.1 + 1 == i && q.2.category == 2)))) : xLR x M ls' (sL L i v) := by
  subst hu
  refine ⟨⟨h'.1, h'.2.1, fun q hq => absurd hq List.not_mem_nil⟩, fun j t hj => ?_⟩
  unfold sL at hj
  by_cases e : j = i
  · rw [if_pos e] at hj
    cases hj
    subst e
    exact ⟨h'.2.2 _ List.mem_cons_self, fun q => absurd q hc⟩
  · rw [if_neg e] at hj
    obtain ⟨h1, h2⟩ := h.2 j t hj
    refine ⟨h'.2.2 (j, xUp x t) (List.mem_cons_of_mem _ (List.mem_filter.mpr ⟨xLv_in (h.lt hj) hj, ?_⟩)), h2⟩
    by_cases e2 : j + 1 = i
    · have : ¬ t.category = 2 := fun q => okS_no hi e2 (h2 q)
      simp [e, xUp_cat, this]
    · simp [e, e2]
theorem xLR.set2 {x : XX} {M : MM} {ls ls' : Array Slot} {L : XL} {i : Nat} {v u : Value} (h : xLR x M ls L) (hi : okS2 M i = true) (hu : u = xUp x v) (h' : lv_has ls' (mL M) ((i, u) :: (xLv x M L).filter (fun q => !(q.1 == i) && (!(q.1 == i + 1) && !(q.1 + 1 == i && q.2.category == 2))))) : xLR x M ls' (sL2 L i v) := by
  subst hu
  refine ⟨⟨h'.1, h'.2.1, fun q hq => absurd hq List.not_mem_nil⟩, fun j t hj => ?_⟩
  unfold sL2 at hj
  by_cases e : j = i
  · rw [if_pos e] at hj
    cases hj
    subst e
    exact ⟨h'.2.2 _ List.mem_cons_self, fun _ => okS2_in hi⟩
  · rw [if_neg e] at hj
    by_cases e3 : j = i + 1
    · rw [if_pos e3] at hj; cases hj
    · rw [if_neg e3] at hj
      obtain ⟨h1, h2⟩ := h.2 j t hj
      refine ⟨h'.2.2 (j, xUp x t) (List.mem_cons_of_mem _ (List.mem_filter.mpr ⟨xLv_in (h.lt hj) hj, ?_⟩)), h2⟩
      by_cases e2 : j + 1 = i
      · have : ¬ t.category = 2 := fun q => okS2_no hi e2 (h2 q)
        simp [e, e3, xUp_cat, this]
      · simp [e, e2, e3]
theorem g_istore_n {sc : XS} {M : MM} {pc : Nat} {L : XL} {S : List Value} {h : XH} {w : Nat × Nat} {R : Option Value → XH → Prop} {i : Fin 4} {z : Int32} (hd : decode (mB M) pc = .ok (.istore_n i, 1)) (ho : okS M i = true) (k : G sc M (pc + 1) (sL L i (.int z)) S h w R) : G sc M pc L (.int z :: S) h w R := by
  intro x p l e s mI args below meth c Q H locs ls F X hH hS hz hL
  exact lv_istore_n F.1 F.2.1 hd rfl hL.has (okS_lt ho) rfl (fun ls' hl => k x p l e s mI args below meth c Q H locs ls' F X hH hS hz (hL.set1 ho (show ¬ (1 = 2) by decide) rfl hl))
theorem g_istore {sc : XS} {M : MM} {pc : Nat} {L : XL} {S : List Value} {h : XH} {w : Nat × Nat} {R : Option Value → XH → Prop} {i : Nat} {z : Int32} (hd : decode (mB M) pc = .ok (.istore i, 2)) (ho : okS M i = true) (k : G sc M (pc + 2) (sL L i (.int z)) S h w R) : G sc M pc L (.int z :: S) h w R := by
  intro x p l e s mI args below meth c Q H locs ls F X hH hS hz hL
  exact lv_istore F.1 F.2.1 hd hL.has (okS_lt ho) rfl (fun ls' hl => k x p l e s mI args below meth c Q H locs ls' F X hH hS hz (hL.set1 ho (show ¬ (1 = 2) by decide) rfl hl))
theorem g_fstore_n {sc : XS} {M : MM} {pc : Nat} {L : XL} {S : List Value} {h : XH} {w : Nat × Nat} {R : Option Value → XH → Prop} {i : Fin 4} {z : UInt32} (hd : decode (mB M) pc = .ok (.fstore_n i, 1)) (ho : okS M i = true) (k : G sc M (pc + 1) (sL L i (.float z)) S h w R) : G sc M pc L (.float z :: S) h w R := by
  intro x p l e s mI args below meth c Q H locs ls F X hH hS hz hL
  exact lv_fstore_n F.1 F.2.1 hd rfl hL.has (okS_lt ho) rfl (fun ls' hl => k x p l e s mI args below meth c Q H locs ls' F X hH hS hz (hL.set1 ho (show ¬ (1 = 2) by decide) rfl hl))
theorem g_fstore {sc : XS} {M : MM} {pc : Nat} {L : XL} {S : List Value} {h : XH} {w : Nat × Nat} {R : Option Value → XH → Prop} {i : Nat} {z : UInt32} (hd : decode (mB M) pc = .ok (.fstore i, 2)) (ho : okS M i = true) (k : G sc M (pc + 2) (sL L i (.float z)) S h w R) : G sc M pc L (.float z :: S) h w R := by
  intro x p l e s mI args below meth c Q H locs ls F X hH hS hz hL
  exact lv_fstore F.1 F.2.1 hd hL.has (okS_lt ho) rfl (fun ls' hl => k x p l e s mI args below meth c Q H locs ls' F X hH hS hz (hL.set1 ho (show ¬ (1 = 2) by decide) rfl hl))
theorem g_astore_n {sc : XS} {M : MM} {pc : Nat} {L : XL} {S : List Value} {h : XH} {w : Nat × Nat} {R : Option Value → XH → Prop} {i : Fin 4} {z : Nat} (hd : decode (mB M) pc = .ok (.astore_n i, 1)) (ho : okS M i = true) (k : G sc M (pc + 1) (sL L i (.ref z)) S h w R) : G sc M pc L (.ref z :: S) h w R := by
  intro x p l e s mI args below meth c Q H locs ls F X hH hS hz hL
  exact lv_astore_n F.1 F.2.1 hd rfl hL.has (okS_lt ho) rfl (fun ls' hl => k x p l e s mI args below meth c Q H locs ls' F X hH hS hz (hL.set1 ho (show ¬ (1 = 2) by decide) rfl hl))
theorem g_astore {sc : XS} {M : MM} {pc : Nat} {L : XL} {S : List Value} {h : XH} {w : Nat × Nat} {R : Option Value → XH → Prop} {i : Nat} {z : Nat} (hd : decode (mB M) pc = .ok (.astore i, 2)) (ho : okS M i = true) (k : G sc M (pc + 2) (sL L i (.ref z)) S h w R) : G sc M pc L (.ref z :: S) h w R := by
  intro x p l e s mI args below meth c Q H locs ls F X hH hS hz hL
  exact lv_astore F.1 F.2.1 hd hL.has (okS_lt ho) rfl (fun ls' hl => k x p l e s mI args below meth c Q H locs ls' F X hH hS hz (hL.set1 ho (show ¬ (1 = 2) by decide) rfl hl))
theorem g_lstore_n {sc : XS} {M : MM} {pc : Nat} {L : XL} {S : List Value} {h : XH} {w : Nat × Nat} {R : Option Value → XH → Prop} {i : Fin 4} {z : Int64} (hd : decode (mB M) pc = .ok (.lstore_n i, 1)) (ho : okS2 M i = true) (k : G sc M (pc + 1) (sL2 L i (.long z)) S h w R) : G sc M pc L (.long z :: S) h w R := by
  intro x p l e s mI args below meth c Q H locs ls F X hH hS hz hL
  exact lv_lstore_n F.1 F.2.1 hd rfl hL.has (okS2_lt ho) rfl (fun ls' hl => k x p l e s mI args below meth c Q H locs ls' F X hH hS hz (hL.set2 ho rfl hl))
theorem g_lstore {sc : XS} {M : MM} {pc : Nat} {L : XL} {S : List Value} {h : XH} {w : Nat × Nat} {R : Option Value → XH → Prop} {i : Nat} {z : Int64} (hd : decode (mB M) pc = .ok (.lstore i, 2)) (ho : okS2 M i = true) (k : G sc M (pc + 2) (sL2 L i (.long z)) S h w R) : G sc M pc L (.long z :: S) h w R := by
  intro x p l e s mI args below meth c Q H locs ls F X hH hS hz hL
  exact lv_lstore F.1 F.2.1 hd hL.has (okS2_lt ho) rfl (fun ls' hl => k x p l e s mI args below meth c Q H locs ls' F X hH hS hz (hL.set2 ho rfl hl))
theorem g_dstore_n {sc : XS} {M : MM} {pc : Nat} {L : XL} {S : List Value} {h : XH} {w : Nat × Nat} {R : Option Value → XH → Prop} {i : Fin 4} {z : UInt64} (hd : decode (mB M) pc = .ok (.dstore_n i, 1)) (ho : okS2 M i = true) (k : G sc M (pc + 1) (sL2 L i (.double z)) S h w R) : G sc M pc L (.double z :: S) h w R := by
  intro x p l e s mI args below meth c Q H locs ls F X hH hS hz hL
  exact lv_dstore_n F.1 F.2.1 hd rfl hL.has (okS2_lt ho) rfl (fun ls' hl => k x p l e s mI args below meth c Q H locs ls' F X hH hS hz (hL.set2 ho rfl hl))
theorem g_dstore {sc : XS} {M : MM} {pc : Nat} {L : XL} {S : List Value} {h : XH} {w : Nat × Nat} {R : Option Value → XH → Prop} {i : Nat} {z : UInt64} (hd : decode (mB M) pc = .ok (.dstore i, 2)) (ho : okS2 M i = true) (k : G sc M (pc + 2) (sL2 L i (.double z)) S h w R) : G sc M pc L (.double z :: S) h w R := by
  intro x p l e s mI args below meth c Q H locs ls F X hH hS hz hL
  exact lv_dstore F.1 F.2.1 hd hL.has (okS2_lt ho) rfl (fun ls' hl => k x p l e s mI args below meth c Q H locs ls' F X hH hS hz (hL.set2 ho rfl hl))
theorem g_iinc {sc : XS} {M : MM} {pc : Nat} {L : XL} {S : List Value} {h : XH} {w : Nat × Nat} {R : Option Value → XH → Prop} {i : Nat} {n : Int} {z v : Int32} (hd : decode (mB M) pc = .ok (.iinc i n, 3)) (ho : okS M i = true) (hl : L i = some (.int z)) (hv : z + Int32.ofInt n = v) (k : G sc M (pc + 3) (sL L i (.int v)) S h w R) : G sc M pc L S h w R := by
  intro x p l e s mI args below meth c Q H locs ls F X hH hS hz hL
  have h9 : lv_has ls (mL M) ((i, .int z) :: xLv x M L) := ⟨hL.1.1, hL.1.2.1, fun q hq => by
    rcases List.mem_cons.mp hq with rfl | hq
    · exact (hL.2 _ _ hl).1
    · exact hL.has.2.2 q hq⟩
  refine lv_iinc F.1 F.2.1 hd h9 (k := 0) rfl hv (okS_lt ho) rfl (fun ls' hl' => k x p l e s mI args below meth c Q H locs ls' F X hH hS hz (hL.set1 ho (show ¬ (1 = 2) by decide) (show Value.int v = xUp x (.int v) from rfl) ?_))
  simpa [xUp] using hl'
theorem g_iadd {sc : XS} {M : MM} {pc : Nat} {L : XL} {S : List Value} {h : XH} {w : Nat × Nat} {R : Option Value → XH → Prop} {y z : Int32} (hd : decode (mB M) pc = .ok (.iadd, 1))  (k : G sc M (pc + 1) L (.int (z + y) :: S) h w R) : G sc M pc L (.int y :: .int z :: S) h w R := by
  intro x p l e s mI args below meth c Q H locs ls F X hH hS hz hL
  exact lv_iadd F.1 F.2.1 hd (k x p l e s mI args below meth c Q H locs ls F X hH hS hz hL)
theorem g_isub {sc : XS} {M : MM} {pc : Nat} {L : XL} {S : List Value} {h : XH} {w : Nat × Nat} {R : Option Value → XH → Prop} {y z : Int32} (hd : decode (mB M) pc = .ok (.isub, 1))  (k : G sc M (pc + 1) L (.int (z - y) :: S) h w R) : G sc M pc L (.int y :: .int z :: S) h w R := by
  intro x p l e s mI args below meth c Q H locs ls F X hH hS hz hL
  exact lv_isub F.1 F.2.1 hd (k x p l e s mI args below meth c Q H locs ls F X hH hS hz hL)
theorem g_imul {sc : XS} {M : MM} {pc : Nat} {L : XL} {S : List Value} {h : XH} {w : Nat × Nat} {R : Option Value → XH → Prop} {y z : Int32} (hd : decode (mB M) pc = .ok (.imul, 1))  (k : G sc M (pc + 1) L (.int (z * y) :: S) h w R) : G sc M pc L (.int y :: .int z :: S) h w R := by
  intro x p l e s mI args below meth c Q H locs ls F X hH hS hz hL
  exact lv_imul F.1 F.2.1 hd (k x p l e s mI args below meth c Q H locs ls F X hH hS hz hL)
theorem g_iand {sc : XS} {M : MM} {pc : Nat} {L : XL} {S : List Value} {h : XH} {w : Nat × Nat} {R : Option Value → XH → Prop} {y z : Int32} (hd : decode (mB M) pc = .ok (.iand, 1))  (k : G sc M (pc + 1) L (.int (z &&& y) :: S) h w R) : G sc M pc L (.int y :: .int z :: S) h w R := by
  intro x p l e s mI args below meth c Q H locs ls F X hH hS hz hL
  exact lv_iand F.1 F.2.1 hd (k x p l e s mI args below meth c Q H locs ls F X hH hS hz hL)
theorem g_ior {sc : XS} {M : MM} {pc : Nat} {L : XL} {S : List Value} {h : XH} {w : Nat × Nat} {R : Option Value → XH → Prop} {y z : Int32} (hd : decode (mB M) pc = .ok (.ior, 1))  (k : G sc M (pc + 1) L (.int (z ||| y) :: S) h w R) : G sc M pc L (.int y :: .int z :: S) h w R := by
  intro x p l e s mI args below meth c Q H locs ls F X hH hS hz hL
  exact lv_ior F.1 F.2.1 hd (k x p l e s mI args below meth c Q H locs ls F X hH hS hz hL)
theorem g_ixor {sc : XS} {M : MM} {pc : Nat} {L : XL} {S : List Value} {h : XH} {w : Nat × Nat} {R : Option Value → XH → Prop} {y z : Int32} (hd : decode (mB M) pc = .ok (.ixor, 1))  (k : G sc M (pc + 1) L (.int (z ^^^ y) :: S) h w R) : G sc M pc L (.int y :: .int z :: S) h w R := by
  intro x p l e s mI args below meth c Q H locs ls F X hH hS hz hL
  exact lv_ixor F.1 F.2.1 hd (k x p l e s mI args below meth c Q H locs ls F X hH hS hz hL)
theorem g_ishl {sc : XS} {M : MM} {pc : Nat} {L : XL} {S : List Value} {h : XH} {w : Nat × Nat} {R : Option Value → XH → Prop} {y z : Int32} (hd : decode (mB M) pc = .ok (.ishl, 1))  (k : G sc M (pc + 1) L (.int (z <<< (y &&& 31)) :: S) h w R) : G sc M pc L (.int y :: .int z :: S) h w R := by
  intro x p l e s mI args below meth c Q H locs ls F X hH hS hz hL
  exact lv_ishl F.1 F.2.1 hd (k x p l e s mI args below meth c Q H locs ls F X hH hS hz hL)
theorem g_ishr {sc : XS} {M : MM} {pc : Nat} {L : XL} {S : List Value} {h : XH} {w : Nat × Nat} {R : Option Value → XH → Prop} {y z : Int32} (hd : decode (mB M) pc = .ok (.ishr, 1))  (k : G sc M (pc + 1) L (.int (z >>> (y &&& 31)) :: S) h w R) : G sc M pc L (.int y :: .int z :: S) h w R := by
  intro x p l e s mI args below meth c Q H locs ls F X hH hS hz hL
  exact lv_ishr F.1 F.2.1 hd (k x p l e s mI args below meth c Q H locs ls F X hH hS hz hL)
theorem g_idiv {sc : XS} {M : MM} {pc : Nat} {L : XL} {S : List Value} {h : XH} {w : Nat × Nat} {R : Option Value → XH → Prop} {y z : Int32} (hd : decode (mB M) pc = .ok (.idiv, 1)) (hne : ¬ y = 0) (k : G sc M (pc + 1) L (.int (z / y) :: S) h w R) : G sc M pc L (.int y :: .int z :: S) h w R := by
  intro x p l e s mI args below meth c Q H locs ls F X hH hS hz hL
  exact lv_idiv F.1 F.2.1 hd hne (k x p l e s mI args below meth c Q H locs ls F X hH hS hz hL)
theorem g_irem {sc : XS} {M : MM} {pc : Nat} {L : XL} {S : List Value} {h : XH} {w : Nat × Nat} {R : Option Value → XH → Prop} {y z : Int32} (hd : decode (mB M) pc = .ok (.irem, 1)) (hne : ¬ y = 0) (k : G sc M (pc + 1) L (.int (z - z / y * y) :: S) h w R) : G sc M pc L (.int y :: .int z :: S) h w R := by
  intro x p l e s mI args below meth c Q H locs ls F X hH hS hz hL
  exact lv_irem F.1 F.2.1 hd hne (k x p l e s mI args below meth c Q H locs ls F X hH hS hz hL)
theorem g_ineg {sc : XS} {M : MM} {pc : Nat} {L : XL} {S : List Value} {h : XH} {w : Nat × Nat} {R : Option Value → XH → Prop} {z : Int32} (hd : decode (mB M) pc = .ok (.ineg, 1))  (k : G sc M (pc + 1) L (.int (-z) :: S) h w R) : G sc M pc L (.int z :: S) h w R := by
  intro x p l e s mI args below meth c Q H locs ls F X hH hS hz hL
  exact lv_ineg F.1 F.2.1 hd (k x p l e s mI args below meth c Q H locs ls F X hH hS hz hL)
theorem g_iushr {sc : XS} {M : MM} {pc : Nat} {L : XL} {S : List Value} {h : XH} {w : Nat × Nat} {R : Option Value → XH → Prop} {y z : Int32} (hd : decode (mB M) pc = .ok (.iushr, 1))  (k : G sc M (pc + 1) L (.int (z.toUInt32 >>> (y.toUInt32 &&& Int32.toUInt32 31)).toInt32 :: S) h w R) : G sc M pc L (.int y :: .int z :: S) h w R := by
  intro x p l e s mI args below meth c Q H locs ls F X hH hS hz hL
  exact lv_iushr F.1 F.2.1 hd rfl (k x p l e s mI args below meth c Q H locs ls F X hH hS hz hL)
theorem g_lshl {sc : XS} {M : MM} {pc : Nat} {L : XL} {S : List Value} {h : XH} {w : Nat × Nat} {R : Option Value → XH → Prop} {y : Int32} {z : Int64} (hd : decode (mB M) pc = .ok (.lshl, 1))  (k : G sc M (pc + 1) L (.long (z <<< (y.toInt64 &&& 63)) :: S) h w R) : G sc M pc L (.int y :: .long z :: S) h w R := by
  intro x p l e s mI args below meth c Q H locs ls F X hH hS hz hL
  exact lv_lshl F.1 F.2.1 hd rfl (k x p l e s mI args below meth c Q H locs ls F X hH hS hz hL)
theorem g_i2l {sc : XS} {M : MM} {pc : Nat} {L : XL} {S : List Value} {h : XH} {w : Nat × Nat} {R : Option Value → XH → Prop} {z : Int32} (hd : decode (mB M) pc = .ok (.i2l, 1))  (k : G sc M (pc + 1) L (.long z.toInt64 :: S) h w R) : G sc M pc L (.int z :: S) h w R := by
  intro x p l e s mI args below meth c Q H locs ls F X hH hS hz hL
  exact lv_i2l F.1 F.2.1 hd rfl (k x p l e s mI args below meth c Q H locs ls F X hH hS hz hL)
theorem g_ladd {sc : XS} {M : MM} {pc : Nat} {L : XL} {S : List Value} {h : XH} {w : Nat × Nat} {R : Option Value → XH → Prop} {y z : Int64} (hd : decode (mB M) pc = .ok (.ladd, 1))  (k : G sc M (pc + 1) L (.long (z + y) :: S) h w R) : G sc M pc L (.long y :: .long z :: S) h w R := by
  intro x p l e s mI args below meth c Q H locs ls F X hH hS hz hL
  exact lv_ladd F.1 F.2.1 hd (k x p l e s mI args below meth c Q H locs ls F X hH hS hz hL)
theorem g_lsub {sc : XS} {M : MM} {pc : Nat} {L : XL} {S : List Value} {h : XH} {w : Nat × Nat} {R : Option Value → XH → Prop} {y z : Int64} (hd : decode (mB M) pc = .ok (.lsub, 1))  (k : G sc M (pc + 1) L (.long (z - y) :: S) h w R) : G sc M pc L (.long y :: .long z :: S) h w R := by
  intro x p l e s mI args below meth c Q H locs ls F X hH hS hz hL
  exact lv_lsub F.1 F.2.1 hd (k x p l e s mI args below meth c Q H locs ls F X hH hS hz hL)
theorem g_lmul {sc : XS} {M : MM} {pc : Nat} {L : XL} {S : List Value} {h : XH} {w : Nat × Nat} {R : Option Value → XH → Prop} {y z : Int64} (hd : decode (mB M) pc = .ok (.lmul, 1))  (k : G sc M (pc + 1) L (.long (z * y) :: S) h w R) : G sc M pc L (.long y :: .long z :: S) h w R := by
  intro x p l e s mI args below meth c Q H locs ls F X hH hS hz hL
  exact lv_lmul F.1 F.2.1 hd (k x p l e s mI args below meth c Q H locs ls F X hH hS hz hL)
theorem g_lcmp {sc : XS} {M : MM} {pc : Nat} {L : XL} {S : List Value} {h : XH} {w : Nat × Nat} {R : Option Value → XH → Prop} {y z : Int64} (hd : decode (mB M) pc = .ok (.lcmp, 1))  (k : G sc M (pc + 1) L (.int (lg_cmp z y) :: S) h w R) : G sc M pc L (.long y :: .long z :: S) h w R := by
  intro x p l e s mI args below meth c Q H locs ls F X hH hS hz hL
  exact W.lcmp F.1 F.2.1 hd (k x p l e s mI args below meth c Q H locs ls F X hH hS hz hL)
theorem g_fadd {sc : XS} {M : MM} {pc : Nat} {L : XL} {S : List Value} {h : XH} {w : Nat × Nat} {R : Option Value → XH → Prop} {y z : UInt32} (hd : decode (mB M) pc = .ok (.fadd, 1)) (hne : vf_n32 (FP.fadd z y)) (k : G sc M (pc + 1) L (.float (FP.fadd z y) :: S) h w R) : G sc M pc L (.float y :: .float z :: S) h w R := by
  intro x p l e s mI args below meth c Q H locs ls F X hH hS hz hL
  exact lv_fadd F.1 F.2.1 hd hne (k x p l e s mI args below meth c Q H locs ls F X hH hS hz hL)
theorem g_dadd {sc : XS} {M : MM} {pc : Nat} {L : XL} {S : List Value} {h : XH} {w : Nat × Nat} {R : Option Value → XH → Prop} {y z : UInt64} (hd : decode (mB M) pc = .ok (.dadd, 1)) (hne : vf_n64 (FP.dadd z y)) (k : G sc M (pc + 1) L (.double (FP.dadd z y) :: S) h w R) : G sc M pc L (.double y :: .double z :: S) h w R := by
  intro x p l e s mI args below meth c Q H locs ls F X hH hS hz hL
  exact lv_dadd F.1 F.2.1 hd hne (k x p l e s mI args below meth c Q H locs ls F X hH hS hz hL)
theorem g_fsub {sc : XS} {M : MM} {pc : Nat} {L : XL} {S : List Value} {h : XH} {w : Nat × Nat} {R : Option Value → XH → Prop} {y z : UInt32} (hd : decode (mB M) pc = .ok (.fsub, 1)) (hne : vf_n32 (FP.fsub z y)) (k : G sc M (pc + 1) L (.float (FP.fsub z y) :: S) h w R) : G sc M pc L (.float y :: .float z :: S) h w R := by
  intro x p l e s mI args below meth c Q H locs ls F X hH hS hz hL
  exact lv_fsub F.1 F.2.1 hd hne (k x p l e s mI args below meth c Q H locs ls F X hH hS hz hL)
theorem g_dsub {sc : XS} {M : MM} {pc : Nat} {L : XL} {S : List Value} {h : XH} {w : Nat × Nat} {R : Option Value → XH → Prop} {y z : UInt64} (hd : decode (mB M) pc = .ok (.dsub, 1)) (hne : vf_n64 (FP.dsub z y)) (k : G sc M (pc + 1) L (.double (FP.dsub z y) :: S) h w R) : G sc M pc L (.double y :: .double z :: S) h w R := by
  intro x p l e s mI args below meth c Q H locs ls F X hH hS hz hL
  exact lv_dsub F.1 F.2.1 hd hne (k x p l e s mI args below meth c Q H locs ls F X hH hS hz hL)
theorem g_fmul {sc : XS} {M : MM} {pc : Nat} {L : XL} {S : List Value} {h : XH} {w : Nat × Nat} {R : Option Value → XH → Prop} {y z : UInt32} (hd : decode (mB M) pc = .ok (.fmul, 1)) (hne : vf_n32 (FP.fmul z y)) (k : G sc M (pc + 1) L (.float (FP.fmul z y) :: S) h w R) : G sc M pc L (.float y :: .float z :: S) h w R := by
  intro x p l e s mI args below meth c Q H locs ls F X hH hS hz hL
  exact lv_fmul F.1 F.2.1 hd hne (k x p l e s mI args below meth c Q H locs ls F X hH hS hz hL)
theorem g_dmul {sc : XS} {M : MM} {pc : Nat} {L : XL} {S : List Value} {h : XH} {w : Nat × Nat} {R : Option Value → XH → Prop} {y z : UInt64} (hd : decode (mB M) pc = .ok (.dmul, 1)) (hne : vf_n64 (FP.dmul z y)) (k : G sc M (pc + 1) L (.double (FP.dmul z y) :: S) h w R) : G sc M pc L (.double y :: .double z :: S) h w R := by
  intro x p l e s mI args below meth c Q H locs ls F X hH hS hz hL
  exact lv_dmul F.1 F.2.1 hd hne (k x p l e s mI args below meth c Q H locs ls F X hH hS hz hL)
theorem g_fdiv {sc : XS} {M : MM} {pc : Nat} {L : XL} {S : List Value} {h : XH} {w : Nat × Nat} {R : Option Value → XH → Prop} {y z : UInt32} (hd : decode (mB M) pc = .ok (.fdiv, 1)) (hne : vf_n32 (FP.fdiv z y)) (k : G sc M (pc + 1) L (.float (FP.fdiv z y) :: S) h w R) : G sc M pc L (.float y :: .float z :: S) h w R := by
  intro x p l e s mI args below meth c Q H locs ls F X hH hS hz hL
  exact lv_fdiv F.1 F.2.1 hd hne (k x p l e s mI args below meth c Q H locs ls F X hH hS hz hL)
theorem g_ddiv {sc : XS} {M : MM} {pc : Nat} {L : XL} {S : List Value} {h : XH} {w : Nat × Nat} {R : Option Value → XH → Prop} {y z : UInt64} (hd : decode (mB M) pc = .ok (.ddiv, 1)) (hne : vf_n64 (FP.ddiv z y)) (k : G sc M (pc + 1) L (.double (FP.ddiv z y) :: S) h w R) : G sc M pc L (.double y :: .double z :: S) h w R := by
  intro x p l e s mI args below meth c Q H locs ls F X hH hS hz hL
  exact lv_ddiv F.1 F.2.1 hd hne (k x p l e s mI args below meth c Q H locs ls F X hH hS hz hL)
theorem g_fcmp {sc : XS} {M : MM} {pc : Nat} {L : XL} {S : List Value} {h : XH} {w : Nat × Nat} {R : Option Value → XH → Prop} {y z : UInt32} {op : CmpOp} (hd : decode (mB M) pc = .ok (.fcmp op, 1))  (k : G sc M (pc + 1) L (.int (Op.cmpValue (FP.fcmp z y) op) :: S) h w R) : G sc M pc L (.float y :: .float z :: S) h w R := by
  intro x p l e s mI args below meth c Q H locs ls F X hH hS hz hL
  exact lv_fcmp F.1 F.2.1 hd (k x p l e s mI args below meth c Q H locs ls F X hH hS hz hL)
theorem g_dcmp {sc : XS} {M : MM} {pc : Nat} {L : XL} {S : List Value} {h : XH} {w : Nat × Nat} {R : Option Value → XH → Prop} {y z : UInt64} {op : CmpOp} (hd : decode (mB M) pc = .ok (.dcmp op, 1))  (k : G sc M (pc + 1) L (.int (Op.cmpValue (FP.dcmp z y) op) :: S) h w R) : G sc M pc L (.double y :: .double z :: S) h w R := by
  intro x p l e s mI args below meth c Q H locs ls F X hH hS hz hL
  exact lv_dcmp F.1 F.2.1 hd (k x p l e s mI args below meth c Q H locs ls F X hH hS hz hL)
theorem g_i2f {sc : XS} {M : MM} {pc : Nat} {L : XL} {S : List Value} {h : XH} {w : Nat × Nat} {R : Option Value → XH → Prop} {z : Int32} (hd : decode (mB M) pc = .ok (.i2f, 1))  (k : G sc M (pc + 1) L (.float (FP.i2f z) :: S) h w R) : G sc M pc L (.int z :: S) h w R := by
  intro x p l e s mI args below meth c Q H locs ls F X hH hS hz hL
  exact lv_i2f F.1 F.2.1 hd (k x p l e s mI args below meth c Q H locs ls F X hH hS hz hL)
theorem g_i2d {sc : XS} {M : MM} {pc : Nat} {L : XL} {S : List Value} {h : XH} {w : Nat × Nat} {R : Option Value → XH → Prop} {z : Int32} (hd : decode (mB M) pc = .ok (.i2d, 1))  (k : G sc M (pc + 1) L (.double (FP.i2d z) :: S) h w R) : G sc M pc L (.int z :: S) h w R := by
  intro x p l e s mI args below meth c Q H locs ls F X hH hS hz hL
  exact lv_i2d F.1 F.2.1 hd (k x p l e s mI args below meth c Q H locs ls F X hH hS hz hL)
theorem g_f2i {sc : XS} {M : MM} {pc : Nat} {L : XL} {S : List Value} {h : XH} {w : Nat × Nat} {R : Option Value → XH → Prop} {z : UInt32} (hd : decode (mB M) pc = .ok (.f2i, 1))  (k : G sc M (pc + 1) L (.int (FP.f2i z) :: S) h w R) : G sc M pc L (.float z :: S) h w R := by
  intro x p l e s mI args below meth c Q H locs ls F X hH hS hz hL
  exact lv_f2i F.1 F.2.1 hd (k x p l e s mI args below meth c Q H locs ls F X hH hS hz hL)
theorem g_d2l {sc : XS} {M : MM} {pc : Nat} {L : XL} {S : List Value} {h : XH} {w : Nat × Nat} {R : Option Value → XH → Prop} {z : UInt64} (hd : decode (mB M) pc = .ok (.d2l, 1))  (k : G sc M (pc + 1) L (.long (FP.d2l z) :: S) h w R) : G sc M pc L (.double z :: S) h w R := by
  intro x p l e s mI args below meth c Q H locs ls F X hH hS hz hL
  exact lv_d2l F.1 F.2.1 hd (k x p l e s mI args below meth c Q H locs ls F X hH hS hz hL)
theorem g_dup {sc : XS} {M : MM} {pc : Nat} {L : XL} {S : List Value} {h : XH} {w : Nat × Nat} {R : Option Value → XH → Prop} {y : Value} (hd : decode (mB M) pc = .ok (.dup, 1)) (hc : y.category = 1) (k : G sc M (pc + 1) L (y :: y :: S) h w R) : G sc M pc L (y :: S) h w R := by
  intro x p l e s mI args below meth c Q H locs ls F X hH hS hz hL
  exact lv_dup F.1 F.2.1 hd (by rw [xUp_cat]; exact hc) (k x p l e s mI args below meth c Q H locs ls F X hH hS hz hL)
theorem g_dup2 {sc : XS} {M : MM} {pc : Nat} {L : XL} {S : List Value} {h : XH} {w : Nat × Nat} {R : Option Value → XH → Prop} {y z : Value} (hd : decode (mB M) pc = .ok (.dup2, 1)) (hc : y.category = 1) (hc2 : z.category = 1) (k : G sc M (pc + 1) L (y :: z :: y :: z :: S) h w R) : G sc M pc L (y :: z :: S) h w R := by
  intro x p l e s mI args below meth c Q H locs ls F X hH hS hz hL
  exact lv_dup2_11 F.1 F.2.1 hd (by rw [xUp_cat]; exact hc) (by rw [xUp_cat]; exact hc2) (k x p l e s mI args below meth c Q H locs ls F X hH hS hz hL)
theorem g_if_eq {sc : XS} {M : MM} {pc : Nat} {L : XL} {S : List Value} {h : XH} {w : Nat × Nat} {R : Option Value → XH → Prop} {z : Int32} {off : Int} {tgt : Nat} (hd : decode (mB M) pc = .ok (.ifCond .eq off, 3)) (ht : (pc : Int) + off = (tgt : Int)) (kt : z = 0 → G sc M tgt L S h w R) (kf : ¬ z = 0 → G sc M (pc + 3) L S h w R) : G sc M pc L (.int z :: S) h w R := by
  intro x p l e s mI args below meth c Q H locs ls F X hH hS hz hL
  exact lv_if_eq F.1 F.2.1 hd ht (fun q => kt q x p l e s mI args below meth c Q H locs ls F X hH hS hz hL) (fun q => kf q x p l e s mI args below meth c Q H locs ls F X hH hS hz hL)
theorem g_if_ne {sc : XS} {M : MM} {pc : Nat} {L : XL} {S : List Value} {h : XH} {w : Nat × Nat} {R : Option Value → XH → Prop} {z : Int32} {off : Int} {tgt : Nat} (hd : decode (mB M) pc = .ok (.ifCond .ne off, 3)) (ht : (pc : Int) + off = (tgt : Int)) (kt : ¬ z = 0 → G sc M tgt L S h w R) (kf : z = 0 → G sc M (pc + 3) L S h w R) : G sc M pc L (.int z :: S) h w R := by
  intro x p l e s mI args below meth c Q H locs ls F X hH hS hz hL
  exact lv_if_ne F.1 F.2.1 hd ht (fun q => kt q x p l e s mI args below meth c Q H locs ls F X hH hS hz hL) (fun q => kf q x p l e s mI args below meth c Q H locs ls F X hH hS hz hL)
theorem g_if_lt {sc : XS} {M : MM} {pc : Nat} {L : XL} {S : List Value} {h : XH} {w : Nat × Nat} {R : Option Value → XH → Prop} {z : Int32} {off : Int} {tgt : Nat} (hd : decode (mB M) pc = .ok (.ifCond .lt off, 3)) (ht : (pc : Int) + off = (tgt : Int)) (kt : z < 0 → G sc M tgt L S h w R) (kf : ¬ z < 0 → G sc M (pc + 3) L S h w R) : G sc M pc L (.int z :: S) h w R := by
  intro x p l e s mI args below meth c Q H locs ls F X hH hS hz hL
  exact lv_if_lt F.1 F.2.1 hd ht (fun q => kt q x p l e s mI args below meth c Q H locs ls F X hH hS hz hL) (fun q => kf q x p l e s mI args below meth c Q H locs ls F X hH hS hz hL)
theorem g_if_ge {sc : XS} {M : MM} {pc : Nat} {L : XL} {S : List Value} {h : XH} {w : Nat × Nat} {R : Option Value → XH → Prop} {z : Int32} {off : Int} {tgt : Nat} (hd : decode (mB M) pc = .ok (.ifCond .ge off, 3)) (ht : (pc : Int) + off = (tgt : Int)) (kt : 0 ≤ z → G sc M tgt L S h w R) (kf : ¬ 0 ≤ z → G sc M (pc + 3) L S h w R) : G sc M pc L (.int z :: S) h w R := by
  intro x p l e s mI args below meth c Q H locs ls F X hH hS hz hL
  exact lv_if_ge F.1 F.2.1 hd ht (fun q => kt q x p l e s mI args below meth c Q H locs ls F X hH hS hz hL) (fun q => kf q x p l e s mI args below meth c Q H locs ls F X hH hS hz hL)
theorem g_if_gt {sc : XS} {M : MM} {pc : Nat} {L : XL} {S : List Value} {h : XH} {w : Nat × Nat} {R : Option Value → XH → Prop} {z : Int32} {off : Int} {tgt : Nat} (hd : decode (mB M) pc = .ok (.ifCond .gt off, 3)) (ht : (pc : Int) + off = (tgt : Int)) (kt : 0 < z → G sc M tgt L S h w R) (kf : ¬ 0 < z → G sc M (pc + 3) L S h w R) : G sc M pc L (.int z :: S) h w R := by
  intro x p l e s mI args below meth c Q H locs ls F X hH hS hz hL
  exact lv_if_gt F.1 F.2.1 hd ht (fun q => kt q x p l e s mI args below meth c Q H locs ls F X hH hS hz hL) (fun q => kf q x p l e s mI args below meth c Q H locs ls F X hH hS hz hL)
theorem g_if_le {sc : XS} {M : MM} {pc : Nat} {L : XL} {S : List Value} {h : XH} {w : Nat × Nat} {R : Option Value → XH → Prop} {z : Int32} {off : Int} {tgt : Nat} (hd : decode (mB M) pc = .ok (.ifCond .le off, 3)) (ht : (pc : Int) + off = (tgt : Int)) (kt : z ≤ 0 → G sc M tgt L S h w R) (kf : ¬ z ≤ 0 → G sc M (pc + 3) L S h w R) : G sc M pc L (.int z :: S) h w R := by
  intro x p l e s mI args below meth c Q H locs ls F X hH hS hz hL
  exact lv_if_le F.1 F.2.1 hd ht (fun q => kt q x p l e s mI args below meth c Q H locs ls F X hH hS hz hL) (fun q => kf q x p l e s mI args below meth c Q H locs ls F X hH hS hz hL)
theorem g_icmp_eq {sc : XS} {M : MM} {pc : Nat} {L : XL} {S : List Value} {h : XH} {w : Nat × Nat} {R : Option Value → XH → Prop} {y z : Int32} {off : Int} {tgt : Nat} (hd : decode (mB M) pc = .ok (.if_icmp .eq off, 3)) (ht : (pc : Int) + off = (tgt : Int)) (kt : z = y → G sc M tgt L S h w R) (kf : ¬ z = y → G sc M (pc + 3) L S h w R) : G sc M pc L (.int y :: .int z :: S) h w R := by
  intro x p l e s mI args below meth c Q H locs ls F X hH hS hz hL
  exact lv_icmp_eq F.1 F.2.1 hd ht (fun q => kt q x p l e s mI args below meth c Q H locs ls F X hH hS hz hL) (fun q => kf q x p l e s mI args below meth c Q H locs ls F X hH hS hz hL)
theorem g_icmp_ne {sc : XS} {M : MM} {pc : Nat} {L : XL} {S : List Value} {h : XH} {w : Nat × Nat} {R : Option Value → XH → Prop} {y z : Int32} {off : Int} {tgt : Nat} (hd : decode (mB M) pc = .ok (.if_icmp .ne off, 3)) (ht : (pc : Int) + off = (tgt : Int)) (kt : ¬ z = y → G sc M tgt L S h w R) (kf : z = y → G sc M (pc + 3) L S h w R) : G sc M pc L (.int y :: .int z :: S) h w R := by
  intro x p l e s mI args below meth c Q H locs ls F X hH hS hz hL
  exact lv_icmp_ne F.1 F.2.1 hd ht (fun q => kt q x p l e s mI args below meth c Q H locs ls F X hH hS hz hL) (fun q => kf q x p l e s mI args below meth c Q H locs ls F X hH hS hz hL)
theorem g_icmp_lt {sc : XS} {M : MM} {pc : Nat} {L : XL} {S : List Value} {h : XH} {w : Nat × Nat} {R : Option Value → XH → Prop} {y z : Int32} {off : Int} {tgt : Nat} (hd : decode (mB M) pc = .ok (.if_icmp .lt off, 3)) (ht : (pc : Int) + off = (tgt : Int)) (kt : z < y → G sc M tgt L S h w R) (kf : ¬ z < y → G sc M (pc + 3) L S h w R) : G sc M pc L (.int y :: .int z :: S) h w R := by
  intro x p l e s mI args below meth c Q H locs ls F X hH hS hz hL
  exact lv_icmp_lt F.1 F.2.1 hd ht (fun q => kt q x p l e s mI args below meth c Q H locs ls F X hH hS hz hL) (fun q => kf q x p l e s mI args below meth c Q H locs ls F X hH hS hz hL)
theorem g_icmp_ge {sc : XS} {M : MM} {pc : Nat} {L : XL} {S : List Value} {h : XH} {w : Nat × Nat} {R : Option Value → XH → Prop} {y z : Int32} {off : Int} {tgt : Nat} (hd : decode (mB M) pc = .ok (.if_icmp .ge off, 3)) (ht : (pc : Int) + off = (tgt : Int)) (kt : y ≤ z → G sc M tgt L S h w R) (kf : ¬ y ≤ z → G sc M (pc + 3) L S h w R) : G sc M pc L (.int y :: .int z :: S) h w R := by
  intro x p l e s mI args below meth c Q H locs ls F X hH hS hz hL
  exact lv_icmp_ge F.1 F.2.1 hd ht (fun q => kt q x p l e s mI args below meth c Q H locs ls F X hH hS hz hL) (fun q => kf q x p l e s mI args below meth c Q H locs ls F X hH hS hz hL)
theorem g_icmp_gt {sc : XS} {M : MM} {pc : Nat} {L : XL} {S : List Value} {h : XH} {w : Nat × Nat} {R : Option Value → XH → Prop} {y z : Int32} {off : Int} {tgt : Nat} (hd : decode (mB M) pc = .ok (.if_icmp .gt off, 3)) (ht : (pc : Int) + off = (tgt : Int)) (kt : y < z → G sc M tgt L S h w R) (kf : ¬ y < z → G sc M (pc + 3) L S h w R) : G sc M pc L (.int y :: .int z :: S) h w R := by
  intro x p l e s mI args below meth c Q H locs ls F X hH hS hz hL
  exact lv_icmp_gt F.1 F.2.1 hd ht (fun q => kt q x p l e s mI args below meth c Q H locs ls F X hH hS hz hL) (fun q => kf q x p l e s mI args below meth c Q H locs ls F X hH hS hz hL)
theorem g_icmp_le {sc : XS} {M : MM} {pc : Nat} {L : XL} {S : List Value} {h : XH} {w : Nat × Nat} {R : Option Value → XH → Prop} {y z : Int32} {off : Int} {tgt : Nat} (hd : decode (mB M) pc = .ok (.if_icmp .le off, 3)) (ht : (pc : Int) + off = (tgt : Int)) (kt : z ≤ y → G sc M tgt L S h w R) (kf : ¬ z ≤ y → G sc M (pc + 3) L S h w R) : G sc M pc L (.int y :: .int z :: S) h w R := by
  intro x p l e s mI args below meth c Q H locs ls F X hH hS hz hL
  exact lv_icmp_le F.1 F.2.1 hd ht (fun q => kt q x p l e s mI args below meth c Q H locs ls F X hH hS hz hL) (fun q => kf q x p l e s mI args below meth c Q H locs ls F X hH hS hz hL)
theorem g_goto {sc : XS} {M : MM} {pc : Nat} {L : XL} {S : List Value} {h : XH} {w : Nat × Nat} {R : Option Value → XH → Prop} {off : Int} {tgt : Nat} (hd : decode (mB M) pc = .ok (.goto off, 3)) (ht : (pc : Int) + off = (tgt : Int)) (k : G sc M tgt L S h w R) : G sc M pc L S h w R := by
  intro x p l e s mI args below meth c Q H locs ls F X hH hS hz hL
  exact lv_goto F.1 F.2.1 hd ht (k x p l e s mI args below meth c Q H locs ls F X hH hS hz hL)
theorem g_ifnonnull {sc : XS} {M : MM} {pc : Nat} {L : XL} {S : List Value} {h : XH} {w : Nat × Nat} {R : Option Value → XH → Prop} {z : Nat} {off : Int} {tgt : Nat} (hd : decode (mB M) pc = .ok (.ifnonnull off, 3)) (ht : (pc : Int) + off = (tgt : Int)) (k : G sc M tgt L S h w R) : G sc M pc L (.ref z :: S) h w R := by
  intro x p l e s mI args below meth c Q H locs ls F X hH hS hz hL
  exact lv_ifnonnull F.1 F.2.1 hd ht (k x p l e s mI args below meth c Q H locs ls F X hH hS hz hL)
theorem g_ifnull {sc : XS} {M : MM} {pc : Nat} {L : XL} {S : List Value} {h : XH} {w : Nat × Nat} {R : Option Value → XH → Prop} {z : Nat} {off : Int} (hd : decode (mB M) pc = .ok (.ifnull off, 3)) (k : G sc M (pc + 3) L S h w R) : G sc M pc L (.ref z :: S) h w R := by
  intro x p l e s mI args below meth c Q H locs ls F X hH hS hz hL
  exact lv_ifnull F.1 F.2.1 hd (k x p l e s mI args below meth c Q H locs ls F X hH hS hz hL)
def tswT (pc : Nat) (dflt lo hi : Int) (offs : Array Int) (z : Int) : Int := if z < lo ∨ hi < z then (pc : Int) + dflt else (pc : Int) + (offs[(z - lo).toNat]?).getD 0
theorem g_tsw {sc : XS} {M : MM} {pc : Nat} {L : XL} {S : List Value} {h : XH} {w : Nat × Nat} {R : Option Value → XH → Prop} {z : Int32} {dflt lo hi : Int} {offs : Array Int} {len : Nat} {tgt : Nat} (hd : decode (mB M) pc = .ok (.tableswitch dflt lo hi offs, len)) (ht : tswT pc dflt lo hi offs z.toInt = (tgt : Int)) (hz : (hi - lo).toNat < offs.size) (k : G sc M tgt L S h w R) : G sc M pc L (.int z :: S) h w R := by
  intro x p l e s mI args below meth c Q H locs ls F X hH hS hz hL
  unfold tswT at ht
  by_cases hr : z.toInt < lo ∨ hi < z.toInt
  · rw [if_pos hr] at ht
    exact lv_tableOut F.1 F.2.1 hd hr ht (k x p l e s mI args below meth c Q H locs ls F X hH hS hz hL)
  · rw [if_neg hr] at ht
    have hlt : (z.toInt - lo).toNat < offs.size := by omega
    have hg : offs[(z.toInt - lo).toNat]? = some offs[(z.toInt - lo).toNat] := Array.getElem?_eq_getElem hlt
    rw [hg] at ht
    exact lv_tableIn F.1 F.2.1 hd (fun q => hr (Or.inl q)) (fun q => hr (Or.inr q)) hg ht (k x p l e s mI args below meth c Q H locs ls F X hH hS hz hL)
theorem g_lsw {sc : XS} {M : MM} {pc : Nat} {L : XL} {S : List Value} {h : XH} {w : Nat × Nat} {R : Option Value → XH → Prop} {z : Int32} {dflt : Int} {ps : Array (Int × Int)} {len : Nat} {tgt : Nat} (hd : decode (mB M) pc = .ok (.lookupswitch dflt ps, len)) (hp : (ps.toList.zip (ps.toList.drop 1)).all (fun (a, next) => a.1 < next.1) = true) (ht : (pc : Int) + Op.lookupswitch.offset ps.toList dflt z.toInt = (tgt : Int)) (k : G sc M tgt L S h w R) : G sc M pc L (.int z :: S) h w R := by
  intro x p l e s mI args below meth c Q H locs ls F X hH hS hz hL
  exact lv_lookup F.1 F.2.1 hd hp rfl ht (k x p l e s mI args below meth c Q H locs ls F X hH hS hz hL)
theorem g_ldcf {sc : XS} {M : MM} {pc : Nat} {L : XL} {S : List Value} {h : XH} {w : Nat × Nat} {R : Option Value → XH → Prop} {idx : Nat} {v : UInt32} (hd : decode (mB M) pc = .ok (.ldc idx, 2)) (hw : Cond.constantFloat (mY M).cls idx v ∈ gW) (k : G sc M (pc + 2) L (.float v :: S) h w R) : G sc M pc L S h w R := by
  intro x p l e s mI args below meth c Q H locs ls F X hH hS hz hL
  exact lv_ldcf F.1 F.2.1 F.2.2.2.1 (F.2.2.2.2.1 _ hw) hd (k x p l e s mI args below meth c Q H locs ls F X hH hS hz hL)
theorem g_ldci {sc : XS} {M : MM} {pc : Nat} {L : XL} {S : List Value} {h : XH} {w : Nat × Nat} {R : Option Value → XH → Prop} {idx : Nat} {v : Int32} (hd : decode (mB M) pc = .ok (.ldc idx, 2)) (hw : Cond.constant (mY M).cls idx v ∈ gW) (k : G sc M (pc + 2) L (.int v :: S) h w R) : G sc M pc L S h w R := by
  intro x p l e s mI args below meth c Q H locs ls F X hH hS hz hL
  exact lv_ldc F.1 F.2.1 F.2.2.2.1 (F.2.2.2.2.1 _ hw) hd (k x p l e s mI args below meth c Q H locs ls F X hH hS hz hL)
theorem g_ldcw {sc : XS} {M : MM} {pc : Nat} {L : XL} {S : List Value} {h : XH} {w : Nat × Nat} {R : Option Value → XH → Prop} {idx : Nat} {v : Int32} (hd : decode (mB M) pc = .ok (.ldc_w idx, 3)) (hw : Cond.constant (mY M).cls idx v ∈ gW) (k : G sc M (pc + 3) L (.int v :: S) h w R) : G sc M pc L S h w R := by
  intro x p l e s mI args below meth c Q H locs ls F X hH hS hz hL
  exact lv_ldcw F.1 F.2.1 F.2.2.2.1 (F.2.2.2.2.1 _ hw) hd (k x p l e s mI args below meth c Q H locs ls F X hH hS hz hL)
theorem g_ldcl {sc : XS} {M : MM} {pc : Nat} {L : XL} {S : List Value} {h : XH} {w : Nat × Nat} {R : Option Value → XH → Prop} {idx : Nat} {v : Int64} (hd : decode (mB M) pc = .ok (.ldc2_w idx, 3)) (hw : Cond.constantLong (mY M).cls idx v ∈ gW) (k : G sc M (pc + 3) L (.long v :: S) h w R) : G sc M pc L S h w R := by
  intro x p l e s mI args below meth c Q H locs ls F X hH hS hz hL
  exact lv_ldc2 F.1 F.2.1 F.2.2.2.1 (F.2.2.2.2.1 _ hw) hd (k x p l e s mI args below meth c Q H locs ls F X hH hS hz hL)
theorem g_ldcd {sc : XS} {M : MM} {pc : Nat} {L : XL} {S : List Value} {h : XH} {w : Nat × Nat} {R : Option Value → XH → Prop} {idx : Nat} {v : UInt64} (hd : decode (mB M) pc = .ok (.ldc2_w idx, 3)) (hw : Cond.constantDouble (mY M).cls idx v ∈ gW) (k : G sc M (pc + 3) L (.double v :: S) h w R) : G sc M pc L S h w R := by
  intro x p l e s mI args below meth c Q H locs ls F X hH hS hz hL
  exact lv_ldc2d F.1 F.2.1 F.2.2.2.1 (F.2.2.2.2.1 _ hw) hd (k x p l e s mI args below meth c Q H locs ls F X hH hS hz hL)
theorem g_iret {sc : XS} {M : MM} {pc : Nat} {L : XL} {S : List Value} {h : XH} {w : Nat × Nat} {R : Option Value → XH → Prop} {z : Int32} (hd : decode (mB M) pc = .ok (.ireturn, 1)) (hr : mR M = some .int) (hR : R (some (.int z)) h) (hw1 : w.1 ≤ mCe M) (hw2 : w.2 ≤ mSl M) : G sc M pc L [.int z] h w R := by
  intro x p l e s mI args below meth c Q H locs ls F X hH hS hz hL
  exact X (some (.int z)) h H locs pc ls w hR hH hS ⟨hd, Or.inl hr⟩ hw1 hw2
theorem g_lret {sc : XS} {M : MM} {pc : Nat} {L : XL} {S : List Value} {h : XH} {w : Nat × Nat} {R : Option Value → XH → Prop} {z : Int64} (hd : decode (mB M) pc = .ok (.lreturn, 1)) (hr : mR M = some .long) (hR : R (some (.long z)) h) (hw1 : w.1 ≤ mCe M) (hw2 : w.2 ≤ mSl M) : G sc M pc L [.long z] h w R := by
  intro x p l e s mI args below meth c Q H locs ls F X hH hS hz hL
  exact X (some (.long z)) h H locs pc ls w hR hH hS ⟨hd, hr⟩ hw1 hw2
theorem g_fret {sc : XS} {M : MM} {pc : Nat} {L : XL} {S : List Value} {h : XH} {w : Nat × Nat} {R : Option Value → XH → Prop} {z : UInt32} (hd : decode (mB M) pc = .ok (.freturn, 1)) (hr : mR M = some .float) (hR : R (some (.float z)) h) (hw1 : w.1 ≤ mCe M) (hw2 : w.2 ≤ mSl M) : G sc M pc L [.float z] h w R := by
  intro x p l e s mI args below meth c Q H locs ls F X hH hS hz hL
  exact X (some (.float z)) h H locs pc ls w hR hH hS ⟨hd, hr⟩ hw1 hw2
theorem g_dret {sc : XS} {M : MM} {pc : Nat} {L : XL} {S : List Value} {h : XH} {w : Nat × Nat} {R : Option Value → XH → Prop} {z : UInt64} (hd : decode (mB M) pc = .ok (.dreturn, 1)) (hr : mR M = some .double) (hR : R (some (.double z)) h) (hw1 : w.1 ≤ mCe M) (hw2 : w.2 ≤ mSl M) : G sc M pc L [.double z] h w R := by
  intro x p l e s mI args below meth c Q H locs ls F X hH hS hz hL
  exact X (some (.double z)) h H locs pc ls w hR hH hS ⟨hd, hr⟩ hw1 hw2
theorem g_zret {sc : XS} {M : MM} {pc : Nat} {L : XL} {S : List Value} {h : XH} {w : Nat × Nat} {R : Option Value → XH → Prop} {z : Int32} (hd : decode (mB M) pc = .ok (.ireturn, 1)) (hr : mR M = some .boolean) (hzz : z = 0 ∨ z = 1) (hR : R (some (.int z)) h) (hw1 : w.1 ≤ mCe M) (hw2 : w.2 ≤ mSl M) : G sc M pc L [.int z] h w R := by
  intro x p l e s mI args below meth c Q H locs ls F X hH hS hz hL
  exact X (some (.int z)) h H locs pc ls w hR hH hS ⟨hd, Or.inr ⟨hr, hzz⟩⟩ hw1 hw2
theorem g_vret {sc : XS} {M : MM} {pc : Nat} {L : XL} {S : List Value} {h : XH} {w : Nat × Nat} {R : Option Value → XH → Prop} (hd : decode (mB M) pc = .ok (.return_, 1)) (hr : mR M = none) (hR : R none h) (hw1 : w.1 ≤ mCe M) (hw2 : w.2 ≤ mSl M) : G sc M pc L [] h w R := by
  intro x p l e s mI args below meth c Q H locs ls F X hH hS hz hL
  exact X none h H locs pc ls w hR hH hS ⟨hd, hr⟩ hw1 hw2
