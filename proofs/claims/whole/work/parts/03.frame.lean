/-! THE FRAME: an abstract heap of cells with fixed numbers; G: a walk from a point of a method, over every context; E: a method's contract. -/
/-- the good words of the tables -/
def gW : List Cond := lw_tbl.filter goodWord
theorem gW_tbl {w : Cond} (h : w ∈ gW) : w ∈ lw_tbl := (List.mem_filter.mp h).1
theorem gW_good {w : Cond} (h : w ∈ gW) : goodWord w = true := (List.mem_filter.mp h).2
theorem gW_of {w : Cond} (h : w ∈ lw_tbl) (g : goodWord w = true) : w ∈ gW := List.mem_filter.mpr ⟨h, g⟩
/-- a method: name, code, locals, answer, slots of longs and doubles, room (frames, locals, cells, slots) -/
abbrev MM : Type := MethodName × ByteArray × Nat × Option FieldType × List Nat × (Nat × Nat × Nat × Nat)
abbrev mY (M : MM) : MethodName := M.1
abbrev mB (M : MM) : ByteArray := M.2.1
abbrev mL (M : MM) : Nat := M.2.2.1
abbrev mR (M : MM) : Option FieldType := M.2.2.2.1
abbrev mC2 (M : MM) : List Nat := M.2.2.2.2.1
abbrev mFr (M : MM) : Nat := M.2.2.2.2.2.1
abbrev mLo (M : MM) : Nat := M.2.2.2.2.2.2.1
abbrev mCe (M : MM) : Nat := M.2.2.2.2.2.2.2.1
abbrev mSl (M : MM) : Nat := M.2.2.2.2.2.2.2.2
def gR (M : MM) : Room := { frames := mFr M, cells := mCe M, slots := mSl M, locals := mLo M }
def gWs (M : MM) : List Cond := Cond.code (mY M) (mB M) (mL M) (mR M) :: gW
/-- the abstract heap: kinds and lengths of the cells from number 5 on; references (0: null, n + 1: cell n); ints; doubles -/
abbrev XH : Type := (List (Nat × Nat)) × (Nat → Nat → Nat) × (Nat → Nat → Int32) × (Nat → Nat → UInt64)
/-- where it lies: first address, the script, the static arrays; classes; classes of arrays -/
abbrev XX : Type := (Nat × Nat × (Nat → Nat)) × va_G × (Nat → ClassId)
/-- the script: its length, its ints -/
abbrev XS : Type := Nat × (Nat → Int32)
abbrev XL : Type := Nat → Option Value
def xN (x : XX) : Nat := x.1.1
def xB (x : XX) : Nat := x.1.2.1
def xSt (x : XX) : Nat → Nat := x.1.2.2
def xD (x : XX) : va_G := x.2.1
def xCA (x : XX) : Nat → ClassId := x.2.2
def xAd (x : XX) (c : Nat) : Nat := if c = 0 then xB x else if c < 5 then xSt x c else xN x + (c - 5)
def xUp (x : XX) : Value → Value
  | .ref c => .ref (xAd x c)
  | v => v
def xRo (x : XX) (n : Nat) : Option Nat := if n = 0 then none else some (xAd x (n - 1))
/-- what kind of thing a field of a class holds: 0 an int, 1 a double, 2 a reference -/
def xTy (ci k : Nat) : Nat := match (vwCl.getD ci ("", fun _ => ("", "", "", false), 0)).2.1 k |>.2.2.1 with
  | "I" => 0
  | "D" => 1
  | _ => 2
def xFv (x : XX) (h : XH) (c ci k : Nat) : Value := if xTy ci k = 0 then .int (h.2.2.1 c k) else if xTy ci k = 1 then .double (h.2.2.2 c k) else va_rf (xRo x (h.2.1 c k))
def xEn (x : XX) (h : XH) (c : Nat) (q : Nat × Nat) : va_E :=
  if q.1 < 9 then .inr (q.1, (List.range q.2).map (fun k => xFv x h c q.1 k))
  else if q.1 = 12 then .inl (xCA x 12, q.2, .inr (.inr (.inr (.inr (fun i => xRo x (h.2.1 c i))))))
  else .inl (xCA x q.1, q.2, .inl (h.2.2.1 c))
def xWs (x : XX) (h : XH) : va_W := (List.range h.1.length).map (fun i => (xN x + i, xEn x h (i + 5) (h.1.getD i (0, 0))))
def xTys (x : XX) : List (ClassId × FieldType) := [(xCA x 10, .int), (xCA x 11, .boolean), (xCA x 12, .object "PosterSheet$Layout")]
def xA (x : XX) : Nat → Prop := fun q => xN x ≤ q
/-- links of nest mates: fields, methods -/
def nF : List (String × Nat × String × String × String × String) := [("PosterSheet$Layout", 75, "PosterSheet", "LEAST_SETTING", "[I", "PosterSheet"), ("PosterSheet$Layout", 78, "PosterSheet", "MOST_SETTING", "[I", "PosterSheet"), ("PosterSheet$Layout", 81, "PosterSheet", "LEAST_TRAIT", "[I", "PosterSheet"), ("PosterSheet$Layout", 84, "PosterSheet", "MOST_TRAIT", "[I", "PosterSheet")]
def nM : List (String × Nat × MethodName × String) := [("PosterSheet", 28, ⟨"PosterSheet$Scales", "<init>", "()V"⟩, "PosterSheet"), ("PosterSheet$Layout", 60, ⟨"PosterSheet", "within", "(III)Z"⟩, "PosterSheet"), ("PosterSheet$Layout", 68, ⟨"PosterSheet", "goodIf", "(Z)I"⟩, "PosterSheet"), ("PosterSheet$Layout", 142, ⟨"PosterSheet", "isPlace", "(II)Z"⟩, "PosterSheet"), ("PosterSheet$Places", 34, ⟨"PosterSheet", "placeOf", "(II)I"⟩, "PosterSheet"), ("PosterSheet$Places", 48, ⟨"PosterSheet", "distance", "(II)I"⟩, "PosterSheet"), ("PosterSheet$White", 105, ⟨"PosterSheet", "placeOf", "(II)I"⟩, "PosterSheet"), ("PosterSheet$White", 122, ⟨"PosterSheet", "within", "(III)Z"⟩, "PosterSheet"), ("PosterSheet$Series", 25, ⟨"PosterSheet", "within", "(III)Z"⟩, "PosterSheet"), ("PosterSheet$Series", 74, ⟨"PosterSheet", "distance", "(II)I"⟩, "PosterSheet"), ("PosterSheet$Text", 21, ⟨"PosterSheet", "within", "(III)Z"⟩, "PosterSheet")]
/-- the static arrays 1 to 4 -/
def sNm : Nat → String
  | 1 => "LEAST_SETTING"
  | 2 => "MOST_SETTING"
  | 3 => "LEAST_TRAIT"
  | _ => "MOST_TRAIT"
def sRow : Nat → List Int32
  | 1 => [0, 0, 10, 10, 0]
  | 2 => [2, 2, 80, 30, 6]
  | 3 => [0, 1, 1, 1]
  | _ => [1, 6, 4, 4]
/-- what the tables say -/
def xTab (x : XX) (s : State) : Prop := va_K (xD x) vwCl (xTys x) s ∧ (∀ q ∈ nF, va_Nw (.fieldLinkNest q.1 q.2.1 q.2.2.1 q.2.2.2.1 q.2.2.2.2.1 q.2.2.2.2.2) s) ∧ (∀ q ∈ nM, va_Nw (.methodLinkNest q.1 q.2.1 q.2.2.1 q.2.2.2) s) ∧ va_AO "PosterSheet$Layout" s
/-- what lies outside: the script, the static arrays -/
def xExt (x : XX) (sc : XS) (s : State) (H : Heap) : Prop := va_X (xB x) sc.1 sc.2 s H ∧ xB x < xN x ∧ (∀ j, 1 ≤ j → j < 5 → va_T .int (xSt x j) (sRow j).length (fun i => .int ((sRow j).getD i 0)) (xA x) s H ∧ va_Z "PosterSheet" (sNm j) "[I" (.ref (xSt x j)) (xA x) s H)
/-- the heap holds the abstract one -/
def xHp (x : XX) (h : XH) (H : Heap) : Prop := H.size = xN x + h.1.length ∧ va_P (xD x) vwCl (xWs x h) H
def xLR (x : XX) (M : MM) (ls : Array Slot) (L : XL) : Prop := lv_has ls (mL M) [] ∧ ∀ i v, L i = some v → ls[i]? = some (.val (xUp x v)) ∧ (v.category = 2 → i ∈ mC2 M)
def gFix (sc : XS) (M : MM) (x : XX) (p : Program) (s : State) (mI : MethodId) (args : Array Value) (meth : Method) (c : Code) : Prop :=
  p.tables.exec = Jvm.exec ∧ c.code = mB M ∧ c.maxLocals = mL M ∧ s.vm.findClass (mY M).cls = some mI.cls ∧ (∀ w ∈ gW, w.before args s = true) ∧ meth.sig.returnType = mR M ∧ meth.locks = false ∧ meth.name = (mY M).name ∧ xTab x s ∧ xExt x sc s s.heap ∧ xN x ≤ s.heap.size
/-- a return of v at pc -/
def gRet (M : MM) (pc : Nat) : Option Value → Prop
  | none => decode (mB M) pc = .ok (.return_, 1) ∧ mR M = none
  | some (.int z) => decode (mB M) pc = .ok (.ireturn, 1) ∧ (mR M = some .int ∨ (mR M = some .boolean ∧ (z = 0 ∨ z = 1)))
  | some (.long _) => decode (mB M) pc = .ok (.lreturn, 1) ∧ mR M = some .long
  | some (.float _) => decode (mB M) pc = .ok (.freturn, 1) ∧ mR M = some .float
  | some (.double _) => decode (mB M) pc = .ok (.dreturn, 1) ∧ mR M = some .double
  | _ => False
def G (sc : XS) (M : MM) (pc : Nat) (L : XL) (S : List Value) (h : XH) (w : Nat × Nat) (R : Option Value → XH → Prop) : Prop :=
  ∀ (x : XX) (p : Program) (l : Launch) (e : Env) (s : State) (mI : MethodId) (args : Array Value) (below : List Frame) (meth : Method) (c : Code) (Q : State → Prop) (H : Heap) (locs : List Loc) (ls : Array Slot),
    gFix sc M x p s mI args meth c →
    (∀ (v : Option Value) (h' : XH) (H' : Heap) (locs' : List Loc) (pc' : Nat) (ls' : Array Slot) (w' : Nat × Nat), R v h' → xHp x h' H' → va_S (xA x) s.heap H' locs' → gRet M pc' v → w'.1 ≤ mCe M → w'.2 ≤ mSl M → W p l e (gR M) s mI args below meth c H' locs' w'.1 w'.2 Q (F0 mI pc' ls' (v.toList.map (xUp x)))) →
    xHp x h H → va_S (xA x) s.heap H locs → H.size = s.heap.size + w.1 → xLR x M ls L →
    W p l e (gR M) s mI args below meth c H locs w.1 w.2 Q (F0 mI pc ls (S.map (xUp x)))
def xPc (x : XX) (sc : XS) (args : List Value) (h : XH) : Array Value → State → Prop := va_Pc (args.map (xUp x)) (fun U => xTab x U ∧ xExt x sc U U.heap ∧ xHp x h U.heap)
def xQc (x : XX) (h' : XH) (v : Option Value) : Array Value → State → Outcome → State → Prop := fun _ st o t => o = .returned (v.map (xUp x)) ∧ xHp x h' t.heap ∧ va_F (xA x) st t
/-- the contract: with these arguments and this heap the method answers v, and this is the heap behind it -/
def E (M : MM) (args : List Value) (h : XH) (v : Option Value) (h' : XH) : Prop :=
  ∀ (sc : XS) (l : Launch) (x : XX), Met l (mY M) (gWs M) (gR M) (xPc x sc args h) (xQc x h' v) (mCe M) (mSl M) (xA x)
theorem xTab.warm {x : XX} {s U : State} (hW : s.WarmedH U.vm) (h : xTab x s) : xTab x U :=
  ⟨h.1.moved hW.alike, fun q hq => (h.2.1 q hq).warmF hW, fun q hq => (h.2.2.1 q hq).warmM hW, h.2.2.2.moved hW.alike⟩
theorem xA_ext {x : XX} {H0 H : Heap} {locs : List Loc} (hS : va_S (xA x) H0 H locs) : ∀ a : Nat, a < H0.size → ¬ xA x a → H[a]? = H0[a]? := fun a h1 h2 => hS.2.1 a h1 h2
theorem xExt.move {x : XX} {sc : XS} {s U : State} {H0 H : Heap} (hvm : s.vm.Alike U.vm) (hq : ∀ a : Nat, a < H0.size → ¬ xA x a → H[a]? = H0[a]?) (h : xExt x sc s H0) : xExt x sc U H := by
  obtain ⟨⟨scr, h1, h2, h3⟩, hb, h4⟩ := h
  refine ⟨⟨scr, ?_, State.isArrayOf_alike hvm h2, h3⟩, hb, fun j hj hj2 => ⟨((h4 j hj hj2).1.moved hvm).kept hq, (va_Z.moved hvm (h4 j hj hj2).2).kept hq⟩⟩
  rw [hq _ (Array.getElem?_eq_some_iff.mp h1).1 (by unfold xA; omega)]
  exact h1
theorem xWs_get {x : XX} {h : XH} {i : Nat} {q : Nat × Nat} (hi : h.1[i]? = some q) : (xWs x h)[i]? = some (xN x + i, xEn x h (i + 5) q) := by
  have hl := (List.getElem?_eq_some_iff.mp hi).1
  unfold xWs
  rw [List.getElem?_map, List.getElem?_range hl]
  simp [List.getD_eq_getElem?_getD, hi]
theorem xWs_len (x : XX) (h : XH) : (xWs x h).length = h.1.length := by unfold xWs; rw [List.length_map, List.length_range]
theorem xWs_D (x : XX) (h : XH) : va_D (xA x) (xWs x h) := by
  have key : ∀ (i : Nat) (q : Nat × va_E), (xWs x h)[i]? = some q → q.1 = xN x + i := by
    intro i q hq
    have hl : i < h.1.length := by rw [← xWs_len x h]; exact (List.getElem?_eq_some_iff.mp hq).1
    unfold xWs at hq
    rw [List.getElem?_map, List.getElem?_range hl] at hq
    cases hq
    rfl
  refine ⟨fun i j p q hi hj e => ?_, fun k q hk => ?_⟩
  · have a := key i p hi; have b := key j q hj; omega
  · have a := key k q hk; unfold xA; omega
/-- one cell is another, all else is as it was -/
theorem xWs_set {x : XX} {h h' : XH} {i : Nat} {q : Nat × Nat} (hs : h'.1 = h.1) (hi : h.1[i]? = some q) (ho : ∀ (j : Nat) (r : Nat × Nat), j ≠ i → xEn x h' (j + 5) r = xEn x h (j + 5) r) : xWs x h' = (xWs x h).set i (xN x + i, xEn x h' (i + 5) q) := by
  have hl := (List.getElem?_eq_some_iff.mp hi).1
  refine List.ext_getElem? fun j => ?_
  by_cases hj : j < h.1.length
  · have hq : h.1[j]? = some h.1[j] := List.getElem?_eq_getElem hj
    rw [xWs_get (h := h') (q := h.1[j]) (by rw [hs]; exact hq)]
    by_cases e : j = i
    · subst e
      rw [List.getElem?_set_self (by rw [xWs_len]; exact hl)]
      rw [hq] at hi
      cases hi
      rfl
    · rw [List.getElem?_set_ne (Ne.symm e), xWs_get hq, ho j _ e]
  · have a : (xWs x h').length ≤ j := by rw [xWs_len, hs]; omega
    have b : ((xWs x h).set i (xN x + i, xEn x h' (i + 5) q)).length ≤ j := by rw [List.length_set, xWs_len]; omega
    rw [List.getElem?_eq_none a, List.getElem?_eq_none b]
theorem xAd_5 (x : XX) (i : Nat) : xAd x (i + 5) = xN x + i := by
  unfold xAd
  rw [if_neg (by omega), if_neg (by omega)]
  omega
/-- the whole body gives the contract -/
theorem E.of {M : MM} {args : List Value} {h h' : XH} {v : Option Value} (hy : plainFor (mY M) = true) (hlen : (lg_sl args).length ≤ mL M) (hc2 : ∀ q ∈ lv_args 0 args, q.2.category = 2 → q.1 ∈ mC2 M)
    (body : ∀ sc : XS, G sc M 0 (fun i => (lv_args 0 args).lookup i) [] h (0, 0) (fun r k => r = v ∧ k = h')) : E M args h v h' := by
  intro sc l x
  refine va_MetF (cc := mB M) (maxL := mL M) (ret := mR M) hy rfl ?_
  intro p e s m as below meth c s₁ B hml hv
  obtain ⟨rfl, hT, hX, hH⟩ := hv
  have hts := atoms_spec (ws := gWs M) B.pre
  have hN : xN x ≤ s.heap.size := by rw [hH.1]; omega
  have hlocks := B.notSynchronized
  have hcat : ∀ u : Value, (xUp x u).category = u.category := fun u => by cases u <;> rfl
  have hsl : (lg_sl (args.map (xUp x))).length = (lg_sl args).length := by
    unfold lg_sl
    rw [List.flatMap_map]
    rw [List.length_flatMap, List.length_flatMap]
    congr 1
    refine List.map_congr_left fun a _ => ?_
    show (if (xUp x a).category = 2 then _ else _ : List Slot).length = _
    rw [hcat]
    split <;> rfl
  have hl := lv_entry (args.map (xUp x)) (n := mL M) (by rw [hsl]; exact hlen)
  rw [lg_entry_eq]
  generalize (lg_sl (args.map (xUp x)) ++ List.replicate (mL M - (lg_sl (args.map (xUp x))).length) Slot.unset).toArray = ls at hl ⊢
  have key : ∀ (k : Nat) (as : List Value) (i : Nat) (u : Value), (lv_args k as).lookup i = some u → (i, u) ∈ lv_args k as ∧ (i, xUp x u) ∈ lv_args k (as.map (xUp x)) := by
    intro k as
    induction as generalizing k with
    | nil => intro i u hu; cases hu
    | cons a t ih =>
      intro i u hu
      simp only [lv_args, List.map_cons, hcat] at hu ⊢
      rw [List.lookup_cons] at hu
      by_cases e : i = k
      · subst e
        simp at hu
        subst hu
        exact ⟨List.mem_cons_self, List.mem_cons_self⟩
      · have e' : (i == k) = false := by simp [e]
        rw [e'] at hu
        obtain ⟨h1, h2⟩ := ih _ i u hu
        exact ⟨List.mem_cons_of_mem _ h1, List.mem_cons_of_mem _ h2⟩
  refine body sc x p l e s m _ below meth c _ s.heap [] ls ⟨B.exec, B.bytes, hml, findClass_of_methodNamed B.named, fun w hw => hts w (List.mem_cons_of_mem _ hw), B.returns, B.notSynchronized, (name_of_methodNamed B.named B.method).1, hT, hX, hN⟩ ?_ hH va_S.rf rfl ⟨⟨hl.1, hl.2.1, fun q hq => absurd hq List.not_mem_nil⟩, fun i u hu => ?_⟩
  · intro r k H' locs' pc' ls' w' hR hH' hS' hret h1 h2
    obtain ⟨rfl, rfl⟩ := hR
    refine W.widen h1 h2 ?_
    match r, hret with
    | none, hret => exact W.vret B.exec B.bytes (B.returns.trans hret.2) (fun t ht hW => ⟨rfl, by rw [ht]; exact hH', hS'.F ht⟩) hS'.2.2 hret.1
    | some (.int z), hret =>
      rcases hret.2 with hr | ⟨hr, hz⟩
      · exact W.iret B.exec B.bytes (B.returns.trans hr) (fun t ht hW => ⟨rfl, by rw [ht]; exact hH', hS'.F ht⟩) hS'.2.2 hret.1
      · exact W.zret (ty := .boolean) B.exec B.bytes (B.returns.trans hr) (by rcases hz with rfl | rfl <;> decide) (fun t ht hW => ⟨rfl, by rw [ht]; exact hH', hS'.F ht⟩) hS'.2.2 hret.1
    | some (.long z), hret => exact W.lret B.exec B.bytes (B.returns.trans hret.2) (fun t ht hW => ⟨rfl, by rw [ht]; exact hH', hS'.F ht⟩) hS'.2.2 hret.1
    | some (.float z), hret => exact W.fret B.exec B.bytes (B.returns.trans hret.2) (fun t ht hW => ⟨rfl, by rw [ht]; exact hH', hS'.F ht⟩) hS'.2.2 hret.1
    | some (.double z), hret => exact W.dret B.exec B.bytes (B.returns.trans hret.2) (fun t ht hW => ⟨rfl, by rw [ht]; exact hH', hS'.F ht⟩) hS'.2.2 hret.1
  · obtain ⟨h1, h2⟩ := key 0 args i u hu
    exact ⟨hl.2.2 _ h2, fun hc => hc2 _ h1 hc⟩
