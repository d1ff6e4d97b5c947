/-! THE CLAIM OUT OF ONE WALK OF THE LAW'S BODY. Your part is whole_start (and what it stands on); all else here is the same for every law, but numbers. -/
def R_law : String := "PosterSheetLaw"
def lw_P (b : Addr) (xs : List Int32) (args : Array Value) (s : State) : Prop := args = #[.ref b] ∧ s.IntsAt b xs ∧ xs.length ≤ 2560 ∧ (Jvm.Cond.and given_1 narrow_1).before args s = true
/-- what a walk over the start with the record d0 says of its end, said of the start itself -/
theorem lw_closed {s t : State} {o : Outcome} {d0 : Drawn} {L : List Loc} {k n : Nat} (hd0 : s.drawn.sameBut d0 lw_cs) (hv : ∃ v, o = .returned v) (hW : (s.setDrawn d0).WarmedH t.vm) (hs : (s.setDrawn d0).sameButNew ({ t with vm := s.vm } : State) L k n) : State.butDraws s t lw_cs (fun t1 => Framed s o t1 L k n) := by
  have h2 : t.drawn = d0 := congrArg State.drawn hs.1
  refine ⟨⟨hv, hW, State.sameButNew.setDrawn hs s.drawn⟩, ?_, by decide⟩
  rw [h2]
  exact hd0
def lw_Q (_ : Array Value) (s : State) (o : Outcome) (t : State) : Prop := o = .returned (some (.int 1)) ∧ State.butDraws s t lw_cs (fun t1 => Framed s o t1 [] 600000 7302250)
def lw_Z (below : List Frame) (a : Array Value) (s : State) : State → Prop := fun t => ∃ o, t.status = .running ∧ Ended t below o ∧ lw_Q a s o t
/-- the law's own end, with 1 on the stack, nothing written that was there before, its room as the claim has it; d0: the record of draws at this point (at the entry s.drawn: begin with 'refine W.base ?_' and 'have hd0 := Drawn.sameBut.refl s.drawn lw_cs') -/
theorem lw_ret {p : Program} {l : Launch} {e : Env} {s : State} {m : MethodId} {below : List Frame} {meth : Method} {c : Code} {b : Nat} {d0 : Drawn} (hd0 : s.drawn.sameBut d0 lw_cs) (hx : p.tables.exec = Jvm.exec) (hb : c.code = code) (hr : meth.sig.returnType = ret) (hlocks : meth.locks = false) {pc : Nat} {H : Heap} {ls : Array Slot} (hdg : decode code pc = .ok (.ireturn, 1)) : W p l e room_1 (s.setDrawn d0) m #[Value.ref b] below meth c H [] 600000 7302250 (lw_Z below #[Value.ref b] s) (F0 m pc ls [.int 1]) := by
  intro T hT X
  obtain ⟨fs, hret, hrun, hended, hW, hframe⟩ := X.leave (v := some (.int 1)) (hlocks := hlocks) (fun h => by rw [hr] at h; cases h)
  have hmeth' : T.vm.method? m = some meth := X.method'
  refine ⟨T.setFrames fs, ?_, .returned (some (.int 1)), hrun, hended, rfl, lw_closed hd0 ⟨_, rfl⟩ hW hframe⟩
  jvm_step X.here [X.here.top, hx, hb, hdg, hmeth', hr, ret, narrow_b1]
  (try refine ⟨rfl, ?_⟩); (try refine ⟨rfl, ?_⟩)
  first | (intro acts; rw [hret _ acts rfl rfl rfl]) | rw [hret _ _ rfl rfl rfl]
  exact Steps.refl _
/-- what holds at the law's entry: the machine, the code, the tables' words (any of lw_tbl by 'hts w (by decide +kernel)'), the script of L ints xs at the cell b, what the Statement gives of the start (any of its parts by flat_of_before) -/
def lw_At (p : Program) (s : State) (m : MethodId) (meth : Method) (c : Code) (b L : Nat) (xs : Nat → Int32) : Prop :=
  p.tables.exec = Jvm.exec ∧ c.code = code ∧ meth.sig.returnType = ret ∧ c.maxLocals = 4 ∧ s.vm.findClass R_law = some m.cls ∧ (∀ w ∈ lw_tbl, w.before #[Value.ref b] s = true) ∧ va_X b L xs s s.heap ∧ b < s.heap.size ∧ meth.locks = false ∧ (Jvm.Cond.and given_1 narrow_1).before #[Value.ref b] s = true ∧ meth.name = x.name
/-! what the tables and the start give -/
theorem tb_in {wd : Cond} (k : Nat) (h : tables_1[k]? = some wd) : wd ∈ lw_tbl := List.mem_append_right _ (List.mem_of_getElem? h)
theorem nF_in : ∀ q ∈ nF, Cond.fieldLinkNest q.1 q.2.1 q.2.2.1 q.2.2.2.1 q.2.2.2.2.1 q.2.2.2.2.2 ∈ tables_1 := by decide +kernel
theorem nM_in : ∀ q ∈ nM, Cond.methodLinkNest q.1 q.2.1 q.2.2.1 q.2.2.2 ∈ tables_1 := by decide +kernel
theorem law_classes {as : Array Value} {s : State} (htg : ∀ wd ∈ gW, wd.before as s = true) : ∃ D : va_G, ∀ (k : Nat) (q : vw_C), vwCl[k]? = some q → u_Kn s q.1 q.2.1 q.2.2 (D.1 k) (D.2 k) := by
  obtain ⟨c0, i0, k0⟩ := u_known (C := RX1) (T := TX1) (N := 11) (n := 11) htg gin1 (htg _ in_L)
  obtain ⟨c1, i1, k1⟩ := u_known (C := RX2) (T := TX2) (N := 3) (n := 3) htg gin2 (htg _ in_A)
  obtain ⟨c2, i2, k2⟩ := u_known (C := RX3) (T := TX3) (N := 3) (n := 3) htg gin3 (htg _ in_S)
  obtain ⟨c3, i3, k3⟩ := u_known (C := RX4) (T := TX4) (N := 2) (n := 2) htg gin4 (htg _ in_E)
  obtain ⟨c4, i4, k4⟩ := u_known (C := RX5) (T := TX5) (N := 3) (n := 3) htg gin5 (htg _ in_Q)
  obtain ⟨c5, i5, k5⟩ := u_known (C := RX6) (T := TX6) (N := 6) (n := 6) htg gin6 (htg _ in_T)
  obtain ⟨c6, i6, k6⟩ := u_known (C := RX7) (T := TX7) (N := 11) (n := 11) htg gin7 (htg _ in_W)
  obtain ⟨c7, i7, k7⟩ := u_known (C := RX8) (T := TX8) (N := 10) (n := 10) htg gin8 (htg _ in_P)
  obtain ⟨c8, i8, k8⟩ := u_known (C := RX9) (T := TX9) (N := 16) (n := 16) htg gin9 (htg _ in_R)
  refine ⟨(fun k => match k with | 0 => c0 | 1 => c1 | 2 => c2 | 3 => c3 | 4 => c4 | 5 => c5 | 6 => c6 | 7 => c7 | _ => c8, fun k => match k with | 0 => i0 | 1 => i1 | 2 => i2 | 3 => i3 | 4 => i4 | 5 => i5 | 6 => i6 | 7 => i7 | _ => i8), fun k q hq => ?_⟩
  match k, hq with
  | 0, hq => cases hq; exact k0
  | 1, hq => cases hq; exact k1
  | 2, hq => cases hq; exact k2
  | 3, hq => cases hq; exact k3
  | 4, hq => cases hq; exact k4
  | 5, hq => cases hq; exact k5
  | 6, hq => cases hq; exact k6
  | 7, hq => cases hq; exact k7
  | 8, hq => cases hq; exact k8
  | k + 9, hq => simp [vwCl] at hq
theorem law_arrays {as : Array Value} {s : State} (hts : ∀ wd ∈ lw_tbl, wd.before as s = true) : ∃ cA : Nat → ClassId, (ArrOfT s (cA 10) .int ∧ va_RA s (cA 10) .int) ∧ (ArrOfT s (cA 11) .boolean ∧ va_RA s (cA 11) .boolean) ∧ (ArrOfT s (cA 12) (.object "PosterSheet$Layout") ∧ va_RA s (cA 12) (.object "PosterSheet$Layout")) := by
  obtain ⟨a1, a2, a3, a4, a5, a6⟩ := Cond.arrayClass_spec (hts _ (gW_tbl ac_int))
  obtain ⟨b1, b2, b3, b4, b5, b6⟩ := Cond.arrayClass_spec (hts _ (gW_tbl ac_boolean))
  obtain ⟨d1, d2, d3, d4, -, d5, d6, d7⟩ := Cond.arrayOver_spec (hts (.arrayOver (.object "PosterSheet$Layout")) (tb_in 102 (by decide +kernel)))
  refine ⟨fun k => if k = 10 then a1 else if k = 11 then b1 else d2, ⟨fun n z => ⟨(fun k h => by cases h), a2, a5, a3, a6⟩, a4⟩, ⟨fun n z => ⟨(fun k h => by cases h), b2, b5, b3, b6⟩, b4⟩, ⟨fun n z => ⟨(fun k h => by cases h), d3, d5, d1, d6⟩, d3, d1, d5, d6, d4, d7⟩⟩
theorem law_st1 {as : Array Value} {s : State} {AA : Nat → Prop} (hts : ∀ wd ∈ lw_tbl, wd.before as s = true) (hgs : ∀ cd ∈ flatC (Jvm.Cond.and given_1 narrow_1), cd.before as s = true) (hA : ∀ q : Nat, q < s.heap.size → ¬ AA q) : ∃ t : Nat, va_T .int t (sRow 1).length (fun i => .int ((sRow 1).getD i 0)) AA s s.heap ∧ va_Z "PosterSheet" (sNm 1) "[I" (.ref t) AA s s.heap := by
  have h1 : Cond.arrayOf (.static "PosterSheet" "LEAST_SETTING" "[I") .int ∈ flatC (Jvm.Cond.and given_1 narrow_1) := by decide +kernel
  have h2 : Cond.eq (.length (.static "PosterSheet" "LEAST_SETTING" "[I")) (.int (Int32.ofNat 5)) ∈ flatC (Jvm.Cond.and given_1 narrow_1) := by decide +kernel
  have h3 : ∀ i, i < 5 → Cond.eq (.elem (.static "PosterSheet" "LEAST_SETTING" "[I") (.int (Int32.ofNat i))) (.int ((sRow 1).getD i 0)) ∈ flatC (Jvm.Cond.and given_1 narrow_1) := by decide +kernel
  obtain ⟨t, ht, hT⟩ := va_Tof (N := 5) (f := fun i => .int ((sRow 1).getD i 0)) (A := AA) (by decide) (hgs _ h1) (va_eqt (hgs _ h2)) (fun i hi => va_eqt (hgs _ (h3 i hi))) hA
  exact ⟨t, hT, va_Zref (hts (.laysStatic "PosterSheet" "LEAST_SETTING" "[I") (tb_in 324 (by decide +kernel))) (hts _ (gW_tbl ini_P)) ht hA⟩
theorem law_st2 {as : Array Value} {s : State} {AA : Nat → Prop} (hts : ∀ wd ∈ lw_tbl, wd.before as s = true) (hgs : ∀ cd ∈ flatC (Jvm.Cond.and given_1 narrow_1), cd.before as s = true) (hA : ∀ q : Nat, q < s.heap.size → ¬ AA q) : ∃ t : Nat, va_T .int t (sRow 2).length (fun i => .int ((sRow 2).getD i 0)) AA s s.heap ∧ va_Z "PosterSheet" (sNm 2) "[I" (.ref t) AA s s.heap := by
  have h1 : Cond.arrayOf (.static "PosterSheet" "MOST_SETTING" "[I") .int ∈ flatC (Jvm.Cond.and given_1 narrow_1) := by decide +kernel
  have h2 : Cond.eq (.length (.static "PosterSheet" "MOST_SETTING" "[I")) (.int (Int32.ofNat 5)) ∈ flatC (Jvm.Cond.and given_1 narrow_1) := by decide +kernel
  have h3 : ∀ i, i < 5 → Cond.eq (.elem (.static "PosterSheet" "MOST_SETTING" "[I") (.int (Int32.ofNat i))) (.int ((sRow 2).getD i 0)) ∈ flatC (Jvm.Cond.and given_1 narrow_1) := by decide +kernel
  obtain ⟨t, ht, hT⟩ := va_Tof (N := 5) (f := fun i => .int ((sRow 2).getD i 0)) (A := AA) (by decide) (hgs _ h1) (va_eqt (hgs _ h2)) (fun i hi => va_eqt (hgs _ (h3 i hi))) hA
  exact ⟨t, hT, va_Zref (hts (.laysStatic "PosterSheet" "MOST_SETTING" "[I") (tb_in 326 (by decide +kernel))) (hts _ (gW_tbl ini_P)) ht hA⟩
theorem law_st3 {as : Array Value} {s : State} {AA : Nat → Prop} (hts : ∀ wd ∈ lw_tbl, wd.before as s = true) (hgs : ∀ cd ∈ flatC (Jvm.Cond.and given_1 narrow_1), cd.before as s = true) (hA : ∀ q : Nat, q < s.heap.size → ¬ AA q) : ∃ t : Nat, va_T .int t (sRow 3).length (fun i => .int ((sRow 3).getD i 0)) AA s s.heap ∧ va_Z "PosterSheet" (sNm 3) "[I" (.ref t) AA s s.heap := by
  have h1 : Cond.arrayOf (.static "PosterSheet" "LEAST_TRAIT" "[I") .int ∈ flatC (Jvm.Cond.and given_1 narrow_1) := by decide +kernel
  have h2 : Cond.eq (.length (.static "PosterSheet" "LEAST_TRAIT" "[I")) (.int (Int32.ofNat 4)) ∈ flatC (Jvm.Cond.and given_1 narrow_1) := by decide +kernel
  have h3 : ∀ i, i < 4 → Cond.eq (.elem (.static "PosterSheet" "LEAST_TRAIT" "[I") (.int (Int32.ofNat i))) (.int ((sRow 3).getD i 0)) ∈ flatC (Jvm.Cond.and given_1 narrow_1) := by decide +kernel
  obtain ⟨t, ht, hT⟩ := va_Tof (N := 4) (f := fun i => .int ((sRow 3).getD i 0)) (A := AA) (by decide) (hgs _ h1) (va_eqt (hgs _ h2)) (fun i hi => va_eqt (hgs _ (h3 i hi))) hA
  exact ⟨t, hT, va_Zref (hts (.laysStatic "PosterSheet" "LEAST_TRAIT" "[I") (tb_in 344 (by decide +kernel))) (hts _ (gW_tbl ini_P)) ht hA⟩
theorem law_st4 {as : Array Value} {s : State} {AA : Nat → Prop} (hts : ∀ wd ∈ lw_tbl, wd.before as s = true) (hgs : ∀ cd ∈ flatC (Jvm.Cond.and given_1 narrow_1), cd.before as s = true) (hA : ∀ q : Nat, q < s.heap.size → ¬ AA q) : ∃ t : Nat, va_T .int t (sRow 4).length (fun i => .int ((sRow 4).getD i 0)) AA s s.heap ∧ va_Z "PosterSheet" (sNm 4) "[I" (.ref t) AA s s.heap := by
  have h1 : Cond.arrayOf (.static "PosterSheet" "MOST_TRAIT" "[I") .int ∈ flatC (Jvm.Cond.and given_1 narrow_1) := by decide +kernel
  have h2 : Cond.eq (.length (.static "PosterSheet" "MOST_TRAIT" "[I")) (.int (Int32.ofNat 4)) ∈ flatC (Jvm.Cond.and given_1 narrow_1) := by decide +kernel
  have h3 : ∀ i, i < 4 → Cond.eq (.elem (.static "PosterSheet" "MOST_TRAIT" "[I") (.int (Int32.ofNat i))) (.int ((sRow 4).getD i 0)) ∈ flatC (Jvm.Cond.and given_1 narrow_1) := by decide +kernel
  obtain ⟨t, ht, hT⟩ := va_Tof (N := 4) (f := fun i => .int ((sRow 4).getD i 0)) (A := AA) (by decide) (hgs _ h1) (va_eqt (hgs _ h2)) (fun i hi => va_eqt (hgs _ (h3 i hi))) hA
  exact ⟨t, hT, va_Zref (hts (.laysStatic "PosterSheet" "MOST_TRAIT" "[I") (tb_in 346 (by decide +kernel))) (hts _ (gW_tbl ini_P)) ht hA⟩
theorem whole_start {p : Program} {e : Env} {s : State} {m : MethodId} {below : List Frame} {meth : Method} {c : Code} (l : Launch) (hflags : l.flags = flags0) {b L : Nat} {xs : Nat → Int32} (hL : L ≤ 2560) (C0 : lw_At p s m meth c b L xs) : W p l e room_1 s m #[Value.ref b] below meth c s.heap [] 0 0 (lw_Z below #[Value.ref b] s) (entryFrame m ([Value.ref b] : List Value).toArray 4) := by
  obtain ⟨hx, hb, hr, hml, hown, hts, hX, hbl, hlocks, hgv, hnm⟩ := C0
  have hgs := flat_of_before _ hgv
  have htg : ∀ wd ∈ gW, wd.before #[Value.ref b] s = true := fun wd hw => hts wd (gW_tbl hw)
  have hA : ∀ q : Nat, q < s.heap.size → ¬ s.heap.size ≤ q := fun q hq => Nat.not_le.mpr hq
  obtain ⟨D, hKc⟩ := law_classes htg
  obtain ⟨cA, ha1, ha2, ha3⟩ := law_arrays hts
  obtain ⟨t1, hT1, hZ1⟩ := law_st1 (AA := fun q => s.heap.size ≤ q) hts hgs hA
  obtain ⟨t2, hT2, hZ2⟩ := law_st2 (AA := fun q => s.heap.size ≤ q) hts hgs hA
  obtain ⟨t3, hT3, hZ3⟩ := law_st3 (AA := fun q => s.heap.size ≤ q) hts hgs hA
  obtain ⟨t4, hT4, hZ4⟩ := law_st4 (AA := fun q => s.heap.size ≤ q) hts hgs hA
  obtain ⟨X, hX0⟩ : ∃ X : XX, X = ((s.heap.size, b, fun j => if j = 1 then t1 else if j = 2 then t2 else if j = 3 then t3 else t4), D, cA) := ⟨_, rfl⟩
  have eN : xN X = s.heap.size := by rw [hX0]; rfl
  have eB : xB X = b := by rw [hX0]; rfl
  have eD : xD X = D := by rw [hX0]; rfl
  have eA : xA X = fun q => s.heap.size ≤ q := by unfold xA; rw [eN]
  have eC : xCA X = cA := by rw [hX0]; rfl
  have e1 : xSt X 1 = t1 := by rw [hX0]; rfl
  have e2 : xSt X 2 = t2 := by rw [hX0]; rfl
  have e3 : xSt X 3 = t3 := by rw [hX0]; rfl
  have e4 : xSt X 4 = t4 := by rw [hX0]; rfl
  have hTab : xTab X s := by
    refine ⟨⟨by rw [eD]; exact hKc, fun k q hq => ?_⟩, fun q hq => va_Nw.of rfl (hts _ (List.mem_append_right _ (nF_in q hq))), fun q hq => va_Nw.of rfl (hts _ (List.mem_append_right _ (nM_in q hq))), va_AO.of (hts (.arrayOver (.object "PosterSheet$Layout")) (tb_in 102 (by decide +kernel)))⟩
    unfold xTys at hq
    rw [eC] at hq
    match k, hq with
    | 0, hq => cases hq; exact ha1
    | 1, hq => cases hq; exact ha2
    | 2, hq => cases hq; exact ha3
    | k + 3, hq => simp at hq
  have hExt : xExt X (L, xs) s s.heap := by
    refine ⟨by rw [eB]; exact hX, by rw [eB, eN]; exact hbl, fun j h1 h2 => ?_⟩
    rw [eA]
    rcases (show j = 1 ∨ j = 2 ∨ j = 3 ∨ j = 4 by omega) with rfl | rfl | rfl | rfl
    · rw [e1]; exact ⟨hT1, hZ1⟩
    · rw [e2]; exact ⟨hT2, hZ2⟩
    · rw [e3]; exact ⟨hT3, hZ3⟩
    · rw [e4]; exact ⟨hT4, hZ4⟩
  have hG := z_law (sc := (L, xs)) (R := fun v _ => v = some (.int 1)) hL (fun _ => rfl)
  have hl := lv_entry ([.ref b]) (n := 4) (Nat.le_of_ble_eq_true rfl)
  rw [lg_entry_eq]
  generalize (lg_sl ([.ref b]) ++ List.replicate (4 - (lg_sl ([.ref b])).length) Slot.unset).toArray = ls at hl ⊢
  have hl : lv_has ls 4 [(0, .ref b)] := hl
  refine hG X p l e s m #[Value.ref b] below meth c (lw_Z below #[Value.ref b] s) s.heap [] ls ⟨hx, hb, hml, hown, htg, hr, hlocks, hnm, hTab, hExt, by rw [eN]; exact Nat.le_refl _⟩ ?_ ⟨by rw [eN]; rfl, fun k q hk => by cases hk⟩ va_S.rf rfl ⟨⟨hl.1, hl.2.1, fun q hq => absurd hq List.not_mem_nil⟩, fun i v hv => ?_⟩
  · intro v h' H' locs' pc' ls' w' hv hH' hS' hret h1 h2
    subst hv
    refine va_forget (fun q hq => ?_) ?_
    · have := hS'.2.2 q hq
      rw [eA] at this
      exact this
    · refine W.widen (k := 600000) (n := 7302250) h1 h2 ?_
      refine W.base ?_
      exact lw_ret (Drawn.sameBut.refl s.drawn lw_cs) hx hb hr hlocks hret.1
  · have h0 := aL_some hv
    match i, h0 with
    | 0, h0 =>
      cases h0
      refine ⟨?_, fun h => absurd h (by show ¬ (1 : Nat) = 2; decide)⟩
      show ls[0]? = some (.val (.ref (xB X)))
      rw [eB]
      exact hl.2.2 (0, .ref b) List.mem_cons_self
    | i + 1, h0 => simp at h0
set_option maxHeartbeats 4000000 in
theorem lw_walk (l : Launch) (hflags : l.flags = flags0) (b : Addr) (xs : List Int32) : MetFree l x (headSpec (Jvm.Cond.code x code maxLocals ret :: tables_1) room_1) (lw_P b xs) (fun _ _ _ _ _ => True) lw_Q := by
  refine MetFree.of_bodyS (code := code) (maxLocals := maxLocals) (ret := ret) (by decide) ?_ ?_
  · intro args s m h hn
    obtain ⟨meth, c, h1, h2, h3, h4, h5, h6, -, -⟩ := Cond.code_spec hn (atoms_spec (ws := Jvm.Cond.code x code maxLocals ret :: tables_1) h _ List.mem_cons_self)
    exact ⟨meth, c, h1, h2, h3, h4, h5, h6⟩
  · intro p e s m args below meth c s₁ B hml0 hP _
    obtain ⟨rfl, hx, hbd, hgv⟩ := hP
    obtain ⟨scr, harrAt, hlist, hof, hsmall⟩ := hx
    obtain ⟨hcb, hkn, -, -⟩ := State.arrayAt?_spec harrAt
    have hown : s.vm.findClass R_law = some m.cls := findClass_of_methodNamed B.named
    have hts0 : ∀ c ∈ (Jvm.Cond.code x code maxLocals ret :: tables_1), c.before #[Value.ref b] s = true := atoms_spec (ws := Jvm.Cond.code x code maxLocals ret :: tables_1) B.pre
    have hts : ∀ w ∈ lw_tbl, w.before #[Value.ref b] s = true := k2_hts_sels lw_privs (fun w hw => hts0 w (List.mem_cons_of_mem _ hw)) lw_privs_ok
    have hml : c.maxLocals = 4 := B.maxLocals_eq (hts0 _ List.mem_cons_self)
    have X₀ : Stand p l e room_1 s m #[Value.ref b] below meth c s₁ [] 0 0 := Stand.of_body B
    have hh0 : s₁.heap = s.heap := by rw [B.state]; rfl
    have hsz : scr.slots.size = xs.length := by rw [← Array.length_toList, hlist, List.length_map]
    have hval : ∀ j : Nat, j < xs.length → scr.slots[j]? = some (.int (xs.getD j 0)) := fun j hj => by
      rw [← Array.getElem?_toList, hlist]
      simp [hj]
    have hbl : b < s.heap.size := (Array.getElem?_eq_some_iff.mp hcb).1
    have hX : va_X b xs.length (fun j => xs.getD j 0) s s.heap := ⟨scr, hcb, hof, hkn, hsz, hval⟩
    have K : W p l e room_1 s m #[Value.ref b] below meth c s₁.heap [] 0 0 (lw_Z below #[Value.ref b] s) (entryFrame m ([Value.ref b] : List Value).toArray 4) := by
      rw [hh0]
      exact whole_start l hflags hbd ⟨B.exec, B.bytes, B.returns, hml, hown, hts, hX, hbl, B.notSynchronized, hgv, (name_of_methodNamed B.named B.method).1⟩
    obtain ⟨t, a1, o, b1, b2, b3⟩ := K s₁ rfl X₀
    exact ⟨t, o, a1, b1, b2, b3⟩
theorem lw_pre_spec {args : Array Value} {s : State} (h : (Jvm.Cond.and given_1 narrow_1).before args s = true) (hr : rest_1_c.before args s = true) : ∃ (b : Addr) (xs : List Int32), lw_P b xs args s := by
  have hs := flat_of_before _ h
  have hq := flat_of_before _ hr
  have hc : (Cond.count 1).before args s = true := hs _ (by decide +kernel)
  have harr : (Cond.arrayOf (.arg 0) .int).before args s = true := hs _ (by decide +kernel)
  have hle : (Cond.le (.length (.arg 0)) (.int 2560)).before args s = true := hs _ (by decide +kernel)
  have hlen : (Cond.isInt (.length (.arg 0))).before args s = true := hq _ (by decide +kernel)
  have hall : (Cond.all (.arg 0) (.isInt (.elem (.arg 0) (.index 0)))).before args s = true := hq _ (by decide +kernel)
  obtain ⟨b, xs, hb, hx⟩ := State.ints_of_pre rfl harr hlen hall
  have hsm : xs.length < 2 ^ 31 := hx.choose_spec.2.2.2
  have hev : (Term.length (.arg 0)).eval args s none [] s = some (.int xs.length.toInt32) := hx.length_eval hb
  have hv := Cond.le_ints hev (show (Term.int 2560).eval args s none [] s = some (.int 2560) from rfl)
  have hd : xs.length.toInt32 ≤ 2560 := by
    simpa [Cond.before, Cond.holds, hv] using hle
  have hN : xs.length ≤ 2560 := (Int32.ofNat_le_ofNat hsm (by decide)).mp (show Int32.ofNat xs.length ≤ Int32.ofNat 2560 from hd)
  exact ⟨b, xs, Cond.one_arg hc (show args[0]? = some (.ref b) from hb), hx, hN, h⟩
theorem lw_comes (l : Launch) (hflags : l.flags = flags0) : Comes l x (Jvm.Cond.code x code maxLocals ret :: tables_1) room_1 (fun tb e args s => Calls_1 tb e args s ∧ rest_1 tb e args s ∧ Pre_1 tb e args s)
    (fun _ _ args s o t => lw_Q args s o t) := by
  intro p e ha hc hk s m args below hf hfit hheap happ hpre
  obtain ⟨b, xs, hP⟩ := lw_pre_spec hpre.2.2 hpre.2.1
  obtain ⟨k, o, h1, h2, h3, hQ⟩ := lw_walk l hflags b xs p e ha hc hk s m args below hf ((Spec.applies_iff_loose hf).mp happ).1 hP trivial
  exact ⟨k, o, h1, h2, h3, hQ⟩
theorem lw_frame {s t : State} {o : Outcome} {args : Array Value} (h : State.butDraws s t lw_cs (fun t1 => Framed s o t1 [] 600000 7302250)) :
    State.butDraws s t [Jvm.Choice.named "NaN.bits"] (fun t1 => Framed s o t1 (fieldLocs frame_1_writes args s ++ arrayLocs frame_1_arrays args s ++ staticLocs frame_1_statics s) 600000 7302250) := h
theorem lw_limb (L : Cond) (hL : ∀ (args : Array Value) (s t : State), L.after args s (.returned (some (.int 1))) t = true) :
    ArmFor flags0 classFile x code maxLocals ret World_1 tables_1 room_1 Calls_1 rest_1 Pre_1
      (fun tb e a s o t => postC L tb e a s o t ∧ State.butDraws s t [Jvm.Choice.named "NaN.bits"] (fun t1 => Framed s o t1 (fieldLocs frame_1_writes a s ++ arrayLocs frame_1_arrays a s ++ staticLocs frame_1_statics s) 600000 7302250)) := by
  intro l hflags _ _ p e ha hc hk s m args below hf hfit hheap happ hpre
  obtain ⟨k, o, h1, h2, h3, rfl, hF⟩ := lw_comes l hflags p e ha hc hk s m args below hf hfit hheap happ hpre
  exact ⟨k, _, h1, h2, h3, hL args s _, lw_frame hF⟩
theorem i_vc : Claimed_1_1 ∧ Claimed_1_2 := ⟨lw_limb limb_1_1 (fun args s t => by simp [limb_1_1, Cond.after, Cond.holds, Cond.value]), lw_limb limb_1_2 (fun args s t => Cond.after_iff.mpr (by
  first | (rw [show limb_1_2 = Cond.eq .result (.int 1) from rfl, Cond.eq_ints (x := 1) (y := 1) rfl rfl]; simp; done) | (simp [limb_1_2, Cond.value, Term.eval]; done)))⟩
