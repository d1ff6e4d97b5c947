/-! RULES: calls -/
theorem g_run {p : Program} {l : Launch} {e : Env} {Rm : Room} {s : State} {m : MethodId} {args : Array Value} {below : List Frame} {meth : Method} {c : Code} {H : Heap} {locs : List Loc} {cells slots mc ms : Nat} {Q : State → Prop} {pc : Nat} {ls : Array Slot} {rest st0 : List Value} {a : Array Value} {x : XX} {h' : XH} {v : Option Value} {H0 : Heap}
    (hr : va_Run p l e Rm s m args below meth c H locs cells slots mc ms (F0 m pc ls st0) rest (xQc x h' v a) (xA x)) (hS : va_S (xA x) H0 H locs)
    (kk : ∀ (H1 : Heap) (locs1 : List Loc), xHp x h' H1 → va_S (xA x) H0 H1 locs1 → W p l e Rm s m args below meth c H1 locs1 (cells + mc) (slots + ms) Q (F0 m (pc + 3) ls ((v.map (xUp x)).toList ++ rest))) : W p l e Rm s m args below meth c H locs cells slots Q (F0 m pc ls st0) := by
  intro T hT X
  obtain ⟨v1, st₀, t, T', L, h0, X', hL, e1, e2, ⟨hv, hp, hz, hk⟩, st⟩ := hr T hT X
  have hv : v1 = v.map (xUp x) := Outcome.returned.inj hv
  subst hv
  rw [h0] at hz hk
  rw [← e1] at hz hp hk
  obtain ⟨t2, a1, b1⟩ := kk T'.heap (locs ++ L) hp
    ⟨Nat.le_trans hS.1 hz, fun q h1 h2 => (hk q (Nat.lt_of_lt_of_le h1 hS.1) h2).trans (hS.2.1 q h1 h2), fun q hq => by
      rcases List.mem_append.mp hq with h | h
      · exact hS.2.2 q h
      · exact hL q h⟩ T' rfl X'
  exact ⟨t2, st t2 a1, b1⟩
theorem gWs_good (M : MM) (hc : Cond.code (mY M) (mB M) (mL M) (mR M) ∈ gW) : GoodIn gW (gWs M) := fun w hw => by
  rcases List.mem_cons.mp hw with rfl | hw
  · exact ⟨hc, good_of_word (gW_good hc)⟩
  · exact ⟨hw, good_of_word (gW_good hw)⟩
theorem goodIn_cons {w : Cond} {ws : List Cond} (h : w ∈ gW) (hs : GoodIn gW ws) : GoodIn gW (w :: ws) := fun u hu => by
  rcases List.mem_cons.mp hu with rfl | hu
  · exact ⟨h, good_of_word (gW_good h)⟩
  · exact hs u hu
theorem xTab.same {x : XX} {u U : State} (h : u.vm = U.vm) (k : xTab x u) : xTab x U :=
  ⟨k.1.moved (by rw [h]; exact Vm.Alike.refl _), fun q hq => va_Nw.same rfl h (k.2.1 q hq), fun q hq => va_Nw.same rfl h (k.2.2.1 q hq), k.2.2.2.moved (by rw [h]; exact Vm.Alike.refl _)⟩
theorem xPc_blind (x : XX) (sc : XS) (args : List Value) (h : XH) : FrameBlind (xPc x sc args h) := by
  intro a U g mk hq
  obtain ⟨h1, h2, h3, h4⟩ := hq
  exact ⟨h1, xTab.same (u := U) rfl h2, xExt.move (s := U) (Vm.Alike.refl _) (fun _ _ _ => rfl) h3, h4⟩
theorem xPc_pre {sc : XS} {M : MM} {x : XX} {p : Program} {s : State} {mI : MethodId} {args : Array Value} {meth : Method} {c : Code} (F : gFix sc M x p s mI args meth c) {h : XH} {H : Heap} {locs : List Loc} (hH : xHp x h H) (hS : va_S (xA x) s.heap H locs) (as : List Value) : ∀ U : State, U.heap = H → s.WarmedH U.vm → xPc x sc as h (as.map (xUp x)).toArray U := fun U hU hW =>
  ⟨rfl, F.2.2.2.2.2.2.2.2.1.warm hW, xExt.move hW.alike (by rw [hU]; exact xA_ext hS) F.2.2.2.2.2.2.2.2.2.1, by rw [hU]; exact hH⟩
/-- what the tables say of a method; of an instance method, a static one -/
def Mok (M : MM) (n : Nat) : Prop := Cond.initialized (mY M).cls ∈ gW ∧ Cond.code (mY M) (mB M) (mL M) (mR M) ∈ gW ∧ (mY M).cls ≠ "java/lang/invoke/MethodHandle" ∧ (mY M).cls ≠ "java/lang/invoke/VarHandle" ∧ (parseMethodDescriptor (mY M).desc).map (fun d => d.parameters.length) = some n
def MokV (M : MM) (n : Nat) : Prop := Cond.instanceMethod (mY M) ∈ gW ∧ Cond.selects (mY M).cls (mY M) (mY M) ∈ gW ∧ Mok M n
def MokS (M : MM) (n : Nat) : Prop := Cond.static (mY M) ∈ gW ∧ Mok M n
def MokI (M : MM) (n : Nat) : Prop := Cond.instanceMethod (mY M) ∈ gW ∧ (mY M).name = "<init>" ∧ mR M = none ∧ Mok M n
def okR (M M' : MM) (S : List Value) (w : Nat × Nat) : Bool := decide (mFr M' + 1 ≤ mFr M) && decide (8 + (mL M' + 11) + mLo M' ≤ mLo M) && decide (w.1 + mCe M' ≤ mCe M) && decide (w.2 + mSl M' ≤ mSl M) && decide ((S.map fun v => v.category).sum ≤ 8)
theorem okR_of {M M' : MM} {S : List Value} {w : Nat × Nat} (h : okR M M' S w = true) : (mFr M' + 1 ≤ mFr M ∧ 8 + (mL M' + 11) + mLo M' ≤ mLo M) ∧ (w.1 + mCe M' ≤ mCe M ∧ w.2 + mSl M' ≤ mSl M) ∧ (S.map fun v => v.category).sum ≤ 8 := by
  unfold okR at h
  simp only [Bool.and_eq_true, decide_eq_true_eq] at h
  exact ⟨⟨h.1.1.1.1, h.1.1.1.2⟩, ⟨h.1.1.2, h.1.2⟩, h.2⟩
/-- the receiver is an object of the class -/
def RC (h : XH) (b : Nat) (C : String) : Prop := ∃ ci n q, CK h b ci n ∧ vwCl[ci]? = some q ∧ q.1 = C
/-- a link of a method: plain, or of nest mates -/
def ML (own : String) (idx : Nat) (y : MethodName) : Prop := Cond.methodLink own idx y ∈ gW
def MLN (own : String) (idx : Nat) (y : MethodName) : Prop := (own, idx, y, "PosterSheet") ∈ nM
theorem cat_rest {x : XX} {S : List Value} {mI : MethodId} {pc : Nat} {ls : Array Slot} {st : List Value} (h : (S.map fun v => v.category).sum ≤ 8) : 2 * (F0 mI pc ls st).monitorRoom + ((S.map (xUp x)).map fun v => v.category).sum ≤ 8 := lv_room (by rw [cat_map]; exact h)
theorem sz_call {x : XX} {h h' : XH} {H H1 : Heap} {z a k : Nat} (h1 : xHp x h H) (h2 : xHp x h' H1) (hl : h'.1.length = h.1.length + k) (hz : H.size = z + a) : H1.size = z + (a + k) := by
  have e1 := h1.1
  have e2 := h2.1
  omega
theorem g_callV {sc : XS} {M : MM} {pc : Nat} {L : XL} {S : List Value} {h : XH} {w : Nat × Nat} {R : Option Value → XH → Prop} {M' : MM} {idx b n : Nat} {As : List Value} {v : Option Value} {h' : XH} {w' : Nat × Nat} (hd : decode (mB M) pc = .ok (.invokevirtual idx, 3)) (hl : ML (mY M).cls idx (mY M')) (hm : MokV M' n) (hE : E M' (.ref b :: As) h v h') (hn : As.length = n) (hrc : RC h b (mY M').cls) (hlen : h'.1.length = h.1.length + mCe M') (hr : okR M M' S w = true) (hw' : w' = (w.1 + mCe M', w.2 + mSl M')) (kk : G sc M (pc + 3) L (v.toList ++ S) h' w' R) : G sc M pc L (As.reverse ++ .ref b :: S) h w R := by
  intro x p l e s mI args below meth cd Q H locs ls F X hH hS hz hL
  subst hw'
  obtain ⟨hr1, hr2, hr3⟩ := okR_of hr
  obtain ⟨hm1, hm2, hm3, hm4, hm5, hm6, hm7⟩ := hm
  obtain ⟨ci, nn, q, hc, hq, hcls⟩ := hrc
  have hst : (As.reverse ++ Value.ref b :: S).map (xUp x) = (As.map (xUp x)).reverse ++ Value.ref (xAd x b) :: S.map (xUp x) := by
    rw [List.map_append, List.map_reverse, List.map_cons]; rfl
  rw [hst]
  refine g_run (va_runV (As := As.map (xUp x)) (rest := S.map (xUp x)) ⟨F.1, F.2.1, F.2.2.1, F.2.2.2.1, F.2.2.2.2.1⟩ (hE sc l x) (cwV (ws' := gW) (C := (mY M').cls) n F.2.2.2.2.1 (goodIn_cons hl (goodIn_cons hm1 (goodIn_cons hm2 (goodIn_cons hm3 (gWs_good M' hm4))))) rfl rfl rfl ⟨rfl, hm5, hm6, hm7⟩ hr1) ⟨xPc_blind x sc _ h, ?_, ?_⟩ rfl (by rw [List.length_map]; exact hn) hL.1.1 rfl (cat_rest hr3) hd hr2) hS (fun H1 locs1 hH1 hS1 => ?_)
  · obtain ⟨cell, g1, g2, g3⟩ := va_recv F.2.2.2.2.2.2.2.2.1.1 hH.2 hq (hc.o (vwCl_lt hq))
    exact ⟨cell, g1, g2, by rw [← hcls]; exact g3⟩
  · exact xPc_pre F hH hS (.ref b :: As)
  · have := kk x p l e s mI args below meth cd Q H1 locs1 ls F X hH1 hS1 (sz_call hH hH1 hlen hz) hL
    rw [List.map_append] at this
    cases v <;> exact this
theorem g_callI {sc : XS} {M : MM} {pc : Nat} {L : XL} {S : List Value} {h : XH} {w : Nat × Nat} {R : Option Value → XH → Prop} {M' : MM} {idx b n : Nat} {As : List Value} {h' : XH} {w' : Nat × Nat} (hd : decode (mB M) pc = .ok (.invokespecial idx, 3)) (hl : ML (mY M).cls idx (mY M')) (hm : MokI M' n) (hE : E M' (.ref b :: As) h none h') (hn : As.length = n) (hlen : h'.1.length = h.1.length + mCe M') (hr : okR M M' S w = true) (hw' : w' = (w.1 + mCe M', w.2 + mSl M')) (kk : G sc M (pc + 3) L S h' w' R) : G sc M pc L (As.reverse ++ .ref b :: S) h w R := by
  intro x p l e s mI args below meth cd Q H locs ls F X hH hS hz hL
  subst hw'
  obtain ⟨hr1, hr2, hr3⟩ := okR_of hr
  obtain ⟨hm1, hm2, hm0, hm3, hm4, hm5, hm6, hm7⟩ := hm
  have hst : (As.reverse ++ Value.ref b :: S).map (xUp x) = (As.map (xUp x)).reverse ++ Value.ref (xAd x b) :: S.map (xUp x) := by
    rw [List.map_append, List.map_reverse, List.map_cons]; rfl
  rw [hst]
  refine g_run (va_runI (As := As.map (xUp x)) (rest := S.map (xUp x)) ⟨F.1, F.2.1, F.2.2.1, F.2.2.2.1, F.2.2.2.2.1⟩ (hE sc l x) (cwI (ws' := gW) n F.2.2.2.2.1 (gWs_good M' hm4) (by rw [gWs, hm0]) rfl rfl (gW_b F hm3) (gW_b F hl) (gW_b F hm1) hm2 ⟨hm5, hm6, hm7⟩ hr1) ⟨xPc_blind x sc _ h, ?_⟩ rfl (by rw [List.length_map]; exact hn) hL.1.1 rfl (cat_rest hr3) hd hr2) hS (fun H1 locs1 hH1 hS1 => ?_)
  · exact xPc_pre F hH hS (.ref b :: As)
  · exact kk x p l e s mI args below meth cd Q H1 locs1 ls F X hH1 hS1 (sz_call hH hH1 hlen hz) hL
theorem g_callIN {sc : XS} {M : MM} {pc : Nat} {L : XL} {S : List Value} {h : XH} {w : Nat × Nat} {R : Option Value → XH → Prop} {M' : MM} {idx b n : Nat} {As : List Value} {h' : XH} {w' : Nat × Nat} (hd : decode (mB M) pc = .ok (.invokespecial idx, 3)) (hl : MLN (mY M).cls idx (mY M')) (hm : MokI M' n) (hE : E M' (.ref b :: As) h none h') (hn : As.length = n) (hlen : h'.1.length = h.1.length + mCe M') (hr : okR M M' S w = true) (hw' : w' = (w.1 + mCe M', w.2 + mSl M')) (kk : G sc M (pc + 3) L S h' w' R) : G sc M pc L (As.reverse ++ .ref b :: S) h w R := by
  intro x p l e s mI args below meth cd Q H locs ls F X hH hS hz hL
  subst hw'
  obtain ⟨hr1, hr2, hr3⟩ := okR_of hr
  obtain ⟨hm1, hm2, hm0, hm3, hm4, hm5, hm6, hm7⟩ := hm
  have hst : (As.reverse ++ Value.ref b :: S).map (xUp x) = (As.map (xUp x)).reverse ++ Value.ref (xAd x b) :: S.map (xUp x) := by
    rw [List.map_append, List.map_reverse, List.map_cons]; rfl
  rw [hst]
  refine g_run (va_runIN (As := As.map (xUp x)) (rest := S.map (xUp x)) ⟨F.1, F.2.1, F.2.2.1, F.2.2.2.1, F.2.2.2.2.1⟩ (hE sc l x) ⟨va_cnB (ws' := gW) n F.2.2.2.2.1 (gWs_good M' hm4) (by rw [gWs, hm0]) rfl rfl (F.2.2.2.2.2.2.2.2.1.2.2.1 _ hl) (gW_b F hm3) ⟨hm5, hm6, hm7⟩ hr1, hm2, gW_b F hm1⟩ ⟨xPc_blind x sc _ h, ?_⟩ rfl (by rw [List.length_map]; exact hn) hL.1.1 rfl (cat_rest hr3) hd hr2) hS (fun H1 locs1 hH1 hS1 => ?_)
  · exact xPc_pre F hH hS (.ref b :: As)
  · exact kk x p l e s mI args below meth cd Q H1 locs1 ls F X hH1 hS1 (sz_call hH hH1 hlen hz) hL
theorem g_callS {sc : XS} {M : MM} {pc : Nat} {L : XL} {S : List Value} {h : XH} {w : Nat × Nat} {R : Option Value → XH → Prop} {M' : MM} {idx n : Nat} {As : List Value} {v : Option Value} {h' : XH} {w' : Nat × Nat} (hd : decode (mB M) pc = .ok (.invokestatic idx, 3)) (hl : ML (mY M).cls idx (mY M')) (hm : MokS M' n) (hE : E M' As h v h') (hn : As.length = n) (hlen : h'.1.length = h.1.length + mCe M') (hr : okR M M' S w = true) (hw' : w' = (w.1 + mCe M', w.2 + mSl M')) (kk : G sc M (pc + 3) L (v.toList ++ S) h' w' R) : G sc M pc L (As.reverse ++ S) h w R := by
  intro x p l e s mI args below meth cd Q H locs ls F X hH hS hz hL
  subst hw'
  obtain ⟨hr1, hr2, hr3⟩ := okR_of hr
  obtain ⟨hm1, hm3, hm4, hm5, hm6, hm7⟩ := hm
  have hst : (As.reverse ++ S).map (xUp x) = (As.map (xUp x)).reverse ++ S.map (xUp x) := by
    rw [List.map_append, List.map_reverse]
  rw [hst]
  refine g_run (va_runS (As := As.map (xUp x)) (rest := S.map (xUp x)) ⟨F.1, F.2.1, F.2.2.1, F.2.2.2.1, F.2.2.2.2.1⟩ (hE sc l x) (va_cwS (ws' := gW) n F.2.2.2.2.1 (goodIn_cons hl (goodIn_cons hm1 (goodIn_cons hm3 (gWs_good M' hm4)))) rfl rfl rfl ⟨hm5, hm6, hm7⟩ hr1) ⟨xPc_blind x sc _ h, ?_⟩ rfl (by rw [List.length_map]; exact hn) hL.1.1 rfl (cat_rest hr3) hd hr2) hS (fun H1 locs1 hH1 hS1 => ?_)
  · exact xPc_pre F hH hS As
  · have := kk x p l e s mI args below meth cd Q H1 locs1 ls F X hH1 hS1 (sz_call hH hH1 hlen hz) hL
    rw [List.map_append] at this
    cases v <;> exact this
theorem g_callSN {sc : XS} {M : MM} {pc : Nat} {L : XL} {S : List Value} {h : XH} {w : Nat × Nat} {R : Option Value → XH → Prop} {M' : MM} {idx n : Nat} {As : List Value} {v : Option Value} {h' : XH} {w' : Nat × Nat} (hd : decode (mB M) pc = .ok (.invokestatic idx, 3)) (hl : MLN (mY M).cls idx (mY M')) (hm : MokS M' n) (hE : E M' As h v h') (hn : As.length = n) (hlen : h'.1.length = h.1.length + mCe M') (hr : okR M M' S w = true) (hw' : w' = (w.1 + mCe M', w.2 + mSl M')) (kk : G sc M (pc + 3) L (v.toList ++ S) h' w' R) : G sc M pc L (As.reverse ++ S) h w R := by
  intro x p l e s mI args below meth cd Q H locs ls F X hH hS hz hL
  subst hw'
  obtain ⟨hr1, hr2, hr3⟩ := okR_of hr
  obtain ⟨hm1, hm3, hm4, hm5, hm6, hm7⟩ := hm
  have hst : (As.reverse ++ S).map (xUp x) = (As.map (xUp x)).reverse ++ S.map (xUp x) := by
    rw [List.map_append, List.map_reverse]
  rw [hst]
  refine g_run (va_runSN (As := As.map (xUp x)) (rest := S.map (xUp x)) ⟨F.1, F.2.1, F.2.2.1, F.2.2.2.1, F.2.2.2.2.1⟩ (hE sc l x) ⟨va_cnB (ws' := gW) n F.2.2.2.2.1 (gWs_good M' hm4) rfl rfl rfl (F.2.2.2.2.2.2.2.2.1.2.2.1 _ hl) (gW_b F hm3) ⟨hm5, hm6, hm7⟩ hr1, gW_b F hm1, trivial⟩ ⟨xPc_blind x sc _ h, ?_⟩ rfl (by rw [List.length_map]; exact hn) hL.1.1 rfl (cat_rest hr3) hd hr2) hS (fun H1 locs1 hH1 hS1 => ?_)
  · exact xPc_pre F hH hS As
  · have := kk x p l e s mI args below meth cd Q H1 locs1 ls F X hH1 hS1 (sz_call hH hH1 hlen hz) hL
    rw [List.map_append] at this
    cases v <;> exact this
theorem g_mmax {sc : XS} {M : MM} {pc : Nat} {L : XL} {S : List Value} {h : XH} {w : Nat × Nat} {R : Option Value → XH → Prop} {idx : Nat} {y z : Int32} (hd : decode (mB M) pc = .ok (.invokestatic idx, 3)) (hl : Cond.methodLink (mY M).cls idx Lib.Math.max.name ∈ gW) (hw : Cond.static Lib.Math.max.name ∈ gW ∧ Cond.initialized "java/lang/Math" ∈ gW ∧ Cond.code Lib.Math.max.name Lib.Math.max.code 2 (some .int) ∈ gW) (hr : (decide (1 ≤ mFr M) && decide ((S.map fun v => v.category).sum + 13 ≤ mLo M) && decide (w.1 ≤ mCe M) && decide (w.2 ≤ mSl M)) = true) (kk : G sc M (pc + 3) L (.int (if z < y then y else z) :: S) h w R) : G sc M pc L (.int y :: .int z :: S) h w R := by
  intro x p l e s mI args below meth cd Q H locs ls F X hH hS hz hL
  simp only [Bool.and_eq_true, decide_eq_true_eq] at hr
  exact va_mmax F.1 F.2.1 (F.2.2.1.trans hL.1.1.symm) F.2.2.2.1 (gW_b F hl) (gW_b F hw.1) (gW_b F hw.2.1) (gW_b F hw.2.2) hr.1.1.1 (by rw [cat_map]; exact hr.1.1.2) hr.1.2 hr.2 hd (kk x p l e s mI args below meth cd Q H locs ls F X hH hS hz hL)
theorem g_mmin {sc : XS} {M : MM} {pc : Nat} {L : XL} {S : List Value} {h : XH} {w : Nat × Nat} {R : Option Value → XH → Prop} {idx : Nat} {y z : Int32} (hd : decode (mB M) pc = .ok (.invokestatic idx, 3)) (hl : Cond.methodLink (mY M).cls idx Lib.Math.min.name ∈ gW) (hw : Cond.static Lib.Math.min.name ∈ gW ∧ Cond.initialized "java/lang/Math" ∈ gW ∧ Cond.code Lib.Math.min.name Lib.Math.min.code 2 (some .int) ∈ gW) (hr : (decide (1 ≤ mFr M) && decide ((S.map fun v => v.category).sum + 13 ≤ mLo M) && decide (w.1 ≤ mCe M) && decide (w.2 ≤ mSl M)) = true) (kk : G sc M (pc + 3) L (.int (if y < z then y else z) :: S) h w R) : G sc M pc L (.int y :: .int z :: S) h w R := by
  intro x p l e s mI args below meth cd Q H locs ls F X hH hS hz hL
  simp only [Bool.and_eq_true, decide_eq_true_eq] at hr
  exact va_mmin F.1 F.2.1 (F.2.2.1.trans hL.1.1.symm) F.2.2.2.1 (gW_b F hl) (gW_b F hw.1) (gW_b F hw.2.1) (gW_b F hw.2.2) hr.1.1.1 (by rw [cat_map]; exact hr.1.1.2) hr.1.2 hr.2 hd (kk x p l e s mI args below meth cd Q H locs ls F X hH hS hz hL)
theorem g_v0 {sc : XS} {M : MM} {pc : Nat} {L : XL} {S : List Value} {h : XH} {w : Nat × Nat} {R : Option Value → XH → Prop} {M' : MM} {idx b : Nat}  {v : Value} {h' : XH} (hd : decode (mB M) pc = .ok (.invokevirtual idx, 3)) (hl : ML (mY M).cls idx (mY M')) (hm : MokV M' 0) (hE : E M' (.ref b :: []) h (some v) h') (hrc : RC h b (mY M').cls) (hlen : h'.1.length = h.1.length) (hr : okR M M' S w = true) (hc : mCe M' = 0 ∧ mSl M' = 0) (kk : G sc M (pc + 3) L (v :: S) h' w R) : G sc M pc L (.ref b :: S) h w R :=
  g_callV (As := []) (w' := w) hd hl hm hE rfl hrc (by rw [hc.1]; exact hlen) hr (by rw [hc.1, hc.2]; rfl) kk
theorem g_v0n {sc : XS} {M : MM} {pc : Nat} {L : XL} {S : List Value} {h : XH} {w : Nat × Nat} {R : Option Value → XH → Prop} {M' : MM} {idx b : Nat}  {h' : XH} (hd : decode (mB M) pc = .ok (.invokevirtual idx, 3)) (hl : ML (mY M).cls idx (mY M')) (hm : MokV M' 0) (hE : E M' (.ref b :: []) h (none) h') (hrc : RC h b (mY M').cls) (hlen : h'.1.length = h.1.length) (hr : okR M M' S w = true) (hc : mCe M' = 0 ∧ mSl M' = 0) (kk : G sc M (pc + 3) L (S) h' w R) : G sc M pc L (.ref b :: S) h w R :=
  g_callV (As := []) (w' := w) hd hl hm hE rfl hrc (by rw [hc.1]; exact hlen) hr (by rw [hc.1, hc.2]; rfl) kk
theorem g_v1 {sc : XS} {M : MM} {pc : Nat} {L : XL} {S : List Value} {h : XH} {w : Nat × Nat} {R : Option Value → XH → Prop} {M' : MM} {idx b : Nat} {a0 : Value} {v : Value} {h' : XH} (hd : decode (mB M) pc = .ok (.invokevirtual idx, 3)) (hl : ML (mY M).cls idx (mY M')) (hm : MokV M' 1) (hE : E M' (.ref b :: [a0]) h (some v) h') (hrc : RC h b (mY M').cls) (hlen : h'.1.length = h.1.length) (hr : okR M M' S w = true) (hc : mCe M' = 0 ∧ mSl M' = 0) (kk : G sc M (pc + 3) L (v :: S) h' w R) : G sc M pc L (a0 :: .ref b :: S) h w R :=
  g_callV (As := [a0]) (w' := w) hd hl hm hE rfl hrc (by rw [hc.1]; exact hlen) hr (by rw [hc.1, hc.2]; rfl) kk
theorem g_v1n {sc : XS} {M : MM} {pc : Nat} {L : XL} {S : List Value} {h : XH} {w : Nat × Nat} {R : Option Value → XH → Prop} {M' : MM} {idx b : Nat} {a0 : Value} {h' : XH} (hd : decode (mB M) pc = .ok (.invokevirtual idx, 3)) (hl : ML (mY M).cls idx (mY M')) (hm : MokV M' 1) (hE : E M' (.ref b :: [a0]) h (none) h') (hrc : RC h b (mY M').cls) (hlen : h'.1.length = h.1.length) (hr : okR M M' S w = true) (hc : mCe M' = 0 ∧ mSl M' = 0) (kk : G sc M (pc + 3) L (S) h' w R) : G sc M pc L (a0 :: .ref b :: S) h w R :=
  g_callV (As := [a0]) (w' := w) hd hl hm hE rfl hrc (by rw [hc.1]; exact hlen) hr (by rw [hc.1, hc.2]; rfl) kk
theorem g_v2 {sc : XS} {M : MM} {pc : Nat} {L : XL} {S : List Value} {h : XH} {w : Nat × Nat} {R : Option Value → XH → Prop} {M' : MM} {idx b : Nat} {a0 a1 : Value} {v : Value} {h' : XH} (hd : decode (mB M) pc = .ok (.invokevirtual idx, 3)) (hl : ML (mY M).cls idx (mY M')) (hm : MokV M' 2) (hE : E M' (.ref b :: [a0, a1]) h (some v) h') (hrc : RC h b (mY M').cls) (hlen : h'.1.length = h.1.length) (hr : okR M M' S w = true) (hc : mCe M' = 0 ∧ mSl M' = 0) (kk : G sc M (pc + 3) L (v :: S) h' w R) : G sc M pc L (a1 :: a0 :: .ref b :: S) h w R :=
  g_callV (As := [a0, a1]) (w' := w) hd hl hm hE rfl hrc (by rw [hc.1]; exact hlen) hr (by rw [hc.1, hc.2]; rfl) kk
theorem g_v2n {sc : XS} {M : MM} {pc : Nat} {L : XL} {S : List Value} {h : XH} {w : Nat × Nat} {R : Option Value → XH → Prop} {M' : MM} {idx b : Nat} {a0 a1 : Value} {h' : XH} (hd : decode (mB M) pc = .ok (.invokevirtual idx, 3)) (hl : ML (mY M).cls idx (mY M')) (hm : MokV M' 2) (hE : E M' (.ref b :: [a0, a1]) h (none) h') (hrc : RC h b (mY M').cls) (hlen : h'.1.length = h.1.length) (hr : okR M M' S w = true) (hc : mCe M' = 0 ∧ mSl M' = 0) (kk : G sc M (pc + 3) L (S) h' w R) : G sc M pc L (a1 :: a0 :: .ref b :: S) h w R :=
  g_callV (As := [a0, a1]) (w' := w) hd hl hm hE rfl hrc (by rw [hc.1]; exact hlen) hr (by rw [hc.1, hc.2]; rfl) kk
theorem g_v3 {sc : XS} {M : MM} {pc : Nat} {L : XL} {S : List Value} {h : XH} {w : Nat × Nat} {R : Option Value → XH → Prop} {M' : MM} {idx b : Nat} {a0 a1 a2 : Value} {v : Value} {h' : XH} (hd : decode (mB M) pc = .ok (.invokevirtual idx, 3)) (hl : ML (mY M).cls idx (mY M')) (hm : MokV M' 3) (hE : E M' (.ref b :: [a0, a1, a2]) h (some v) h') (hrc : RC h b (mY M').cls) (hlen : h'.1.length = h.1.length) (hr : okR M M' S w = true) (hc : mCe M' = 0 ∧ mSl M' = 0) (kk : G sc M (pc + 3) L (v :: S) h' w R) : G sc M pc L (a2 :: a1 :: a0 :: .ref b :: S) h w R :=
  g_callV (As := [a0, a1, a2]) (w' := w) hd hl hm hE rfl hrc (by rw [hc.1]; exact hlen) hr (by rw [hc.1, hc.2]; rfl) kk
theorem g_v3n {sc : XS} {M : MM} {pc : Nat} {L : XL} {S : List Value} {h : XH} {w : Nat × Nat} {R : Option Value → XH → Prop} {M' : MM} {idx b : Nat} {a0 a1 a2 : Value} {h' : XH} (hd : decode (mB M) pc = .ok (.invokevirtual idx, 3)) (hl : ML (mY M).cls idx (mY M')) (hm : MokV M' 3) (hE : E M' (.ref b :: [a0, a1, a2]) h (none) h') (hrc : RC h b (mY M').cls) (hlen : h'.1.length = h.1.length) (hr : okR M M' S w = true) (hc : mCe M' = 0 ∧ mSl M' = 0) (kk : G sc M (pc + 3) L (S) h' w R) : G sc M pc L (a2 :: a1 :: a0 :: .ref b :: S) h w R :=
  g_callV (As := [a0, a1, a2]) (w' := w) hd hl hm hE rfl hrc (by rw [hc.1]; exact hlen) hr (by rw [hc.1, hc.2]; rfl) kk
theorem g_v4 {sc : XS} {M : MM} {pc : Nat} {L : XL} {S : List Value} {h : XH} {w : Nat × Nat} {R : Option Value → XH → Prop} {M' : MM} {idx b : Nat} {a0 a1 a2 a3 : Value} {v : Value} {h' : XH} (hd : decode (mB M) pc = .ok (.invokevirtual idx, 3)) (hl : ML (mY M).cls idx (mY M')) (hm : MokV M' 4) (hE : E M' (.ref b :: [a0, a1, a2, a3]) h (some v) h') (hrc : RC h b (mY M').cls) (hlen : h'.1.length = h.1.length) (hr : okR M M' S w = true) (hc : mCe M' = 0 ∧ mSl M' = 0) (kk : G sc M (pc + 3) L (v :: S) h' w R) : G sc M pc L (a3 :: a2 :: a1 :: a0 :: .ref b :: S) h w R :=
  g_callV (As := [a0, a1, a2, a3]) (w' := w) hd hl hm hE rfl hrc (by rw [hc.1]; exact hlen) hr (by rw [hc.1, hc.2]; rfl) kk
theorem g_v4n {sc : XS} {M : MM} {pc : Nat} {L : XL} {S : List Value} {h : XH} {w : Nat × Nat} {R : Option Value → XH → Prop} {M' : MM} {idx b : Nat} {a0 a1 a2 a3 : Value} {h' : XH} (hd : decode (mB M) pc = .ok (.invokevirtual idx, 3)) (hl : ML (mY M).cls idx (mY M')) (hm : MokV M' 4) (hE : E M' (.ref b :: [a0, a1, a2, a3]) h (none) h') (hrc : RC h b (mY M').cls) (hlen : h'.1.length = h.1.length) (hr : okR M M' S w = true) (hc : mCe M' = 0 ∧ mSl M' = 0) (kk : G sc M (pc + 3) L (S) h' w R) : G sc M pc L (a3 :: a2 :: a1 :: a0 :: .ref b :: S) h w R :=
  g_callV (As := [a0, a1, a2, a3]) (w' := w) hd hl hm hE rfl hrc (by rw [hc.1]; exact hlen) hr (by rw [hc.1, hc.2]; rfl) kk
theorem g_s0 {sc : XS} {M : MM} {pc : Nat} {L : XL} {S : List Value} {h : XH} {w : Nat × Nat} {R : Option Value → XH → Prop} {M' : MM} {idx : Nat}  {v : Value} {h' : XH} (hd : decode (mB M) pc = .ok (.invokestatic idx, 3)) (hl : ML (mY M).cls idx (mY M')) (hm : MokS M' 0) (hE : E M' [] h (some v) h') (hlen : h'.1.length = h.1.length) (hr : okR M M' S w = true) (hc : mCe M' = 0 ∧ mSl M' = 0) (kk : G sc M (pc + 3) L (v :: S) h' w R) : G sc M pc L (S) h w R :=
  g_callS (As := []) (w' := w) hd hl hm hE rfl (by rw [hc.1]; exact hlen) hr (by rw [hc.1, hc.2]; rfl) kk
theorem g_s0N {sc : XS} {M : MM} {pc : Nat} {L : XL} {S : List Value} {h : XH} {w : Nat × Nat} {R : Option Value → XH → Prop} {M' : MM} {idx : Nat}  {v : Value} {h' : XH} (hd : decode (mB M) pc = .ok (.invokestatic idx, 3)) (hl : MLN (mY M).cls idx (mY M')) (hm : MokS M' 0) (hE : E M' [] h (some v) h') (hlen : h'.1.length = h.1.length) (hr : okR M M' S w = true) (hc : mCe M' = 0 ∧ mSl M' = 0) (kk : G sc M (pc + 3) L (v :: S) h' w R) : G sc M pc L (S) h w R :=
  g_callSN (As := []) (w' := w) hd hl hm hE rfl (by rw [hc.1]; exact hlen) hr (by rw [hc.1, hc.2]; rfl) kk
theorem g_s0n {sc : XS} {M : MM} {pc : Nat} {L : XL} {S : List Value} {h : XH} {w : Nat × Nat} {R : Option Value → XH → Prop} {M' : MM} {idx : Nat}  {h' : XH} (hd : decode (mB M) pc = .ok (.invokestatic idx, 3)) (hl : ML (mY M).cls idx (mY M')) (hm : MokS M' 0) (hE : E M' [] h (none) h') (hlen : h'.1.length = h.1.length) (hr : okR M M' S w = true) (hc : mCe M' = 0 ∧ mSl M' = 0) (kk : G sc M (pc + 3) L (S) h' w R) : G sc M pc L (S) h w R :=
  g_callS (As := []) (w' := w) hd hl hm hE rfl (by rw [hc.1]; exact hlen) hr (by rw [hc.1, hc.2]; rfl) kk
theorem g_s0nN {sc : XS} {M : MM} {pc : Nat} {L : XL} {S : List Value} {h : XH} {w : Nat × Nat} {R : Option Value → XH → Prop} {M' : MM} {idx : Nat}  {h' : XH} (hd : decode (mB M) pc = .ok (.invokestatic idx, 3)) (hl : MLN (mY M).cls idx (mY M')) (hm : MokS M' 0) (hE : E M' [] h (none) h') (hlen : h'.1.length = h.1.length) (hr : okR M M' S w = true) (hc : mCe M' = 0 ∧ mSl M' = 0) (kk : G sc M (pc + 3) L (S) h' w R) : G sc M pc L (S) h w R :=
  g_callSN (As := []) (w' := w) hd hl hm hE rfl (by rw [hc.1]; exact hlen) hr (by rw [hc.1, hc.2]; rfl) kk
theorem g_s1 {sc : XS} {M : MM} {pc : Nat} {L : XL} {S : List Value} {h : XH} {w : Nat × Nat} {R : Option Value → XH → Prop} {M' : MM} {idx : Nat} {a0 : Value} {v : Value} {h' : XH} (hd : decode (mB M) pc = .ok (.invokestatic idx, 3)) (hl : ML (mY M).cls idx (mY M')) (hm : MokS M' 1) (hE : E M' [a0] h (some v) h') (hlen : h'.1.length = h.1.length) (hr : okR M M' S w = true) (hc : mCe M' = 0 ∧ mSl M' = 0) (kk : G sc M (pc + 3) L (v :: S) h' w R) : G sc M pc L (a0 :: S) h w R :=
  g_callS (As := [a0]) (w' := w) hd hl hm hE rfl (by rw [hc.1]; exact hlen) hr (by rw [hc.1, hc.2]; rfl) kk
theorem g_s1N {sc : XS} {M : MM} {pc : Nat} {L : XL} {S : List Value} {h : XH} {w : Nat × Nat} {R : Option Value → XH → Prop} {M' : MM} {idx : Nat} {a0 : Value} {v : Value} {h' : XH} (hd : decode (mB M) pc = .ok (.invokestatic idx, 3)) (hl : MLN (mY M).cls idx (mY M')) (hm : MokS M' 1) (hE : E M' [a0] h (some v) h') (hlen : h'.1.length = h.1.length) (hr : okR M M' S w = true) (hc : mCe M' = 0 ∧ mSl M' = 0) (kk : G sc M (pc + 3) L (v :: S) h' w R) : G sc M pc L (a0 :: S) h w R :=
  g_callSN (As := [a0]) (w' := w) hd hl hm hE rfl (by rw [hc.1]; exact hlen) hr (by rw [hc.1, hc.2]; rfl) kk
theorem g_s1n {sc : XS} {M : MM} {pc : Nat} {L : XL} {S : List Value} {h : XH} {w : Nat × Nat} {R : Option Value → XH → Prop} {M' : MM} {idx : Nat} {a0 : Value} {h' : XH} (hd : decode (mB M) pc = .ok (.invokestatic idx, 3)) (hl : ML (mY M).cls idx (mY M')) (hm : MokS M' 1) (hE : E M' [a0] h (none) h') (hlen : h'.1.length = h.1.length) (hr : okR M M' S w = true) (hc : mCe M' = 0 ∧ mSl M' = 0) (kk : G sc M (pc + 3) L (S) h' w R) : G sc M pc L (a0 :: S) h w R :=
  g_callS (As := [a0]) (w' := w) hd hl hm hE rfl (by rw [hc.1]; exact hlen) hr (by rw [hc.1, hc.2]; rfl) kk
theorem g_s1nN {sc : XS} {M : MM} {pc : Nat} {L : XL} {S : List Value} {h : XH} {w : Nat × Nat} {R : Option Value → XH → Prop} {M' : MM} {idx : Nat} {a0 : Value} {h' : XH} (hd : decode (mB M) pc = .ok (.invokestatic idx, 3)) (hl : MLN (mY M).cls idx (mY M')) (hm : MokS M' 1) (hE : E M' [a0] h (none) h') (hlen : h'.1.length = h.1.length) (hr : okR M M' S w = true) (hc : mCe M' = 0 ∧ mSl M' = 0) (kk : G sc M (pc + 3) L (S) h' w R) : G sc M pc L (a0 :: S) h w R :=
  g_callSN (As := [a0]) (w' := w) hd hl hm hE rfl (by rw [hc.1]; exact hlen) hr (by rw [hc.1, hc.2]; rfl) kk
theorem g_s2 {sc : XS} {M : MM} {pc : Nat} {L : XL} {S : List Value} {h : XH} {w : Nat × Nat} {R : Option Value → XH → Prop} {M' : MM} {idx : Nat} {a0 a1 : Value} {v : Value} {h' : XH} (hd : decode (mB M) pc = .ok (.invokestatic idx, 3)) (hl : ML (mY M).cls idx (mY M')) (hm : MokS M' 2) (hE : E M' [a0, a1] h (some v) h') (hlen : h'.1.length = h.1.length) (hr : okR M M' S w = true) (hc : mCe M' = 0 ∧ mSl M' = 0) (kk : G sc M (pc + 3) L (v :: S) h' w R) : G sc M pc L (a1 :: a0 :: S) h w R :=
  g_callS (As := [a0, a1]) (w' := w) hd hl hm hE rfl (by rw [hc.1]; exact hlen) hr (by rw [hc.1, hc.2]; rfl) kk
theorem g_s2N {sc : XS} {M : MM} {pc : Nat} {L : XL} {S : List Value} {h : XH} {w : Nat × Nat} {R : Option Value → XH → Prop} {M' : MM} {idx : Nat} {a0 a1 : Value} {v : Value} {h' : XH} (hd : decode (mB M) pc = .ok (.invokestatic idx, 3)) (hl : MLN (mY M).cls idx (mY M')) (hm : MokS M' 2) (hE : E M' [a0, a1] h (some v) h') (hlen : h'.1.length = h.1.length) (hr : okR M M' S w = true) (hc : mCe M' = 0 ∧ mSl M' = 0) (kk : G sc M (pc + 3) L (v :: S) h' w R) : G sc M pc L (a1 :: a0 :: S) h w R :=
  g_callSN (As := [a0, a1]) (w' := w) hd hl hm hE rfl (by rw [hc.1]; exact hlen) hr (by rw [hc.1, hc.2]; rfl) kk
theorem g_s2n {sc : XS} {M : MM} {pc : Nat} {L : XL} {S : List Value} {h : XH} {w : Nat × Nat} {R : Option Value → XH → Prop} {M' : MM} {idx : Nat} {a0 a1 : Value} {h' : XH} (hd : decode (mB M) pc = .ok (.invokestatic idx, 3)) (hl : ML (mY M).cls idx (mY M')) (hm : MokS M' 2) (hE : E M' [a0, a1] h (none) h') (hlen : h'.1.length = h.1.length) (hr : okR M M' S w = true) (hc : mCe M' = 0 ∧ mSl M' = 0) (kk : G sc M (pc + 3) L (S) h' w R) : G sc M pc L (a1 :: a0 :: S) h w R :=
  g_callS (As := [a0, a1]) (w' := w) hd hl hm hE rfl (by rw [hc.1]; exact hlen) hr (by rw [hc.1, hc.2]; rfl) kk
theorem g_s2nN {sc : XS} {M : MM} {pc : Nat} {L : XL} {S : List Value} {h : XH} {w : Nat × Nat} {R : Option Value → XH → Prop} {M' : MM} {idx : Nat} {a0 a1 : Value} {h' : XH} (hd : decode (mB M) pc = .ok (.invokestatic idx, 3)) (hl : MLN (mY M).cls idx (mY M')) (hm : MokS M' 2) (hE : E M' [a0, a1] h (none) h') (hlen : h'.1.length = h.1.length) (hr : okR M M' S w = true) (hc : mCe M' = 0 ∧ mSl M' = 0) (kk : G sc M (pc + 3) L (S) h' w R) : G sc M pc L (a1 :: a0 :: S) h w R :=
  g_callSN (As := [a0, a1]) (w' := w) hd hl hm hE rfl (by rw [hc.1]; exact hlen) hr (by rw [hc.1, hc.2]; rfl) kk
theorem g_s3 {sc : XS} {M : MM} {pc : Nat} {L : XL} {S : List Value} {h : XH} {w : Nat × Nat} {R : Option Value → XH → Prop} {M' : MM} {idx : Nat} {a0 a1 a2 : Value} {v : Value} {h' : XH} (hd : decode (mB M) pc = .ok (.invokestatic idx, 3)) (hl : ML (mY M).cls idx (mY M')) (hm : MokS M' 3) (hE : E M' [a0, a1, a2] h (some v) h') (hlen : h'.1.length = h.1.length) (hr : okR M M' S w = true) (hc : mCe M' = 0 ∧ mSl M' = 0) (kk : G sc M (pc + 3) L (v :: S) h' w R) : G sc M pc L (a2 :: a1 :: a0 :: S) h w R :=
  g_callS (As := [a0, a1, a2]) (w' := w) hd hl hm hE rfl (by rw [hc.1]; exact hlen) hr (by rw [hc.1, hc.2]; rfl) kk
theorem g_s3N {sc : XS} {M : MM} {pc : Nat} {L : XL} {S : List Value} {h : XH} {w : Nat × Nat} {R : Option Value → XH → Prop} {M' : MM} {idx : Nat} {a0 a1 a2 : Value} {v : Value} {h' : XH} (hd : decode (mB M) pc = .ok (.invokestatic idx, 3)) (hl : MLN (mY M).cls idx (mY M')) (hm : MokS M' 3) (hE : E M' [a0, a1, a2] h (some v) h') (hlen : h'.1.length = h.1.length) (hr : okR M M' S w = true) (hc : mCe M' = 0 ∧ mSl M' = 0) (kk : G sc M (pc + 3) L (v :: S) h' w R) : G sc M pc L (a2 :: a1 :: a0 :: S) h w R :=
  g_callSN (As := [a0, a1, a2]) (w' := w) hd hl hm hE rfl (by rw [hc.1]; exact hlen) hr (by rw [hc.1, hc.2]; rfl) kk
theorem g_s3n {sc : XS} {M : MM} {pc : Nat} {L : XL} {S : List Value} {h : XH} {w : Nat × Nat} {R : Option Value → XH → Prop} {M' : MM} {idx : Nat} {a0 a1 a2 : Value} {h' : XH} (hd : decode (mB M) pc = .ok (.invokestatic idx, 3)) (hl : ML (mY M).cls idx (mY M')) (hm : MokS M' 3) (hE : E M' [a0, a1, a2] h (none) h') (hlen : h'.1.length = h.1.length) (hr : okR M M' S w = true) (hc : mCe M' = 0 ∧ mSl M' = 0) (kk : G sc M (pc + 3) L (S) h' w R) : G sc M pc L (a2 :: a1 :: a0 :: S) h w R :=
  g_callS (As := [a0, a1, a2]) (w' := w) hd hl hm hE rfl (by rw [hc.1]; exact hlen) hr (by rw [hc.1, hc.2]; rfl) kk
theorem g_s3nN {sc : XS} {M : MM} {pc : Nat} {L : XL} {S : List Value} {h : XH} {w : Nat × Nat} {R : Option Value → XH → Prop} {M' : MM} {idx : Nat} {a0 a1 a2 : Value} {h' : XH} (hd : decode (mB M) pc = .ok (.invokestatic idx, 3)) (hl : MLN (mY M).cls idx (mY M')) (hm : MokS M' 3) (hE : E M' [a0, a1, a2] h (none) h') (hlen : h'.1.length = h.1.length) (hr : okR M M' S w = true) (hc : mCe M' = 0 ∧ mSl M' = 0) (kk : G sc M (pc + 3) L (S) h' w R) : G sc M pc L (a2 :: a1 :: a0 :: S) h w R :=
  g_callSN (As := [a0, a1, a2]) (w' := w) hd hl hm hE rfl (by rw [hc.1]; exact hlen) hr (by rw [hc.1, hc.2]; rfl) kk
theorem g_s4 {sc : XS} {M : MM} {pc : Nat} {L : XL} {S : List Value} {h : XH} {w : Nat × Nat} {R : Option Value → XH → Prop} {M' : MM} {idx : Nat} {a0 a1 a2 a3 : Value} {v : Value} {h' : XH} (hd : decode (mB M) pc = .ok (.invokestatic idx, 3)) (hl : ML (mY M).cls idx (mY M')) (hm : MokS M' 4) (hE : E M' [a0, a1, a2, a3] h (some v) h') (hlen : h'.1.length = h.1.length) (hr : okR M M' S w = true) (hc : mCe M' = 0 ∧ mSl M' = 0) (kk : G sc M (pc + 3) L (v :: S) h' w R) : G sc M pc L (a3 :: a2 :: a1 :: a0 :: S) h w R :=
  g_callS (As := [a0, a1, a2, a3]) (w' := w) hd hl hm hE rfl (by rw [hc.1]; exact hlen) hr (by rw [hc.1, hc.2]; rfl) kk
theorem g_s4N {sc : XS} {M : MM} {pc : Nat} {L : XL} {S : List Value} {h : XH} {w : Nat × Nat} {R : Option Value → XH → Prop} {M' : MM} {idx : Nat} {a0 a1 a2 a3 : Value} {v : Value} {h' : XH} (hd : decode (mB M) pc = .ok (.invokestatic idx, 3)) (hl : MLN (mY M).cls idx (mY M')) (hm : MokS M' 4) (hE : E M' [a0, a1, a2, a3] h (some v) h') (hlen : h'.1.length = h.1.length) (hr : okR M M' S w = true) (hc : mCe M' = 0 ∧ mSl M' = 0) (kk : G sc M (pc + 3) L (v :: S) h' w R) : G sc M pc L (a3 :: a2 :: a1 :: a0 :: S) h w R :=
  g_callSN (As := [a0, a1, a2, a3]) (w' := w) hd hl hm hE rfl (by rw [hc.1]; exact hlen) hr (by rw [hc.1, hc.2]; rfl) kk
theorem g_s4n {sc : XS} {M : MM} {pc : Nat} {L : XL} {S : List Value} {h : XH} {w : Nat × Nat} {R : Option Value → XH → Prop} {M' : MM} {idx : Nat} {a0 a1 a2 a3 : Value} {h' : XH} (hd : decode (mB M) pc = .ok (.invokestatic idx, 3)) (hl : ML (mY M).cls idx (mY M')) (hm : MokS M' 4) (hE : E M' [a0, a1, a2, a3] h (none) h') (hlen : h'.1.length = h.1.length) (hr : okR M M' S w = true) (hc : mCe M' = 0 ∧ mSl M' = 0) (kk : G sc M (pc + 3) L (S) h' w R) : G sc M pc L (a3 :: a2 :: a1 :: a0 :: S) h w R :=
  g_callS (As := [a0, a1, a2, a3]) (w' := w) hd hl hm hE rfl (by rw [hc.1]; exact hlen) hr (by rw [hc.1, hc.2]; rfl) kk
theorem g_s4nN {sc : XS} {M : MM} {pc : Nat} {L : XL} {S : List Value} {h : XH} {w : Nat × Nat} {R : Option Value → XH → Prop} {M' : MM} {idx : Nat} {a0 a1 a2 a3 : Value} {h' : XH} (hd : decode (mB M) pc = .ok (.invokestatic idx, 3)) (hl : MLN (mY M).cls idx (mY M')) (hm : MokS M' 4) (hE : E M' [a0, a1, a2, a3] h (none) h') (hlen : h'.1.length = h.1.length) (hr : okR M M' S w = true) (hc : mCe M' = 0 ∧ mSl M' = 0) (kk : G sc M (pc + 3) L (S) h' w R) : G sc M pc L (a3 :: a2 :: a1 :: a0 :: S) h w R :=
  g_callSN (As := [a0, a1, a2, a3]) (w' := w) hd hl hm hE rfl (by rw [hc.1]; exact hlen) hr (by rw [hc.1, hc.2]; rfl) kk
