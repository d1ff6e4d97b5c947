/-! WHAT STANDS BETWEEN CALLS -/
/-! WHAT STANDS BETWEEN CALLS: the class's half, the reference's half; a: the row, n items, s states P, the text, the refusals -/
def IC (σ : SI) (a : Nat → Int32) (n s o : Nat) (P : Nat → Nat → Int32) (tl : Nat) (tx rf : Nat → Int32) : Prop :=
  HL σ 6 a n ∧ s ≤ 5 ∧ o < 5 ∧ σ 24 0 = nI s ∧ σ 24 1 = nI o ∧ (∀ i, i < s → ∃ m, HL σ (26 + 9 * ((o + i) % 5)) (P i) m) ∧ (∀ j, j < 3 → σ 5 (7 + j) = rf j) ∧ tl ≤ 120 ∧ σ 80 0 = nI tl ∧ (∀ i, i < tl → σ 81 i = tx i ∧ ∃ c, c < 128 ∧ tx i = nI c)
def IR (σ : SI) (a : Nat → Int32) (s : Nat) (P : Nat → Nat → Int32) (tl : Nat) (tx rf : Nat → Int32) : Prop :=
  σ 85 = a ∧ σ 84 3 = nI s ∧ (∀ i, i < s → ∀ j, j < 155 → σ 86 (155 * i + j) = P i j) ∧ (∀ j, j < 3 → σ 88 j = rf j) ∧ σ 84 12 = nI tl ∧ (∀ i, i < tl → σ 92 i = tx i)
section INV
variable {σ σ' : SI} {a a' : Nat → Int32} {n n' s o tl : Nat} {P : Nat → Nat → Int32} {tx rf : Nat → Int32}
theorem IC.hl (h : IC σ a n s o P tl tx rf) : HL σ 6 a n := h.1
theorem IC.s5 (h : IC σ a n s o P tl tx rf) : s ≤ 5 := h.2.1
theorem IC.o5 (h : IC σ a n s o P tl tx rf) : o < 5 := h.2.2.1
theorem IC.c (h : IC σ a n s o P tl tx rf) : σ 24 0 = nI s := h.2.2.2.1
theorem IC.od (h : IC σ a n s o P tl tx rf) : σ 24 1 = nI o := h.2.2.2.2.1
theorem IC.st (h : IC σ a n s o P tl tx rf) {i : Nat} (hi : i < s) : ∃ m, HL σ (26 + 9 * ((o + i) % 5)) (P i) m := h.2.2.2.2.2.1 i hi
theorem IC.rz (h : IC σ a n s o P tl tx rf) {j : Nat} (hj : j < 3) : σ 5 (7 + j) = rf j := h.2.2.2.2.2.2.1 j hj
theorem IC.t (h : IC σ a n s o P tl tx rf) : tl ≤ 120 ∧ σ 80 0 = nI tl := ⟨h.2.2.2.2.2.2.2.1, h.2.2.2.2.2.2.2.2.1⟩
theorem IC.tz (h : IC σ a n s o P tl tx rf) {i : Nat} (hi : i < tl) : σ 81 i = tx i ∧ ∃ c, c < 128 ∧ tx i = nI c := h.2.2.2.2.2.2.2.2.2 i hi
theorem IR.row (h : IR σ a s P tl tx rf) : σ 85 = a := h.1
theorem IR.sd (h : IR σ a s P tl tx rf) : σ 84 3 = nI s := h.2.1
theorem IR.st (h : IR σ a s P tl tx rf) {i j : Nat} (hi : i < s) (hj : j < 155) : σ 86 (155 * i + j) = P i j := h.2.2.1 i hi j hj
theorem IR.rz (h : IR σ a s P tl tx rf) {j : Nat} (hj : j < 3) : σ 88 j = rf j := h.2.2.2.1 j hj
theorem IR.t (h : IR σ a s P tl tx rf) : σ 84 12 = nI tl := h.2.2.2.2.1
theorem IR.tz (h : IR σ a s P tl tx rf) {i : Nat} (hi : i < tl) : σ 92 i = tx i := h.2.2.2.2.2 i hi
/-- what lies in other cells does not matter -/
theorem IC.cong (h : IC σ a n s o P tl tx rf) (e : ∀ c, c < 84 → σ' c = σ c) : IC σ' a n s o P tl tx rf := by
  refine ⟨h.hl.cong (fun i hi => e _ (by omega)), h.s5, h.o5, ?_, ?_, fun i hi => ?_, fun j hj => ?_, h.t.1, ?_, fun i hi => ?_⟩
  · rw [e _ (by omega)]; exact h.c
  · rw [e _ (by omega)]; exact h.od
  · obtain ⟨m, hm⟩ := h.st hi
    exact ⟨m, hm.cong (fun i hi => e _ (by omega))⟩
  · rw [e _ (by omega)]; exact h.rz hj
  · rw [e _ (by omega)]; exact h.t.2
  · rw [e _ (by omega)]; exact h.tz hi
theorem IR.cong (h : IR σ a s P tl tx rf) (e : ∀ c, 84 ≤ c → σ' c = σ c) : IR σ' a s P tl tx rf := by
  refine ⟨?_, ?_, fun i hi j hj => ?_, fun j hj => ?_, ?_, fun i hi => ?_⟩
  · rw [e _ (by omega)]; exact h.row
  · rw [e _ (by omega)]; exact h.sd
  · rw [e _ (by omega)]; exact h.st hi hj
  · rw [e _ (by omega)]; exact h.rz hj
  · rw [e _ (by omega)]; exact h.t
  · rw [e _ (by omega)]; exact h.tz hi
/-- another layout in its place -/
theorem IC.lyt (h : IC σ a n s o P tl tx rf) (e : ∀ c, c < 6 ∨ 14 < c ∧ c < 84 → σ' c = σ c) (hl : HL σ' 6 a' n') : IC σ' a' n' s o P tl tx rf := by
  refine ⟨hl, h.s5, h.o5, ?_, ?_, fun i hi => ?_, fun j hj => ?_, h.t.1, ?_, fun i hi => ?_⟩
  · rw [e _ (by omega)]; exact h.c
  · rw [e _ (by omega)]; exact h.od
  · obtain ⟨m, hm⟩ := h.st hi
    exact ⟨m, hm.cong (fun i hi => e _ (by omega))⟩
  · rw [e _ (by omega)]; exact h.rz hj
  · rw [e _ (by omega)]; exact h.t.2
  · rw [e _ (by omega)]; exact h.tz hi
theorem IR.lyt (h : IR σ a s P tl tx rf) (e : ∀ c, 84 ≤ c → c ≠ 85 → σ' c = σ c) (hl : σ' 85 = a') : IR σ' a' s P tl tx rf := by
  refine ⟨hl, ?_, fun i hi j hj => ?_, fun j hj => ?_, ?_, fun i hi => ?_⟩
  · rw [e _ (by omega) (by omega)]; exact h.sd
  · rw [e _ (by omega) (by omega)]; exact h.st hi hj
  · rw [e _ (by omega) (by omega)]; exact h.rz hj
  · rw [e _ (by omega) (by omega)]; exact h.t
  · rw [e _ (by omega) (by omega)]; exact h.tz hi
/-- a refusal is counted -/
def rfC (σ : SI) (j : Nat) : SI := uI σ 5 (7 + j) (σ 5 (7 + j) + nI 1)
def rfM (σ : SI) (j : Nat) : SI := uI σ 88 j (σ 88 j + nI 1)
theorem IC.ref (h : IC σ a n s o P tl tx rf) (j : Nat) (hj : j < 3) : IC (rfC σ j) a n s o P tl tx (upd rf j (rf j + nI 1)) := by
  have e : ∀ c, c ≠ 5 → rfC σ j c = σ c := fun c hc => uI_ne hc
  refine ⟨h.hl.cong (fun i hi => e _ (by omega)), h.s5, h.o5, ?_, ?_, fun i hi => ?_, fun i hi => ?_, h.t.1, ?_, fun i hi => ?_⟩
  · rw [e _ (by omega)]; exact h.c
  · rw [e _ (by omega)]; exact h.od
  · obtain ⟨m, hm⟩ := h.st hi
    exact ⟨m, hm.cong (fun i hi => e _ (by omega))⟩
  · unfold rfC
    by_cases q : i = j
    · subst q; rw [uI_same, upd_s, h.rz hi]
    · rw [uI_oth (by omega), upd_n q, h.rz hi]
  · rw [e _ (by omega)]; exact h.t.2
  · rw [e _ (by omega)]; exact h.tz hi
theorem IR.ref (h : IR σ a s P tl tx rf) (j : Nat) (hj : j < 3) : IR (rfM σ j) a s P tl tx (upd rf j (rf j + nI 1)) := by
  have e : ∀ c, c ≠ 88 → rfM σ j c = σ c := fun c hc => uI_ne hc
  refine ⟨?_, ?_, fun i hi j hj => ?_, fun i hi => ?_, ?_, fun i hi => ?_⟩
  · rw [e _ (by omega)]; exact h.row
  · rw [e _ (by omega)]; exact h.sd
  · rw [e _ (by omega)]; exact h.st hi hj
  · unfold rfM
    by_cases q : i = j
    · subst q; rw [uI_same, upd_s, h.rz hi]
    · rw [uI_oth (by omega), upd_n q, h.rz hi]
  · rw [e _ (by omega)]; exact h.t
  · rw [e _ (by omega)]; exact h.tz hi
theorem rfC_hi {j c : Nat} (h : 84 ≤ c) : rfC σ j c = σ c := uI_ne (by omega)
theorem rfM_lo {j c : Nat} (h : c < 84) : rfM σ j c = σ c := uI_ne (by omega)
/-! a state is left -/
def sPush (σ : SI) (s o : Nat) : SI := if s = 5 then sPush0 (uI (uI σ 24 1 (nI ((o + 1) % 5))) 24 0 (nI 4)) 4 ((o + 1) % 5) else sPush0 σ s o
def sKeep (σ : SI) (s : Nat) : SI := if s = 5 then sKeep0 (sShift σ) 4 else sKeep0 σ s
def nxS (s : Nat) : Nat := if s = 5 then 5 else s + 1
def nxO (s o : Nat) : Nat := if s = 5 then (o + 1) % 5 else o
def nxP (a : Nat → Int32) (s : Nat) (P : Nat → Nat → Int32) : Nat → Nat → Int32 := fun i => if s = 5 then (if i < 4 then P (i + 1) else a) else (if i < s then P i else a)
theorem push0_ne {c : Nat} (h : c ≠ 24) (h2 : c < 26 + 9 * ((o + s) % 5) ∨ 26 + 9 * ((o + s) % 5) + 8 < c) : sPush0 σ s o c = σ c := by
  unfold sPush0
  rw [uI_ne h, cop_ne h2]
theorem push0_hl (h : HL σ 6 a n) : HL (sPush0 σ s o) (26 + 9 * ((o + s) % 5)) a n := (h.cop (B := 26 + 9 * ((o + s) % 5)) (by omega)).cong (fun i hi => by unfold sPush0; rw [uI_ne (by omega)])
theorem push_hi {c : Nat} (h : 84 ≤ c) : sPush σ s o c = σ c := by
  unfold sPush
  split
  · rw [push0_ne (by omega) (by omega), uI_ne (by omega), uI_ne (by omega)]
  · rw [push0_ne (by omega) (by omega)]
theorem keep_lo {c : Nat} (h : c < 84) : sKeep σ s c = σ c := by
  unfold sKeep sKeep0 sShift
  split
  · rw [uI_ne (by omega), uR_ne (by omega), uI_ne (by omega), uR_ne (by omega)]
  · rw [uI_ne (by omega), uR_ne (by omega)]
theorem IC.push (h : IC σ a n s o P tl tx rf) : IC (sPush σ s o) a n (nxS s) (nxO s o) (nxP a s P) tl tx rf := by
  have ho := h.o5
  have hs := h.s5
  unfold sPush nxS nxO nxP
  by_cases q : s = 5
  · subst q
    simp only [if_true]
    have e : ∀ c, c ≠ 24 → (c < 26 + 9 * (((o + 1) % 5 + 4) % 5) ∨ 26 + 9 * (((o + 1) % 5 + 4) % 5) + 8 < c) → sPush0 (uI (uI σ 24 1 (nI ((o + 1) % 5))) 24 0 (nI 4)) 4 ((o + 1) % 5) c = σ c := fun c h1 h2 => by rw [push0_ne h1 h2, uI_ne h1, uI_ne h1]
    refine ⟨h.hl.cong (fun i hi => e _ (by omega) (by omega)), Nat.le_refl _, Nat.mod_lt _ (by decide), ?_, ?_, fun i hi => ?_, fun i hi => ?_, h.t.1, ?_, fun i hi => ?_⟩
    · unfold sPush0; rw [uI_same]
    · unfold sPush0; rw [uI_oth (by omega), cop_ne (by omega), uI_oth (by omega), uI_same]
    · dsimp only
      by_cases q4 : i < 4
      · rw [if_pos q4]
        obtain ⟨m, hm⟩ := h.st (i := i + 1) (by omega)
        refine ⟨m, ?_⟩
        rw [show (o + 1) % 5 + i = (o + 1) % 5 + i from rfl, show ((o + 1) % 5 + i) % 5 = (o + (i + 1)) % 5 by omega]
        exact hm.cong (fun i hi => e _ (by omega) (by omega))
      · rw [if_neg q4, show i = 4 by omega]
        exact ⟨n, push0_hl (h.hl.cong (fun i hi => by rw [uI_ne (by omega), uI_ne (by omega)]))⟩
    · rw [e _ (by omega) (by omega)]; exact h.rz hi
    · rw [e _ (by omega) (by omega)]; exact h.t.2
    · rw [e _ (by omega) (by omega)]; exact h.tz hi
  · simp only [if_neg q]
    have e : ∀ c, c ≠ 24 → (c < 26 + 9 * ((o + s) % 5) ∨ 26 + 9 * ((o + s) % 5) + 8 < c) → sPush0 σ s o c = σ c := fun c h1 h2 => push0_ne h1 h2
    refine ⟨h.hl.cong (fun i hi => e _ (by omega) (by omega)), by omega, ho, ?_, ?_, fun i hi => ?_, fun i hi => ?_, h.t.1, ?_, fun i hi => ?_⟩
    · unfold sPush0; rw [uI_same]
    · unfold sPush0; rw [uI_oth (by omega), cop_ne (by omega)]; exact h.od
    · dsimp only
      by_cases q4 : i < s
      · rw [if_pos q4]
        obtain ⟨m, hm⟩ := h.st q4
        exact ⟨m, hm.cong (fun i hi => e _ (by omega) (by omega))⟩
      · rw [if_neg q4, show i = s by omega]
        exact ⟨n, push0_hl h.hl⟩
    · rw [e _ (by omega) (by omega)]; exact h.rz hi
    · rw [e _ (by omega) (by omega)]; exact h.t.2
    · rw [e _ (by omega) (by omega)]; exact h.tz hi
theorem IR.keep (h : IR σ a s P tl tx rf) (hs : s ≤ 5) : IR (sKeep σ s) a (nxS s) (nxP a s P) tl tx rf := by
  have hr := h.row
  unfold sKeep nxS nxP
  by_cases q : s = 5
  · subst q
    simp only [if_true]
    have e : ∀ c, c ≠ 84 → c ≠ 86 → sKeep0 (sShift σ) 4 c = σ c := fun c h1 h2 => by unfold sKeep0 sShift; rw [uI_ne h1, uR_ne h2, uI_ne h1, uR_ne h2]
    refine ⟨?_, ?_, fun i hi j hj => ?_, fun i hi => ?_, ?_, fun i hi => ?_⟩
    · rw [e _ (by omega) (by omega)]; exact hr
    · unfold sKeep0; rw [uI_same]
    · unfold sKeep0 sShift
      rw [uI_ne (by omega), uR_eq]
      dsimp only
      by_cases q4 : i < 4
      · rw [if_pos q4, pk_cpy_out (by omega), uI_ne (by omega), uR_eq, pk_cpy_in (by omega) (by omega), ← h.st (i := i + 1) (by omega) hj]
        congr 1; omega
      · rw [if_neg q4, show i = 4 by omega, pk_cpy_in (by omega) (by omega), uI_ne (by omega), uR_ne (by omega), hr, show 0 + (155 * 4 + j - 155 * 4) = j by omega]
    · rw [e _ (by omega) (by omega)]; exact h.rz hi
    · unfold sKeep0 sShift; rw [uI_oth (by omega), uR_ne (by omega), uI_oth (by omega), uR_ne (by omega)]; exact h.t
    · rw [e _ (by omega) (by omega)]; exact h.tz hi
  · simp only [if_neg q]
    have e : ∀ c, c ≠ 84 → c ≠ 86 → sKeep0 σ s c = σ c := fun c h1 h2 => by unfold sKeep0; rw [uI_ne h1, uR_ne h2]
    refine ⟨?_, ?_, fun i hi j hj => ?_, fun i hi => ?_, ?_, fun i hi => ?_⟩
    · rw [e _ (by omega) (by omega)]; exact hr
    · unfold sKeep0; rw [uI_same]
    · unfold sKeep0
      rw [uI_ne (by omega), uR_eq]
      dsimp only
      by_cases q4 : i < s
      · rw [if_pos q4, pk_cpy_out (by omega), ← h.st q4 hj]
      · rw [if_neg q4, show i = s by omega, pk_cpy_in (by omega) (by omega), hr]
        congr 1; omega
    · rw [e _ (by omega) (by omega)]; exact h.rz hi
    · unfold sKeep0; rw [uI_oth (by omega), uR_ne (by omega)]; exact h.t
    · rw [e _ (by omega) (by omega)]; exact h.tz hi
end INV
/-- what stands between two calls -/
def InvT (σ : SI) : Prop := ∃ a n s o P tl tx rf, IC σ a n s o P tl tx rf ∧ IR σ a s P tl tx rf
/-- an answer of the kind that the method gives -/
def rOK : Option FieldType → Value → Bool
  | some .int, .int _ => true
  | some .long, .long _ => true
  | _, _ => false
/-- one call of both: one answer -/
def Step (Kp Kr : MM) (args : List Value) (σ : SI) (δ : SD) : Prop := ∃ r σ1 δ1 σ2, E Kp (.ref 5 :: args) (HH σ δ) (some r) (HH σ1 δ1) ∧ E Kr (.ref 84 :: args) (HH σ1 δ1) (some r) (HH σ2 δ1) ∧ InvT σ2 ∧ rOK (mR Kp) r = true
theorem Step.of {Kp Kr : MM} {args : List Value} {σ σ1 σ2 : SI} {δ δ1 : SD} {r : Value} {a : Nat → Int32} {n s o tl : Nat} {P : Nat → Nat → Int32} {tx rf : Nat → Int32}
    (e1 : E Kp (.ref 5 :: args) (HH σ δ) (some r) (HH σ1 δ1)) (e2 : E Kr (.ref 84 :: args) (HH σ1 δ1) (some r) (HH σ2 δ1))
    (h1 : IC σ1 a n s o P tl tx rf) (h2 : IR σ2 a s P tl tx rf) (e : ∀ c, c < 84 → σ2 c = σ1 c) (hrk : rOK (mR Kp) r = true := by rfl) : Step Kp Kr args σ δ :=
  ⟨r, σ1, δ1, σ2, e1, e2, ⟨a, n, s, o, P, tl, tx, rf, h1.cong e, h2⟩, hrk⟩
/-! rows -/
section WFS
variable {a a' : Nat → Int32} {n n' : Nat}
theorem WF_7 (hW : WF a n) (e : ∀ j, 7 ≤ j → a' j = a j) (h0 : btw (a' 0) 6 16) (h1 : btw (a' 1) 6 16) (h2 : btw (a' 2) 0 2) (h3 : btw (a' 3) 0 2) (h4 : btw (a' 4) 10 80) (h5 : btw (a' 5) 10 30) (h6 : btw (a' 6) 0 6) : WF a' n := by
  obtain ⟨g1, g2, g3, g4, g5, g6, g7, g8, g9, g10, g11⟩ := hW
  refine ⟨g1, ?_, h0, h1, h2, h3, h4, h5, h6, fun k hk => ?_, fun s hs => ?_⟩
  · rw [e _ (by omega)]; exact g2
  · unfold its
    rw [e _ (by omega), e _ (by omega), e _ (by omega), e _ (by omega), e _ (by omega), e _ (by omega)]
    exact g10 k hk
  · rw [e _ (by omega)]
    refine ⟨(g11 s hs).1, fun i hi => ?_⟩
    rw [e _ (by omega), e _ (by omega)]
    exact (g11 s hs).2 i hi
theorem WF_it (hW : WF a n) (hn : n' ≤ 8) (e : ∀ j, j < 7 ∨ 56 ≤ j → a' j = a j) (h7 : a' 7 = nI n') (h : ∀ k, k < n' → btw (its a' k 0) 0 1 ∧ btw (its a' k 1) 1 6 ∧ btw (its a' k 2) 1 4 ∧ btw (its a' k 3) 1 4 ∧ plc (its a' k 4) (its a' k 5)) : WF a' n' := by
  obtain ⟨g1, g2, g3, g4, g5, g6, g7, g8, g9, g10, g11⟩ := hW
  refine ⟨hn, h7, ?_, ?_, ?_, ?_, ?_, ?_, ?_, h, fun s hs => ?_⟩
  · rw [e _ (by omega)]; exact g3
  · rw [e _ (by omega)]; exact g4
  · rw [e _ (by omega)]; exact g5
  · rw [e _ (by omega)]; exact g6
  · rw [e _ (by omega)]; exact g7
  · rw [e _ (by omega)]; exact g8
  · rw [e _ (by omega)]; exact g9
  · rw [e _ (by omega)]
    refine ⟨(g11 s hs).1, fun i hi => ?_⟩
    rw [e _ (by omega), e _ (by omega)]
    exact (g11 s hs).2 i hi
theorem WF.all (h : WF a n) : btw (a 0) 6 16 ∧ btw (a 1) 6 16 ∧ btw (a 2) 0 2 ∧ btw (a 3) 0 2 ∧ btw (a 4) 10 80 ∧ btw (a 5) 10 30 ∧ btw (a 6) 0 6 := ⟨h.2.2.1, h.2.2.2.1, h.2.2.2.2.1, h.2.2.2.2.2.1, h.2.2.2.2.2.2.1, h.2.2.2.2.2.2.2.1, h.2.2.2.2.2.2.2.2.1⟩
theorem WF.it (h : WF a n) {k : Nat} (hk : k < n) : btw (its a k 0) 0 1 ∧ btw (its a k 1) 1 6 ∧ btw (its a k 2) 1 4 ∧ btw (its a k 3) 1 4 ∧ plc (its a k 4) (its a k 5) := h.2.2.2.2.2.2.2.2.2.1 k hk
theorem inB_btw {v : Int32} {lo hi : Nat} (h : inB v (nI lo) (nI hi) = true) (h1 : lo < 1000 := by decide) (h2 : hi < 1000 := by decide) : btw v lo hi := (inB_iff (by omega) (by omega)).mp h
theorem WF_size (hW : WF a n) {w h : Int32} (hk : sheetOK w h = true) : WF (upd (upd a 0 w) 1 h) n := by
  unfold sheetOK at hk
  rw [Bool.and_eq_true] at hk
  obtain ⟨g0, g1, g2, g3, g4, g5, g6⟩ := hW.all
  refine WF_7 hW (fun j hj => by rw [upd_n (by omega), upd_n (by omega)]) ?_ ?_ ?_ ?_ ?_ ?_ ?_
  · rw [upd_n (by omega), upd_s]; exact inB_btw hk.1
  · rw [upd_s]; exact inB_btw hk.2
  · rw [upd_n (by omega), upd_n (by omega)]; exact g2
  · rw [upd_n (by omega), upd_n (by omega)]; exact g3
  · rw [upd_n (by omega), upd_n (by omega)]; exact g4
  · rw [upd_n (by omega), upd_n (by omega)]; exact g5
  · rw [upd_n (by omega), upd_n (by omega)]; exact g6
theorem setOK_in {j : Nat} {v : Int32} (h : setOK (nI j) v = true) (hj : j < 5) : btw v ([0, 0, 10, 10, 0].getD j 0) ([2, 2, 80, 30, 6].getD j 0) := by
  unfold setOK at h
  rw [Bool.and_eq_true] at h
  rcases (show j = 0 ∨ j = 1 ∨ j = 2 ∨ j = 3 ∨ j = 4 by omega) with rfl | rfl | rfl | rfl | rfl
  · exact inB_btw (lo := 0) (hi := 2) h.2
  · exact inB_btw (lo := 0) (hi := 2) h.2
  · exact inB_btw (lo := 10) (hi := 80) h.2
  · exact inB_btw (lo := 10) (hi := 30) h.2
  · exact inB_btw (lo := 0) (hi := 6) h.2
theorem WF_set (hW : WF a n) {j : Nat} {v : Int32} (hj : j < 5) (hk : setOK (nI j) v = true) : WF (upd a (2 + j) v) n := by
  have hb := setOK_in hk hj
  obtain ⟨g0, g1, g2, g3, g4, g5, g6⟩ := hW.all
  have e0 : upd a (2 + j) v 0 = a 0 := upd_n (by omega)
  have e1 : upd a (2 + j) v 1 = a 1 := upd_n (by omega)
  rcases (show j = 0 ∨ j = 1 ∨ j = 2 ∨ j = 3 ∨ j = 4 by omega) with rfl | rfl | rfl | rfl | rfl
  · exact WF_7 hW (fun i hi => upd_n (by omega)) (e0 ▸ g0) (e1 ▸ g1) (by rw [upd_s]; exact hb) (by rw [upd_n (by omega)]; exact g3) (by rw [upd_n (by omega)]; exact g4) (by rw [upd_n (by omega)]; exact g5) (by rw [upd_n (by omega)]; exact g6)
  · exact WF_7 hW (fun i hi => upd_n (by omega)) (e0 ▸ g0) (e1 ▸ g1) (by rw [upd_n (by omega)]; exact g2) (by rw [upd_s]; exact hb) (by rw [upd_n (by omega)]; exact g4) (by rw [upd_n (by omega)]; exact g5) (by rw [upd_n (by omega)]; exact g6)
  · exact WF_7 hW (fun i hi => upd_n (by omega)) (e0 ▸ g0) (e1 ▸ g1) (by rw [upd_n (by omega)]; exact g2) (by rw [upd_n (by omega)]; exact g3) (by rw [upd_s]; exact hb) (by rw [upd_n (by omega)]; exact g5) (by rw [upd_n (by omega)]; exact g6)
  · exact WF_7 hW (fun i hi => upd_n (by omega)) (e0 ▸ g0) (e1 ▸ g1) (by rw [upd_n (by omega)]; exact g2) (by rw [upd_n (by omega)]; exact g3) (by rw [upd_n (by omega)]; exact g4) (by rw [upd_s]; exact hb) (by rw [upd_n (by omega)]; exact g6)
  · exact WF_7 hW (fun i hi => upd_n (by omega)) (e0 ▸ g0) (e1 ▸ g1) (by rw [upd_n (by omega)]; exact g2) (by rw [upd_n (by omega)]; exact g3) (by rw [upd_n (by omega)]; exact g4) (by rw [upd_n (by omega)]; exact g5) (by rw [upd_s]; exact hb)
theorem traitOK_in {j : Nat} {v : Int32} (h : traitOK (nI j) v = true) (hj : j < 4) : btw v ([0, 1, 1, 1].getD j 0) ([1, 6, 4, 4].getD j 0) := by
  unfold traitOK at h
  rw [Bool.and_eq_true] at h
  rcases (show j = 0 ∨ j = 1 ∨ j = 2 ∨ j = 3 by omega) with rfl | rfl | rfl | rfl
  · exact inB_btw (lo := 0) (hi := 1) h.2
  · exact inB_btw (lo := 1) (hi := 6) h.2
  · exact inB_btw (lo := 1) (hi := 4) h.2
  · exact inB_btw (lo := 1) (hi := 4) h.2
theorem its_upd {k j k' j' : Nat} {v : Int32} (hj : j < 6) (hj' : j' < 6) : its (upd a (8 + 6 * k + j) v) k' j' = if k' = k ∧ j' = j then v else its a k' j' := by
  unfold its
  by_cases h : k' = k ∧ j' = j
  · rw [if_pos h, h.1, h.2, upd_s]
  · rw [if_neg h, upd_n (by omega)]
theorem WF_trait (hW : WF a n) {k j : Nat} {v : Int32} (hk : k < n) (hj : j < 4) (ht : traitOK (nI j) v = true) : WF (upd a (8 + 6 * k + j) v) n := by
  have hb := traitOK_in ht hj
  have h8 := hW.n8
  refine WF_it hW h8 (fun i hi => upd_n (by omega)) (by rw [upd_n (by omega)]; exact hW.a7) (fun k' hk' => ?_)
  obtain ⟨q0, q1, q2, q3, q4⟩ := hW.it hk'
  rw [its_upd (by omega) (by decide), its_upd (by omega) (by decide), its_upd (by omega) (by decide), its_upd (by omega) (by decide), its_upd (by omega) (by decide), its_upd (by omega) (by decide)]
  rw [if_neg (c := k' = k ∧ 4 = j) (by omega), if_neg (c := k' = k ∧ 5 = j) (by omega)]
  refine ⟨?_, ?_, ?_, ?_, q4⟩
  · by_cases q : k' = k ∧ 0 = j
    · obtain ⟨qq, rfl⟩ := q; rw [if_pos ⟨qq, rfl⟩]; exact hb
    · rw [if_neg q]; exact q0
  · by_cases q : k' = k ∧ 1 = j
    · obtain ⟨qq, rfl⟩ := q; rw [if_pos ⟨qq, rfl⟩]; exact hb
    · rw [if_neg q]; exact q1
  · by_cases q : k' = k ∧ 2 = j
    · obtain ⟨qq, rfl⟩ := q; rw [if_pos ⟨qq, rfl⟩]; exact hb
    · rw [if_neg q]; exact q2
  · by_cases q : k' = k ∧ 3 = j
    · obtain ⟨qq, rfl⟩ := q; rw [if_pos ⟨qq, rfl⟩]; exact hb
    · rw [if_neg q]; exact q3
theorem WF_item (hW : WF a n) (hn : n < 8) {so r c b : Int32} (hk : (traitOK (nI 0) so && traitOK (nI 1) r && traitOK (nI 2) c && traitOK (nI 3) b) = true) : WF (aItem a n so r c b) (n + 1) := by
  simp only [Bool.and_eq_true] at hk
  obtain ⟨⟨⟨t0, t1⟩, t2⟩, t3⟩ := hk
  have e : ∀ j, j ≠ 7 → ¬ (8 + 6 * n ≤ j ∧ j < 8 + 6 * n + 6) → aItem a n so r c b j = a j := fun j h1 h2 => by
    unfold aItem
    repeat rw [upd_n (by omega)]
  refine WF_it hW hn (fun j hj => e j (by omega) (by omega)) (by unfold aItem; rw [upd_s]) (fun k hk => ?_)
  by_cases q : k = n
  · subst q
    have f0 : its (aItem a k so r c b) k 0 = so := by unfold aItem its; repeat (first | rw [upd_s] | rw [upd_n (by omega)])
    have f1 : its (aItem a k so r c b) k 1 = r := by unfold aItem its; repeat (first | rw [upd_s] | rw [upd_n (by omega)])
    have f2 : its (aItem a k so r c b) k 2 = c := by unfold aItem its; repeat (first | rw [upd_s] | rw [upd_n (by omega)])
    have f3 : its (aItem a k so r c b) k 3 = b := by unfold aItem its; repeat (first | rw [upd_s] | rw [upd_n (by omega)])
    have f4 : its (aItem a k so r c b) k 4 = -1 := by unfold aItem its; repeat (first | rw [upd_s] | rw [upd_n (by omega)])
    have f5 : its (aItem a k so r c b) k 5 = -1 := by unfold aItem its; repeat (first | rw [upd_s] | rw [upd_n (by omega)])
    rw [f0, f1, f2, f3, f4, f5]
    exact ⟨traitOK_in t0 (by decide), traitOK_in t1 (by decide), traitOK_in t2 (by decide), traitOK_in t3 (by decide), Or.inl ⟨rfl, rfl⟩⟩
  · unfold its
    rw [e _ (by omega) (by omega), e _ (by omega) (by omega), e _ (by omega) (by omega), e _ (by omega) (by omega), e _ (by omega) (by omega), e _ (by omega) (by omega)]
    exact hW.it (by omega)
theorem drop_its {k0 k j : Nat} (hk : k < n - 1) (hj : j < 6) : its (aDrop a n k0) k j = if k0 ≤ k then its a (k + 1) j else its a k j := by
  unfold its aDrop
  rw [if_neg (by omega)]
  by_cases q : k0 ≤ k
  · rw [if_pos (by omega), if_pos q]; congr 1; omega
  · rw [if_neg (by omega), if_neg q]
theorem WF_drop (hW : WF a n) {k0 : Nat} (hk0 : k0 < n) : WF (aDrop a n k0) (n - 1) := by
  have h8 := hW.n8
  refine WF_it hW (by omega) (fun j hj => ?_) rfl (fun k hk => ?_)
  · unfold aDrop; rw [if_neg (by omega), if_neg (by omega)]
  · rw [drop_its hk (by decide), drop_its hk (by decide), drop_its hk (by decide), drop_its hk (by decide), drop_its hk (by decide), drop_its hk (by decide)]
    by_cases q : k0 ≤ k
    · simp only [if_pos q]; exact hW.it (by omega)
    · simp only [if_neg q]; exact hW.it (by omega)
end WFS
set_option maxRecDepth 100000 in
theorem c_KP_mayChange0A {σ : SI} {δ : SD} {a : Nat → Int32} {n s o tl : Nat} {P : Nat → Nat → Int32} {tx rf : Nat → Int32} (hI : IC σ a n s o P tl tx rf) (hs : s < 5) : E KP_mayChange [.ref 5, .int (nI 0)] (HH σ δ) (some (.int (bI true))) (HH (sPush0 σ s o) δ) := by
  refine E.ofL [some (.ref 5), some (.int (nI 0))] rfl pn_RX8 rfl (fun sc => ?_)
  refine g_aload_n dX8_mayChange_0 rfl ?_
  refine g_iload_n dX8_mayChange_1 rfl ?_
  refine g_v1 (M' := KP_mayAnswer) dX8_mayChange_2 l_P_100 v_KP_mayAnswer c_KP_mayAnswer0 rc_5 rfl rfl ⟨rfl, rfl⟩ ?_
  refine g_istore_n dX8_mayChange_5 rfl ?_
  refine g_iload_n dX8_mayChange_6 rfl ?_
  refine b_if_eq (tgt := 21) dX8_mayChange_7 rfl (fun zc7 => ?_) (fun zc7 => ?_)
  · exact absurd zc7 (by decide)
  · refine g_aload_n dX8_mayChange_10 rfl ?_
    refine q_getq dX8_mayChange_11 f_P_22 ck_5 (by decide) ty_7_2 rf_5_2 ?_
    refine g_aload_n dX8_mayChange_14 rfl ?_
    refine q_getq dX8_mayChange_15 f_P_12 ck_5 (by decide) ty_7_0 rf_5_0 ?_
    refine g_v1n (M' := KQ_push) dX8_mayChange_18 l_P_152 v_KQ_push (c_KQ_pushA hs hI.o5 hI.c hI.od) rc_24 rfl rfl ⟨rfl, rfl⟩ ?_
    refine g_iload_n dX8_mayChange_21 rfl ?_
    exact e_zret dX8_mayChange_22 rfl (by rfl) (by rfl)
set_option maxRecDepth 100000 in
theorem c_KP_mayChange0B {σ : SI} {δ : SD} {a : Nat → Int32} {n o tl : Nat} {P : Nat → Nat → Int32} {tx rf : Nat → Int32} (hI : IC σ a n 5 o P tl tx rf) : E KP_mayChange [.ref 5, .int (nI 0)] (HH σ δ) (some (.int (bI true))) (HH (sPush σ 5 o) δ) := by
  refine E.ofL [some (.ref 5), some (.int (nI 0))] rfl pn_RX8 rfl (fun sc => ?_)
  refine g_aload_n dX8_mayChange_0 rfl ?_
  refine g_iload_n dX8_mayChange_1 rfl ?_
  refine g_v1 (M' := KP_mayAnswer) dX8_mayChange_2 l_P_100 v_KP_mayAnswer c_KP_mayAnswer0 rc_5 rfl rfl ⟨rfl, rfl⟩ ?_
  refine g_istore_n dX8_mayChange_5 rfl ?_
  refine g_iload_n dX8_mayChange_6 rfl ?_
  refine b_if_eq (tgt := 21) dX8_mayChange_7 rfl (fun zc7 => ?_) (fun zc7 => ?_)
  · exact absurd zc7 (by decide)
  · refine g_aload_n dX8_mayChange_10 rfl ?_
    refine q_getq dX8_mayChange_11 f_P_22 ck_5 (by decide) ty_7_2 rf_5_2 ?_
    refine g_aload_n dX8_mayChange_14 rfl ?_
    refine q_getq dX8_mayChange_15 f_P_12 ck_5 (by decide) ty_7_0 rf_5_0 ?_
    refine g_v1n (M' := KQ_push) dX8_mayChange_18 l_P_152 v_KQ_push (c_KQ_pushB hI.o5 hI.c hI.od) rc_24 rfl rfl ⟨rfl, rfl⟩ ?_
    refine g_iload_n dX8_mayChange_21 rfl ?_
    exact e_zret dX8_mayChange_22 rfl (by rfl) (by rfl)
theorem c_KP_mayChange0 {σ : SI} {δ : SD} {a : Nat → Int32} {n s o tl : Nat} {P : Nat → Nat → Int32} {tx rf : Nat → Int32} (hI : IC σ a n s o P tl tx rf) : E KP_mayChange [.ref 5, .int (nI 0)] (HH σ δ) (some (.int (bI true))) (HH (sPush σ s o) δ) := by
  by_cases h : s = 5
  · subst h; exact c_KP_mayChange0B hI
  · rw [show sPush σ s o = sPush0 σ s o from if_neg h]; exact c_KP_mayChange0A hI (by have := hI.s5; omega)
set_option maxRecDepth 100000 in
theorem c_KP_mayChange2 {σ : SI} {δ : SD} : E KP_mayChange [.ref 5, .int (-2)] (HH σ δ) (some (.int (bI false))) (HH (rfC σ 0) δ) := by
  refine E.ofL [some (.ref 5), some (.int (-2))] rfl pn_RX8 rfl (fun sc => ?_)
  refine g_aload_n dX8_mayChange_0 rfl ?_
  refine g_iload_n dX8_mayChange_1 rfl ?_
  refine g_v1 (M' := KP_mayAnswer) dX8_mayChange_2 l_P_100 v_KP_mayAnswer c_KP_mayAnswer2 rc_5 rfl rfl ⟨rfl, rfl⟩ ?_
  refine g_istore_n dX8_mayChange_5 rfl ?_
  refine g_iload_n dX8_mayChange_6 rfl ?_
  refine b_if_eq (tgt := 21) dX8_mayChange_7 rfl (fun zc7 => ?_) (fun zc7 => ?_)
  · refine g_iload_n dX8_mayChange_21 rfl ?_
    exact e_zret dX8_mayChange_22 rfl (by rfl) (by rfl)
  · exact absurd zc7 (by decide)
set_option maxRecDepth 100000 in
theorem c_KP_mayChange3 {σ : SI} {δ : SD} : E KP_mayChange [.ref 5, .int (-3)] (HH σ δ) (some (.int (bI false))) (HH (rfC σ 1) δ) := by
  refine E.ofL [some (.ref 5), some (.int (-3))] rfl pn_RX8 rfl (fun sc => ?_)
  refine g_aload_n dX8_mayChange_0 rfl ?_
  refine g_iload_n dX8_mayChange_1 rfl ?_
  refine g_v1 (M' := KP_mayAnswer) dX8_mayChange_2 l_P_100 v_KP_mayAnswer c_KP_mayAnswer3 rc_5 rfl rfl ⟨rfl, rfl⟩ ?_
  refine g_istore_n dX8_mayChange_5 rfl ?_
  refine g_iload_n dX8_mayChange_6 rfl ?_
  refine b_if_eq (tgt := 21) dX8_mayChange_7 rfl (fun zc7 => ?_) (fun zc7 => ?_)
  · refine g_iload_n dX8_mayChange_21 rfl ?_
    exact e_zret dX8_mayChange_22 rfl (by rfl) (by rfl)
  · exact absurd zc7 (by decide)
set_option maxRecDepth 100000 in
theorem c_KP_mayChange4 {σ : SI} {δ : SD} : E KP_mayChange [.ref 5, .int (-4)] (HH σ δ) (some (.int (bI false))) (HH (rfC σ 2) δ) := by
  refine E.ofL [some (.ref 5), some (.int (-4))] rfl pn_RX8 rfl (fun sc => ?_)
  refine g_aload_n dX8_mayChange_0 rfl ?_
  refine g_iload_n dX8_mayChange_1 rfl ?_
  refine g_v1 (M' := KP_mayAnswer) dX8_mayChange_2 l_P_100 v_KP_mayAnswer c_KP_mayAnswer4 rc_5 rfl rfl ⟨rfl, rfl⟩ ?_
  refine g_istore_n dX8_mayChange_5 rfl ?_
  refine g_iload_n dX8_mayChange_6 rfl ?_
  refine b_if_eq (tgt := 21) dX8_mayChange_7 rfl (fun zc7 => ?_) (fun zc7 => ?_)
  · refine g_iload_n dX8_mayChange_21 rfl ?_
    exact e_zret dX8_mayChange_22 rfl (by rfl) (by rfl)
  · exact absurd zc7 (by decide)
theorem c_KR_keep {σ : SI} {δ : SD} {s : Nat} (hs : s ≤ 5) (h3 : σ 84 3 = nI s) : E KR_keep [.ref 84] (HH σ δ) none (HH (sKeep σ s) δ) := by
  by_cases h : s = 5
  · subst h; exact c_KR_keepB h3
  · rw [show sKeep σ s = sKeep0 σ s from if_neg h]; exact c_KR_keepA (by omega) h3
