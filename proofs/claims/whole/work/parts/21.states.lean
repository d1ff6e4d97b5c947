/-! CONTRACTS: states, copies, refusals -/
def copE (σ : SI) (B C : Nat) : SI := uR (uI σ (B + 1) 0 (σ (C + 1) 0)) (B + 2) (va_cpy (σ (C + 2)) (σ (B + 2)) 0 0 96)
/-- layout C is copied to B -/
def cop (σ : SI) (B C : Nat) : SI := uR (uR (uR (uR (uR (uR (copE (uI (uI (uI (uI σ B 0 (σ C 0)) B 1 (σ C 1)) B 2 (σ C 2)) B 10 (σ C 10)) B C)
  (B + 3) (va_cpy (σ (C + 3)) (σ (B + 3)) 0 0 5)) (B + 4) (va_cpy (σ (C + 4)) (σ (B + 4)) 0 0 32)) (B + 5) (va_cpy (σ (C + 5)) (σ (B + 5)) 0 0 8)) (B + 6) (va_cpy (σ (C + 6)) (σ (B + 6)) 0 0 8)) (B + 7) (va_cpy (σ (C + 7)) (σ (B + 7)) 0 0 8)) (B + 8) (va_cpy (σ (C + 8)) (σ (B + 8)) 0 0 8)
theorem cop_ne {σ : SI} {B C c : Nat} (h : c < B ∨ B + 8 < c) : cop σ B C c = σ c := by
  unfold cop copE
  simp (disch := omega) only [uI_ne, uR_ne]
theorem cop_0 {σ : SI} {B C j : Nat} (h : j < 3 ∨ j = 10) : cop σ B C B j = σ C j := by
  unfold cop copE
  simp (disch := omega) only [uI_ne, uR_ne]
  rcases (show j = 0 ∨ j = 1 ∨ j = 2 ∨ j = 10 by omega) with rfl | rfl | rfl | rfl <;> simp (disch := omega) only [uI_oth, uI_same]
theorem cop_1 {σ : SI} {B C : Nat} (h : B + 8 < C ∨ C + 8 < B) : cop σ B C (B + 1) 0 = σ (C + 1) 0 := by
  unfold cop copE
  simp (disch := omega) only [uI_ne, uR_ne, uI_same]
theorem cop_r2 {σ : SI} {B C b : Nat} (h : B + 8 < C ∨ C + 8 < B) (hb : b < 96) : cop σ B C (B + 2) b = σ (C + 2) b := by
  unfold cop copE
  simp (disch := omega) only [uI_ne, uR_ne, uR_eq]
  rw [pk_cpy_in (by omega) (by omega)]; congr 1; omega
theorem cop_r3 {σ : SI} {B C b : Nat} (h : B + 8 < C ∨ C + 8 < B) (hb : b < 5) : cop σ B C (B + 3) b = σ (C + 3) b := by
  unfold cop copE
  simp (disch := omega) only [uI_ne, uR_ne, uR_eq]
  rw [pk_cpy_in (by omega) (by omega)]; congr 1; omega
theorem cop_r4 {σ : SI} {B C b : Nat} (h : B + 8 < C ∨ C + 8 < B) (hb : b < 32) : cop σ B C (B + 4) b = σ (C + 4) b := by
  unfold cop copE
  simp (disch := omega) only [uI_ne, uR_ne, uR_eq]
  rw [pk_cpy_in (by omega) (by omega)]; congr 1; omega
theorem cop_r5 {σ : SI} {B C b : Nat} (h : B + 8 < C ∨ C + 8 < B) (hb : b < 8) : cop σ B C (B + 5) b = σ (C + 5) b := by
  unfold cop copE
  simp (disch := omega) only [uI_ne, uR_ne, uR_eq]
  rw [pk_cpy_in (by omega) (by omega)]; congr 1; omega
theorem cop_r6 {σ : SI} {B C b : Nat} (h : B + 8 < C ∨ C + 8 < B) (hb : b < 8) : cop σ B C (B + 6) b = σ (C + 6) b := by
  unfold cop copE
  simp (disch := omega) only [uI_ne, uR_ne, uR_eq]
  rw [pk_cpy_in (by omega) (by omega)]; congr 1; omega
theorem cop_r7 {σ : SI} {B C b : Nat} (h : B + 8 < C ∨ C + 8 < B) (hb : b < 8) : cop σ B C (B + 7) b = σ (C + 7) b := by
  unfold cop copE
  simp (disch := omega) only [uI_ne, uR_ne, uR_eq]
  rw [pk_cpy_in (by omega) (by omega)]; congr 1; omega
theorem cop_r8 {σ : SI} {B C b : Nat} (h : B + 8 < C ∨ C + 8 < B) (hb : b < 8) : cop σ B C (B + 8) b = σ (C + 8) b := by
  unfold cop copE
  simp (disch := omega) only [uI_ne, uR_ne, uR_eq]
  rw [pk_cpy_in (by omega) (by omega)]; congr 1; omega
/-! the series; a layout as a whole -/
def kbN (a : Nat → Int32) (s : Nat) : Nat := if a (56 + 33 * s) = nI 1 then 1 else 0
def kpA (a : Nat → Int32) (s k j : Nat) : Int32 := a (56 + 33 * s + 1 + 4 * k + j)
def RS (σ : SI) (B : Nat) (a : Nat → Int32) : Prop :=
  σ (B + 1) 0 = nI (kbN a 0 + 2 * kbN a 1 + 4 * kbN a 2) ∧
  ∀ s, s < 3 → kbN a s = 1 → ∀ k, k < 8 → σ (B + 2) ((s * 8 + k) * 4 + 0) = kpA a s k 0 ∧ σ (B + 2) ((s * 8 + k) * 4 + 1) = kpA a s k 1 ∧
    (¬ kpA a s k 0 = -1 → σ (B + 2) ((s * 8 + k) * 4 + 2) = kpA a s k 2 ∧ σ (B + 2) ((s * 8 + k) * 4 + 3) = kpA a s k 3)
def HL (σ : SI) (B : Nat) (a : Nat → Int32) (n : Nat) : Prop := WF a n ∧ RB σ B a n ∧ RD σ B a n ∧ RS σ B a
theorem HL.wf {σ : SI} {B n : Nat} {a : Nat → Int32} (h : HL σ B a n) : WF a n := h.1
theorem HL.rb {σ : SI} {B n : Nat} {a : Nat → Int32} (h : HL σ B a n) : RB σ B a n := h.2.1
theorem HL.rd {σ : SI} {B n : Nat} {a : Nat → Int32} (h : HL σ B a n) : RD σ B a n := h.2.2.1
theorem HL.rs {σ : SI} {B n : Nat} {a : Nat → Int32} (h : HL σ B a n) : RS σ B a := h.2.2.2
theorem HL.cong {σ σ' : SI} {B n : Nat} {a : Nat → Int32} (h : HL σ B a n) (e : ∀ i, i ≤ 8 → σ' (B + i) = σ (B + i)) : HL σ' B a n := by
  obtain ⟨h1, h2, h3, h4⟩ := h
  have e0 := e 0 (by decide)
  rw [Nat.add_zero] at e0
  refine ⟨h1, h2.cong (fun j _ => by rw [e0]) (fun i _ _ => e i (by omega)), ?_, ?_⟩
  · unfold RD
    rw [e 7 (by decide), e 8 (by decide), e0]
    exact h3
  · unfold RS
    rw [e 1 (by decide), e 2 (by decide)]
    exact h4
theorem HL.cop {σ : SI} {B C n : Nat} {a : Nat → Int32} (h : HL σ C a n) (hd : B + 8 < C ∨ C + 8 < B) : HL (cop σ B C) B a n := by
  obtain ⟨h1, h2, h3, h4⟩ := h
  have h8 := h1.n8
  refine ⟨h1, ⟨?_, ?_, ?_, fun i hi => ?_, fun k hk j hj => ?_, fun k hk => ?_, fun k hk => ?_⟩, ⟨fun k hk => ?_, fun k hk => ?_, ?_⟩, ⟨?_, fun s hs hq k hk => ?_⟩⟩
  · rw [cop_0 (by omega)]; exact h2.w
  · rw [cop_0 (by omega)]; exact h2.h
  · rw [cop_0 (by omega)]; exact h2.c
  · rw [cop_r3 hd (by omega)]; exact h2.s i hi
  · rw [cop_r4 hd (by omega)]; exact h2.t hk hj
  · rw [cop_r5 hd (by omega)]; exact h2.x hk
  · rw [cop_r6 hd (by omega)]; exact h2.y hk
  · rw [cop_r7 hd (by omega)]; exact h3.1 k hk
  · rw [cop_r8 hd (by omega)]; exact h3.2.1 k hk
  · rw [cop_0 (by omega)]; exact h3.2.2
  · rw [cop_1 hd]; exact h4.1
  · rw [cop_r2 hd (by omega), cop_r2 hd (by omega), cop_r2 hd (by omega), cop_r2 hd (by omega)]; exact h4.2 s hs hq k hk
section ROW
variable {a a' : Nat → Int32} {n : Nat}
theorem row_its (e : ∀ j, j < 155 → a' j = a j) {k j : Nat} (hk : k < 8) (hj : j < 6) : its a' k j = its a k j := e _ (by omega)
theorem row_itN (e : ∀ j, j < 155 → a' j = a j) {k j : Nat} (hk : k < 8) (hj : j < 6) : itN a' k j = itN a k j := by unfold itN; rw [row_its e hk hj]
theorem row_wide (e : ∀ j, j < 155 → a' j = a j) {k : Nat} (hk : k < 8) : wideF a' k = wideF a k := by
  unfold wideF bigN ratN
  rw [row_itN e hk (by decide), row_itN e hk (by decide), row_itN e hk (by decide), row_itN e hk (by decide), e 4 (by decide), e 5 (by decide)]
theorem row_high (e : ∀ j, j < 155 → a' j = a j) {k : Nat} (hk : k < 8) : highF a' k = highF a k := by
  unfold highF bigN ratN
  rw [row_itN e hk (by decide), e 4 (by decide), e 5 (by decide)]
theorem row_line (e : ∀ j, j < 155 → a' j = a j) {i : Nat} : lineF a' i = lineF a i := by
  unfold lineF
  rw [e 0 (by decide), e 2 (by decide), e 6 (by decide)]
theorem row_lb (e : ∀ j, j < 155 → a' j = a j) : ∀ i, lbF a' i = lbF a i
  | 0 => rfl
  | i + 1 => by unfold lbF; rw [row_lb e i, row_line e]
theorem row_WF (e : ∀ j, j < 155 → a' j = a j) (hW : WF a n) : WF a' n := by
  obtain ⟨g1, g2, g3, g4, g5, g6, g7, g8, g9, g10, g11⟩ := hW
  refine ⟨g1, ?_, ?_, ?_, ?_, ?_, ?_, ?_, ?_, fun k' hk' => ?_, fun s hs => ?_⟩
  · rw [e _ (by decide)]; exact g2
  · rw [e _ (by decide)]; exact g3
  · rw [e _ (by decide)]; exact g4
  · rw [e _ (by decide)]; exact g5
  · rw [e _ (by decide)]; exact g6
  · rw [e _ (by decide)]; exact g7
  · rw [e _ (by decide)]; exact g8
  · rw [e _ (by decide)]; exact g9
  · rw [row_its e (by omega) (by decide), row_its e (by omega) (by decide), row_its e (by omega) (by decide), row_its e (by omega) (by decide), row_its e (by omega) (by decide), row_its e (by omega) (by decide)]
    exact g10 k' hk'
  · rw [e _ (by omega)]
    refine ⟨(g11 s hs).1, fun i hi => ?_⟩
    rw [e _ (by omega), e _ (by omega)]
    exact (g11 s hs).2 i hi
theorem HL.row {σ : SI} {B : Nat} (h : HL σ B a n) (e : ∀ j, j < 155 → a' j = a j) : HL σ B a' n := by
  obtain ⟨h1, h2, h3, h4⟩ := h
  have h8 := h1.n8
  refine ⟨row_WF e h1, ⟨?_, ?_, ?_, fun i hi => ?_, fun k hk j hj => ?_, fun k hk => ?_, fun k hk => ?_⟩, ⟨fun k hk => ?_, fun k hk => ?_, ?_⟩, ⟨?_, fun s hs hq k hk => ?_⟩⟩
  · rw [e _ (by decide)]; exact h2.w
  · rw [e _ (by decide)]; exact h2.h
  · exact h2.c
  · rw [e _ (by omega)]; exact h2.s i hi
  · rw [row_its e (by omega) (by omega)]; exact h2.t hk hj
  · rw [row_its e (by omega) (by omega)]; exact h2.x hk
  · rw [row_its e (by omega) (by omega)]; exact h2.y hk
  · rw [row_wide e (by omega)]; exact h3.1 k hk
  · rw [row_high e (by omega)]; exact h3.2.1 k hk
  · unfold colN; rw [e _ (by decide), row_lb e]; exact h3.2.2
  · unfold kbN; rw [e _ (by decide), e _ (by decide), e _ (by decide)]; exact h4.1
  · unfold kbN at hq
    rw [e _ (by omega)] at hq
    unfold kpA
    rw [e _ (by omega), e _ (by omega), e _ (by omega), e _ (by omega)]
    exact h4.2 s hs hq k hk
end ROW
theorem LBR {j : Nat} (h : j < 5) : LB (26 + 9 * j) := by
  rcases (show j = 0 ∨ j = 1 ∨ j = 2 ∨ j = 3 ∨ j = 4 by omega) with rfl | rfl | rfl | rfl | rfl <;> simp [LB]
theorem rfR {j : Nat} (h : j < 5) : rfF 25 j = (26 + 9 * j) + 1 := by
  rcases (show j = 0 ∨ j = 1 ∨ j = 2 ∨ j = 3 ∨ j = 4 by omega) with rfl | rfl | rfl | rfl | rfl <;> rfl
def sPush0 (σ : SI) (s o : Nat) : SI := uI (cop σ (26 + 9 * ((o + s) % 5)) 6) 24 0 (nI (s + 1))
def sKeep0 (σ : SI) (s : Nat) : SI := uI (uR σ 86 (va_cpy (σ 85) (σ 86) 0 (155 * s) 155)) 84 3 (nI (s + 1))
def sShift (σ : SI) : SI := uI (uR σ 86 (va_cpy (σ 86) (σ 86) 155 0 620)) 84 3 (nI 4)
def sBack (σ : SI) (s : Nat) : SI := uR (uI σ 84 3 (nI s)) 85 (va_cpy (σ 86) (σ 85) (155 * s) 0 155)
theorem cpy_0 {σ : SI} {c sp dp : Nat} {f : Nat → Int32} : uR σ c (va_cpy f (σ c) sp dp 0) = σ := by
  funext a b
  unfold uR
  by_cases h : a = c
  · rw [if_pos h, pk_cpy_out (by omega), h]
  · rw [if_neg h]
theorem cpy_st {σ : SI} {c sp dp k : Nat} {f : Nat → Int32} {v : Int32} (g : Nat → Int32) (e : v = f (sp + k)) : uI (uR σ c (va_cpy f g sp dp k)) c (dp + k) v = uR σ c (va_cpy f g sp dp (k + 1)) := by
  subst e
  funext a b
  unfold uI uR
  by_cases h : a = c
  · rw [if_pos h, if_pos h]
    by_cases hb : b = dp + k
    · rw [if_pos ⟨h, hb⟩, pk_cpy_in (by omega) (by omega), hb]; congr 1; omega
    · rw [if_neg (by omega)]
      by_cases h2 : dp ≤ b ∧ b < dp + k
      · rw [pk_cpy_in (by omega) (by omega), pk_cpy_in (by omega) (by omega)]
      · rw [pk_cpy_out (by omega), pk_cpy_out (by omega)]
  · rw [if_neg h, if_neg h, if_neg (fun q => h q.1)]
theorem cpy_s0 {σ : SI} {dp k : Nat} : uI (uR σ 86 (va_cpy (σ 85) (σ 86) 0 dp k)) 86 (dp + k) (uR σ 86 (va_cpy (σ 85) (σ 86) 0 dp k) 85 k) = uR σ 86 (va_cpy (σ 85) (σ 86) 0 dp (k + 1)) :=
  cpy_st _ (by rw [uR_ne (by decide), Nat.zero_add])
theorem cpy_sh {σ : SI} {k : Nat} : uI (uR σ 86 (va_cpy (σ 86) (σ 86) 155 0 k)) 86 k (uR σ 86 (va_cpy (σ 86) (σ 86) 155 0 k) 86 (k + 155)) = uR σ 86 (va_cpy (σ 86) (σ 86) 155 0 (k + 1)) := by
  have := cpy_st (σ := σ) (c := 86) (sp := 155) (dp := 0) (k := k) (f := σ 86) (v := uR σ 86 (va_cpy (σ 86) (σ 86) 155 0 k) 86 (k + 155)) (σ 86) (by rw [uR_eq, pk_cpy_out (by omega), Nat.add_comm])
  rwa [Nat.zero_add] at this
theorem cpy_sb {τ : SI} {f g : Nat → Int32} {c d sp k : Nat} (h : c ≠ d) (e : τ c = f) : uI (uR τ d (va_cpy f g sp 0 k)) d k (uR τ d (va_cpy f g sp 0 k) c (sp + k)) = uR τ d (va_cpy f g sp 0 (k + 1)) := by
  have := cpy_st (σ := τ) (c := d) (sp := sp) (dp := 0) (k := k) (f := f) (v := uR τ d (va_cpy f g sp 0 k) c (sp + k)) g (by rw [uR_ne h, e])
  rwa [Nat.zero_add] at this
set_option maxRecDepth 100000 in
theorem c_KE_copyFrom {σ : SI} {δ : SD} {B C : Nat} (hB : LB B) (hC : LB C) (hBC : B + 8 < C ∨ C + 8 < B) : E KE_copyFrom [.ref (B + 1), .ref (C + 1)] (HH σ δ) (none) (HH (copE σ B C) δ) := by
  refine E.ofL [some (.ref (B + 1)), some (.ref (C + 1))] rfl pn_RX4 rfl (fun sc => ?_)
  refine g_aload_n dX4_copyFrom_0 rfl ?_
  refine g_ifnonnull (tgt := 5) dX4_copyFrom_1 rfl ?_
  refine g_aload_n dX4_copyFrom_5 rfl ?_
  refine g_aload_n dX4_copyFrom_6 rfl ?_
  refine q_geti dX4_copyFrom_7 f_E_15 (ckL_1 hC) (by decide) ty_3_0 ?_
  refine q_puti dX4_copyFrom_10 f_E_15 (ckL_1 hB) (by decide) ty_3_0 fi_3_0 ?_
  refine g_aload_n dX4_copyFrom_13 rfl ?_
  refine q_getq dX4_copyFrom_14 f_E_11 (ckL_1 hC) (by decide) ty_3_1 (rfE_1 hC) ?_
  refine g_iconst dX4_copyFrom_17 ic_0 ?_
  refine g_aload_n dX4_copyFrom_18 rfl ?_
  refine q_getq dX4_copyFrom_19 f_E_11 (ckL_1 hB) (by decide) ty_3_1 (rfE_1 hB) ?_
  refine g_iconst dX4_copyFrom_22 ic_0 ?_
  refine g_bipush dX4_copyFrom_23 bp_96 ?_
  refine q_copy dX4_copyFrom_25 l_E_19 (ckL_2 hC) (ckL_2 hB) (j0 := 0) (j1 := 0) (k := 96) (nI_arg (by omega)) (nI_arg (by omega)) (nI_arg (by omega)) (by omega) (by omega) rfl ?_
  exact e_vret dX4_copyFrom_28 rfl (by show HH (uR (uI σ (B + 1) 0 (σ (C + 1) 0)) (B + 2) (va_cpy (uI σ (B + 1) 0 (σ (C + 1) 0) (C + 2)) (uI σ (B + 1) 0 (σ (C + 1) 0) (B + 2)) 0 0 96)) δ = HH (copE σ B C) δ; unfold copE; rw [uI_ne (show C + 2 ≠ B + 1 by omega), uI_ne (show B + 2 ≠ B + 1 by omega)])
set_option maxRecDepth 100000 in
theorem c_KL_copyFrom {σ : SI} {δ : SD} {B C : Nat} (hB : LB B) (hC : LB C) (hBC : B + 8 < C ∨ C + 8 < B) : E KL_copyFrom [.ref B, .ref C] (HH σ δ) (none) (HH (cop σ B C) δ) := by
  refine E.ofL [some (.ref B), some (.ref C)] rfl pn_RX1 rfl (fun sc => ?_)
  refine g_aload_n dX1_copyFrom_0 rfl ?_
  refine g_ifnonnull (tgt := 5) dX1_copyFrom_1 rfl ?_
  refine g_aload_n dX1_copyFrom_5 rfl ?_
  refine g_aload_n dX1_copyFrom_6 rfl ?_
  refine q_geti dX1_copyFrom_7 f_L_9 (ckL_0 hC) (by decide) ty_0_0 ?_
  refine q_puti dX1_copyFrom_10 f_L_9 (ckL_0 hB) (by decide) ty_0_0 fi_0_0 ?_
  refine g_aload_n dX1_copyFrom_13 rfl ?_
  refine g_aload_n dX1_copyFrom_14 rfl ?_
  refine q_geti dX1_copyFrom_15 f_L_15 (ckL_0 hC) (by decide) ty_0_1 ?_
  refine q_puti dX1_copyFrom_18 f_L_15 (ckL_0 hB) (by decide) ty_0_1 fi_0_1 ?_
  refine g_aload_n dX1_copyFrom_21 rfl ?_
  refine g_aload_n dX1_copyFrom_22 rfl ?_
  refine q_geti dX1_copyFrom_23 f_L_44 (ckL_0 hC) (by decide) ty_0_2 ?_
  refine q_puti dX1_copyFrom_26 f_L_44 (ckL_0 hB) (by decide) ty_0_2 fi_0_2 ?_
  refine g_aload_n dX1_copyFrom_29 rfl ?_
  refine g_aload_n dX1_copyFrom_30 rfl ?_
  refine q_geti dX1_copyFrom_31 f_L_47 (ckL_0 hC) (by decide) ty_0_10 ?_
  refine q_puti dX1_copyFrom_34 f_L_47 (ckL_0 hB) (by decide) ty_0_10 fi_0_10 ?_
  refine g_aload_n dX1_copyFrom_37 rfl ?_
  refine q_getq dX1_copyFrom_38 f_L_21 (ckL_0 hB) (by decide) ty_0_3 (rfL_3 hB) ?_
  refine g_aload_n dX1_copyFrom_41 rfl ?_
  refine q_getq dX1_copyFrom_42 f_L_21 (ckL_0 hC) (by decide) ty_0_3 (rfL_3 hC) ?_
  refine g_v1n (M' := KE_copyFrom) dX1_copyFrom_45 l_L_50 v_KE_copyFrom (c_KE_copyFrom hB hC hBC) (rcE hB) rfl rfl ⟨rfl, rfl⟩ ?_
  refine g_aload_n dX1_copyFrom_48 rfl ?_
  refine q_getq dX1_copyFrom_49 f_L_25 (ckL_0 hC) (by decide) ty_0_4 (rfL_4 hC) ?_
  refine g_iconst dX1_copyFrom_52 ic_0 ?_
  refine g_aload_n dX1_copyFrom_53 rfl ?_
  refine q_getq dX1_copyFrom_54 f_L_25 (ckL_0 hB) (by decide) ty_0_4 (rfL_4 hB) ?_
  refine g_iconst dX1_copyFrom_57 ic_0 ?_
  refine g_iconst dX1_copyFrom_58 ic_5 ?_
  refine q_copy dX1_copyFrom_59 l_L_54 (ckL_3 hC) (ckL_3 hB) (j0 := 0) (j1 := 0) (k := 5) (nI_arg (by omega)) (nI_arg (by omega)) (nI_arg (by omega)) (by omega) (by omega) rfl ?_
  refine g_aload_n dX1_copyFrom_62 rfl ?_
  refine q_getq dX1_copyFrom_63 f_L_29 (ckL_0 hC) (by decide) ty_0_5 (rfL_5 hC) ?_
  refine g_iconst dX1_copyFrom_66 ic_0 ?_
  refine g_aload_n dX1_copyFrom_67 rfl ?_
  refine q_getq dX1_copyFrom_68 f_L_29 (ckL_0 hB) (by decide) ty_0_5 (rfL_5 hB) ?_
  refine g_iconst dX1_copyFrom_71 ic_0 ?_
  refine g_bipush dX1_copyFrom_72 bp_32 ?_
  refine q_copy dX1_copyFrom_74 l_L_54 (ckL_4 hC) (ckL_4 hB) (j0 := 0) (j1 := 0) (k := 32) (nI_arg (by omega)) (nI_arg (by omega)) (nI_arg (by omega)) (by omega) (by omega) rfl ?_
  refine g_aload_n dX1_copyFrom_77 rfl ?_
  refine q_getq dX1_copyFrom_78 f_L_32 (ckL_0 hC) (by decide) ty_0_6 (rfL_6 hC) ?_
  refine g_iconst dX1_copyFrom_81 ic_0 ?_
  refine g_aload_n dX1_copyFrom_82 rfl ?_
  refine q_getq dX1_copyFrom_83 f_L_32 (ckL_0 hB) (by decide) ty_0_6 (rfL_6 hB) ?_
  refine g_iconst dX1_copyFrom_86 ic_0 ?_
  refine g_bipush dX1_copyFrom_87 bp_8 ?_
  refine q_copy dX1_copyFrom_89 l_L_54 (ckL_5 hC) (ckL_5 hB) (j0 := 0) (j1 := 0) (k := 8) (nI_arg (by omega)) (nI_arg (by omega)) (nI_arg (by omega)) (by omega) (by omega) rfl ?_
  refine g_aload_n dX1_copyFrom_92 rfl ?_
  refine q_getq dX1_copyFrom_93 f_L_35 (ckL_0 hC) (by decide) ty_0_7 (rfL_7 hC) ?_
  refine g_iconst dX1_copyFrom_96 ic_0 ?_
  refine g_aload_n dX1_copyFrom_97 rfl ?_
  refine q_getq dX1_copyFrom_98 f_L_35 (ckL_0 hB) (by decide) ty_0_7 (rfL_7 hB) ?_
  refine g_iconst dX1_copyFrom_101 ic_0 ?_
  refine g_bipush dX1_copyFrom_102 bp_8 ?_
  refine q_copy dX1_copyFrom_104 l_L_54 (ckL_6 hC) (ckL_6 hB) (j0 := 0) (j1 := 0) (k := 8) (nI_arg (by omega)) (nI_arg (by omega)) (nI_arg (by omega)) (by omega) (by omega) rfl ?_
  refine g_aload_n dX1_copyFrom_107 rfl ?_
  refine q_getq dX1_copyFrom_108 f_L_38 (ckL_0 hC) (by decide) ty_0_8 (rfL_8 hC) ?_
  refine g_iconst dX1_copyFrom_111 ic_0 ?_
  refine g_aload_n dX1_copyFrom_112 rfl ?_
  refine q_getq dX1_copyFrom_113 f_L_38 (ckL_0 hB) (by decide) ty_0_8 (rfL_8 hB) ?_
  refine g_iconst dX1_copyFrom_116 ic_0 ?_
  refine g_bipush dX1_copyFrom_117 bp_8 ?_
  refine q_copy dX1_copyFrom_119 l_L_54 (ckL_7 hC) (ckL_7 hB) (j0 := 0) (j1 := 0) (k := 8) (nI_arg (by omega)) (nI_arg (by omega)) (nI_arg (by omega)) (by omega) (by omega) rfl ?_
  refine g_aload_n dX1_copyFrom_122 rfl ?_
  refine q_getq dX1_copyFrom_123 f_L_41 (ckL_0 hC) (by decide) ty_0_9 (rfL_9 hC) ?_
  refine g_iconst dX1_copyFrom_126 ic_0 ?_
  refine g_aload_n dX1_copyFrom_127 rfl ?_
  refine q_getq dX1_copyFrom_128 f_L_41 (ckL_0 hB) (by decide) ty_0_9 (rfL_9 hB) ?_
  refine g_iconst dX1_copyFrom_131 ic_0 ?_
  refine g_bipush dX1_copyFrom_132 bp_8 ?_
  refine q_copy dX1_copyFrom_134 l_L_54 (ckL_8 hC) (ckL_8 hB) (j0 := 0) (j1 := 0) (k := 8) (nI_arg (by omega)) (nI_arg (by omega)) (nI_arg (by omega)) (by omega) (by omega) rfl ?_
  exact e_vret dX1_copyFrom_137 rfl (by unfold cop copE; simp (disch := omega) only [uI_ne, uR_ne, uI_oth])
set_option maxRecDepth 100000 in
theorem c_KQ_pushA {σ : SI} {δ : SD} {s o : Nat} (hs : s < 5) (ho : o < 5) (h0 : σ 24 0 = nI s) (h1 : σ 24 1 = nI o) : E KQ_push [.ref 24, .ref 6] (HH σ δ) (none) (HH (sPush0 σ s o) δ) := by
  refine E.ofL [some (.ref 24), some (.ref 6)] rfl pn_RX5 rfl (fun sc => ?_)
  refine g_aload_n dX5_push_0 rfl ?_
  refine q_geti dX5_push_1 f_Q_18 ck_24 (by decide) ty_4_0 ?_
  refine g_top h0 ?_
  refine g_iconst dX5_push_4 ic_5 ?_
  refine n_icmp_ne (tgt := 30) (by omega) (by omega) dX5_push_5 rfl (fun zc5 => ?_) (fun zc5 => ?_)
  · refine g_aload_n dX5_push_30 rfl ?_
    refine q_getq dX5_push_31 f_Q_11 ck_24 (by decide) ty_4_2 rf_24_2 ?_
    refine g_aload_n dX5_push_34 rfl ?_
    refine q_geti dX5_push_35 f_Q_22 ck_24 (by decide) ty_4_1 ?_
    refine g_top h1 ?_
    refine g_aload_n dX5_push_38 rfl ?_
    refine q_geti dX5_push_39 f_Q_18 ck_24 (by decide) ty_4_0 ?_
    refine g_top h0 ?_
    refine n_iadd dX5_push_42 ?_
    refine g_iconst dX5_push_43 ic_5 ?_
    refine n_irem dX5_push_44 (by omega) (by omega) (by omega) ?_
    refine q_aald dX5_push_45 ck_25 (ixD_nI (Nat.mod_lt _ (by decide)) (by decide)) (rfR (Nat.mod_lt _ (by decide))) ?_
    refine g_astore_n dX5_push_46 rfl ?_
    refine g_aload_n dX5_push_47 rfl ?_
    refine g_ifnull dX5_push_48 ?_
    refine g_aload_n dX5_push_51 rfl ?_
    refine g_aload_n dX5_push_52 rfl ?_
    refine g_v1n (M' := KL_copyFrom) dX5_push_53 l_Q_25 v_KL_copyFrom (c_KL_copyFrom (LBR (Nat.mod_lt _ (by decide))) LB_6 (Or.inr (by omega))) (rcL (LBR (Nat.mod_lt _ (by decide)))) rfl rfl ⟨rfl, rfl⟩ ?_
    refine g_aload_n dX5_push_56 rfl ?_
    refine g_dup dX5_push_57 rfl ?_
    refine q_geti dX5_push_58 f_Q_18 ck_24 (by decide) ty_4_0 ?_
    refine g_top (show cop σ (26 + 9 * ((o + s) % 5)) 6 24 0 = nI s from (congrFun (cop_ne (by omega)) 0).trans h0) ?_
    refine g_iconst dX5_push_61 ic_1 ?_
    refine n_iadd dX5_push_62 ?_
    refine q_puti dX5_push_63 f_Q_18 ck_24 (by decide) ty_4_0 fi_4_0 ?_
    exact e_vret dX5_push_66 rfl (by rfl)
  · exact absurd zc5 (by omega)
set_option maxRecDepth 100000 in
theorem c_KQ_pushB {σ : SI} {δ : SD} {o : Nat} (ho : o < 5) (h0 : σ 24 0 = nI 5) (h1 : σ 24 1 = nI o) : E KQ_push [.ref 24, .ref 6] (HH σ δ) (none) (HH (sPush0 (uI (uI σ 24 1 (nI ((o + 1) % 5))) 24 0 (nI 4)) 4 ((o + 1) % 5)) δ) := by
  refine E.ofL [some (.ref 24), some (.ref 6)] rfl pn_RX5 rfl (fun sc => ?_)
  refine g_aload_n dX5_push_0 rfl ?_
  refine q_geti dX5_push_1 f_Q_18 ck_24 (by decide) ty_4_0 ?_
  refine g_top h0 ?_
  refine g_iconst dX5_push_4 ic_5 ?_
  refine n_icmp_ne (tgt := 30) (by omega) (by omega) dX5_push_5 rfl (fun zc5 => ?_) (fun zc5 => ?_)
  · exact absurd rfl zc5
  · refine g_aload_n dX5_push_8 rfl ?_
    refine g_aload_n dX5_push_9 rfl ?_
    refine q_geti dX5_push_10 f_Q_22 ck_24 (by decide) ty_4_1 ?_
    refine g_top h1 ?_
    refine g_iconst dX5_push_13 ic_1 ?_
    refine n_iadd dX5_push_14 ?_
    refine g_iconst dX5_push_15 ic_5 ?_
    refine n_irem dX5_push_16 (by omega) (by omega) (by omega) ?_
    refine q_puti dX5_push_17 f_Q_22 ck_24 (by decide) ty_4_1 fi_4_1 ?_
    refine g_aload_n dX5_push_20 rfl ?_
    refine g_dup dX5_push_21 rfl ?_
    refine q_geti dX5_push_22 f_Q_18 ck_24 (by decide) ty_4_0 ?_
    refine g_top ((uI_oth (by decide)).trans h0) ?_
    refine g_iconst dX5_push_25 ic_1 ?_
    refine n_isub dX5_push_26 (by omega) ?_
    refine q_puti dX5_push_27 f_Q_18 ck_24 (by decide) ty_4_0 fi_4_0 ?_
    refine g_aload_n dX5_push_30 rfl ?_
    refine q_getq dX5_push_31 f_Q_11 ck_24 (by decide) ty_4_2 rf_24_2 ?_
    refine g_aload_n dX5_push_34 rfl ?_
    refine q_geti dX5_push_35 f_Q_22 ck_24 (by decide) ty_4_1 ?_
    refine g_top (show (uI (uI σ 24 1 (nI ((o + 1) % 5))) 24 0 (nI 4)) 24 1 = nI ((o + 1) % 5) by rw [uI_oth (by decide), uI_same]) ?_
    refine g_aload_n dX5_push_38 rfl ?_
    refine q_geti dX5_push_39 f_Q_18 ck_24 (by decide) ty_4_0 ?_
    refine g_top uI_same ?_
    refine n_iadd dX5_push_42 ?_
    refine g_iconst dX5_push_43 ic_5 ?_
    refine n_irem dX5_push_44 (by omega) (by omega) (by omega) ?_
    refine q_aald dX5_push_45 ck_25 (ixD_nI (Nat.mod_lt _ (by decide)) (by decide)) (rfR (Nat.mod_lt _ (by decide))) ?_
    refine g_astore_n dX5_push_46 rfl ?_
    refine g_aload_n dX5_push_47 rfl ?_
    refine g_ifnull dX5_push_48 ?_
    refine g_aload_n dX5_push_51 rfl ?_
    refine g_aload_n dX5_push_52 rfl ?_
    refine g_v1n (M' := KL_copyFrom) dX5_push_53 l_Q_25 v_KL_copyFrom (c_KL_copyFrom (LBR (Nat.mod_lt _ (by decide))) LB_6 (Or.inr (by omega))) (rcL (LBR (Nat.mod_lt _ (by decide)))) rfl rfl ⟨rfl, rfl⟩ ?_
    refine g_aload_n dX5_push_56 rfl ?_
    refine g_dup dX5_push_57 rfl ?_
    refine q_geti dX5_push_58 f_Q_18 ck_24 (by decide) ty_4_0 ?_
    refine g_top (show cop _ (26 + 9 * (((o + 1) % 5 + 4) % 5)) 6 24 0 = nI 4 from (congrFun (cop_ne (by omega)) 0).trans uI_same) ?_
    refine g_iconst dX5_push_61 ic_1 ?_
    refine n_iadd dX5_push_62 ?_
    refine q_puti dX5_push_63 f_Q_18 ck_24 (by decide) ty_4_0 fi_4_0 ?_
    exact e_vret dX5_push_66 rfl (by rfl)
set_option maxRecDepth 100000 in
theorem c_KQ_pop {σ : SI} {δ : SD} {s o : Nat} (hs : s < 5) (ho : o < 5) (h0 : σ 24 0 = nI (s + 1)) (h1 : σ 24 1 = nI o) : E KQ_pop [.ref 24, .ref 6] (HH σ δ) (some (.int (nI s))) (HH (cop (uI σ 24 0 (nI s)) 6 (26 + 9 * ((o + s) % 5))) δ) := by
  refine E.ofL [some (.ref 24), some (.ref 6)] rfl pn_RX5 rfl (fun sc => ?_)
  refine g_aload_n dX5_pop_0 rfl ?_
  refine q_geti dX5_pop_1 f_Q_18 ck_24 (by decide) ty_4_0 ?_
  refine g_top h0 ?_
  refine n_if_le (tgt := 37) (by omega) dX5_pop_4 rfl (fun zc4 => ?_) (fun zc4 => ?_)
  · exact absurd zc4 (by omega)
  · refine g_aload_n dX5_pop_7 rfl ?_
    refine g_dup dX5_pop_8 rfl ?_
    refine q_geti dX5_pop_9 f_Q_18 ck_24 (by decide) ty_4_0 ?_
    refine g_top h0 ?_
    refine g_iconst dX5_pop_12 ic_1 ?_
    refine g_isub dX5_pop_13 ?_
    refine g_top (show nI (s + 1) - nI 1 = nI s by rw [pk_sub (by omega), Nat.add_sub_cancel]) ?_
    refine q_puti dX5_pop_14 f_Q_18 ck_24 (by decide) ty_4_0 fi_4_0 ?_
    refine g_aload_n dX5_pop_17 rfl ?_
    refine g_aload_n dX5_pop_18 rfl ?_
    refine q_getq dX5_pop_19 f_Q_11 ck_24 (by decide) ty_4_2 rf_24_2 ?_
    refine g_aload_n dX5_pop_22 rfl ?_
    refine q_geti dX5_pop_23 f_Q_22 ck_24 (by decide) ty_4_1 ?_
    refine g_top ((uI_oth (by decide)).trans h1) ?_
    refine g_aload_n dX5_pop_26 rfl ?_
    refine q_geti dX5_pop_27 f_Q_18 ck_24 (by decide) ty_4_0 ?_
    refine g_top uI_same ?_
    refine n_iadd dX5_pop_30 ?_
    refine g_iconst dX5_pop_31 ic_5 ?_
    refine n_irem dX5_pop_32 (by omega) (by omega) (by omega) ?_
    refine q_aald dX5_pop_33 ck_25 (ixD_nI (Nat.mod_lt _ (by decide)) (by decide)) (rfR (Nat.mod_lt _ (by decide))) ?_
    refine g_v1n (M' := KL_copyFrom) dX5_pop_34 l_Q_25 v_KL_copyFrom (c_KL_copyFrom LB_6 (LBR (Nat.mod_lt _ (by decide))) (Or.inl (by omega))) (rcL LB_6) rfl rfl ⟨rfl, rfl⟩ ?_
    refine g_aload_n dX5_pop_37 rfl ?_
    refine q_geti dX5_pop_38 f_Q_18 ck_24 (by decide) ty_4_0 ?_
    refine g_top ((congrFun (cop_ne (by omega)) 0).trans uI_same) ?_
    exact e_iret dX5_pop_41 rfl (by rfl) (by rfl)
set_option maxRecDepth 100000 in
theorem c_KR_keepA {σ : SI} {δ : SD} {s : Nat} (hs : s < 5) (h3 : σ 84 3 = nI s) : E KR_keep [.ref 84] (HH σ δ) (none) (HH (sKeep0 σ s) δ) := by
  refine E.ofL [some (.ref 84)] rfl pn_RX9 rfl (fun sc => ?_)
  generalize hRz : (fun (zr : Option Value) (zk : XH) => zr = none ∧ zk = HH (sKeep0 σ s) δ) = R
  refine g_aload_n dX9_keep_0 rfl ?_
  refine q_geti dX9_keep_1 f_R_38 ck_84 (by decide) ty_8_3 ?_
  refine g_top h3 ?_
  refine g_iconst dX9_keep_4 ic_5 ?_
  refine n_icmp_ne (tgt := 49) (by omega) (by omega) dX9_keep_5 rfl (fun zc5 => ?_) (fun zc5 => ?_)
  · refine g_iconst dX9_keep_49 ic_0 ?_
    refine g_istore_n dX9_keep_50 rfl ?_
    refine g_heap (show HH (σ) δ = HH (uR (σ) 86 (va_cpy ((σ) 85) ((σ) 86) 0 (155 * s) 0)) δ by rw [cpy_0]) ?_
    have H51 : ∀ (N : Nat) (k : Nat), k ≤ 155 → 155 - k < N → G sc KR_keep 51 (aL [some (.ref 84), some (.int (nI k))]) [] (HH (uR σ 86 (va_cpy (σ 85) (σ 86) 0 (155 * s) k)) δ) (0, 0) R := by
      intro N
      induction N with
      | zero => intro k h2 hN51; exact absurd hN51 (Nat.not_lt_zero _)
      | succ N ih51 =>
        intro k h2 hN51
        refine g_iload_n dX9_keep_51 rfl ?_
        refine g_sipush dX9_keep_52 sp_155 ?_
        refine n_icmp_ge (tgt := 85) (by omega) (by omega) dX9_keep_55 rfl (fun zc55 => ?_) (fun zc55 => ?_)
        · refine g_aload_n dX9_keep_85 rfl ?_
          refine g_dup dX9_keep_86 rfl ?_
          refine q_geti dX9_keep_87 f_R_38 ck_84 (by decide) ty_8_3 ?_
          refine g_top (show (uR σ 86 (va_cpy (σ 85) (σ 86) 0 (155 * s) k)) 84 3 = nI s from (congrFun (uR_ne (by decide)) 3).trans h3) ?_
          refine g_iconst dX9_keep_90 ic_1 ?_
          refine n_iadd dX9_keep_91 ?_
          refine q_puti dX9_keep_92 f_R_38 ck_84 (by decide) ty_8_3 fi_8_3 ?_
          exact g_vret (S := []) dX9_keep_95 rfl (by rw [← hRz]; exact ⟨rfl, by obtain rfl : k = 155 := (by omega); rfl⟩) (Nat.zero_le _) (Nat.zero_le _)
        · refine g_aload_n dX9_keep_58 rfl ?_
          refine q_getq dX9_keep_59 f_R_13 ck_84 (by decide) ty_8_1 rf_84_1 ?_
          refine g_sipush dX9_keep_62 sp_155 ?_
          refine g_aload_n dX9_keep_65 rfl ?_
          refine q_geti dX9_keep_66 f_R_38 ck_84 (by decide) ty_8_3 ?_
          refine g_top (show (uR σ 86 (va_cpy (σ 85) (σ 86) 0 (155 * s) k)) 84 3 = nI s from (congrFun (uR_ne (by decide)) 3).trans h3) ?_
          refine n_imul dX9_keep_69 ?_
          refine g_iload_n dX9_keep_70 rfl ?_
          refine n_iadd dX9_keep_71 ?_
          refine g_aload_n dX9_keep_72 rfl ?_
          refine q_getq dX9_keep_73 f_R_7 ck_84 (by decide) ty_8_0 rf_84_0 ?_
          refine g_iload_n dX9_keep_76 rfl ?_
          refine q_iald dX9_keep_77 ck_85 (ixD_nI (by omega) (by decide)) ?_
          refine q_iast dX9_keep_78 ck_86 (ixD_nI (by omega) (by decide)) ?_
          refine n_iinc (b := 1) dX9_keep_79 rfl rfl rfl ?_
          refine g_goto (tgt := 51) dX9_keep_82 rfl ?_
          refine g_heap (congrArg (fun z => HH z δ) cpy_s0) ?_
          exact g_can _ (by exact ⟨rfl, rfl, trivial⟩) (ih51 (k + 1) (by omega) (by omega))
    exact g_can _ (by exact ⟨rfl, rfl, trivial⟩) (H51 _ 0 (by omega) (Nat.lt_succ_self _))
  · exact absurd zc5 (by omega)
set_option maxRecDepth 100000 in
theorem c_KR_keepB {σ : SI} {δ : SD} (h3 : σ 84 3 = nI 5) : E KR_keep [.ref 84] (HH σ δ) (none) (HH (sKeep0 (sShift σ) 4) δ) := by
  refine E.ofL [some (.ref 84)] rfl pn_RX9 rfl (fun sc => ?_)
  generalize hRz : (fun (zr : Option Value) (zk : XH) => zr = none ∧ zk = HH (sKeep0 (sShift σ) 4) δ) = R
  refine g_aload_n dX9_keep_0 rfl ?_
  refine q_geti dX9_keep_1 f_R_38 ck_84 (by decide) ty_8_3 ?_
  refine g_top h3 ?_
  refine g_iconst dX9_keep_4 ic_5 ?_
  refine n_icmp_ne (tgt := 49) (by omega) (by omega) dX9_keep_5 rfl (fun zc5 => ?_) (fun zc5 => ?_)
  · exact absurd rfl zc5
  · refine g_iconst dX9_keep_8 ic_0 ?_
    refine g_istore_n dX9_keep_9 rfl ?_
    refine g_heap (show HH σ δ = HH (uR σ 86 (va_cpy (σ 86) (σ 86) 155 0 0)) δ by rw [cpy_0]) ?_
    have H10 : ∀ (N : Nat) (k : Nat), k ≤ 620 → 620 - k < N → G sc KR_keep 10 (aL [some (.ref 84), some (.int (nI k))]) [] (HH (uR σ 86 (va_cpy (σ 86) (σ 86) 155 0 k)) δ) (0, 0) R := by
      intro N
      induction N with
      | zero => intro k h2 hN10; exact absurd hN10 (Nat.not_lt_zero _)
      | succ N ih10 =>
        intro k h2 hN10
        refine g_iload_n dX9_keep_10 rfl ?_
        refine g_sipush dX9_keep_11 sp_620 ?_
        refine n_icmp_ge (tgt := 39) (by omega) (by omega) dX9_keep_14 rfl (fun zc14 => ?_) (fun zc14 => ?_)
        · refine g_aload_n dX9_keep_39 rfl ?_
          refine g_dup dX9_keep_40 rfl ?_
          refine q_geti dX9_keep_41 f_R_38 ck_84 (by decide) ty_8_3 ?_
          refine g_top (show (uR σ 86 (va_cpy (σ 86) (σ 86) 155 0 k)) 84 3 = nI 5 from (congrFun (uR_ne (by decide)) 3).trans h3) ?_
          refine g_iconst dX9_keep_44 ic_1 ?_
          refine n_isub dX9_keep_45 (by omega) ?_
          refine q_puti dX9_keep_46 f_R_38 ck_84 (by decide) ty_8_3 fi_8_3 ?_
          refine g_iconst dX9_keep_49 ic_0 ?_
          refine g_istore_n dX9_keep_50 rfl ?_
          refine g_heap (show _ = HH (uR (sShift σ) 86 (va_cpy ((sShift σ) 85) ((sShift σ) 86) 0 (155 * 4) 0)) δ by rw [cpy_0]; obtain rfl : k = 620 := (by omega); rfl) ?_
          have H51 : ∀ (N : Nat) (k : Nat), k ≤ 155 → 155 - k < N → G sc KR_keep 51 (aL [some (.ref 84), some (.int (nI k))]) [] (HH (uR (sShift σ) 86 (va_cpy ((sShift σ) 85) ((sShift σ) 86) 0 (155 * 4) k)) δ) (0, 0) R := by
            intro N
            induction N with
            | zero => intro k h2 hN51; exact absurd hN51 (Nat.not_lt_zero _)
            | succ N ih51 =>
              intro k h2 hN51
              refine g_iload_n dX9_keep_51 rfl ?_
              refine g_sipush dX9_keep_52 sp_155 ?_
              refine n_icmp_ge (tgt := 85) (by omega) (by omega) dX9_keep_55 rfl (fun zc55 => ?_) (fun zc55 => ?_)
              · refine g_aload_n dX9_keep_85 rfl ?_
                refine g_dup dX9_keep_86 rfl ?_
                refine q_geti dX9_keep_87 f_R_38 ck_84 (by decide) ty_8_3 ?_
                refine g_top (show (uR (sShift σ) 86 (va_cpy ((sShift σ) 85) ((sShift σ) 86) 0 (155 * 4) k)) 84 3 = nI 4 from (congrFun (uR_ne (by decide)) 3).trans uI_same) ?_
                refine g_iconst dX9_keep_90 ic_1 ?_
                refine n_iadd dX9_keep_91 ?_
                refine q_puti dX9_keep_92 f_R_38 ck_84 (by decide) ty_8_3 fi_8_3 ?_
                exact g_vret (S := []) dX9_keep_95 rfl (by rw [← hRz]; exact ⟨rfl, by obtain rfl : k = 155 := (by omega); rfl⟩) (Nat.zero_le _) (Nat.zero_le _)
              · refine g_aload_n dX9_keep_58 rfl ?_
                refine q_getq dX9_keep_59 f_R_13 ck_84 (by decide) ty_8_1 rf_84_1 ?_
                refine g_sipush dX9_keep_62 sp_155 ?_
                refine g_aload_n dX9_keep_65 rfl ?_
                refine q_geti dX9_keep_66 f_R_38 ck_84 (by decide) ty_8_3 ?_
                refine g_top (show (uR (sShift σ) 86 (va_cpy ((sShift σ) 85) ((sShift σ) 86) 0 (155 * 4) k)) 84 3 = nI 4 from (congrFun (uR_ne (by decide)) 3).trans uI_same) ?_
                refine n_imul dX9_keep_69 ?_
                refine g_iload_n dX9_keep_70 rfl ?_
                refine n_iadd dX9_keep_71 ?_
                refine g_aload_n dX9_keep_72 rfl ?_
                refine q_getq dX9_keep_73 f_R_7 ck_84 (by decide) ty_8_0 rf_84_0 ?_
                refine g_iload_n dX9_keep_76 rfl ?_
                refine q_iald dX9_keep_77 ck_85 (ixD_nI (by omega) (by decide)) ?_
                refine q_iast dX9_keep_78 ck_86 (ixD_nI (by omega) (by decide)) ?_
                refine n_iinc (b := 1) dX9_keep_79 rfl rfl rfl ?_
                refine g_goto (tgt := 51) dX9_keep_82 rfl ?_
                refine g_heap (congrArg (fun z => HH z δ) cpy_s0) ?_
                exact g_can _ (by exact ⟨rfl, rfl, trivial⟩) (ih51 (k + 1) (by omega) (by omega))
          exact g_can _ (by exact ⟨rfl, rfl, trivial⟩) (H51 _ 0 (by omega) (Nat.lt_succ_self _))
        · refine g_aload_n dX9_keep_17 rfl ?_
          refine q_getq dX9_keep_18 f_R_13 ck_84 (by decide) ty_8_1 rf_84_1 ?_
          refine g_iload_n dX9_keep_21 rfl ?_
          refine g_aload_n dX9_keep_22 rfl ?_
          refine q_getq dX9_keep_23 f_R_13 ck_84 (by decide) ty_8_1 rf_84_1 ?_
          refine g_iload_n dX9_keep_26 rfl ?_
          refine g_sipush dX9_keep_27 sp_155 ?_
          refine n_iadd dX9_keep_30 ?_
          refine q_iald dX9_keep_31 ck_86 (ixD_nI (by omega) (by decide)) ?_
          refine q_iast dX9_keep_32 ck_86 (ixD_nI (by omega) (by decide)) ?_
          refine n_iinc (b := 1) dX9_keep_33 rfl rfl rfl ?_
          refine g_goto (tgt := 10) dX9_keep_36 rfl ?_
          refine g_heap (congrArg (fun z => HH z δ) cpy_sh) ?_
          exact g_can _ (by exact ⟨rfl, rfl, trivial⟩) (ih10 (k + 1) (by omega) (by omega))
    exact g_can _ (by exact ⟨rfl, rfl, trivial⟩) (H10 _ 0 (by omega) (Nat.lt_succ_self _))
set_option maxRecDepth 100000 in
theorem c_KR_back {σ : SI} {δ : SD} {s : Nat} (hs : s < 5) (h3 : σ 84 3 = nI (s + 1)) : E KR_back [.ref 84] (HH σ δ) (some (.int (nI s))) (HH (sBack σ s) δ) := by
  refine E.ofL [some (.ref 84)] rfl pn_RX9 rfl (fun sc => ?_)
  generalize hRz : (fun (zr : Option Value) (zk : XH) => zr = some (.int (nI s)) ∧ zk = HH (sBack σ s) δ) = R
  refine g_aload_n dX9_back_0 rfl ?_
  refine q_geti dX9_back_1 f_R_38 ck_84 (by decide) ty_8_3 ?_
  refine g_top h3 ?_
  refine n_if_ne (tgt := 14) (by omega) dX9_back_4 rfl (fun zc4 => ?_) (fun zc4 => ?_)
  · refine g_aload_n dX9_back_14 rfl ?_
    refine g_dup dX9_back_15 rfl ?_
    refine q_geti dX9_back_16 f_R_38 ck_84 (by decide) ty_8_3 ?_
    refine g_top h3 ?_
    refine g_iconst dX9_back_19 ic_1 ?_
    refine g_isub dX9_back_20 ?_
    refine g_top (show nI (s + 1) - nI 1 = nI s by rw [pk_sub (by omega), Nat.add_sub_cancel]) ?_
    refine q_puti dX9_back_21 f_R_38 ck_84 (by decide) ty_8_3 fi_8_3 ?_
    refine g_iconst dX9_back_24 ic_0 ?_
    refine g_istore_n dX9_back_25 rfl ?_
    refine g_heap (show HH (uI σ 84 3 (nI s)) δ = HH (uR (uI σ 84 3 (nI s)) 85 (va_cpy (σ 86) ((uI σ 84 3 (nI s)) 85) (155 * s) 0 0)) δ by rw [cpy_0]) ?_
    have H26 : ∀ (N : Nat) (k : Nat), k ≤ 155 → 155 - k < N → G sc KR_back 26 (aL [some (.ref 84), some (.int (nI k))]) [] (HH (uR (uI σ 84 3 (nI s)) 85 (va_cpy (σ 86) (σ 85) (155 * s) 0 k)) δ) (0, 0) R := by
      intro N
      induction N with
      | zero => intro k h2 hN26; exact absurd hN26 (Nat.not_lt_zero _)
      | succ N ih26 =>
        intro k h2 hN26
        refine g_iload_n dX9_back_26 rfl ?_
        refine g_sipush dX9_back_27 sp_155 ?_
        refine n_icmp_ge (tgt := 60) (by omega) (by omega) dX9_back_30 rfl (fun zc30 => ?_) (fun zc30 => ?_)
        · refine g_aload_n dX9_back_60 rfl ?_
          refine q_geti dX9_back_61 f_R_38 ck_84 (by decide) ty_8_3 ?_
          refine g_top (show (uR (uI σ 84 3 (nI s)) 85 (va_cpy (σ 86) (σ 85) (155 * s) 0 k)) 84 3 = nI s from (congrFun (uR_ne (by decide)) 3).trans uI_same) ?_
          exact g_iret (S := []) dX9_back_64 rfl (by rw [← hRz]; exact ⟨congrArg (fun zz => some (Value.int zz)) (show _ = _ by rfl), by obtain rfl : k = 155 := (by omega); rfl⟩) (Nat.zero_le _) (Nat.zero_le _)
        · refine g_aload_n dX9_back_33 rfl ?_
          refine q_getq dX9_back_34 f_R_7 ck_84 (by decide) ty_8_0 rf_84_0 ?_
          refine g_iload_n dX9_back_37 rfl ?_
          refine g_aload_n dX9_back_38 rfl ?_
          refine q_getq dX9_back_39 f_R_13 ck_84 (by decide) ty_8_1 rf_84_1 ?_
          refine g_sipush dX9_back_42 sp_155 ?_
          refine g_aload_n dX9_back_45 rfl ?_
          refine q_geti dX9_back_46 f_R_38 ck_84 (by decide) ty_8_3 ?_
          refine g_top (show (uR (uI σ 84 3 (nI s)) 85 (va_cpy (σ 86) (σ 85) (155 * s) 0 k)) 84 3 = nI s from (congrFun (uR_ne (by decide)) 3).trans uI_same) ?_
          refine n_imul dX9_back_49 ?_
          refine g_iload_n dX9_back_50 rfl ?_
          refine n_iadd dX9_back_51 ?_
          refine q_iald dX9_back_52 ck_86 (ixD_nI (by omega) (by decide)) ?_
          refine q_iast dX9_back_53 ck_85 (ixD_nI (by omega) (by decide)) ?_
          refine n_iinc (b := 1) dX9_back_54 rfl rfl rfl ?_
          refine g_goto (tgt := 26) dX9_back_57 rfl ?_
          refine g_heap (congrArg (fun z => HH z δ) (cpy_sb (c := 86) (by decide) (uI_ne (by decide)))) ?_
          exact g_can _ (by exact ⟨rfl, rfl, trivial⟩) (ih26 (k + 1) (by omega) (by omega))
    exact g_can _ (by exact ⟨rfl, rfl, trivial⟩) (H26 _ 0 (by omega) (Nat.lt_succ_self _))
  · exact absurd zc4 (by omega)
set_option maxRecDepth 100000 in
theorem c_KR_back0 {σ : SI} {δ : SD} (h3 : σ 84 3 = nI 0) : E KR_back [.ref 84] (HH σ δ) (some (.int (-3))) (HH (uI σ 88 1 (σ 88 1 + nI 1)) δ) := by
  refine E.ofL [some (.ref 84)] rfl pn_RX9 rfl (fun sc => ?_)
  refine g_aload_n dX9_back_0 rfl ?_
  refine q_geti dX9_back_1 f_R_38 ck_84 (by decide) ty_8_3 ?_
  refine g_top h3 ?_
  refine n_if_ne (tgt := 14) (by omega) dX9_back_4 rfl (fun zc4 => absurd zc4 (by decide)) (fun _ => ?_)
  refine g_aload_n dX9_back_7 rfl ?_
  refine g_bipush dX9_back_8 bp_m3 ?_
  refine g_v1 (M' := KR_refuses) dX9_back_10 l_R_101 v_KR_refuses c_KR_refuses1 rc_84 rfl rfl ⟨rfl, rfl⟩ ?_
  exact e_iret dX9_back_13 rfl (by rfl) (by rfl)
set_option maxRecDepth 100000 in
theorem c_KP_mayAnswer0 {σ : SI} {δ : SD} : E KP_mayAnswer [.ref 5, .int (nI 0)] (HH σ δ) (some (.int (bI true))) (HH σ δ) := by
  refine E.ofL [some (.ref 5), some (.int (nI 0))] rfl pn_RX8 rfl (fun sc => ?_)
  refine g_iload_n dX8_mayAnswer_0 rfl ?_
  refine g_tsw (tgt := 67) dX8_mayAnswer_1 (by decide +kernel) (by decide) ?_
  refine g_iload_n dX8_mayAnswer_67 rfl ?_
  refine n_if_ne (tgt := 75) (by omega) dX8_mayAnswer_68 rfl (fun zc68 => absurd zc68 (by decide)) (fun _ => ?_)
  refine g_iconst dX8_mayAnswer_71 ic_1 ?_
  refine g_goto (tgt := 76) dX8_mayAnswer_72 rfl ?_
  exact e_z1 dX8_mayAnswer_76 rfl (by rfl) (by rfl)
set_option maxRecDepth 100000 in
theorem c_KP_mayAnswer2 {σ : SI} {δ : SD} : E KP_mayAnswer [.ref 5, .int (-2)] (HH σ δ) (some (.int (bI false))) (HH (uI σ 5 7 (σ 5 7 + nI 1)) δ) := by
  refine E.ofL [some (.ref 5), some (.int (-2))] rfl pn_RX8 rfl (fun sc => ?_)
  refine g_iload_n dX8_mayAnswer_0 rfl ?_
  refine g_tsw (tgt := 28) dX8_mayAnswer_1 (by decide +kernel) (by decide) ?_
  refine g_aload_n dX8_mayAnswer_28 rfl ?_
  refine g_dup dX8_mayAnswer_29 rfl ?_
  refine q_geti dX8_mayAnswer_30 f_P_255 ck_5 (by decide) ty_7_7 ?_
  refine g_iconst dX8_mayAnswer_33 ic_1 ?_
  refine g_iadd dX8_mayAnswer_34 ?_
  refine q_puti dX8_mayAnswer_35 f_P_255 ck_5 (by decide) ty_7_7 fi_7_7 ?_
  refine g_goto (tgt := 67) dX8_mayAnswer_38 rfl ?_
  refine g_iload_n dX8_mayAnswer_67 rfl ?_
  refine g_if_ne (tgt := 75) dX8_mayAnswer_68 rfl (fun zc68 => ?_) (fun zc68 => ?_)
  · refine g_iconst dX8_mayAnswer_75 ic_0 ?_
    exact e_z0 dX8_mayAnswer_76 rfl (by rfl) (by rfl)
  · exact absurd zc68 (by decide)
set_option maxRecDepth 100000 in
theorem c_KP_mayAnswer3 {σ : SI} {δ : SD} : E KP_mayAnswer [.ref 5, .int (-3)] (HH σ δ) (some (.int (bI false))) (HH (uI σ 5 8 (σ 5 8 + nI 1)) δ) := by
  refine E.ofL [some (.ref 5), some (.int (-3))] rfl pn_RX8 rfl (fun sc => ?_)
  refine g_iload_n dX8_mayAnswer_0 rfl ?_
  refine g_tsw (tgt := 41) dX8_mayAnswer_1 (by decide +kernel) (by decide) ?_
  refine g_aload_n dX8_mayAnswer_41 rfl ?_
  refine g_dup dX8_mayAnswer_42 rfl ?_
  refine q_geti dX8_mayAnswer_43 f_P_258 ck_5 (by decide) ty_7_8 ?_
  refine g_iconst dX8_mayAnswer_46 ic_1 ?_
  refine g_iadd dX8_mayAnswer_47 ?_
  refine q_puti dX8_mayAnswer_48 f_P_258 ck_5 (by decide) ty_7_8 fi_7_8 ?_
  refine g_goto (tgt := 67) dX8_mayAnswer_51 rfl ?_
  refine g_iload_n dX8_mayAnswer_67 rfl ?_
  refine g_if_ne (tgt := 75) dX8_mayAnswer_68 rfl (fun zc68 => ?_) (fun zc68 => ?_)
  · refine g_iconst dX8_mayAnswer_75 ic_0 ?_
    exact e_z0 dX8_mayAnswer_76 rfl (by rfl) (by rfl)
  · exact absurd zc68 (by decide)
set_option maxRecDepth 100000 in
theorem c_KP_mayAnswer4 {σ : SI} {δ : SD} : E KP_mayAnswer [.ref 5, .int (-4)] (HH σ δ) (some (.int (bI false))) (HH (uI σ 5 9 (σ 5 9 + nI 1)) δ) := by
  refine E.ofL [some (.ref 5), some (.int (-4))] rfl pn_RX8 rfl (fun sc => ?_)
  refine g_iload_n dX8_mayAnswer_0 rfl ?_
  refine g_tsw (tgt := 54) dX8_mayAnswer_1 (by decide +kernel) (by decide) ?_
  refine g_aload_n dX8_mayAnswer_54 rfl ?_
  refine g_dup dX8_mayAnswer_55 rfl ?_
  refine q_geti dX8_mayAnswer_56 f_P_261 ck_5 (by decide) ty_7_9 ?_
  refine g_iconst dX8_mayAnswer_59 ic_1 ?_
  refine g_iadd dX8_mayAnswer_60 ?_
  refine q_puti dX8_mayAnswer_61 f_P_261 ck_5 (by decide) ty_7_9 fi_7_9 ?_
  refine g_goto (tgt := 67) dX8_mayAnswer_64 rfl ?_
  refine g_iload_n dX8_mayAnswer_67 rfl ?_
  refine g_if_ne (tgt := 75) dX8_mayAnswer_68 rfl (fun zc68 => ?_) (fun zc68 => ?_)
  · refine g_iconst dX8_mayAnswer_75 ic_0 ?_
    exact e_z0 dX8_mayAnswer_76 rfl (by rfl) (by rfl)
  · exact absurd zc68 (by decide)
