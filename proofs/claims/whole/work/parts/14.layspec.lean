/-! A LAYOUT of the class at cell B holds the row a with n items -/
def RB (σ : SI) (B : Nat) (a : Nat → Int32) (n : Nat) : Prop :=
  σ B 0 = a 0 ∧ σ B 1 = a 1 ∧ σ B 2 = nI n ∧ (∀ i, i < 5 → σ (B + 3) i = a (2 + i)) ∧ (∀ k, k < n → ∀ j, j < 4 → σ (B + 4) (4 * k + j) = its a k j) ∧ (∀ k, k < n → σ (B + 5) k = its a k 4) ∧ (∀ k, k < n → σ (B + 6) k = its a k 5)
def lbF (a : Nat → Int32) : Nat → Int32
  | 0 => nI 0
  | k + 1 => lbF a k ||| (nI 1 <<< (lineF a k &&& 31))
def RD (σ : SI) (B : Nat) (a : Nat → Int32) (n : Nat) : Prop := (∀ k, k < n → σ (B + 7) k = wideF a k) ∧ (∀ k, k < n → σ (B + 8) k = highF a k) ∧ σ B 10 = lbF a (colN a)
section RBp
variable {σ : SI} {B n : Nat} {a : Nat → Int32}
theorem RB.w (h : RB σ B a n) : σ B 0 = a 0 := h.1
theorem RB.h (h : RB σ B a n) : σ B 1 = a 1 := h.2.1
theorem RB.c (h : RB σ B a n) : σ B 2 = nI n := h.2.2.1
theorem RB.s (h : RB σ B a n) (i : Nat) (hi : i < 5) : σ (B + 3) i = a (2 + i) := h.2.2.2.1 i hi
theorem RB.t (h : RB σ B a n) {k j : Nat} (hk : k < n) (hj : j < 4) : σ (B + 4) (4 * k + j) = its a k j := h.2.2.2.2.1 k hk j hj
theorem RB.x (h : RB σ B a n) {k : Nat} (hk : k < n) : σ (B + 5) k = its a k 4 := h.2.2.2.2.2.1 k hk
theorem RB.y (h : RB σ B a n) {k : Nat} (hk : k < n) : σ (B + 6) k = its a k 5 := h.2.2.2.2.2.2 k hk
end RBp
theorem it1 {k n : Nat} (hk : k < n) (hn : n ≤ 8) : bI (itB (nI k) n) = nI 1 := by rw [itB_nI (by omega), decide_eq_true hk]; rfl
theorem it0 {k n : Nat} (hk : n ≤ k) (hk8 : k < 1000) : bI (itB (nI k) n) = nI 0 := by rw [itB_nI (by omega), decide_eq_false (by omega)]; rfl
theorem in1 {j lo hi : Nat} (h1 : lo ≤ j) (h2 : j ≤ hi) (h3 : hi < 1000) : bI (inB (nI j) (nI lo) (nI hi)) = nI 1 := by rw [inB_nI (by omega) (by omega) (by omega), decide_eq_true h1, decide_eq_true h2]; rfl
theorem in0 {j lo hi : Nat} (h1 : ¬ (lo ≤ j ∧ j ≤ hi)) (h3 : hi < 1000) (h4 : j < 1000) (h5 : lo < 1000) : bI (inB (nI j) (nI lo) (nI hi)) = nI 0 := by
  rw [inB_nI (by omega) (by omega) (by omega)]
  have : (decide (lo ≤ j) && decide (j ≤ hi)) = false := by
    rw [Bool.eq_false_iff]; simp; omega
  rw [this]; rfl
/-- rows filled one by one -/
def fill (σ : SI) (c : Nat) (f : Nat → Int32) (k : Nat) : SI := fun a b => if a = c ∧ b < k then f b else σ a b
theorem fill_0 (σ : SI) (c : Nat) (f : Nat → Int32) : fill σ c f 0 = σ := by
  funext a b
  unfold fill
  rw [if_neg (by omega)]
theorem fill_succ (σ : SI) (c : Nat) (f : Nat → Int32) (k : Nat) : uI (fill σ c f k) c k (f k) = fill σ c f (k + 1) := by
  funext a b
  unfold uI fill
  by_cases h : a = c ∧ b = k
  · rw [if_pos h, if_pos ⟨h.1, by omega⟩, h.2]
  · rw [if_neg h]
    by_cases h2 : a = c ∧ b < k
    · rw [if_pos h2, if_pos ⟨h2.1, by omega⟩]
    · rw [if_neg h2, if_neg (by omega)]
theorem uI_fill (σ : SI) {c c1 : Nat} (f : Nat → Int32) (k j : Nat) (v : Int32) (h : c ≠ c1) : uI (fill σ c1 f k) c j v = fill (uI σ c j v) c1 f k := by
  funext a b
  unfold uI fill
  by_cases h1 : a = c ∧ b = j
  · rw [if_pos h1, if_neg (by omega)]; exact (if_pos h1).symm
  · rw [if_neg h1]
    by_cases h2 : a = c1 ∧ b < k
    · rw [if_pos h2, if_pos h2]
    · rw [if_neg h2, if_neg h2]; exact (if_neg h1).symm
theorem fill_in {σ : SI} {c k b : Nat} {f : Nat → Int32} (h : b < k) : fill σ c f k c b = f b := by unfold fill; rw [if_pos ⟨rfl, h⟩]
theorem fill_ne {σ : SI} {c a k b : Nat} {f : Nat → Int32} (h : a ≠ c) : fill σ c f k a b = σ a b := by unfold fill; rw [if_neg (fun q => h q.1)]
theorem uI_same {σ : SI} {c k : Nat} {v : Int32} : uI σ c k v c k = v := by unfold uI; rw [if_pos ⟨rfl, rfl⟩]
theorem uI_oth {σ : SI} {c k a b : Nat} {v : Int32} (h : ¬ (a = c ∧ b = k)) : uI σ c k v a b = σ a b := by unfold uI; rw [if_neg h]
/-! lines: by trial of all -/
def lineD (d k c : Nat) : Int32 := FP.f2i (FP.fdiv (FP.i2f (nI (k * d))) (FP.i2f (nI c)))
def n32B (v : UInt32) : Bool := decide (v &&& 0x7fffffff ≤ 0x7f800000)
theorem n32_of {v : UInt32} (h : n32B v = true) : vf_n32 v := of_decide_eq_true (p := v &&& 0x7fffffff ≤ 0x7f800000) h
theorem line_all : ((List.range 17).all fun d => (List.range 6).all fun c => (List.range (c + 1)).all fun k => n32B (FP.fdiv (FP.i2f (nI (k * d))) (FP.i2f (nI (c + 1)))) && decide (0 ≤ (lineD d k (c + 1)).toInt) && decide ((lineD d k (c + 1)).toInt ≤ 15)) = true := by decide +kernel
theorem line_ok {d k c : Nat} (hd : d ≤ 16) (hc : c ≤ 6) (hk : k < c) : vf_n32 (FP.fdiv (FP.i2f (nI (k * d))) (FP.i2f (nI c))) ∧ ∃ j, j ≤ 15 ∧ lineD d k c = nI j := by
  have h1 := List.all_eq_true.mp line_all d (List.mem_range.mpr (by omega))
  have h2 := List.all_eq_true.mp h1 (c - 1) (List.mem_range.mpr (by omega))
  have h3 := List.all_eq_true.mp h2 k (List.mem_range.mpr (by omega))
  rw [show c - 1 + 1 = c by omega] at h3
  simp only [Bool.and_eq_true, decide_eq_true_eq] at h3
  refine ⟨n32_of h3.1.1, (lineD d k c).toInt.toNat, by omega, i32_eq ?_⟩
  rw [nI_int (by omega)]
  omega
theorem WF.mar {a : Nat → Int32} {n : Nat} (h : WF a n) : 0 ≤ (a 2).toNatClampNeg ∧ (a 2).toNatClampNeg ≤ 2 ∧ a 2 = nI (a 2).toNatClampNeg := h.2.2.2.2.1.cl (by decide)
theorem WF.wid {a : Nat → Int32} {n : Nat} (h : WF a n) : 6 ≤ (a 0).toNatClampNeg ∧ (a 0).toNatClampNeg ≤ 16 ∧ a 0 = nI (a 0).toNatClampNeg := h.2.2.1.cl (by decide)
theorem WF.hei {a : Nat → Int32} {n : Nat} (h : WF a n) : 6 ≤ (a 1).toNatClampNeg ∧ (a 1).toNatClampNeg ≤ 16 ∧ a 1 = nI (a 1).toNatClampNeg := h.2.2.2.1.cl (by decide)
theorem WF.gut {a : Nat → Int32} {n : Nat} (h : WF a n) : 0 ≤ (a 3).toNatClampNeg ∧ (a 3).toNatClampNeg ≤ 2 ∧ a 3 = nI (a 3).toNatClampNeg := h.2.2.2.2.2.1.cl (by decide)
theorem line_arg {a : Nat → Int32} {n k : Nat} (hW : WF a n) : nI k * (a 0 - nI 2 * a 2) = nI (k * ((a 0).toNatClampNeg - 2 * (a 2).toNatClampNeg)) := by
  have h1 := hW.mar
  have h2 := hW.wid
  generalize (a 2).toNatClampNeg = m at *
  generalize (a 0).toNatClampNeg = w at *
  rw [h1.2.2, h2.2.2, pk_mul, pk_sub (by omega), pk_mul]
theorem lineF_ok {a : Nat → Int32} {n k : Nat} (hW : WF a n) (hk : k < colN a) : vf_n32 (FP.fdiv (FP.i2f (nI k * (a 0 - nI 2 * a 2))) (FP.i2f (a 6))) ∧ ∃ j, j ≤ 17 ∧ lineF a k = nI j := by
  have h1 := hW.mar
  have h2 := hW.wid
  have h3 := hW.col
  obtain ⟨g1, j, g2, g3⟩ := line_ok (d := (a 0).toNatClampNeg - 2 * (a 2).toNatClampNeg) (k := k) (c := colN a) (by omega) h3.2.1 hk
  unfold lineF
  rw [line_arg hW, h3.2.2]
  refine ⟨g1, (a 2).toNatClampNeg + j, by omega, ?_⟩
  unfold lineD at g3
  rw [g3, ← nI_add, ← h1.2.2]
theorem shl_1 {j : Nat} (h : j ≤ 31) : nI 1 <<< (nI j &&& 31) = nI (2 ^ j) := by
  have := (show ∀ j, j < 32 → nI 1 <<< (nI j &&& 31) = nI (2 ^ j) by decide +kernel) j (by omega)
  exact this
theorem bit_of {m x : Nat} (hm : m < 2 ^ 31) (hx : x ≤ 31) : ((nI m >>> (nI x &&& 31)) &&& nI 1 = nI 1) ↔ m.testBit x = true := by
  have h1 : nI x &&& 31 = nI x := (show ∀ x, x < 32 → nI x &&& 31 = nI x by decide +kernel) x (by omega)
  have h2 : ((nI x).toBitVec.smod 32).toNat = x := (show ∀ x, x < 32 → ((nI x).toBitVec.smod 32).toNat = x by decide +kernel) x (by omega)
  rw [h1, pk_shrN hm (nI x) x h2]
  have h3 : m / 2 ^ x < 2 ^ 32 := Nat.lt_of_le_of_lt (Nat.div_le_self _ _) (by omega)
  rw [pk_andN h3 (m := nI 1) 1 (by decide)]
  rw [nI_eq (Nat.lt_of_lt_of_le (Nat.mod_lt _ (by decide)) (by decide)) (by decide)]
  rw [Nat.testBit, Nat.shiftRight_eq_div_pow]
  have := Nat.mod_two_eq_zero_or_one (m / 2 ^ x)
  rw [Nat.and_comm, Nat.and_one_is_mod]
  constructor
  · intro h; rw [show m / 2 ^ x % 2 = 1 from h]; rfl
  · intro h
    rcases this with h0 | h0
    · rw [h0] at h; simp at h
    · exact h0
theorem nI_or (a b : Nat) : nI a ||| nI b = nI (a ||| b) := by
  apply Int32.toBitVec_inj.mp
  show (Int32.ofNat a ||| Int32.ofNat b).toBitVec = (Int32.ofNat (a ||| b)).toBitVec
  rw [Int32.toBitVec_or]
  simp [BitVec.ofNat_or]
theorem lbF_ok {a : Nat → Int32} {n : Nat} (hW : WF a n) : ∀ k, k ≤ colN a → ∃ m, m < 2 ^ 18 ∧ lbF a k = nI m ∧ ∀ x, x < 32 → m.testBit x = anyN (fun k => decide (lineF a k = nI x)) k
  | 0, _ => ⟨0, by decide, rfl, fun x _ => by simp [anyN]⟩
  | k + 1, hk => by
    obtain ⟨m, h1, h2, h3⟩ := lbF_ok hW k (by omega)
    obtain ⟨-, j, h4, h5⟩ := lineF_ok hW (show k < colN a by omega)
    refine ⟨m ||| 2 ^ j, Nat.or_lt_two_pow h1 (Nat.pow_lt_pow_right (by decide) (by omega)), ?_, fun x hx => ?_⟩
    · unfold lbF
      rw [h2, h5, shl_1 (by omega), nI_or]
    · rw [Nat.testBit_or, h3 x hx, anyN, h5, Nat.testBit_two_pow]
      congr 1
      rw [Bool.eq_iff_iff]
      simp only [decide_eq_true_eq]
      exact (nI_eq (by omega) (by omega)).symm
/-- the bits of the lines tell whether x is one -/
theorem lbF_x {a : Nat → Int32} {n x : Nat} (hW : WF a n) (hx : x ≤ 31) : ((lbF a (colN a) >>> (nI x &&& 31)) &&& nI 1 = nI 1) ↔ anyN (fun k => decide (lineF a k = nI x)) (colN a) = true := by
  obtain ⟨m, h1, h2, h3⟩ := lbF_ok hW (colN a) (Nat.le_refl _)
  rw [h2, bit_of (Nat.lt_trans h1 (by decide)) hx, h3 x (by omega)]
