/-! WHAT IS ANSWERED: functions of the row 'all' of the reference (a), n items -/
theorem i32_eq {x y : Int32} (h : x.toInt = y.toInt) : x = y := Int32.toInt_inj.mp h
theorem nI_int {n : Nat} (h : n < 2147483648) : (nI n).toInt = (n : Int) := nI_toInt h
def inB (v lo hi : Int32) : Bool := decide (lo ≤ v) && decide (v ≤ hi)
def inL (v lo hi : Int64) : Bool := decide (lo ≤ v) && decide (v ≤ hi)
theorem inL_wide (v lo hi : Int32) : inL v.toInt64 lo.toInt64 hi.toInt64 = inB v lo hi := by
  unfold inL inB
  simp only [Int64.le_iff_toInt_le, Int32.le_iff_toInt_le, Int32.toInt_toInt64]
theorem inB_iff {v : Int32} {lo hi : Nat} (h1 : lo < 2147483648) (h2 : hi < 2147483648) : inB v (nI lo) (nI hi) = true ↔ ∃ j : Nat, lo ≤ j ∧ j ≤ hi ∧ v = nI j := by
  unfold inB
  simp only [Bool.and_eq_true, decide_eq_true_eq, Int32.le_iff_toInt_le, nI_int h1, nI_int h2]
  constructor
  · rintro ⟨a, b⟩
    refine ⟨v.toInt.toNat, by omega, by omega, i32_eq ?_⟩
    rw [nI_int (by omega)]
    omega
  · rintro ⟨j, a, b, rfl⟩
    rw [nI_int (by omega)]
    omega
theorem inB_nI {j lo hi : Nat} (h0 : j < 2147483648) (h1 : lo < 2147483648) (h2 : hi < 2147483648) : inB (nI j) (nI lo) (nI hi) = (decide (lo ≤ j) && decide (j ≤ hi)) := by
  unfold inB
  rw [Bool.eq_iff_iff]
  simp only [Bool.and_eq_true, decide_eq_true_eq, nI_leI h1 h0, nI_leI h0 h2]
/-- an item's number: below n -/
def itB (k : Int32) (n : Nat) : Bool := decide (0 ≤ k.toInt ∧ k.toInt < (n : Int))
theorem itB_nI {j n : Nat} (h : j < 2147483648) : itB (nI j) n = decide (j < n) := by
  unfold itB
  rw [nI_int h, Bool.eq_iff_iff]
  simp
theorem itB_iff {k : Int32} {n : Nat} (hn : n < 2147483648) : itB k n = true ↔ ∃ j, j < n ∧ k = nI j := by
  unfold itB
  simp only [decide_eq_true_eq]
  constructor
  · rintro ⟨a, b⟩
    refine ⟨k.toInt.toNat, by omega, i32_eq ?_⟩
    rw [nI_int (by omega)]
    omega
  · rintro ⟨j, h, rfl⟩
    rw [nI_int (by omega)]
    omega
theorem itB_eq {k : Int32} {n : Nat} (hn : n < 2147483648) : itB k n = (decide (nI 0 ≤ k) && decide (k < nI n)) := by
  unfold itB
  rw [Bool.eq_iff_iff]
  simp only [Bool.and_eq_true, decide_eq_true_eq, Int32.le_iff_toInt_le, Int32.lt_iff_toInt_lt, nI_int hn, nI_int (show 0 < 2147483648 by decide)]
  omega
/-- floats: the side of a rank -/
def sdF (b q : UInt32) : Nat → UInt32
  | 0 => b
  | r + 1 => FP.fdiv (sdF b q r) q
def tenF : UInt32 := 1092616192
def halfF : UInt32 := 1056964608
def sideN (big ratio r : Nat) : UInt32 := sdF (FP.fdiv (FP.i2f (nI big)) tenF) (FP.fdiv (FP.i2f (nI ratio)) tenF) (r - 1)
def cutF (v : UInt32) : Int32 := if FP.f2i (FP.fadd v halfF) < 1 then 1 else FP.f2i (FP.fadd v halfF)
def wideN (big ratio so r a b : Nat) : Int32 := cutF (if so = 1 then FP.fdiv (FP.fmul (sideN big ratio r) (FP.i2f (nI a))) (FP.i2f (nI b)) else FP.fmul (sideN big ratio r) (FP.i2f (nI a)))
def highN (big ratio r : Nat) : Int32 := cutF (sideN big ratio r)
/-- items -/
def its (a : Nat → Int32) (k j : Nat) : Int32 := a (8 + 6 * k + j)
def itN (a : Nat → Int32) (k j : Nat) : Nat := (its a k j).toNatClampNeg
def bigN (a : Nat → Int32) : Nat := (a 4).toNatClampNeg
def ratN (a : Nat → Int32) : Nat := (a 5).toNatClampNeg
def sideA (a : Nat → Int32) (r : Nat) : UInt32 := sideN (bigN a) (ratN a) r
def highF (a : Nat → Int32) (k : Nat) : Int32 := highN (bigN a) (ratN a) (itN a k 1)
def wideF (a : Nat → Int32) (k : Nat) : Int32 := wideN (bigN a) (ratN a) (itN a k 0) (itN a k 1) (itN a k 2) (itN a k 3)
def wgtF (a : Nat → Int32) (k : Nat) : Int32 := wideF a k * highF a k * (nI 7 - its a k 1)
/-- between: a number from lo to hi -/
def btw (x : Int32) (lo hi : Nat) : Prop := ∃ j, lo ≤ j ∧ j ≤ hi ∧ x = nI j
theorem btw.cl {x : Int32} {lo hi : Nat} (h : btw x lo hi) (hh : hi < 2147483648) : lo ≤ x.toNatClampNeg ∧ x.toNatClampNeg ≤ hi ∧ x = nI x.toNatClampNeg := by
  obtain ⟨j, h1, h2, rfl⟩ := h
  rw [nI_clamp (by omega)]
  exact ⟨h1, h2, rfl⟩
/-- a place: nowhere, or inside 16 by 16 -/
def plc (x y : Int32) : Prop := (x = -1 ∧ y = -1) ∨ (btw x 0 15 ∧ btw y 0 15)
/-- the state is one of the document's -/
def WF (a : Nat → Int32) (n : Nat) : Prop :=
  n ≤ 8 ∧ a 7 = nI n ∧ btw (a 0) 6 16 ∧ btw (a 1) 6 16 ∧ btw (a 2) 0 2 ∧ btw (a 3) 0 2 ∧ btw (a 4) 10 80 ∧ btw (a 5) 10 30 ∧ btw (a 6) 0 6 ∧
  (∀ k, k < n → btw (its a k 0) 0 1 ∧ btw (its a k 1) 1 6 ∧ btw (its a k 2) 1 4 ∧ btw (its a k 3) 1 4 ∧ plc (its a k 4) (its a k 5)) ∧
  (∀ s, s < 3 → (a (56 + 33 * s) = 0 ∨ a (56 + 33 * s) = 1) ∧ ∀ k, k < 8 → plc (a (56 + 33 * s + 1 + 4 * k)) (a (56 + 33 * s + 2 + 4 * k)))
