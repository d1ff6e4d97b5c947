/-! WHAT IS ANSWERED: functions of the row 'all' of the reference (a), n items -/
theorem i32_eq {x y : Int32} (h : x.toInt = y.toInt) : x = y := Int32.toInt_inj.mp h
theorem nI_int {n : Nat} (h : n < 2147483648) : (nI n).toInt = (n : Int) := nI_toInt h
def inB (v lo hi : Int32) : Bool := decide (lo ≤ v) && decide (v ≤ hi)
def inL (v lo hi : Int64) : Bool := decide (lo ≤ v) && decide (v ≤ hi)
theorem inL_wide (v lo hi : Int32) : inL v.toInt64 lo.toInt64 hi.toInt64 = inB v lo hi := by
  unfold inL inB
  simp only [Int64.le_iff_toInt_le, Int32.le_iff_toInt_le, Int32.toInt_toInt64]
theorem inB_iff {v : Int32} {lo hi : Nat} (h1 : lo < 2147483648) (h2 : hi < 2147483648) : inB v (nI lo) (nI hi) = true ↔ ∃ j : Nat, lo ≤ j ∧ j ≤ hi ∧ v = nI j := by
  unfold inB
  simp only [Bool.and_eq_true, decide_eq_true_eq, Int32.le_iff_toInt_le, nI_int h1, nI_int h2]
  constructor
  · rintro ⟨a, b⟩
    refine ⟨v.toInt.toNat, by omega, by omega, i32_eq ?_⟩
    rw [nI_int (by omega)]
    omega
  · rintro ⟨j, a, b, rfl⟩
    rw [nI_int (by omega)]
    omega
theorem inB_nI {j lo hi : Nat} (h0 : j < 2147483648) (h1 : lo < 2147483648) (h2 : hi < 2147483648) : inB (nI j) (nI lo) (nI hi) = (decide (lo ≤ j) && decide (j ≤ hi)) := by
  unfold inB
  rw [Bool.eq_iff_iff]
  simp only [Bool.and_eq_true, decide_eq_true_eq, nI_leI h1 h0, nI_leI h0 h2]
/-- an item's number: below n -/
def itB (k : Int32) (n : Nat) : Bool := decide (0 ≤ k.toInt ∧ k.toInt < (n : Int))
theorem itB_nI {j n : Nat} (h : j < 2147483648) : itB (nI j) n = decide (j < n) := by
  unfold itB
  rw [nI_int h, Bool.eq_iff_iff]
  simp
theorem itB_iff {k : Int32} {n : Nat} (hn : n < 2147483648) : itB k n = true ↔ ∃ j, j < n ∧ k = nI j := by
  unfold itB
  simp only [decide_eq_true_eq]
  constructor
  · rintro ⟨a, b⟩
    refine ⟨k.toInt.toNat, by omega, i32_eq ?_⟩
    rw [nI_int (by omega)]
    omega
  · rintro ⟨j, h, rfl⟩
    rw [nI_int (by omega)]
    omega
theorem itB_eq {k : Int32} {n : Nat} (hn : n < 2147483648) : itB k n = (decide (nI 0 ≤ k) && decide (k < nI n)) := by
  unfold itB
  rw [Bool.eq_iff_iff]
  simp only [Bool.and_eq_true, decide_eq_true_eq, Int32.le_iff_toInt_le, Int32.lt_iff_toInt_lt, nI_int hn, nI_int (show 0 < 2147483648 by decide)]
  omega
/-- floats: the side of a rank -/
def sdF (b q : UInt32) : Nat → UInt32
  | 0 => b
  | r + 1 => FP.fdiv (sdF b q r) q
def tenF : UInt32 := 1092616192
def halfF : UInt32 := 1056964608
def sideN (big ratio r : Nat) : UInt32 := sdF (FP.fdiv (FP.i2f (nI big)) tenF) (FP.fdiv (FP.i2f (nI ratio)) tenF) (r - 1)
def cutF (v : UInt32) : Int32 := if FP.f2i (FP.fadd v halfF) < nI 1 then nI 1 else FP.f2i (FP.fadd v halfF)
def wideN (big ratio so r a b : Nat) : Int32 := cutF (if so = 1 then FP.fdiv (FP.fmul (sideN big ratio r) (FP.i2f (nI a))) (FP.i2f (nI b)) else FP.fmul (sideN big ratio r) (FP.i2f (nI a)))
def highN (big ratio r : Nat) : Int32 := cutF (sideN big ratio r)
/-- items -/
def its (a : Nat → Int32) (k j : Nat) : Int32 := a (8 + 6 * k + j)
def itN (a : Nat → Int32) (k j : Nat) : Nat := (its a k j).toNatClampNeg
def bigN (a : Nat → Int32) : Nat := (a 4).toNatClampNeg
def ratN (a : Nat → Int32) : Nat := (a 5).toNatClampNeg
def sideA (a : Nat → Int32) (r : Nat) : UInt32 := sideN (bigN a) (ratN a) r
def highF (a : Nat → Int32) (k : Nat) : Int32 := highN (bigN a) (ratN a) (itN a k 1)
def wideF (a : Nat → Int32) (k : Nat) : Int32 := wideN (bigN a) (ratN a) (itN a k 0) (itN a k 1) (itN a k 2) (itN a k 3)
def wgtF (a : Nat → Int32) (k : Nat) : Int32 := wideF a k * highF a k * (nI 7 - its a k 1)
/-- between: a number from lo to hi -/
def btw (x : Int32) (lo hi : Nat) : Prop := ∃ j, lo ≤ j ∧ j ≤ hi ∧ x = nI j
theorem btw.cl {x : Int32} {lo hi : Nat} (h : btw x lo hi) (hh : hi < 2147483648) : lo ≤ x.toNatClampNeg ∧ x.toNatClampNeg ≤ hi ∧ x = nI x.toNatClampNeg := by
  obtain ⟨j, h1, h2, rfl⟩ := h
  rw [nI_clamp (by omega)]
  exact ⟨h1, h2, rfl⟩
/-- a place: nowhere, or inside 16 by 16 -/
def plc (x y : Int32) : Prop := (x = -1 ∧ y = -1) ∨ (btw x 0 15 ∧ btw y 0 15)
/-- the state is one of the document's -/
def WF (a : Nat → Int32) (n : Nat) : Prop :=
  n ≤ 8 ∧ a 7 = nI n ∧ btw (a 0) 6 16 ∧ btw (a 1) 6 16 ∧ btw (a 2) 0 2 ∧ btw (a 3) 0 2 ∧ btw (a 4) 10 80 ∧ btw (a 5) 10 30 ∧ btw (a 6) 0 6 ∧
  (∀ k, k < n → btw (its a k 0) 0 1 ∧ btw (its a k 1) 1 6 ∧ btw (its a k 2) 1 4 ∧ btw (its a k 3) 1 4 ∧ plc (its a k 4) (its a k 5)) ∧
  (∀ s, s < 3 → (a (56 + 33 * s) = 0 ∨ a (56 + 33 * s) = 1) ∧ ∀ k, k < 8 → plc (a (56 + 33 * s + 1 + 4 * k)) (a (56 + 33 * s + 2 + 4 * k)))

def anyN (p : Nat → Bool) : Nat → Bool
  | 0 => false
  | n + 1 => anyN p n || p n
def allN (p : Nat → Bool) : Nat → Bool
  | 0 => true
  | n + 1 => allN p n && p n
theorem allN_false {p : Nat → Bool} {k : Nat} (h : allN p k = false) : ∀ n, k ≤ n → allN p n = false
  | 0, hn => by rw [show k = 0 by omega] at h; exact h
  | n + 1, hn => by
    unfold allN
    rcases Nat.lt_or_ge n k with q | q
    · rw [show k = n + 1 by omega] at h; exact h
    · rw [allN_false h n q]; rfl
theorem allN_iff {p : Nat → Bool} : ∀ {n : Nat}, allN p n = true ↔ ∀ k, k < n → p k = true
  | 0 => ⟨fun _ k hk => absurd hk (Nat.not_lt_zero k), fun _ => rfl⟩
  | n + 1 => by
    unfold allN
    rw [Bool.and_eq_true, allN_iff]
    constructor
    · rintro ⟨h1, h2⟩ k hk
      rcases Nat.lt_or_ge k n with q | q
      · exact h1 k q
      · rw [show k = n by omega]; exact h2
    · exact fun h => ⟨fun k hk => h k (by omega), h n (by omega)⟩
theorem anyN_iff {p : Nat → Bool} : ∀ {n : Nat}, anyN p n = true ↔ ∃ k, k < n ∧ p k = true
  | 0 => ⟨fun h => Bool.noConfusion h, fun h => absurd h.choose_spec.1 (Nat.not_lt_zero _)⟩
  | n + 1 => by
    unfold anyN
    rw [Bool.or_eq_true, anyN_iff]
    constructor
    · rintro (⟨k, h1, h2⟩ | h)
      · exact ⟨k, by omega, h2⟩
      · exact ⟨n, by omega, h⟩
    · rintro ⟨k, h1, h2⟩
      rcases Nat.lt_or_ge k n with q | q
      · exact Or.inl ⟨k, q, h2⟩
      · rw [show k = n by omega] at h2; exact Or.inr h2
theorem allN_cong {p q : Nat → Bool} : ∀ {n : Nat}, (∀ k, k < n → p k = q k) → allN p n = allN q n
  | 0, _ => rfl
  | n + 1, h => by unfold allN; rw [allN_cong (fun k hk => h k (by omega)), h n (by omega)]
theorem anyN_cong {p q : Nat → Bool} : ∀ {n : Nat}, (∀ k, k < n → p k = q k) → anyN p n = anyN q n
  | 0, _ => rfl
  | n + 1, h => by unfold anyN; rw [anyN_cong (fun k hk => h k (by omega)), h n (by omega)]
def colN (a : Nat → Int32) : Nat := (a 6).toNatClampNeg
def liesA (a : Nat → Int32) (k : Nat) : Bool := decide (¬ its a k 4 = -1)
def absI (v : Int32) : Int32 := if v < nI 0 then -v else v
def lineF (a : Nat → Int32) (k : Nat) : Int32 := a 2 + FP.f2i (FP.fdiv (FP.i2f (nI k * (a 0 - nI 2 * a 2))) (FP.i2f (a 6)))
def isLineA (a : Nat → Int32) (x : Int32) : Bool := decide (colN a = 0) || anyN (fun k => decide (lineF a k = x)) (colN a)
def withinA (a : Nat → Int32) (k : Nat) (x y : Int32) : Bool := decide (a 2 ≤ x) && decide (a 2 ≤ y) && decide (x + wideF a k ≤ a 0 - a 2) && decide (y + highF a k ≤ a 1 - a 2) && isLineA a x
def apartA (a : Nat → Int32) (k : Nat) (x y : Int32) (o : Nat) : Bool := decide (x + wideF a k + a 3 ≤ its a o 4) || decide (its a o 4 + wideF a o + a 3 ≤ x) || decide (y + highF a k + a 3 ≤ its a o 5) || decide (its a o 5 + highF a o + a 3 ≤ y)
def fitA (a : Nat → Int32) (n k : Nat) (x y : Int32) : Bool := withinA a k x y && allN (fun o => decide (o = k) || !liesA a o || apartA a k x y o) n
def fitThereA (a : Nat → Int32) (n k : Nat) : Bool := liesA a k && fitA a n k (its a k 4) (its a k 5)
/-! what WF says, by its parts -/
section WFp
variable {a : Nat → Int32} {n : Nat}
theorem WF.n8 (h : WF a n) : n ≤ 8 := h.1
theorem WF.a7 (h : WF a n) : a 7 = nI n := h.2.1
theorem WF.big (h : WF a n) : 10 ≤ bigN a ∧ bigN a ≤ 80 ∧ a 4 = nI (bigN a) := h.2.2.2.2.2.2.1.cl (by decide)
theorem WF.rat (h : WF a n) : 10 ≤ ratN a ∧ ratN a ≤ 30 ∧ a 5 = nI (ratN a) := h.2.2.2.2.2.2.2.1.cl (by decide)
theorem WF.col (h : WF a n) : 0 ≤ colN a ∧ colN a ≤ 6 ∧ a 6 = nI (colN a) := h.2.2.2.2.2.2.2.2.1.cl (by decide)
theorem WF.it0 (h : WF a n) {k : Nat} (hk : k < n) : 0 ≤ itN a k 0 ∧ itN a k 0 ≤ 1 ∧ its a k 0 = nI (itN a k 0) := (h.2.2.2.2.2.2.2.2.2.1 k hk).1.cl (by decide)
theorem WF.it1 (h : WF a n) {k : Nat} (hk : k < n) : 1 ≤ itN a k 1 ∧ itN a k 1 ≤ 6 ∧ its a k 1 = nI (itN a k 1) := (h.2.2.2.2.2.2.2.2.2.1 k hk).2.1.cl (by decide)
theorem WF.it2 (h : WF a n) {k : Nat} (hk : k < n) : 1 ≤ itN a k 2 ∧ itN a k 2 ≤ 4 ∧ its a k 2 = nI (itN a k 2) := (h.2.2.2.2.2.2.2.2.2.1 k hk).2.2.1.cl (by decide)
theorem WF.it3 (h : WF a n) {k : Nat} (hk : k < n) : 1 ≤ itN a k 3 ∧ itN a k 3 ≤ 4 ∧ its a k 3 = nI (itN a k 3) := (h.2.2.2.2.2.2.2.2.2.1 k hk).2.2.2.1.cl (by decide)
theorem WF.pl (h : WF a n) {k : Nat} (hk : k < n) : plc (its a k 4) (its a k 5) := (h.2.2.2.2.2.2.2.2.2.1 k hk).2.2.2.2
end WFp
