/-! THE TEXT: read by both -/
set_option maxHeartbeats 200000 in
theorem run_seq {α : Type} {P : Nat → α → Prop} {Q : Nat → α → α → Prop} {S : Nat → α → Prop} {x0 : α} (h0 : P 0 x0) : ∀ k, (∀ i, i < k → ∀ x, P i x → (∃ y, Q i x y ∧ P (i + 1) y) ∨ S i x) → (∃ f : Nat → α, f 0 = x0 ∧ (∀ i, i < k → Q i (f i) (f (i + 1))) ∧ (∀ i, i ≤ k → P i (f i))) ∨ (∃ (j : Nat) (f : Nat → α), j < k ∧ f 0 = x0 ∧ (∀ i, i < j → Q i (f i) (f (i + 1))) ∧ (∀ i, i ≤ j → P i (f i)) ∧ S j (f j))
  | 0, _ => Or.inl ⟨fun _ => x0, rfl, fun i hi => absurd hi (Nat.not_lt_zero i), fun i hi => by rw [show i = 0 by omega]; exact h0⟩
  | k + 1, h => by
    rcases run_seq h0 k (fun i hi => h i (by omega)) with ⟨f, e0, hQ, hP⟩ | ⟨j, f, hj, r⟩
    · rcases h k (by omega) (f k) (hP k (Nat.le_refl k)) with ⟨y, q1, q2⟩ | hs
      · refine Or.inl ⟨fun i => if i ≤ k then f i else y, ?_, fun i hi => ?_, fun i hi => ?_⟩
        · show (if 0 ≤ k then f 0 else y) = x0
          rw [if_pos (Nat.zero_le k)]
          exact e0
        · show Q i (if i ≤ k then f i else y) (if i + 1 ≤ k then f (i + 1) else y)
          by_cases g : i + 1 ≤ k
          · rw [if_pos (show i ≤ k by omega), if_pos g]
            exact hQ i g
          · obtain rfl : i = k := by omega
            rw [if_pos (Nat.le_refl i), if_neg g]
            exact q1
        · show P i (if i ≤ k then f i else y)
          by_cases g : i ≤ k
          · rw [if_pos g]
            exact hP i g
          · obtain rfl : i = k + 1 := by omega
            rw [if_neg g]
            exact q2
      · exact Or.inr ⟨k, f, by omega, e0, hQ, hP, hs⟩
    · exact Or.inr ⟨j, f, by omega, r⟩
/-- where reading stands after so many orders -/
def odP (tc : Nat → Nat) (tl : Nat) : Nat → Nat
  | 0 => 0
  | i + 1 => (odE tc tl (sqP tc tl i)).1
/-- the reference's cells as it begins to do orders -/
def rBz (σ : SI) : SI := uI (fill σ 87 (σ 85) 155) 84 15 (nI 0)
def rQ (σ : SI) (A : Nat → Int32) (p : Nat) (M : Nat → Int32) : SI := rS (uR (rBz σ) 85 A) p M
section RQ
variable {σ : SI} {δ : SD} {tc : Nat → Nat} {tl i p c x : Nat} {A A' M M0 : Nat → Int32} {v : Int32}
set_option maxHeartbeats 200000 in
theorem odP_sk : skP tc tl (odP tc tl i) = sqP tc tl i := by cases i <;> rfl
set_option maxHeartbeats 200000 in
theorem odP_le (hT : TXR σ tc tl) : odP tc tl i ≤ 120 := by
  cases i with
  | zero => exact Nat.zero_le _
  | succ i => exact od_leR hT (sq_leR hT i)
set_option maxHeartbeats 200000 in
theorem sq_sk (hT : TXR σ tc tl) : skP tc tl (sqP tc tl i) = sqP tc tl i := by
  cases i with
  | zero => exact skP_at (skP_end hT.2.1)
  | succ i => exact skP_at (skP_end hT.2.1)
set_option maxHeartbeats 200000 in
theorem rB_85 : rBz σ 85 = σ 85 := by unfold rBz; rw [uI_ne (by decide), fill_row (by decide)]
set_option maxHeartbeats 200000 in
theorem rB_c (h : x ≠ 84 ∧ x ≠ 87) : rBz σ x = σ x := by unfold rBz; rw [uI_ne h.1, fill_row h.2]
set_option maxHeartbeats 200000 in
theorem rB_84 (h : x ≠ 15) : rBz σ 84 x = σ 84 x := by unfold rBz; rw [uI_oth (by omega), fill_ne (by decide)]
set_option maxHeartbeats 200000 in
theorem rB_15 : rBz σ 84 15 = nI 0 := by unfold rBz; rw [uI_same]
set_option maxHeartbeats 200000 in
theorem rB_87 (h : x < 155) : rBz σ 87 x = σ 85 x := by unfold rBz; rw [uI_oth (by omega), fill_in h]
set_option maxHeartbeats 200000 in
theorem rQ_c (h : x ≠ 84 ∧ x ≠ 85 ∧ x ≠ 87 ∧ x ≠ 93) : rQ σ A p M x = σ x := by unfold rQ; rw [rS_c ⟨h.1, h.2.2.2⟩, uR_ne h.2.1, rB_c ⟨h.1, h.2.2.1⟩]
set_option maxHeartbeats 200000 in
theorem rQ_84 (h : x ≠ 13 ∧ x ≠ 15) : rQ σ A p M 84 x = σ 84 x := by unfold rQ; rw [rS_84 h.1, uR_ne (by decide), rB_84 h.2]
set_option maxHeartbeats 200000 in
theorem rQ_15 : rQ σ A p M 84 15 = nI 0 := by unfold rQ; rw [rS_84 (by decide), uR_ne (by decide), rB_15]
set_option maxHeartbeats 200000 in
theorem rQ_85 : rQ σ A p M 85 = A := by unfold rQ; rw [rS_c (by decide), uR_eq]
set_option maxHeartbeats 200000 in
theorem rQ_87 (h : x < 155) : rQ σ A p M 87 x = σ 85 x := by unfold rQ; rw [rS_c (by decide), uR_ne (by decide), rB_87 h]
set_option maxHeartbeats 200000 in
theorem rQ_93 : rQ σ A p M 93 = M := by funext y; unfold rQ; rw [rS_M]
set_option maxHeartbeats 200000 in
theorem rq_start {q : Nat} : uI (uI (fill (rS σ q M) 87 (σ 85) 155) 84 13 (nI 0)) 84 15 (nI 0) = rQ σ (σ 85) 0 M := by
  funext y z
  by_cases h93 : y = 93
  · rw [h93, rQ_93, uI_ne (by decide), uI_ne (by decide), fill_ne (by decide), rS_M]
  · by_cases h84 : y = 84
    · rw [h84]
      by_cases h15 : z = 15
      · rw [h15, rQ_15, uI_same]
      · rw [uI_oth (by omega)]
        by_cases h13 : z = 13
        · rw [h13, uI_same]
          unfold rQ
          rw [rS_p]
        · rw [uI_oth (by omega), fill_ne (by decide), rS_84 h13, rQ_84 ⟨h13, h15⟩]
    · rw [uI_ne h84, uI_ne h84]
      by_cases h87 : y = 87
      · rw [h87]
        unfold rQ
        rw [rS_c (by decide), uR_ne (by decide)]
        unfold rBz
        rw [uI_ne (by decide)]
        by_cases hz : z < 155
        · rw [fill_in hz, fill_in hz]
        · rw [fill_out hz, fill_out hz, rS_c (by decide)]
      · rw [fill_ne h87, rS_c ⟨h84, h93⟩]
        by_cases h85 : y = 85
        · rw [h85, rQ_85]
        · rw [rQ_c ⟨h84, h85, h87, h93⟩]
set_option maxHeartbeats 200000 in
theorem rq_does : uR (uI (rQ σ A p M) 84 15 (nI 0)) 85 A' = rQ σ A' p M := by
  funext y z
  by_cases h85 : y = 85
  · rw [h85, uR_eq, rQ_85]
  · rw [uR_ne h85]
    by_cases h : y = 84 ∧ z = 15
    · rw [h.1, h.2, uI_same, rQ_15]
    · rw [uI_oth h]
      unfold rQ rS
      by_cases h93 : y = 93
      · rw [h93, uR_eq, uR_eq]
      · rw [uR_ne h93, uR_ne h93]
        by_cases h13 : y = 84 ∧ z = 13
        · rw [h13.1, h13.2, uI_same, uI_same]
        · rw [uI_oth h13, uI_oth h13, uR_ne h85, uR_ne h85]
set_option maxHeartbeats 200000 in
theorem rB_txr (hT : TXR σ tc tl) : TXR (uR (rBz σ) 85 A) tc tl := by
  refine ⟨?_, hT.2.1, fun i hi => ?_⟩
  · rw [uR_ne (by decide), rB_84 (by decide)]
    exact hT.1
  · rw [uR_ne (by decide), rB_c (by decide)]
    exact hT.2.2 i hi
set_option maxHeartbeats 200000 in
theorem rq_here (hT : TXR σ tc tl) : E KR_here [.ref 84] (HH (rQ σ A (odP tc tl i) M) δ) (some (.int (hrV tc tl (sqP tc tl i)))) (HH (rQ σ A (sqP tc tl i) M) δ) := by
  have h := c_KR_here (σ := uR (rBz σ) 85 A) (δ := δ) (Mr := M) (rB_txr hT) (odP_le (i := i) hT)
  rw [odP_sk] at h
  exact h
set_option maxHeartbeats 200000 in
theorem rq_ok (hT : TXR σ tc tl) (hq : (odE tc tl (sqP tc tl i)).2 = true) (hc : hrV tc tl (sqP tc tl i) = nI c) (h1 : rCan δ c A (sqM tc tl M0 (i + 1)) (nI 0)) (h2 : rDoes δ c A (sqM tc tl M0 (i + 1)) A') : E KR_readsOrder [.ref 84, .int (nI 1)] (HH (rQ σ A (sqP tc tl i) (sqM tc tl M0 i)) δ) (some (.int (bI true))) (HH (rQ σ A' (odP tc tl (i + 1)) (sqM tc tl M0 (i + 1))) δ) := by
  obtain ⟨m, hm4, hm, -, ho, e, -, -, hM⟩ := od_m hq
  have eM : sqM tc tl M0 (i + 1) = rnM tc tl (sqM tc tl M0 i) (sqP tc tl i) m := hM _
  have eP : odP tc tl (i + 1) = (orF tc tl (sqP tc tl i) m).1 := congrArg Prod.fst e
  rw [eM] at h1 h2 ⊢
  rw [eP]
  obtain ⟨r, h2⟩ := h2 (uI (rQ σ A (orF tc tl (sqP tc tl i) m).1 (rnM tc tl (sqM tc tl M0 i) (sqP tc tl i) m)) 84 15 (nI 0)) (by rw [uI_ne (by decide), rQ_85]) (by rw [uI_ne (by decide), rQ_93])
  have h1 := h1 (rQ σ A (orF tc tl (sqP tc tl i) m).1 (rnM tc tl (sqM tc tl M0 i) (sqP tc tl i) m)) rQ_85 rQ_93
  rw [rq_does] at h2
  rw [← hc] at h1 h2
  exact c_KR_readsOrder1_ok (rB_txr hT) (sq_leR hT i) (sq_sk hT) hm hm4 ho rfl h1 h2
set_option maxHeartbeats 200000 in
theorem rq_no (hT : TXR σ tc tl) (hq : (odE tc tl (sqP tc tl i)).2 = true) (hc : hrV tc tl (sqP tc tl i) = nI c) (hv : ¬ v = 0) (h1 : rCan δ c A (sqM tc tl M0 (i + 1)) v) : E KR_readsOrder [.ref 84, .int (nI 1)] (HH (rQ σ A (sqP tc tl i) (sqM tc tl M0 i)) δ) (some (.int (bI true))) (HH (uI (rQ σ A (odP tc tl (i + 1)) (sqM tc tl M0 (i + 1))) 84 15 v) δ) := by
  obtain ⟨m, hm4, hm, -, ho, e, -, -, hM⟩ := od_m hq
  have eM : sqM tc tl M0 (i + 1) = rnM tc tl (sqM tc tl M0 i) (sqP tc tl i) m := hM _
  have eP : odP tc tl (i + 1) = (orF tc tl (sqP tc tl i) m).1 := congrArg Prod.fst e
  rw [eM] at h1 ⊢
  rw [eP]
  have h1 := h1 (rQ σ A (orF tc tl (sqP tc tl i) m).1 (rnM tc tl (sqM tc tl M0 i) (sqP tc tl i) m)) rQ_85 rQ_93
  rw [← hc] at h1
  exact c_KR_readsOrder1_no (rB_txr hT) (sq_leR hT i) (sq_sk hT) hm hm4 ho rfl hv h1
end RQ
section RD2
variable {σ σ' : SI} {δ : SD} {tc : Nat → Nat} {tl s o x : Nat}
set_option maxHeartbeats 200000 in
theorem TXR.cong (h : TXR σ tc tl) (e : σ' 84 12 = σ 84 12) (e2 : σ' 92 = σ 92) : TXR σ' tc tl := ⟨e.trans h.1, h.2.1, fun i hi => by rw [e2]; exact h.2.2 i hi⟩
set_option maxHeartbeats 200000 in
theorem push_mid (h : x < 24) : sPush σ s o x = σ x := by
  unfold sPush
  split
  · rw [push0_ne (by omega) (by omega), uI_ne (by omega), uI_ne (by omega)]
  · rw [push0_ne (by omega) (by omega)]
set_option maxHeartbeats 200000 in
theorem keep_87 : sKeep σ s 87 = σ 87 := by
  unfold sKeep sKeep0 sShift
  split
  · rw [uI_ne (by omega), uR_ne (by omega), uI_ne (by omega), uR_ne (by omega)]
  · rw [uI_ne (by omega), uR_ne (by omega)]
set_option maxHeartbeats 200000 in
theorem skI_tl {p : Nat} (hp : p ≤ tl) : ∀ i, skI tc tl p i ≤ tl
  | 0 => hp
  | i + 1 => by
    have ih := skI_tl hp i
    by_cases h : hrV tc tl (skI tc tl p i) = nI 32
    · rw [sk_y h]
      by_cases g : skI tc tl p i < tl
      · omega
      · rw [hr_n g] at h
        exact absurd h (by decide)
    · rw [sk_n h]
      exact ih
end RD2
