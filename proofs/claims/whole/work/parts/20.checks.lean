/-! CONTRACTS: checks ahead of a call -/
theorem w64_0 : (0 : Int64) = (nI 0).toInt64 := by decide
theorem w64_1 : (1 : Int64) = (nI 1).toInt64 := by decide
theorem w64_2 : (2 : Int64) = (nI 2).toInt64 := by decide
theorem w64_3 : (3 : Int64) = (nI 3).toInt64 := by decide
theorem w64_4 : (4 : Int64) = (nI 4).toInt64 := by decide
theorem w64_6 : (6 : Int64) = (nI 6).toInt64 := by decide
theorem w64_10 : (10 : Int64) = (nI 10).toInt64 := by decide
theorem w64_15 : (15 : Int64) = (nI 15).toInt64 := by decide
theorem w64_16 : (16 : Int64) = (nI 16).toInt64 := by decide
theorem w64_30 : (30 : Int64) = (nI 30).toInt64 := by decide
theorem w64_80 : (80 : Int64) = (nI 80).toInt64 := by decide
theorem tsw_out {pc lo hi : Nat} {z : Int32} {dflt : Int} {offs : Array Int} {t : Int} (h : inB z (nI lo) (nI hi) = false) (ht : (pc : Int) + dflt = t := by decide) (h1 : lo < 1000 := by decide) (h2 : hi < 1000 := by decide) : tswT pc dflt (lo : Int) (hi : Int) offs z.toInt = t := by
  unfold tswT
  rw [if_pos, ht]
  unfold inB at h
  simp only [Bool.and_eq_false_iff, decide_eq_false_iff_not, Int32.le_iff_toInt_le, nI_int (show lo < 2147483648 by omega), nI_int (show hi < 2147483648 by omega)] at h
  omega
def sheetOK (w h : Int32) : Bool := inB w (nI 6) (nI 16) && inB h (nI 6) (nI 16)
def setOK (what v : Int32) : Bool := inB what (nI 0) (nI 4) && inB v ((sRow 1).getD what.toNatClampNeg 0) ((sRow 2).getD what.toNatClampNeg 0)
def traitOK (what v : Int32) : Bool := inB what (nI 0) (nI 3) && inB v ((sRow 3).getD what.toNatClampNeg 0) ((sRow 4).getD what.toNatClampNeg 0)
def itemA (n : Nat) (so r c b : Int32) : Int32 := if traitOK (nI 0) so && traitOK (nI 1) r && traitOK (nI 2) c && traitOK (nI 3) b then (if n < 8 then nI 0 else -4) else -2
section ITA
variable {n : Nat} {so r c b : Int32}
theorem itA_full (h : (traitOK (nI 0) so && traitOK (nI 1) r && traitOK (nI 2) c && traitOK (nI 3) b) = true) (h2 : 8 ≤ n) : itemA n so r c b = -4 := by unfold itemA; rw [h, if_pos rfl, if_neg (by omega)]
theorem itA_ok (h : (traitOK (nI 0) so && traitOK (nI 1) r && traitOK (nI 2) c && traitOK (nI 3) b) = true) (h2 : n < 8) : itemA n so r c b = nI 0 := by unfold itemA; rw [h, if_pos rfl, if_pos h2]
theorem itA_bad (h : (traitOK (nI 0) so && traitOK (nI 1) r && traitOK (nI 2) c && traitOK (nI 3) b) = false) : itemA n so r c b = -2 := by unfold itemA; rw [h]; rfl
end ITA
def layA (a : Nat → Int32) (n : Nat) (k x y : Int32) : Int32 := if itB k n && (inB x (nI 0) (nI 15) && inB y (nI 0) (nI 15)) then (if fitA a n k.toNatClampNeg x y then nI 0 else -3) else -2
section LYA
variable {a : Nat → Int32} {n j : Nat} {k x y : Int32}
theorem plx (h : (inB x (nI 0) (nI 15) && inB y (nI 0) (nI 15)) = true) : x = -1 ∨ btw x 0 15 := by
  rw [Bool.and_eq_true] at h
  exact Or.inr ((inB_iff (by decide) (by decide)).mp h.1)
theorem lyA_no (h : itB k n = false ∨ (inB x (nI 0) (nI 15) && inB y (nI 0) (nI 15)) = false) : layA a n k x y = -2 := by
  unfold layA
  rcases h with h | h
  · rw [h]; rfl
  · rw [h, Bool.and_false]; rfl
theorem lyA_yes (h : itB (nI j) n = true) (h2 : (inB x (nI 0) (nI 15) && inB y (nI 0) (nI 15)) = true) (h3 : fitA a n j x y = true) (hj : j < 1000 := by omega) : layA a n (nI j) x y = nI 0 := by unfold layA; rw [h, h2, nI_clamp (by omega), h3]; rfl
theorem lyA_bad (h : itB (nI j) n = true) (h2 : (inB x (nI 0) (nI 15) && inB y (nI 0) (nI 15)) = true) (h3 : fitA a n j x y = false) (hj : j < 1000 := by omega) : layA a n (nI j) x y = -3 := by unfold layA; rw [h, h2, nI_clamp (by omega), h3]; rfl
end LYA
def swapA (a : Nat → Int32) (n : Nat) (i k : Int32) : Int32 := if itB i n && itB k n && decide (¬ i = k) then (if liesA a i.toNatClampNeg || liesA a k.toNatClampNeg then nI 0 else -3) else -2
section SWA
variable {a : Nat → Int32} {n : Nat}
theorem swA_no {i k : Int32} (h : itB i n = false ∨ itB k n = false ∨ i = k) : swapA a n i k = -2 := by
  unfold swapA
  rcases h with h | h | h
  · rw [h]; rfl
  · rw [h, Bool.and_false]; rfl
  · rw [decide_eq_false (fun q => q h), Bool.and_false]; rfl
variable {i k : Nat}
theorem swA_1 (h1 : itB (nI i) n = true) (h2 : itB (nI k) n = true) (h3 : ¬ nI i = nI k) (h4 : liesA a i = true) (hi : i < 1000 := by omega) (hk : k < 1000 := by omega) : swapA a n (nI i) (nI k) = nI 0 := by unfold swapA; rw [h1, h2, decide_eq_true h3, nI_clamp (by omega), nI_clamp (by omega), h4]; rfl
theorem swA_2 (h1 : itB (nI i) n = true) (h2 : itB (nI k) n = true) (h3 : ¬ nI i = nI k) (h4 : liesA a k = true) (hi : i < 1000 := by omega) (hk : k < 1000 := by omega) : swapA a n (nI i) (nI k) = nI 0 := by unfold swapA; rw [h1, h2, decide_eq_true h3, nI_clamp (by omega), nI_clamp (by omega), h4, Bool.or_true]; rfl
theorem swA_bad (h1 : itB (nI i) n = true) (h2 : itB (nI k) n = true) (h3 : ¬ nI i = nI k) (h4 : liesA a i = false) (h5 : liesA a k = false) (hi : i < 1000 := by omega) (hk : k < 1000 := by omega) : swapA a n (nI i) (nI k) = -3 := by unfold swapA; rw [h1, h2, decide_eq_true h3, nI_clamp (by omega), nI_clamp (by omega), h4, h5]; rfl
end SWA
theorem tr_0 {what v : Int32} (h : what = 0) : inL v.toInt64 0 1 = traitOK what v := by subst h; simp only [w64_0, w64_1, inL_wide]; rfl
theorem tr_1 {what v : Int32} (h : what = nI 1) : inL v.toInt64 1 6 = traitOK what v := by subst h; simp only [w64_6, w64_1, inL_wide]; rfl
theorem tr_23 {what v : Int32} (h : inL what.toInt64 2 3 = true) : inL v.toInt64 1 4 = traitOK what v := by
  simp only [w64_1, w64_2, w64_3, w64_4, inL_wide] at *
  obtain ⟨j, h1, h2, rfl⟩ := (inB_iff (by decide) (by decide)).mp h
  rcases (show j = 2 ∨ j = 3 by omega) with rfl | rfl <;> rfl
theorem tr_no {what v : Int32} (h0 : ¬ what = 0) (h1 : ¬ what = nI 1) (h : inL what.toInt64 2 3 = false) : traitOK what v = false := by
  simp only [w64_2, w64_3, inL_wide] at h
  unfold traitOK
  cases hq : inB what (nI 0) (nI 3) with
  | false => rfl
  | true =>
    exfalso
    obtain ⟨j, g1, g2, rfl⟩ := (inB_iff (by decide) (by decide)).mp hq
    rcases (show j = 0 ∨ j = 1 ∨ j = 2 ∨ j = 3 by omega) with rfl | rfl | rfl | rfl
    · exact h0 rfl
    · exact h1 rfl
    · exact absurd h (by decide)
    · exact absurd h (by decide)
/-! an item lies elsewhere -/
section ALAY
variable {a : Nat → Int32} {n k : Nat} {x y : Int32}
theorem aLay_oth {j : Nat} (h : ¬ (j = 8 + 6 * k + 4 ∨ j = 8 + 6 * k + 5)) : aLay a k x y j = a j := by unfold aLay; rw [upd_n (by omega), upd_n (by omega)]
theorem aLay_it {k' j : Nat} (hj : j < 4) : its (aLay a k x y) k' j = its a k' j := aLay_oth (by omega)
theorem aLay_x : its (aLay a k x y) k 4 = x := by unfold its aLay; rw [upd_n (by omega), upd_s]
theorem aLay_y : its (aLay a k x y) k 5 = y := by unfold its aLay; rw [upd_s]
theorem aLay_n {k' j : Nat} (h : k' ≠ k) (hj : j < 6) : its (aLay a k x y) k' j = its a k' j := aLay_oth (by omega)
theorem aLay_wide {k' : Nat} : wideF (aLay a k x y) k' = wideF a k' := by
  unfold wideF bigN ratN itN
  rw [aLay_it (by decide), aLay_it (by decide), aLay_it (by decide), aLay_it (by decide), aLay_oth (by omega), aLay_oth (by omega)]
theorem aLay_high {k' : Nat} : highF (aLay a k x y) k' = highF a k' := by
  unfold highF bigN ratN itN
  rw [aLay_it (by decide), aLay_oth (by omega), aLay_oth (by omega)]
theorem aLay_line {i : Nat} : lineF (aLay a k x y) i = lineF a i := by
  unfold lineF
  rw [aLay_oth (by omega), aLay_oth (by omega), aLay_oth (by omega)]
theorem aLay_col : colN (aLay a k x y) = colN a := by unfold colN; rw [aLay_oth (by omega)]
theorem aLay_lb : ∀ i, lbF (aLay a k x y) i = lbF a i
  | 0 => rfl
  | i + 1 => by unfold lbF; rw [aLay_lb i, aLay_line]
theorem WF_lay (hW : WF a n) (hk : k < n) (hp : plc x y) : WF (aLay a k x y) n := by
  have h8 := hW.n8
  obtain ⟨g1, g2, g3, g4, g5, g6, g7, g8, g9, g10, g11⟩ := hW
  refine ⟨g1, ?_, ?_, ?_, ?_, ?_, ?_, ?_, ?_, fun k' hk' => ?_, fun s hs => ?_⟩
  · rw [aLay_oth (by omega)]; exact g2
  · rw [aLay_oth (by omega)]; exact g3
  · rw [aLay_oth (by omega)]; exact g4
  · rw [aLay_oth (by omega)]; exact g5
  · rw [aLay_oth (by omega)]; exact g6
  · rw [aLay_oth (by omega)]; exact g7
  · rw [aLay_oth (by omega)]; exact g8
  · rw [aLay_oth (by omega)]; exact g9
  · rw [aLay_it (by decide), aLay_it (by decide), aLay_it (by decide), aLay_it (by decide)]
    obtain ⟨q1, q2, q3, q4, q5⟩ := g10 k' hk'
    refine ⟨q1, q2, q3, q4, ?_⟩
    by_cases e : k' = k
    · subst e; rw [aLay_x, aLay_y]; exact hp
    · rw [aLay_n e (by decide), aLay_n e (by decide)]; exact q5
  · rw [aLay_oth (by omega)]
    refine ⟨(g11 s hs).1, fun i hi => ?_⟩
    rw [aLay_oth (by omega), aLay_oth (by omega)]
    exact (g11 s hs).2 i hi
theorem RD_lay {σ : SI} {B : Nat} (hD : RD σ B a n) : RD (sLay σ B k x y) B (aLay a k x y) n := by
  obtain ⟨g1, g2, g3⟩ := hD
  unfold sLay
  refine ⟨fun i hi => ?_, fun i hi => ?_, ?_⟩
  · rw [uI_oth (by omega), uI_oth (by omega), aLay_wide]; exact g1 i hi
  · rw [uI_oth (by omega), uI_oth (by omega), aLay_high]; exact g2 i hi
  · rw [uI_oth (by omega), uI_oth (by omega), aLay_col, aLay_lb]; exact g3
end ALAY
def aSwap (a : Nat → Int32) (i k : Nat) : Nat → Int32 := aLay (aLay a i (its a k 4) (its a k 5)) k (its a i 4) (its a i 5)
def sSwap (σ : SI) (B : Nat) (a : Nat → Int32) (i k : Nat) : SI := sLay (sLay σ B i (its a k 4) (its a k 5)) B k (its a i 4) (its a i 5)
def swapsA (a : Nat → Int32) (n i k : Nat) : Int32 := (if fitThereA a n i then nI 1 else nI 0) + (if fitThereA a n k then nI 1 else nI 0)
theorem sw_ans {a : Nat → Int32} {n i k : Nat} {p q : Bool} (h1 : fitThereA a n i = p) (h2 : fitThereA a n k = q) : swapsA a n i k = nI ((if p then 1 else 0) + (if q then 1 else 0)) := by
  unfold swapsA; rw [h1, h2]
  cases p <;> cases q <;> rfl
def ofA (a : Nat → Int32) (n k : Nat) : Nat → Int32
  | 6 => wideF a k
  | 7 => highF a k
  | 8 => wgtF a k
  | 9 => if fitThereA a n k then nI 1 else nI 0
  | j => its a k j
theorem of9 {a : Nat → Int32} {n k : Nat} {b : Bool} (h : fitThereA a n k = b) : ofA a n k 9 = if b then nI 1 else nI 0 := by
  show (if fitThereA a n k then nI 1 else nI 0) = _
  rw [h]
def allA (a : Nat → Int32) (n : Nat) : Nat → Int32
  | 0 => nI (bitsN (liesA a) n)
  | 1 => nI (bitsN (fun k => liesA a k && !fitThereA a n k) n)
  | 2 => weightsA a n
  | _ => nI (pairsA a n)
set_option maxRecDepth 100000 in
theorem c_KL_againstSize {σ : SI} {δ : SD} {B : Nat} (hB : LB B) {w h : Int32} : E KL_againstSize [.ref B, .int w, .int h] (HH σ δ) (some (.int (if sheetOK w h then nI 0 else -2))) (HH σ δ) := by
  refine E.ofL [some (.ref B), some (.int w), some (.int h)] rfl pn_RX1 rfl (fun sc => ?_)
  refine g_iload_n dX1_againstSize_0 rfl ?_
  refine g_bipush dX1_againstSize_1 bp_6 ?_
  refine g_bipush dX1_againstSize_3 bp_16 ?_
  refine g_s3N (M' := KP_within) dX1_againstSize_5 l_L_60 s_KP_within c_KP_within rfl rfl ⟨rfl, rfl⟩ ?_
  refine b_if_eq (tgt := 26) dX1_againstSize_8 rfl (fun zc8 => ?_) (fun zc8 => ?_)
  · refine g_iconst dX1_againstSize_26 ic_0 ?_
    refine g_top bI_f.symm ?_
    refine g_s1N (M' := KP_goodIf) dX1_againstSize_27 l_L_68 s_KP_goodIf c_KP_goodIf rfl rfl ⟨rfl, rfl⟩ ?_
    exact e_iret dX1_againstSize_30 rfl (by simp [sheetOK, *]) (by rfl)
  · refine g_iload_n dX1_againstSize_11 rfl ?_
    refine g_bipush dX1_againstSize_12 bp_6 ?_
    refine g_bipush dX1_againstSize_14 bp_16 ?_
    refine g_s3N (M' := KP_within) dX1_againstSize_16 l_L_60 s_KP_within c_KP_within rfl rfl ⟨rfl, rfl⟩ ?_
    refine b_if_eq (tgt := 26) dX1_againstSize_19 rfl (fun zc19 => ?_) (fun zc19 => ?_)
    · refine g_iconst dX1_againstSize_26 ic_0 ?_
      refine g_top bI_f.symm ?_
      refine g_s1N (M' := KP_goodIf) dX1_againstSize_27 l_L_68 s_KP_goodIf c_KP_goodIf rfl rfl ⟨rfl, rfl⟩ ?_
      exact e_iret dX1_againstSize_30 rfl (by simp [sheetOK, *]) (by rfl)
    · refine g_iconst dX1_againstSize_22 ic_1 ?_
      refine g_top bI_t.symm ?_
      refine g_goto (tgt := 27) dX1_againstSize_23 rfl ?_
      refine g_s1N (M' := KP_goodIf) dX1_againstSize_27 l_L_68 s_KP_goodIf c_KP_goodIf rfl rfl ⟨rfl, rfl⟩ ?_
      exact e_iret dX1_againstSize_30 rfl (by simp [sheetOK, *]) (by rfl)
set_option maxRecDepth 100000 in
theorem c_KL_againstSetting {σ : SI} {δ : SD} {B : Nat} (hB : LB B) {what v : Int32} : E KL_againstSetting [.ref B, .int what, .int v] (HH σ δ) (some (.int (if setOK what v then nI 0 else -2))) (HH σ δ) := by
  refine E.ofL [some (.ref B), some (.int what), some (.int v)] rfl pn_RX1 rfl (fun sc => ?_)
  refine g_iload_n dX1_againstSetting_0 rfl ?_
  refine g_iconst dX1_againstSetting_1 ic_0 ?_
  refine g_iconst dX1_againstSetting_2 ic_4 ?_
  refine g_s3N (M' := KP_within) dX1_againstSetting_3 l_L_60 s_KP_within c_KP_within rfl rfl ⟨rfl, rfl⟩ ?_
  refine b_if_eq (tgt := 30) dX1_againstSetting_6 rfl (fun zc6 => ?_) (fun zc6 => ?_)
  · refine g_iconst dX1_againstSetting_30 ic_0 ?_
    refine g_top bI_f.symm ?_
    refine g_s1N (M' := KP_goodIf) dX1_againstSetting_31 l_L_68 s_KP_goodIf c_KP_goodIf rfl rfl ⟨rfl, rfl⟩ ?_
    exact e_iret dX1_againstSetting_34 rfl (by unfold setOK; first | (rw [nI_clamp (by omega), zc6, zc23]; rfl) | (rw [zc6]; rfl)) (by rfl)
  · obtain ⟨zj, -, hzj, rfl⟩ := (inB_iff (by decide) (by decide)).mp zc6
    refine g_iload_n dX1_againstSetting_9 rfl ?_
    refine g_getsN (j := 1) (by decide) (by decide) dX1_againstSetting_10 (by decide +kernel) ?_
    refine g_iload_n dX1_againstSetting_13 rfl ?_
    refine g_tald (by decide) (by decide) dX1_againstSetting_14 (ixD_nI (show zj < (sRow 1).length from Nat.lt_succ_of_le hzj) (by decide)) ?_
    refine g_getsN (j := 2) (by decide) (by decide) dX1_againstSetting_15 (by decide +kernel) ?_
    refine g_iload_n dX1_againstSetting_18 rfl ?_
    refine g_tald (by decide) (by decide) dX1_againstSetting_19 (ixD_nI (show zj < (sRow 2).length from Nat.lt_succ_of_le hzj) (by decide)) ?_
    refine g_s3N (M' := KP_within) dX1_againstSetting_20 l_L_60 s_KP_within c_KP_within rfl rfl ⟨rfl, rfl⟩ ?_
    refine b_if_eq (tgt := 30) dX1_againstSetting_23 rfl (fun zc23 => ?_) (fun zc23 => ?_)
    · refine g_iconst dX1_againstSetting_30 ic_0 ?_
      refine g_top bI_f.symm ?_
      refine g_s1N (M' := KP_goodIf) dX1_againstSetting_31 l_L_68 s_KP_goodIf c_KP_goodIf rfl rfl ⟨rfl, rfl⟩ ?_
      exact e_iret dX1_againstSetting_34 rfl (by unfold setOK; first | (rw [nI_clamp (by omega), zc6, zc23]; rfl) | (rw [zc6]; rfl)) (by rfl)
    · refine g_iconst dX1_againstSetting_26 ic_1 ?_
      refine g_top bI_t.symm ?_
      refine g_goto (tgt := 31) dX1_againstSetting_27 rfl ?_
      refine g_s1N (M' := KP_goodIf) dX1_againstSetting_31 l_L_68 s_KP_goodIf c_KP_goodIf rfl rfl ⟨rfl, rfl⟩ ?_
      exact e_iret dX1_againstSetting_34 rfl (by unfold setOK; first | (rw [nI_clamp (by omega), zc6, zc23]; rfl) | (rw [zc6]; rfl)) (by rfl)
set_option maxRecDepth 100000 in
theorem c_KL_isTrait {σ : SI} {δ : SD} {B : Nat} (hB : LB B) {what v : Int32} : E KL_isTrait [.ref B, .int what, .int v] (HH σ δ) (some (.int (bI (traitOK what v)))) (HH σ δ) := by
  refine E.ofL [some (.ref B), some (.int what), some (.int v)] rfl pn_RX1 rfl (fun sc => ?_)
  refine g_iload_n dX1_isTrait_0 rfl ?_
  refine g_iconst dX1_isTrait_1 ic_0 ?_
  refine g_iconst dX1_isTrait_2 ic_3 ?_
  refine g_s3N (M' := KP_within) dX1_isTrait_3 l_L_60 s_KP_within c_KP_within rfl rfl ⟨rfl, rfl⟩ ?_
  refine b_if_eq (tgt := 30) dX1_isTrait_6 rfl (fun zc6 => ?_) (fun zc6 => ?_)
  · refine g_iconst dX1_isTrait_30 ic_0 ?_
    exact e_z0 dX1_isTrait_31 rfl (by unfold traitOK; first | (rw [nI_clamp (by omega), zc6, zc23]; rfl) | (rw [zc6]; rfl)) (by rfl)
  · obtain ⟨zj, -, hzj, rfl⟩ := (inB_iff (by decide) (by decide)).mp zc6
    refine g_iload_n dX1_isTrait_9 rfl ?_
    refine g_getsN (j := 3) (by decide) (by decide) dX1_isTrait_10 (by decide +kernel) ?_
    refine g_iload_n dX1_isTrait_13 rfl ?_
    refine g_tald (by decide) (by decide) dX1_isTrait_14 (ixD_nI (show zj < (sRow 3).length from Nat.lt_succ_of_le hzj) (by decide)) ?_
    refine g_getsN (j := 4) (by decide) (by decide) dX1_isTrait_15 (by decide +kernel) ?_
    refine g_iload_n dX1_isTrait_18 rfl ?_
    refine g_tald (by decide) (by decide) dX1_isTrait_19 (ixD_nI (show zj < (sRow 4).length from Nat.lt_succ_of_le hzj) (by decide)) ?_
    refine g_s3N (M' := KP_within) dX1_isTrait_20 l_L_60 s_KP_within c_KP_within rfl rfl ⟨rfl, rfl⟩ ?_
    refine b_if_eq (tgt := 30) dX1_isTrait_23 rfl (fun zc23 => ?_) (fun zc23 => ?_)
    · refine g_iconst dX1_isTrait_30 ic_0 ?_
      exact e_z0 dX1_isTrait_31 rfl (by unfold traitOK; first | (rw [nI_clamp (by omega), zc6, zc23]; rfl) | (rw [zc6]; rfl)) (by rfl)
    · refine g_iconst dX1_isTrait_26 ic_1 ?_
      refine g_goto (tgt := 31) dX1_isTrait_27 rfl ?_
      exact e_z1 dX1_isTrait_31 rfl (by unfold traitOK; first | (rw [nI_clamp (by omega), zc6, zc23]; rfl) | (rw [zc6]; rfl)) (by rfl)
set_option maxRecDepth 100000 in
theorem c_KL_againstItem {σ : SI} {δ : SD} {B n : Nat} {a : Nat → Int32} (hB : LB B) (hW : WF a n) (hR : RB σ B a n) {so r c b : Int32} : E KL_againstItem [.ref B, .int so, .int r, .int c, .int b] (HH σ δ) (some (.int (itemA n so r c b))) (HH σ δ) := by
  have h8 := hW.n8
  have h2 := hR.c
  refine E.ofL [some (.ref B), some (.int so), some (.int r), some (.int c), some (.int b)] rfl pn_RX1 rfl (fun sc => ?_)
  refine g_aload_n dX1_againstItem_0 rfl ?_
  refine g_iconst dX1_againstItem_1 ic_0 ?_
  refine g_iload_n dX1_againstItem_2 rfl ?_
  refine g_v2 (M' := KL_isTrait) dX1_againstItem_3 l_L_87 v_KL_isTrait (c_KL_isTrait hB) (rcL hB) rfl rfl ⟨rfl, rfl⟩ ?_
  refine b_if_eq (tgt := 37) dX1_againstItem_6 rfl (fun zc6 => ?_) (fun zc6 => ?_)
  · refine g_bipush dX1_againstItem_37 bp_m2 ?_
    exact e_iret dX1_againstItem_39 rfl (by first | exact (itA_full (by simp [*]) (by assumption)).symm | exact (itA_ok (by simp [*]) (by assumption)).symm | exact (itA_bad (by simp [*])).symm) (by rfl)
  · refine g_aload_n dX1_againstItem_9 rfl ?_
    refine g_iconst dX1_againstItem_10 ic_1 ?_
    refine g_iload_n dX1_againstItem_11 rfl ?_
    refine g_v2 (M' := KL_isTrait) dX1_againstItem_12 l_L_87 v_KL_isTrait (c_KL_isTrait hB) (rcL hB) rfl rfl ⟨rfl, rfl⟩ ?_
    refine b_if_eq (tgt := 37) dX1_againstItem_15 rfl (fun zc15 => ?_) (fun zc15 => ?_)
    · refine g_bipush dX1_againstItem_37 bp_m2 ?_
      exact e_iret dX1_againstItem_39 rfl (by first | exact (itA_full (by simp [*]) (by assumption)).symm | exact (itA_ok (by simp [*]) (by assumption)).symm | exact (itA_bad (by simp [*])).symm) (by rfl)
    · refine g_aload_n dX1_againstItem_18 rfl ?_
      refine g_iconst dX1_againstItem_19 ic_2 ?_
      refine g_iload_n dX1_againstItem_20 rfl ?_
      refine g_v2 (M' := KL_isTrait) dX1_againstItem_21 l_L_87 v_KL_isTrait (c_KL_isTrait hB) (rcL hB) rfl rfl ⟨rfl, rfl⟩ ?_
      refine b_if_eq (tgt := 37) dX1_againstItem_24 rfl (fun zc24 => ?_) (fun zc24 => ?_)
      · refine g_bipush dX1_againstItem_37 bp_m2 ?_
        exact e_iret dX1_againstItem_39 rfl (by first | exact (itA_full (by simp [*]) (by assumption)).symm | exact (itA_ok (by simp [*]) (by assumption)).symm | exact (itA_bad (by simp [*])).symm) (by rfl)
      · refine g_aload_n dX1_againstItem_27 rfl ?_
        refine g_iconst dX1_againstItem_28 ic_3 ?_
        refine g_iload dX1_againstItem_29 rfl ?_
        refine g_v2 (M' := KL_isTrait) dX1_againstItem_31 l_L_87 v_KL_isTrait (c_KL_isTrait hB) (rcL hB) rfl rfl ⟨rfl, rfl⟩ ?_
        refine b_if_ne (tgt := 40) dX1_againstItem_34 rfl (fun zc34 => ?_) (fun zc34 => ?_)
        · refine g_aload_n dX1_againstItem_40 rfl ?_
          refine q_geti dX1_againstItem_41 f_L_44 (ckL_0 hB) (by decide) ty_0_2 ?_
          refine g_top h2 ?_
          refine g_bipush dX1_againstItem_44 bp_8 ?_
          refine n_icmp_ge (tgt := 53) (by omega) (by omega) dX1_againstItem_46 rfl (fun zc46 => ?_) (fun zc46 => ?_)
          · refine g_bipush dX1_againstItem_53 bp_m4 ?_
            exact e_iret dX1_againstItem_55 rfl (by first | exact (itA_full (by simp [*]) (by assumption)).symm | exact (itA_ok (by simp [*]) (by assumption)).symm | exact (itA_bad (by simp [*])).symm) (by rfl)
          · refine g_iconst dX1_againstItem_49 ic_0 ?_
            refine g_goto (tgt := 55) dX1_againstItem_50 rfl ?_
            exact e_iret dX1_againstItem_55 rfl (by first | exact (itA_full (by simp [*]) (by assumption)).symm | exact (itA_ok (by simp [*]) (by assumption)).symm | exact (itA_bad (by simp [*])).symm) (by rfl)
        · refine g_bipush dX1_againstItem_37 bp_m2 ?_
          exact e_iret dX1_againstItem_39 rfl (by first | exact (itA_full (by simp [*]) (by assumption)).symm | exact (itA_ok (by simp [*]) (by assumption)).symm | exact (itA_bad (by simp [*])).symm) (by rfl)
set_option maxRecDepth 100000 in
theorem c_KL_againstTrait {σ : SI} {δ : SD} {B n : Nat} {a : Nat → Int32} (hB : LB B) (hW : WF a n) (hR : RB σ B a n) {k what v : Int32} : E KL_againstTrait [.ref B, .int k, .int what, .int v] (HH σ δ) (some (.int (if itB k n && traitOK what v then nI 0 else -2))) (HH σ δ) := by
  have h8 := hW.n8
  have h2 := hR.c
  refine E.ofL [some (.ref B), some (.int k), some (.int what), some (.int v)] rfl pn_RX1 rfl (fun sc => ?_)
  refine g_aload_n dX1_againstTrait_0 rfl ?_
  refine g_iload_n dX1_againstTrait_1 rfl ?_
  refine g_v1 (M' := KL_hasItem) dX1_againstTrait_2 l_L_64 v_KL_hasItem (c_KL_hasItem hB h2 h8) (rcL hB) rfl rfl ⟨rfl, rfl⟩ ?_
  refine b_if_eq (tgt := 21) dX1_againstTrait_5 rfl (fun zc5 => ?_) (fun zc5 => ?_)
  · refine g_iconst dX1_againstTrait_21 ic_0 ?_
    refine g_top bI_f.symm ?_
    refine g_s1N (M' := KP_goodIf) dX1_againstTrait_22 l_L_68 s_KP_goodIf c_KP_goodIf rfl rfl ⟨rfl, rfl⟩ ?_
    exact e_iret dX1_againstTrait_25 rfl (by simp [*]) (by rfl)
  · refine g_aload_n dX1_againstTrait_8 rfl ?_
    refine g_iload_n dX1_againstTrait_9 rfl ?_
    refine g_iload_n dX1_againstTrait_10 rfl ?_
    refine g_v2 (M' := KL_isTrait) dX1_againstTrait_11 l_L_87 v_KL_isTrait (c_KL_isTrait hB) (rcL hB) rfl rfl ⟨rfl, rfl⟩ ?_
    refine b_if_eq (tgt := 21) dX1_againstTrait_14 rfl (fun zc14 => ?_) (fun zc14 => ?_)
    · refine g_iconst dX1_againstTrait_21 ic_0 ?_
      refine g_top bI_f.symm ?_
      refine g_s1N (M' := KP_goodIf) dX1_againstTrait_22 l_L_68 s_KP_goodIf c_KP_goodIf rfl rfl ⟨rfl, rfl⟩ ?_
      exact e_iret dX1_againstTrait_25 rfl (by simp [*]) (by rfl)
    · refine g_iconst dX1_againstTrait_17 ic_1 ?_
      refine g_top bI_t.symm ?_
      refine g_goto (tgt := 22) dX1_againstTrait_18 rfl ?_
      refine g_s1N (M' := KP_goodIf) dX1_againstTrait_22 l_L_68 s_KP_goodIf c_KP_goodIf rfl rfl ⟨rfl, rfl⟩ ?_
      exact e_iret dX1_againstTrait_25 rfl (by simp [*]) (by rfl)
set_option maxRecDepth 100000 in
theorem c_KL_againstLaying {σ : SI} {δ : SD} {B n : Nat} {a : Nat → Int32} (hB : LB B) (hW : WF a n) (hR : RB σ B a n) (hD : RD σ B a n) {k x y : Int32} : E KL_againstLaying [.ref B, .int k, .int x, .int y] (HH σ δ) (some (.int (layA a n k x y))) (HH σ δ) := by
  have h8 := hW.n8
  have h2 := hR.c
  have hn := hW.n8
  refine E.ofL [some (.ref B), some (.int k), some (.int x), some (.int y)] rfl pn_RX1 rfl (fun sc => ?_)
  refine g_aload_n dX1_againstLaying_0 rfl ?_
  refine g_iload_n dX1_againstLaying_1 rfl ?_
  refine g_v1 (M' := KL_hasItem) dX1_againstLaying_2 l_L_64 v_KL_hasItem (c_KL_hasItem hB h2 h8) (rcL hB) rfl rfl ⟨rfl, rfl⟩ ?_
  refine b_if_eq (tgt := 16) dX1_againstLaying_5 rfl (fun zc5 => ?_) (fun zc5 => ?_)
  · refine g_bipush dX1_againstLaying_16 bp_m2 ?_
    exact e_iret dX1_againstLaying_18 rfl (by first | exact (lyA_no (Or.inl zc5)).symm | exact (lyA_no (Or.inr zc13)).symm | exact (lyA_yes zc5 zc13 zc26).symm | exact (lyA_bad zc5 zc13 zc26).symm) (by rfl)
  · refine g_iload_n dX1_againstLaying_8 rfl ?_
    refine g_iload_n dX1_againstLaying_9 rfl ?_
    refine g_s2N (M' := KP_isPlace) dX1_againstLaying_10 l_L_142 s_KP_isPlace c_KP_isPlace rfl rfl ⟨rfl, rfl⟩ ?_
    refine b_if_ne (tgt := 19) dX1_againstLaying_13 rfl (fun zc13 => ?_) (fun zc13 => ?_)
    · obtain ⟨j, hj, rfl⟩ := (itB_iff (by omega)).mp zc5
      have hx := plx zc13
      refine g_aload_n dX1_againstLaying_19 rfl ?_
      refine g_iload_n dX1_againstLaying_20 rfl ?_
      refine g_iload_n dX1_againstLaying_21 rfl ?_
      refine g_iload_n dX1_againstLaying_22 rfl ?_
      refine g_v3 (M' := KL_hasRoom) dX1_againstLaying_23 l_L_139 v_KL_hasRoom (c_KL_hasRoom hB hW hR hD (k := j) (by omega) hx) (rcL hB) rfl rfl ⟨rfl, rfl⟩ ?_
      refine b_if_eq (tgt := 33) dX1_againstLaying_26 rfl (fun zc26 => ?_) (fun zc26 => ?_)
      · refine g_bipush dX1_againstLaying_33 bp_m3 ?_
        exact e_iret dX1_againstLaying_35 rfl (by first | exact (lyA_no (Or.inl zc5)).symm | exact (lyA_no (Or.inr zc13)).symm | exact (lyA_yes zc5 zc13 zc26).symm | exact (lyA_bad zc5 zc13 zc26).symm) (by rfl)
      · refine g_iconst dX1_againstLaying_29 ic_0 ?_
        refine g_goto (tgt := 35) dX1_againstLaying_30 rfl ?_
        exact e_iret dX1_againstLaying_35 rfl (by first | exact (lyA_no (Or.inl zc5)).symm | exact (lyA_no (Or.inr zc13)).symm | exact (lyA_yes zc5 zc13 zc26).symm | exact (lyA_bad zc5 zc13 zc26).symm) (by rfl)
    · refine g_bipush dX1_againstLaying_16 bp_m2 ?_
      exact e_iret dX1_againstLaying_18 rfl (by first | exact (lyA_no (Or.inl zc5)).symm | exact (lyA_no (Or.inr zc13)).symm | exact (lyA_yes zc5 zc13 zc26).symm | exact (lyA_bad zc5 zc13 zc26).symm) (by rfl)
set_option maxRecDepth 100000 in
theorem c_KL_againstTakingOff {σ : SI} {δ : SD} {B n : Nat} {a : Nat → Int32} (hB : LB B) (hW : WF a n) (hR : RB σ B a n) {k : Int32} : E KL_againstTakingOff [.ref B, .int k] (HH σ δ) (some (.int (canOffA a n k))) (HH σ δ) := by
  have h8 := hW.n8
  have h2 := hR.c
  have hn := hW.n8
  refine E.ofL [some (.ref B), some (.int k)] rfl pn_RX1 rfl (fun sc => ?_)
  refine g_aload_n dX1_againstTakingOff_0 rfl ?_
  refine g_iload_n dX1_againstTakingOff_1 rfl ?_
  refine g_v1 (M' := KL_hasItem) dX1_againstTakingOff_2 l_L_64 v_KL_hasItem (c_KL_hasItem hB h2 h8) (rcL hB) rfl rfl ⟨rfl, rfl⟩ ?_
  refine b_if_ne (tgt := 11) dX1_againstTakingOff_5 rfl (fun zc5 => ?_) (fun zc5 => ?_)
  · obtain ⟨j, hj, rfl⟩ := (itB_iff (by omega)).mp zc5
    refine g_aload_n dX1_againstTakingOff_11 rfl ?_
    refine g_iload_n dX1_againstTakingOff_12 rfl ?_
    refine g_v1 (M' := KL_lies) dX1_againstTakingOff_13 l_L_123 v_KL_lies (c_KL_lies hB hW hR (k := j) (by omega)) (rcL hB) rfl rfl ⟨rfl, rfl⟩ ?_
    refine b_if_eq (tgt := 23) dX1_againstTakingOff_16 rfl (fun zc16 => ?_) (fun zc16 => ?_)
    · refine g_bipush dX1_againstTakingOff_23 bp_m3 ?_
      exact e_iret dX1_againstTakingOff_25 rfl (by first | exact (canOff_no zc5).symm | exact (canOff_yes zc5 zc16).symm | exact (canOff_bad zc5 zc16).symm) (by rfl)
    · refine g_iconst dX1_againstTakingOff_19 ic_0 ?_
      refine g_goto (tgt := 25) dX1_againstTakingOff_20 rfl ?_
      exact e_iret dX1_againstTakingOff_25 rfl (by first | exact (canOff_no zc5).symm | exact (canOff_yes zc5 zc16).symm | exact (canOff_bad zc5 zc16).symm) (by rfl)
  · refine g_bipush dX1_againstTakingOff_8 bp_m2 ?_
    exact e_iret dX1_againstTakingOff_10 rfl (by first | exact (canOff_no zc5).symm | exact (canOff_yes zc5 zc16).symm | exact (canOff_bad zc5 zc16).symm) (by rfl)
set_option maxRecDepth 100000 in
theorem c_KL_againstSwap {σ : SI} {δ : SD} {B n : Nat} {a : Nat → Int32} (hB : LB B) (hW : WF a n) (hR : RB σ B a n) {i k : Int32} : E KL_againstSwap [.ref B, .int i, .int k] (HH σ δ) (some (.int (swapA a n i k))) (HH σ δ) := by
  have h8 := hW.n8
  have h2 := hR.c
  have hn := hW.n8
  refine E.ofL [some (.ref B), some (.int i), some (.int k)] rfl pn_RX1 rfl (fun sc => ?_)
  refine g_aload_n dX1_againstSwap_0 rfl ?_
  refine g_iload_n dX1_againstSwap_1 rfl ?_
  refine g_v1 (M' := KL_hasItem) dX1_againstSwap_2 l_L_64 v_KL_hasItem (c_KL_hasItem hB h2 h8) (rcL hB) rfl rfl ⟨rfl, rfl⟩ ?_
  refine b_if_eq (tgt := 21) dX1_againstSwap_5 rfl (fun zc5 => ?_) (fun zc5 => ?_)
  · refine g_bipush dX1_againstSwap_21 bp_m2 ?_
    exact e_iret dX1_againstSwap_23 rfl (by first | exact (swA_no (Or.inl zc5)).symm | exact (swA_no (Or.inr (Or.inl zc13))).symm | exact (swA_no (Or.inr (Or.inr zc18))).symm | exact (swA_1 zc5 zc13 zc18 zc29).symm | exact (swA_2 zc5 zc13 zc18 zc37).symm | exact (swA_bad zc5 zc13 zc18 zc29 zc37).symm) (by rfl)
  · refine g_aload_n dX1_againstSwap_8 rfl ?_
    refine g_iload_n dX1_againstSwap_9 rfl ?_
    refine g_v1 (M' := KL_hasItem) dX1_againstSwap_10 l_L_64 v_KL_hasItem (c_KL_hasItem hB h2 h8) (rcL hB) rfl rfl ⟨rfl, rfl⟩ ?_
    refine b_if_eq (tgt := 21) dX1_againstSwap_13 rfl (fun zc13 => ?_) (fun zc13 => ?_)
    · refine g_bipush dX1_againstSwap_21 bp_m2 ?_
      exact e_iret dX1_againstSwap_23 rfl (by first | exact (swA_no (Or.inl zc5)).symm | exact (swA_no (Or.inr (Or.inl zc13))).symm | exact (swA_no (Or.inr (Or.inr zc18))).symm | exact (swA_1 zc5 zc13 zc18 zc29).symm | exact (swA_2 zc5 zc13 zc18 zc37).symm | exact (swA_bad zc5 zc13 zc18 zc29 zc37).symm) (by rfl)
    · refine g_iload_n dX1_againstSwap_16 rfl ?_
      refine g_iload_n dX1_againstSwap_17 rfl ?_
      refine g_icmp_ne (tgt := 24) dX1_againstSwap_18 rfl (fun zc18 => ?_) (fun zc18 => ?_)
      · obtain ⟨zi, hzi, rfl⟩ := (itB_iff (by omega)).mp zc5
        obtain ⟨zk, hzk, rfl⟩ := (itB_iff (by omega)).mp zc13
        refine g_aload_n dX1_againstSwap_24 rfl ?_
        refine g_iload_n dX1_againstSwap_25 rfl ?_
        refine g_v1 (M' := KL_lies) dX1_againstSwap_26 l_L_123 v_KL_lies (c_KL_lies hB hW hR (k := zi) (by omega)) (rcL hB) rfl rfl ⟨rfl, rfl⟩ ?_
        refine b_if_ne (tgt := 40) dX1_againstSwap_29 rfl (fun zc29 => ?_) (fun zc29 => ?_)
        · refine g_iconst dX1_againstSwap_40 ic_0 ?_
          refine g_goto (tgt := 46) dX1_againstSwap_41 rfl ?_
          exact e_iret dX1_againstSwap_46 rfl (by first | exact (swA_no (Or.inl zc5)).symm | exact (swA_no (Or.inr (Or.inl zc13))).symm | exact (swA_no (Or.inr (Or.inr zc18))).symm | exact (swA_1 zc5 zc13 zc18 zc29).symm | exact (swA_2 zc5 zc13 zc18 zc37).symm | exact (swA_bad zc5 zc13 zc18 zc29 zc37).symm) (by rfl)
        · refine g_aload_n dX1_againstSwap_32 rfl ?_
          refine g_iload_n dX1_againstSwap_33 rfl ?_
          refine g_v1 (M' := KL_lies) dX1_againstSwap_34 l_L_123 v_KL_lies (c_KL_lies hB hW hR (k := zk) (by omega)) (rcL hB) rfl rfl ⟨rfl, rfl⟩ ?_
          refine b_if_eq (tgt := 44) dX1_againstSwap_37 rfl (fun zc37 => ?_) (fun zc37 => ?_)
          · refine g_bipush dX1_againstSwap_44 bp_m3 ?_
            exact e_iret dX1_againstSwap_46 rfl (by first | exact (swA_no (Or.inl zc5)).symm | exact (swA_no (Or.inr (Or.inl zc13))).symm | exact (swA_no (Or.inr (Or.inr zc18))).symm | exact (swA_1 zc5 zc13 zc18 zc29).symm | exact (swA_2 zc5 zc13 zc18 zc37).symm | exact (swA_bad zc5 zc13 zc18 zc29 zc37).symm) (by rfl)
          · refine g_iconst dX1_againstSwap_40 ic_0 ?_
            refine g_goto (tgt := 46) dX1_againstSwap_41 rfl ?_
            exact e_iret dX1_againstSwap_46 rfl (by first | exact (swA_no (Or.inl zc5)).symm | exact (swA_no (Or.inr (Or.inl zc13))).symm | exact (swA_no (Or.inr (Or.inr zc18))).symm | exact (swA_1 zc5 zc13 zc18 zc29).symm | exact (swA_2 zc5 zc13 zc18 zc37).symm | exact (swA_bad zc5 zc13 zc18 zc29 zc37).symm) (by rfl)
      · refine g_bipush dX1_againstSwap_21 bp_m2 ?_
        exact e_iret dX1_againstSwap_23 rfl (by first | exact (swA_no (Or.inl zc5)).symm | exact (swA_no (Or.inr (Or.inl zc13))).symm | exact (swA_no (Or.inr (Or.inr zc18))).symm | exact (swA_1 zc5 zc13 zc18 zc29).symm | exact (swA_2 zc5 zc13 zc18 zc37).symm | exact (swA_bad zc5 zc13 zc18 zc29 zc37).symm) (by rfl)
set_option maxRecDepth 100000 in
theorem c_KL_takeOff {σ : SI} {δ : SD} {B n : Nat} {a : Nat → Int32} (hB : LB B) (hW : WF a n) (hR : RB σ B a n) {k : Nat} (hk : k < n) : E KL_takeOff [.ref B, .int (nI k)] (HH σ δ) (some (.int (nI (cntN (liesA (aLay a k (-1) (-1))) n)))) (HH (sLay σ B k (-1) (-1)) δ) := by
  have h8 := hW.n8
  have h2 := hR.c
  have hW1 := WF_lay hW hk (x := -1) (y := -1) (Or.inl ⟨rfl, rfl⟩)
  have hR1 := RB_lay hR hk (x := -1) (y := -1)
  refine E.ofL [some (.ref B), some (.int (nI k))] rfl pn_RX1 rfl (fun sc => ?_)
  refine g_aload_n dX1_takeOff_0 rfl ?_
  refine g_iload_n dX1_takeOff_1 rfl ?_
  refine g_iconst dX1_takeOff_2 ic_m1 ?_
  refine g_iconst dX1_takeOff_3 ic_m1 ?_
  refine g_v3n (M' := KL_put) dX1_takeOff_4 l_L_145 v_KL_put (c_KL_put hB hW hR (by omega)) (rcL hB) rfl rfl ⟨rfl, rfl⟩ ?_
  refine g_aload_n dX1_takeOff_7 rfl ?_
  refine g_v0 (M' := KL_lying) dX1_takeOff_8 l_L_149 v_KL_lying (c_KL_lying hB hW1 hR1) (rcL hB) rfl rfl ⟨rfl, rfl⟩ ?_
  exact e_iret dX1_takeOff_11 rfl (by rfl) (by rfl)
set_option maxRecDepth 100000 in
theorem c_KL_swap {σ : SI} {δ : SD} {B n : Nat} {a : Nat → Int32} (hB : LB B) (hW : WF a n) (hR : RB σ B a n) (hD : RD σ B a n) {i k : Nat} (hi : i < n) (hk : k < n) : E KL_swap [.ref B, .int (nI i), .int (nI k)] (HH σ δ) (some (.int (swapsA (aSwap a i k) n i k))) (HH (sSwap σ B a i k) δ) := by
  have h8 := hW.n8
  have h2 := hR.c
  have hW1 := WF_lay hW hi (hW.pl hk)
  have hR1 := RB_lay hR hi (x := its a k 4) (y := its a k 5)
  have hD1 := RD_lay hD (k := i) (x := its a k 4) (y := its a k 5)
  have hW2 := WF_lay hW1 hk (hW.pl hi)
  have hR2 := RB_lay hR1 hk (x := its a i 4) (y := its a i 5)
  have hD2 := RD_lay hD1 (k := k) (x := its a i 4) (y := its a i 5)
  refine E.ofL [some (.ref B), some (.int (nI i)), some (.int (nI k))] rfl pn_RX1 rfl (fun sc => ?_)
  refine g_aload_n dX1_swap_0 rfl ?_
  refine g_iload_n dX1_swap_1 rfl ?_
  refine g_v1 (M' := KL_xOf) dX1_swap_2 l_L_133 v_KL_xOf (c_KL_xOf hB hW hR (by omega)) (rcL hB) rfl rfl ⟨rfl, rfl⟩ ?_
  refine g_istore_n dX1_swap_5 rfl ?_
  refine g_aload_n dX1_swap_6 rfl ?_
  refine g_iload_n dX1_swap_7 rfl ?_
  refine g_v1 (M' := KL_yOf) dX1_swap_8 l_L_136 v_KL_yOf (c_KL_yOf hB hW hR (by omega)) (rcL hB) rfl rfl ⟨rfl, rfl⟩ ?_
  refine g_istore dX1_swap_11 rfl ?_
  refine g_aload_n dX1_swap_13 rfl ?_
  refine g_iload_n dX1_swap_14 rfl ?_
  refine g_aload_n dX1_swap_15 rfl ?_
  refine g_iload_n dX1_swap_16 rfl ?_
  refine g_v1 (M' := KL_xOf) dX1_swap_17 l_L_133 v_KL_xOf (c_KL_xOf hB hW hR (by omega)) (rcL hB) rfl rfl ⟨rfl, rfl⟩ ?_
  refine g_aload_n dX1_swap_20 rfl ?_
  refine g_iload_n dX1_swap_21 rfl ?_
  refine g_v1 (M' := KL_yOf) dX1_swap_22 l_L_136 v_KL_yOf (c_KL_yOf hB hW hR (by omega)) (rcL hB) rfl rfl ⟨rfl, rfl⟩ ?_
  refine g_v3n (M' := KL_put) dX1_swap_25 l_L_145 v_KL_put (c_KL_put hB hW hR (by omega)) (rcL hB) rfl rfl ⟨rfl, rfl⟩ ?_
  refine g_aload_n dX1_swap_28 rfl ?_
  refine g_iload_n dX1_swap_29 rfl ?_
  refine g_iload_n dX1_swap_30 rfl ?_
  refine g_iload dX1_swap_31 rfl ?_
  refine g_v3n (M' := KL_put) dX1_swap_33 l_L_145 v_KL_put (c_KL_put hB hW1 hR1 (by omega)) (rcL hB) rfl rfl ⟨rfl, rfl⟩ ?_
  refine g_aload_n dX1_swap_36 rfl ?_
  refine g_iload_n dX1_swap_37 rfl ?_
  refine g_v1 (M' := KL_liesWell) dX1_swap_38 l_L_152 v_KL_liesWell (c_KL_liesWell hB hW2 hR2 hD2 hi) (rcL hB) rfl rfl ⟨rfl, rfl⟩ ?_
  refine b_if_eq (tgt := 48) dX1_swap_41 rfl (fun zc41 => ?_) (fun zc41 => ?_)
  · refine g_iconst dX1_swap_48 ic_0 ?_
    refine g_aload_n dX1_swap_49 rfl ?_
    refine g_iload_n dX1_swap_50 rfl ?_
    refine g_v1 (M' := KL_liesWell) dX1_swap_51 l_L_152 v_KL_liesWell (c_KL_liesWell hB hW2 hR2 hD2 hk) (rcL hB) rfl rfl ⟨rfl, rfl⟩ ?_
    refine b_if_eq (tgt := 61) dX1_swap_54 rfl (fun zc54 => ?_) (fun zc54 => ?_)
    · refine g_iconst dX1_swap_61 ic_0 ?_
      refine n_iadd dX1_swap_62 ?_
      exact e_iret dX1_swap_63 rfl (by exact (sw_ans zc41 zc54).symm) (by rfl)
    · refine g_iconst dX1_swap_57 ic_1 ?_
      refine g_goto (tgt := 62) dX1_swap_58 rfl ?_
      refine n_iadd dX1_swap_62 ?_
      exact e_iret dX1_swap_63 rfl (by exact (sw_ans zc41 zc54).symm) (by rfl)
  · refine g_iconst dX1_swap_44 ic_1 ?_
    refine g_goto (tgt := 49) dX1_swap_45 rfl ?_
    refine g_aload_n dX1_swap_49 rfl ?_
    refine g_iload_n dX1_swap_50 rfl ?_
    refine g_v1 (M' := KL_liesWell) dX1_swap_51 l_L_152 v_KL_liesWell (c_KL_liesWell hB hW2 hR2 hD2 hk) (rcL hB) rfl rfl ⟨rfl, rfl⟩ ?_
    refine b_if_eq (tgt := 61) dX1_swap_54 rfl (fun zc54 => ?_) (fun zc54 => ?_)
    · refine g_iconst dX1_swap_61 ic_0 ?_
      refine n_iadd dX1_swap_62 ?_
      exact e_iret dX1_swap_63 rfl (by exact (sw_ans zc41 zc54).symm) (by rfl)
    · refine g_iconst dX1_swap_57 ic_1 ?_
      refine g_goto (tgt := 62) dX1_swap_58 rfl ?_
      refine n_iadd dX1_swap_62 ?_
      exact e_iret dX1_swap_63 rfl (by exact (sw_ans zc41 zc54).symm) (by rfl)
set_option maxRecDepth 100000 in
theorem c_KL_tellOfItem0 {σ : SI} {δ : SD} {B n : Nat} {a : Nat → Int32} (hB : LB B) (hW : WF a n) (hR : RB σ B a n) (hD : RD σ B a n) {k : Nat} (hk : k < n) : E KL_tellOfItem [.ref B, .int (nI k), .int (nI 0)] (HH σ δ) (some (.int (ofA a n k 0))) (HH σ δ) := by
  have h8 := hW.n8
  have h2 := hR.c
  refine E.ofL [some (.ref B), some (.int (nI k)), some (.int (nI 0))] rfl pn_RX1 rfl (fun sc => ?_)
  refine g_iload_n dX1_tellOfItem_0 rfl ?_
  refine g_tsw (tgt := 84) dX1_tellOfItem_1 (by decide +kernel) (by decide) ?_
  refine g_aload_n dX1_tellOfItem_84 rfl ?_
  refine g_iload_n dX1_tellOfItem_85 rfl ?_
  refine g_iload_n dX1_tellOfItem_86 rfl ?_
  refine g_v2 (M' := KL_trait) dX1_tellOfItem_87 l_L_99 v_KL_trait (c_KL_trait hB hW hR (by omega) (by omega)) (rcL hB) rfl rfl ⟨rfl, rfl⟩ ?_
  exact e_iret dX1_tellOfItem_90 rfl (by rfl) (by rfl)
set_option maxRecDepth 100000 in
theorem c_KL_tellOfItem1 {σ : SI} {δ : SD} {B n : Nat} {a : Nat → Int32} (hB : LB B) (hW : WF a n) (hR : RB σ B a n) (hD : RD σ B a n) {k : Nat} (hk : k < n) : E KL_tellOfItem [.ref B, .int (nI k), .int (nI 1)] (HH σ δ) (some (.int (ofA a n k 1))) (HH σ δ) := by
  have h8 := hW.n8
  have h2 := hR.c
  refine E.ofL [some (.ref B), some (.int (nI k)), some (.int (nI 1))] rfl pn_RX1 rfl (fun sc => ?_)
  refine g_iload_n dX1_tellOfItem_0 rfl ?_
  refine g_tsw (tgt := 84) dX1_tellOfItem_1 (by decide +kernel) (by decide) ?_
  refine g_aload_n dX1_tellOfItem_84 rfl ?_
  refine g_iload_n dX1_tellOfItem_85 rfl ?_
  refine g_iload_n dX1_tellOfItem_86 rfl ?_
  refine g_v2 (M' := KL_trait) dX1_tellOfItem_87 l_L_99 v_KL_trait (c_KL_trait hB hW hR (by omega) (by omega)) (rcL hB) rfl rfl ⟨rfl, rfl⟩ ?_
  exact e_iret dX1_tellOfItem_90 rfl (by rfl) (by rfl)
set_option maxRecDepth 100000 in
theorem c_KL_tellOfItem2 {σ : SI} {δ : SD} {B n : Nat} {a : Nat → Int32} (hB : LB B) (hW : WF a n) (hR : RB σ B a n) (hD : RD σ B a n) {k : Nat} (hk : k < n) : E KL_tellOfItem [.ref B, .int (nI k), .int (nI 2)] (HH σ δ) (some (.int (ofA a n k 2))) (HH σ δ) := by
  have h8 := hW.n8
  have h2 := hR.c
  refine E.ofL [some (.ref B), some (.int (nI k)), some (.int (nI 2))] rfl pn_RX1 rfl (fun sc => ?_)
  refine g_iload_n dX1_tellOfItem_0 rfl ?_
  refine g_tsw (tgt := 84) dX1_tellOfItem_1 (by decide +kernel) (by decide) ?_
  refine g_aload_n dX1_tellOfItem_84 rfl ?_
  refine g_iload_n dX1_tellOfItem_85 rfl ?_
  refine g_iload_n dX1_tellOfItem_86 rfl ?_
  refine g_v2 (M' := KL_trait) dX1_tellOfItem_87 l_L_99 v_KL_trait (c_KL_trait hB hW hR (by omega) (by omega)) (rcL hB) rfl rfl ⟨rfl, rfl⟩ ?_
  exact e_iret dX1_tellOfItem_90 rfl (by rfl) (by rfl)
set_option maxRecDepth 100000 in
theorem c_KL_tellOfItem3 {σ : SI} {δ : SD} {B n : Nat} {a : Nat → Int32} (hB : LB B) (hW : WF a n) (hR : RB σ B a n) (hD : RD σ B a n) {k : Nat} (hk : k < n) : E KL_tellOfItem [.ref B, .int (nI k), .int (nI 3)] (HH σ δ) (some (.int (ofA a n k 3))) (HH σ δ) := by
  have h8 := hW.n8
  have h2 := hR.c
  refine E.ofL [some (.ref B), some (.int (nI k)), some (.int (nI 3))] rfl pn_RX1 rfl (fun sc => ?_)
  refine g_iload_n dX1_tellOfItem_0 rfl ?_
  refine g_tsw (tgt := 84) dX1_tellOfItem_1 (by decide +kernel) (by decide) ?_
  refine g_aload_n dX1_tellOfItem_84 rfl ?_
  refine g_iload_n dX1_tellOfItem_85 rfl ?_
  refine g_iload_n dX1_tellOfItem_86 rfl ?_
  refine g_v2 (M' := KL_trait) dX1_tellOfItem_87 l_L_99 v_KL_trait (c_KL_trait hB hW hR (by omega) (by omega)) (rcL hB) rfl rfl ⟨rfl, rfl⟩ ?_
  exact e_iret dX1_tellOfItem_90 rfl (by rfl) (by rfl)
set_option maxRecDepth 100000 in
theorem c_KL_tellOfItem4 {σ : SI} {δ : SD} {B n : Nat} {a : Nat → Int32} (hB : LB B) (hW : WF a n) (hR : RB σ B a n) (hD : RD σ B a n) {k : Nat} (hk : k < n) : E KL_tellOfItem [.ref B, .int (nI k), .int (nI 4)] (HH σ δ) (some (.int (ofA a n k 4))) (HH σ δ) := by
  have h8 := hW.n8
  have h2 := hR.c
  refine E.ofL [some (.ref B), some (.int (nI k)), some (.int (nI 4))] rfl pn_RX1 rfl (fun sc => ?_)
  refine g_iload_n dX1_tellOfItem_0 rfl ?_
  refine g_tsw (tgt := 40) dX1_tellOfItem_1 (by decide +kernel) (by decide) ?_
  refine g_aload_n dX1_tellOfItem_40 rfl ?_
  refine g_iload_n dX1_tellOfItem_41 rfl ?_
  refine g_v1 (M' := KL_xOf) dX1_tellOfItem_42 l_L_133 v_KL_xOf (c_KL_xOf hB hW hR (by omega)) (rcL hB) rfl rfl ⟨rfl, rfl⟩ ?_
  exact e_iret dX1_tellOfItem_45 rfl (by rfl) (by rfl)
set_option maxRecDepth 100000 in
theorem c_KL_tellOfItem5 {σ : SI} {δ : SD} {B n : Nat} {a : Nat → Int32} (hB : LB B) (hW : WF a n) (hR : RB σ B a n) (hD : RD σ B a n) {k : Nat} (hk : k < n) : E KL_tellOfItem [.ref B, .int (nI k), .int (nI 5)] (HH σ δ) (some (.int (ofA a n k 5))) (HH σ δ) := by
  have h8 := hW.n8
  have h2 := hR.c
  refine E.ofL [some (.ref B), some (.int (nI k)), some (.int (nI 5))] rfl pn_RX1 rfl (fun sc => ?_)
  refine g_iload_n dX1_tellOfItem_0 rfl ?_
  refine g_tsw (tgt := 46) dX1_tellOfItem_1 (by decide +kernel) (by decide) ?_
  refine g_aload_n dX1_tellOfItem_46 rfl ?_
  refine g_iload_n dX1_tellOfItem_47 rfl ?_
  refine g_v1 (M' := KL_yOf) dX1_tellOfItem_48 l_L_136 v_KL_yOf (c_KL_yOf hB hW hR (by omega)) (rcL hB) rfl rfl ⟨rfl, rfl⟩ ?_
  exact e_iret dX1_tellOfItem_51 rfl (by rfl) (by rfl)
set_option maxRecDepth 100000 in
theorem c_KL_tellOfItem6 {σ : SI} {δ : SD} {B n : Nat} {a : Nat → Int32} (hB : LB B) (hW : WF a n) (hR : RB σ B a n) (hD : RD σ B a n) {k : Nat} (hk : k < n) : E KL_tellOfItem [.ref B, .int (nI k), .int (nI 6)] (HH σ δ) (some (.int (ofA a n k 6))) (HH σ δ) := by
  have h8 := hW.n8
  have h2 := hR.c
  refine E.ofL [some (.ref B), some (.int (nI k)), some (.int (nI 6))] rfl pn_RX1 rfl (fun sc => ?_)
  refine g_iload_n dX1_tellOfItem_0 rfl ?_
  refine g_tsw (tgt := 52) dX1_tellOfItem_1 (by decide +kernel) (by decide) ?_
  refine g_aload_n dX1_tellOfItem_52 rfl ?_
  refine g_iload_n dX1_tellOfItem_53 rfl ?_
  refine g_v1 (M' := KL_wide) dX1_tellOfItem_54 l_L_155 v_KL_wide (c_KL_wide hB hW hR hD (by omega)) (rcL hB) rfl rfl ⟨rfl, rfl⟩ ?_
  exact e_iret dX1_tellOfItem_57 rfl (by rfl) (by rfl)
set_option maxRecDepth 100000 in
theorem c_KL_tellOfItem7 {σ : SI} {δ : SD} {B n : Nat} {a : Nat → Int32} (hB : LB B) (hW : WF a n) (hR : RB σ B a n) (hD : RD σ B a n) {k : Nat} (hk : k < n) : E KL_tellOfItem [.ref B, .int (nI k), .int (nI 7)] (HH σ δ) (some (.int (ofA a n k 7))) (HH σ δ) := by
  have h8 := hW.n8
  have h2 := hR.c
  refine E.ofL [some (.ref B), some (.int (nI k)), some (.int (nI 7))] rfl pn_RX1 rfl (fun sc => ?_)
  refine g_iload_n dX1_tellOfItem_0 rfl ?_
  refine g_tsw (tgt := 58) dX1_tellOfItem_1 (by decide +kernel) (by decide) ?_
  refine g_aload_n dX1_tellOfItem_58 rfl ?_
  refine g_iload_n dX1_tellOfItem_59 rfl ?_
  refine g_v1 (M' := KL_high) dX1_tellOfItem_60 l_L_158 v_KL_high (c_KL_high hB hW hR hD (by omega)) (rcL hB) rfl rfl ⟨rfl, rfl⟩ ?_
  exact e_iret dX1_tellOfItem_63 rfl (by rfl) (by rfl)
set_option maxRecDepth 100000 in
theorem c_KL_tellOfItem8 {σ : SI} {δ : SD} {B n : Nat} {a : Nat → Int32} (hB : LB B) (hW : WF a n) (hR : RB σ B a n) (hD : RD σ B a n) {k : Nat} (hk : k < n) : E KL_tellOfItem [.ref B, .int (nI k), .int (nI 8)] (HH σ δ) (some (.int (ofA a n k 8))) (HH σ δ) := by
  have h8 := hW.n8
  have h2 := hR.c
  refine E.ofL [some (.ref B), some (.int (nI k)), some (.int (nI 8))] rfl pn_RX1 rfl (fun sc => ?_)
  refine g_iload_n dX1_tellOfItem_0 rfl ?_
  refine g_tsw (tgt := 64) dX1_tellOfItem_1 (by decide +kernel) (by decide) ?_
  refine g_aload_n dX1_tellOfItem_64 rfl ?_
  refine g_iload_n dX1_tellOfItem_65 rfl ?_
  refine g_v1 (M' := KL_weight) dX1_tellOfItem_66 l_L_161 v_KL_weight (c_KL_weight hB hW hR hD (by omega)) (rcL hB) rfl rfl ⟨rfl, rfl⟩ ?_
  exact e_iret dX1_tellOfItem_69 rfl (by rfl) (by rfl)
set_option maxRecDepth 100000 in
theorem c_KL_tellOfItem9 {σ : SI} {δ : SD} {B n : Nat} {a : Nat → Int32} (hB : LB B) (hW : WF a n) (hR : RB σ B a n) (hD : RD σ B a n) {k : Nat} (hk : k < n) : E KL_tellOfItem [.ref B, .int (nI k), .int (nI 9)] (HH σ δ) (some (.int (ofA a n k 9))) (HH σ δ) := by
  have h8 := hW.n8
  have h2 := hR.c
  refine E.ofL [some (.ref B), some (.int (nI k)), some (.int (nI 9))] rfl pn_RX1 rfl (fun sc => ?_)
  refine g_iload_n dX1_tellOfItem_0 rfl ?_
  refine g_tsw (tgt := 70) dX1_tellOfItem_1 (by decide +kernel) (by decide) ?_
  refine g_aload_n dX1_tellOfItem_70 rfl ?_
  refine g_iload_n dX1_tellOfItem_71 rfl ?_
  refine g_v1 (M' := KL_liesWell) dX1_tellOfItem_72 l_L_152 v_KL_liesWell (c_KL_liesWell hB hW hR hD (by omega)) (rcL hB) rfl rfl ⟨rfl, rfl⟩ ?_
  refine b_if_eq (tgt := 82) dX1_tellOfItem_75 rfl (fun zc75 => ?_) (fun zc75 => ?_)
  · refine g_iconst dX1_tellOfItem_82 ic_0 ?_
    exact e_iret dX1_tellOfItem_83 rfl (by exact (of9 zc75).symm) (by rfl)
  · refine g_iconst dX1_tellOfItem_78 ic_1 ?_
    refine g_goto (tgt := 83) dX1_tellOfItem_79 rfl ?_
    exact e_iret dX1_tellOfItem_83 rfl (by exact (of9 zc75).symm) (by rfl)
set_option maxRecDepth 100000 in
theorem c_KL_tellOfAll0 {σ : SI} {δ : SD} {B n : Nat} {a : Nat → Int32} (hB : LB B) (hW : WF a n) (hR : RB σ B a n) (hD : RD σ B a n) : E KL_tellOfAll [.ref B, .int (nI 0)] (HH σ δ) (some (.int (allA a n 0))) (HH σ δ) := by
  have h8 := hW.n8
  have h2 := hR.c
  refine E.ofL [some (.ref B), some (.int (nI 0))] rfl pn_RX1 rfl (fun sc => ?_)
  refine g_iload_n dX1_tellOfAll_0 rfl ?_
  refine g_tsw (tgt := 28) dX1_tellOfAll_1 (by decide +kernel) (by decide) ?_
  refine g_aload_n dX1_tellOfAll_28 rfl ?_
  refine g_v0 (M' := KL_lyingBits) dX1_tellOfAll_29 l_L_114 v_KL_lyingBits (c_KL_lyingBits hB hW hR) (rcL hB) rfl rfl ⟨rfl, rfl⟩ ?_
  exact e_iret dX1_tellOfAll_32 rfl (by rfl) (by rfl)
set_option maxRecDepth 100000 in
theorem c_KL_tellOfAll1 {σ : SI} {δ : SD} {B n : Nat} {a : Nat → Int32} (hB : LB B) (hW : WF a n) (hR : RB σ B a n) (hD : RD σ B a n) : E KL_tellOfAll [.ref B, .int (nI 1)] (HH σ δ) (some (.int (allA a n 1))) (HH σ δ) := by
  have h8 := hW.n8
  have h2 := hR.c
  refine E.ofL [some (.ref B), some (.int (nI 1))] rfl pn_RX1 rfl (fun sc => ?_)
  refine g_iload_n dX1_tellOfAll_0 rfl ?_
  refine g_tsw (tgt := 33) dX1_tellOfAll_1 (by decide +kernel) (by decide) ?_
  refine g_aload_n dX1_tellOfAll_33 rfl ?_
  refine g_v0 (M' := KL_badlyLyingBits) dX1_tellOfAll_34 l_L_164 v_KL_badlyLyingBits (c_KL_badlyLyingBits hB hW hR hD) (rcL hB) rfl rfl ⟨rfl, rfl⟩ ?_
  exact e_iret dX1_tellOfAll_37 rfl (by rfl) (by rfl)
set_option maxRecDepth 100000 in
theorem c_KL_tellOfAll2 {σ : SI} {δ : SD} {B n : Nat} {a : Nat → Int32} (hB : LB B) (hW : WF a n) (hR : RB σ B a n) (hD : RD σ B a n) : E KL_tellOfAll [.ref B, .int (nI 2)] (HH σ δ) (some (.int (allA a n 2))) (HH σ δ) := by
  have h8 := hW.n8
  have h2 := hR.c
  refine E.ofL [some (.ref B), some (.int (nI 2))] rfl pn_RX1 rfl (fun sc => ?_)
  refine g_iload_n dX1_tellOfAll_0 rfl ?_
  refine g_tsw (tgt := 38) dX1_tellOfAll_1 (by decide +kernel) (by decide) ?_
  refine g_aload_n dX1_tellOfAll_38 rfl ?_
  refine g_v0 (M' := KL_lyingWeight) dX1_tellOfAll_39 l_L_167 v_KL_lyingWeight (c_KL_lyingWeight hB hW hR hD) (rcL hB) rfl rfl ⟨rfl, rfl⟩ ?_
  exact e_iret dX1_tellOfAll_42 rfl (by rfl) (by rfl)
set_option maxRecDepth 100000 in
theorem c_KL_tellOfAll3 {σ : SI} {δ : SD} {B n : Nat} {a : Nat → Int32} (hB : LB B) (hW : WF a n) (hR : RB σ B a n) (hD : RD σ B a n) : E KL_tellOfAll [.ref B, .int (nI 3)] (HH σ δ) (some (.int (allA a n 3))) (HH σ δ) := by
  have h8 := hW.n8
  have h2 := hR.c
  refine E.ofL [some (.ref B), some (.int (nI 3))] rfl pn_RX1 rfl (fun sc => ?_)
  refine g_iload_n dX1_tellOfAll_0 rfl ?_
  refine g_tsw (tgt := 43) dX1_tellOfAll_1 (by decide +kernel) (by decide) ?_
  refine g_aload_n dX1_tellOfAll_43 rfl ?_
  refine g_v0 (M' := KL_lesserPairs) dX1_tellOfAll_44 l_L_170 v_KL_lesserPairs (c_KL_lesserPairs hB hW hR hD) (rcL hB) rfl rfl ⟨rfl, rfl⟩ ?_
  exact e_iret dX1_tellOfAll_47 rfl (by rfl) (by rfl)
set_option maxRecDepth 100000 in
theorem c_KR_isSetting0 {σ : SI} {δ : SD} {v : Int32} : E KR_isSetting [.int (nI 0), .int v] (HH σ δ) (some (.int (bI (setOK (nI 0) v)))) (HH σ δ) := by
  refine E.ofL [some (.int (nI 0)), some (.int v)] rfl pn_RX9 rfl (fun sc => ?_)
  refine g_iload_n dX9_isSetting_0 rfl ?_
  refine g_tsw (tgt := 36) dX9_isSetting_1 (by decide +kernel) (by decide) ?_
  refine g_iload_n dX9_isSetting_36 rfl ?_
  refine g_i2l dX9_isSetting_37 ?_
  refine g_lconst (v := 0) dX9_isSetting_38 rfl ?_
  refine g_ldcl dX9_isSetting_39 c_R_117 ?_
  refine g_s3 (M' := KR_in) dX9_isSetting_42 l_R_46 s_KR_in c_KR_in rfl rfl ⟨rfl, rfl⟩ ?_
  exact e_zret dX9_isSetting_45 rfl (by simp only [w64_0, w64_1, w64_2, w64_3, w64_4, w64_6, w64_10, w64_15, w64_16, w64_30, w64_80, inL_wide] at *; rfl) (by rfl)
set_option maxRecDepth 100000 in
theorem c_KR_isSetting1 {σ : SI} {δ : SD} {v : Int32} : E KR_isSetting [.int (nI 1), .int v] (HH σ δ) (some (.int (bI (setOK (nI 1) v)))) (HH σ δ) := by
  refine E.ofL [some (.int (nI 1)), some (.int v)] rfl pn_RX9 rfl (fun sc => ?_)
  refine g_iload_n dX9_isSetting_0 rfl ?_
  refine g_tsw (tgt := 46) dX9_isSetting_1 (by decide +kernel) (by decide) ?_
  refine g_iload_n dX9_isSetting_46 rfl ?_
  refine g_i2l dX9_isSetting_47 ?_
  refine g_lconst (v := 0) dX9_isSetting_48 rfl ?_
  refine g_ldcl dX9_isSetting_49 c_R_117 ?_
  refine g_s3 (M' := KR_in) dX9_isSetting_52 l_R_46 s_KR_in c_KR_in rfl rfl ⟨rfl, rfl⟩ ?_
  exact e_zret dX9_isSetting_55 rfl (by simp only [w64_0, w64_1, w64_2, w64_3, w64_4, w64_6, w64_10, w64_15, w64_16, w64_30, w64_80, inL_wide] at *; rfl) (by rfl)
set_option maxRecDepth 100000 in
theorem c_KR_isSetting2 {σ : SI} {δ : SD} {v : Int32} : E KR_isSetting [.int (nI 2), .int v] (HH σ δ) (some (.int (bI (setOK (nI 2) v)))) (HH σ δ) := by
  refine E.ofL [some (.int (nI 2)), some (.int v)] rfl pn_RX9 rfl (fun sc => ?_)
  refine g_iload_n dX9_isSetting_0 rfl ?_
  refine g_tsw (tgt := 56) dX9_isSetting_1 (by decide +kernel) (by decide) ?_
  refine g_iload_n dX9_isSetting_56 rfl ?_
  refine g_i2l dX9_isSetting_57 ?_
  refine g_ldcl dX9_isSetting_58 c_R_119 ?_
  refine g_ldcl dX9_isSetting_61 c_R_121 ?_
  refine g_s3 (M' := KR_in) dX9_isSetting_64 l_R_46 s_KR_in c_KR_in rfl rfl ⟨rfl, rfl⟩ ?_
  exact e_zret dX9_isSetting_67 rfl (by simp only [w64_0, w64_1, w64_2, w64_3, w64_4, w64_6, w64_10, w64_15, w64_16, w64_30, w64_80, inL_wide] at *; rfl) (by rfl)
set_option maxRecDepth 100000 in
theorem c_KR_isSetting3 {σ : SI} {δ : SD} {v : Int32} : E KR_isSetting [.int (nI 3), .int v] (HH σ δ) (some (.int (bI (setOK (nI 3) v)))) (HH σ δ) := by
  refine E.ofL [some (.int (nI 3)), some (.int v)] rfl pn_RX9 rfl (fun sc => ?_)
  refine g_iload_n dX9_isSetting_0 rfl ?_
  refine g_tsw (tgt := 68) dX9_isSetting_1 (by decide +kernel) (by decide) ?_
  refine g_iload_n dX9_isSetting_68 rfl ?_
  refine g_i2l dX9_isSetting_69 ?_
  refine g_ldcl dX9_isSetting_70 c_R_119 ?_
  refine g_ldcl dX9_isSetting_73 c_R_123 ?_
  refine g_s3 (M' := KR_in) dX9_isSetting_76 l_R_46 s_KR_in c_KR_in rfl rfl ⟨rfl, rfl⟩ ?_
  exact e_zret dX9_isSetting_79 rfl (by simp only [w64_0, w64_1, w64_2, w64_3, w64_4, w64_6, w64_10, w64_15, w64_16, w64_30, w64_80, inL_wide] at *; rfl) (by rfl)
set_option maxRecDepth 100000 in
theorem c_KR_isSetting4 {σ : SI} {δ : SD} {v : Int32} : E KR_isSetting [.int (nI 4), .int v] (HH σ δ) (some (.int (bI (setOK (nI 4) v)))) (HH σ δ) := by
  refine E.ofL [some (.int (nI 4)), some (.int v)] rfl pn_RX9 rfl (fun sc => ?_)
  refine g_iload_n dX9_isSetting_0 rfl ?_
  refine g_tsw (tgt := 80) dX9_isSetting_1 (by decide +kernel) (by decide) ?_
  refine g_iload_n dX9_isSetting_80 rfl ?_
  refine g_i2l dX9_isSetting_81 ?_
  refine g_lconst (v := 0) dX9_isSetting_82 rfl ?_
  refine g_ldcl dX9_isSetting_83 c_R_104 ?_
  refine g_s3 (M' := KR_in) dX9_isSetting_86 l_R_46 s_KR_in c_KR_in rfl rfl ⟨rfl, rfl⟩ ?_
  exact e_zret dX9_isSetting_89 rfl (by simp only [w64_0, w64_1, w64_2, w64_3, w64_4, w64_6, w64_10, w64_15, w64_16, w64_30, w64_80, inL_wide] at *; rfl) (by rfl)
set_option maxRecDepth 100000 in
theorem c_KR_isSettingN {σ : SI} {δ : SD} {what v : Int32} (hn : inB what (nI 0) (nI 4) = false) : E KR_isSetting [.int what, .int v] (HH σ δ) (some (.int (bI (setOK what v)))) (HH σ δ) := by
  refine E.ofL [some (.int what), some (.int v)] rfl pn_RX9 rfl (fun sc => ?_)
  refine g_iload_n dX9_isSetting_0 rfl ?_
  refine g_tsw (tgt := 90) dX9_isSetting_1 (tsw_out hn) (by decide) ?_
  refine g_iconst dX9_isSetting_90 ic_0 ?_
  exact e_z0 dX9_isSetting_91 rfl (by unfold setOK; rw [hn]; rfl) (by rfl)
theorem c_KR_isSetting {σ : SI} {δ : SD} {what v : Int32} : E KR_isSetting [.int what, .int v] (HH σ δ) (some (.int (bI (setOK what v)))) (HH σ δ) := by
  cases h : inB what (nI 0) (nI 4) with
  | false => exact c_KR_isSettingN h
  | true =>
    obtain ⟨j, -, hj, rfl⟩ := (inB_iff (by decide) (by decide)).mp h
    rcases (show j = 0 ∨ j = 1 ∨ j = 2 ∨ j = 3 ∨ j = 4 by omega) with rfl | rfl | rfl | rfl | rfl
    · exact c_KR_isSetting0
    · exact c_KR_isSetting1
    · exact c_KR_isSetting2
    · exact c_KR_isSetting3
    · exact c_KR_isSetting4
set_option maxRecDepth 100000 in
theorem c_KR_isOf {σ : SI} {δ : SD} {what v : Int32} : E KR_isOf [.int what, .int v] (HH σ δ) (some (.int (bI (traitOK what v)))) (HH σ δ) := by
  refine E.ofL [some (.int what), some (.int v)] rfl pn_RX9 rfl (fun sc => ?_)
  refine g_iload_n dX9_isOf_0 rfl ?_
  refine g_if_ne (tgt := 14) dX9_isOf_1 rfl (fun zc1 => ?_) (fun zc1 => ?_)
  · refine g_iload_n dX9_isOf_14 rfl ?_
    refine g_iconst dX9_isOf_15 ic_1 ?_
    refine g_icmp_ne (tgt := 31) dX9_isOf_16 rfl (fun zc16 => ?_) (fun zc16 => ?_)
    · refine g_iload_n dX9_isOf_31 rfl ?_
      refine g_i2l dX9_isOf_32 ?_
      refine g_ldcl dX9_isOf_33 c_R_117 ?_
      refine g_ldcl dX9_isOf_36 c_R_131 ?_
      refine g_s3 (M' := KR_in) dX9_isOf_39 l_R_46 s_KR_in c_KR_in rfl rfl ⟨rfl, rfl⟩ ?_
      refine b_if_eq (tgt := 61) dX9_isOf_42 rfl (fun zc42 => ?_) (fun zc42 => ?_)
      · refine g_iconst dX9_isOf_61 ic_0 ?_
        exact e_z0 dX9_isOf_62 rfl (by first | exact tr_0 zc1 | exact tr_1 zc16 | exact (tr_23 zc42).symm.trans zc54 | exact tr_no zc1 zc16 zc42) (by rfl)
      · refine g_iload_n dX9_isOf_45 rfl ?_
        refine g_i2l dX9_isOf_46 ?_
        refine g_lconst (v := 1) dX9_isOf_47 rfl ?_
        refine g_ldcl dX9_isOf_48 c_R_133 ?_
        refine g_s3 (M' := KR_in) dX9_isOf_51 l_R_46 s_KR_in c_KR_in rfl rfl ⟨rfl, rfl⟩ ?_
        refine b_if_eq (tgt := 61) dX9_isOf_54 rfl (fun zc54 => ?_) (fun zc54 => ?_)
        · refine g_iconst dX9_isOf_61 ic_0 ?_
          exact e_z0 dX9_isOf_62 rfl (by first | exact tr_0 zc1 | exact tr_1 zc16 | exact (tr_23 zc42).symm.trans zc54 | exact tr_no zc1 zc16 zc42) (by rfl)
        · refine g_iconst dX9_isOf_57 ic_1 ?_
          refine g_goto (tgt := 62) dX9_isOf_58 rfl ?_
          exact e_z1 dX9_isOf_62 rfl (by first | exact tr_0 zc1 | exact tr_1 zc16 | exact (tr_23 zc42).symm.trans zc54 | exact tr_no zc1 zc16 zc42) (by rfl)
    · refine g_iload_n dX9_isOf_19 rfl ?_
      refine g_i2l dX9_isOf_20 ?_
      refine g_lconst (v := 1) dX9_isOf_21 rfl ?_
      refine g_ldcl dX9_isOf_22 c_R_104 ?_
      refine g_s3 (M' := KR_in) dX9_isOf_25 l_R_46 s_KR_in c_KR_in rfl rfl ⟨rfl, rfl⟩ ?_
      refine g_goto (tgt := 62) dX9_isOf_28 rfl ?_
      exact e_zret dX9_isOf_62 rfl (by first | exact tr_0 zc1 | exact tr_1 zc16 | exact (tr_23 zc42).symm.trans zc54 | exact tr_no zc1 zc16 zc42) (by rfl)
  · refine g_iload_n dX9_isOf_4 rfl ?_
    refine g_i2l dX9_isOf_5 ?_
    refine g_lconst (v := 0) dX9_isOf_6 rfl ?_
    refine g_lconst (v := 1) dX9_isOf_7 rfl ?_
    refine g_s3 (M' := KR_in) dX9_isOf_8 l_R_46 s_KR_in c_KR_in rfl rfl ⟨rfl, rfl⟩ ?_
    refine g_goto (tgt := 62) dX9_isOf_11 rfl ?_
    exact e_zret dX9_isOf_62 rfl (by first | exact tr_0 zc1 | exact tr_1 zc16 | exact (tr_23 zc42).symm.trans zc54 | exact tr_no zc1 zc16 zc42) (by rfl)
set_option maxRecDepth 100000 in
theorem c_KR_isSheet {σ : SI} {δ : SD} {w h : Int32} : E KR_isSheet [.int w, .int h] (HH σ δ) (some (.int (bI (sheetOK w h)))) (HH σ δ) := by
  refine E.ofL [some (.int w), some (.int h)] rfl pn_RX9 rfl (fun sc => ?_)
  refine g_iload_n dX9_isSheet_0 rfl ?_
  refine g_i2l dX9_isSheet_1 ?_
  refine g_ldcl dX9_isSheet_2 c_R_104 ?_
  refine g_ldcl dX9_isSheet_5 c_R_106 ?_
  refine g_s3 (M' := KR_in) dX9_isSheet_8 l_R_46 s_KR_in c_KR_in rfl rfl ⟨rfl, rfl⟩ ?_
  refine b_if_eq (tgt := 32) dX9_isSheet_11 rfl (fun zc11 => ?_) (fun zc11 => ?_)
  · refine g_iconst dX9_isSheet_32 ic_0 ?_
    exact e_z0 dX9_isSheet_33 rfl (by simp only [w64_0, w64_1, w64_2, w64_3, w64_4, w64_6, w64_10, w64_15, w64_16, w64_30, w64_80, inL_wide] at *; unfold sheetOK; simp [*]) (by rfl)
  · refine g_iload_n dX9_isSheet_14 rfl ?_
    refine g_i2l dX9_isSheet_15 ?_
    refine g_ldcl dX9_isSheet_16 c_R_104 ?_
    refine g_ldcl dX9_isSheet_19 c_R_106 ?_
    refine g_s3 (M' := KR_in) dX9_isSheet_22 l_R_46 s_KR_in c_KR_in rfl rfl ⟨rfl, rfl⟩ ?_
    refine b_if_eq (tgt := 32) dX9_isSheet_25 rfl (fun zc25 => ?_) (fun zc25 => ?_)
    · refine g_iconst dX9_isSheet_32 ic_0 ?_
      exact e_z0 dX9_isSheet_33 rfl (by simp only [w64_0, w64_1, w64_2, w64_3, w64_4, w64_6, w64_10, w64_15, w64_16, w64_30, w64_80, inL_wide] at *; unfold sheetOK; simp [*]) (by rfl)
    · refine g_iconst dX9_isSheet_28 ic_1 ?_
      refine g_goto (tgt := 33) dX9_isSheet_29 rfl ?_
      exact e_z1 dX9_isSheet_33 rfl (by simp only [w64_0, w64_1, w64_2, w64_3, w64_4, w64_6, w64_10, w64_15, w64_16, w64_30, w64_80, inL_wide] at *; unfold sheetOK; simp [*]) (by rfl)
set_option maxRecDepth 100000 in
theorem c_KR_isPlace {σ : SI} {δ : SD} {x y : Int32} : E KR_isPlace [.int x, .int y] (HH σ δ) (some (.int (bI (inB x (nI 0) (nI 15) && inB y (nI 0) (nI 15))))) (HH σ δ) := by
  refine E.ofL [some (.int x), some (.int y)] rfl pn_RX9 rfl (fun sc => ?_)
  refine g_iload_n dX9_isPlace_0 rfl ?_
  refine g_i2l dX9_isPlace_1 ?_
  refine g_lconst (v := 0) dX9_isPlace_2 rfl ?_
  refine g_ldcl dX9_isPlace_3 c_R_92 ?_
  refine g_s3 (M' := KR_in) dX9_isPlace_6 l_R_46 s_KR_in c_KR_in rfl rfl ⟨rfl, rfl⟩ ?_
  refine b_if_eq (tgt := 28) dX9_isPlace_9 rfl (fun zc9 => ?_) (fun zc9 => ?_)
  · refine g_iconst dX9_isPlace_28 ic_0 ?_
    exact e_z0 dX9_isPlace_29 rfl (by simp only [w64_0, w64_1, w64_2, w64_3, w64_4, w64_6, w64_10, w64_15, w64_16, w64_30, w64_80, inL_wide] at *; simp [*]) (by rfl)
  · refine g_iload_n dX9_isPlace_12 rfl ?_
    refine g_i2l dX9_isPlace_13 ?_
    refine g_lconst (v := 0) dX9_isPlace_14 rfl ?_
    refine g_ldcl dX9_isPlace_15 c_R_92 ?_
    refine g_s3 (M' := KR_in) dX9_isPlace_18 l_R_46 s_KR_in c_KR_in rfl rfl ⟨rfl, rfl⟩ ?_
    refine b_if_eq (tgt := 28) dX9_isPlace_21 rfl (fun zc21 => ?_) (fun zc21 => ?_)
    · refine g_iconst dX9_isPlace_28 ic_0 ?_
      exact e_z0 dX9_isPlace_29 rfl (by simp only [w64_0, w64_1, w64_2, w64_3, w64_4, w64_6, w64_10, w64_15, w64_16, w64_30, w64_80, inL_wide] at *; simp [*]) (by rfl)
    · refine g_iconst dX9_isPlace_24 ic_1 ?_
      refine g_goto (tgt := 29) dX9_isPlace_25 rfl ?_
      exact e_z1 dX9_isPlace_29 rfl (by simp only [w64_0, w64_1, w64_2, w64_3, w64_4, w64_6, w64_10, w64_15, w64_16, w64_30, w64_80, inL_wide] at *; simp [*]) (by rfl)
set_option maxRecDepth 100000 in
theorem c_KR_isCell {σ : SI} {δ : SD} {n : Nat} (hW : WF (σ 85) n) {x y : Int32} : E KR_isCell [.ref 84, .int x, .int y] (HH σ δ) (some (.int (bI (inB x (nI 0) (σ 85 0 - nI 1) && inB y (nI 0) (σ 85 1 - nI 1))))) (HH σ δ) := by
  refine E.ofL [some (.ref 84), some (.int x), some (.int y)] rfl pn_RX9 rfl (fun sc => ?_)
  refine g_iload_n dX9_isCell_0 rfl ?_
  refine g_i2l dX9_isCell_1 ?_
  refine g_lconst (v := 0) dX9_isCell_2 rfl ?_
  refine g_aload_n dX9_isCell_3 rfl ?_
  refine q_getq dX9_isCell_4 f_R_7 ck_84 (by decide) ty_8_0 rf_84_0 ?_
  refine g_iconst dX9_isCell_7 ic_0 ?_
  refine q_iald dX9_isCell_8 ck_85 (ixD_nI (by omega) (by decide)) ?_
  refine g_iconst dX9_isCell_9 ic_1 ?_
  refine g_isub dX9_isCell_10 ?_
  refine g_top rfl ?_
  refine g_i2l dX9_isCell_11 ?_
  refine g_s3 (M' := KR_in) dX9_isCell_12 l_R_46 s_KR_in c_KR_in rfl rfl ⟨rfl, rfl⟩ ?_
  refine b_if_eq (tgt := 40) dX9_isCell_15 rfl (fun zc15 => ?_) (fun zc15 => ?_)
  · refine g_iconst dX9_isCell_40 ic_0 ?_
    exact e_z0 dX9_isCell_41 rfl (by simp only [w64_0, w64_1, w64_2, w64_3, w64_4, w64_6, w64_10, w64_15, w64_16, w64_30, w64_80, inL_wide] at *; simp [*]) (by rfl)
  · refine g_iload_n dX9_isCell_18 rfl ?_
    refine g_i2l dX9_isCell_19 ?_
    refine g_lconst (v := 0) dX9_isCell_20 rfl ?_
    refine g_aload_n dX9_isCell_21 rfl ?_
    refine q_getq dX9_isCell_22 f_R_7 ck_84 (by decide) ty_8_0 rf_84_0 ?_
    refine g_iconst dX9_isCell_25 ic_1 ?_
    refine q_iald dX9_isCell_26 ck_85 (ixD_nI (by omega) (by decide)) ?_
    refine g_iconst dX9_isCell_27 ic_1 ?_
    refine g_isub dX9_isCell_28 ?_
    refine g_top rfl ?_
    refine g_i2l dX9_isCell_29 ?_
    refine g_s3 (M' := KR_in) dX9_isCell_30 l_R_46 s_KR_in c_KR_in rfl rfl ⟨rfl, rfl⟩ ?_
    refine b_if_eq (tgt := 40) dX9_isCell_33 rfl (fun zc33 => ?_) (fun zc33 => ?_)
    · refine g_iconst dX9_isCell_40 ic_0 ?_
      exact e_z0 dX9_isCell_41 rfl (by simp only [w64_0, w64_1, w64_2, w64_3, w64_4, w64_6, w64_10, w64_15, w64_16, w64_30, w64_80, inL_wide] at *; simp [*]) (by rfl)
    · refine g_iconst dX9_isCell_36 ic_1 ?_
      refine g_goto (tgt := 41) dX9_isCell_37 rfl ?_
      exact e_z1 dX9_isCell_41 rfl (by simp only [w64_0, w64_1, w64_2, w64_3, w64_4, w64_6, w64_10, w64_15, w64_16, w64_30, w64_80, inL_wide] at *; simp [*]) (by rfl)
set_option maxRecDepth 100000 in
theorem c_KR_canItem {σ : SI} {δ : SD} {n : Nat} (hW : WF (σ 85) n) {so r c b : Int32} : E KR_canItem [.ref 84, .int so, .int r, .int c, .int b] (HH σ δ) (some (.int (itemA n so r c b))) (HH σ δ) := by
  have h8 := hW.n8
  refine E.ofL [some (.ref 84), some (.int so), some (.int r), some (.int c), some (.int b)] rfl pn_RX9 rfl (fun sc => ?_)
  refine g_iconst dX9_canItem_0 ic_0 ?_
  refine g_iload_n dX9_canItem_1 rfl ?_
  refine g_s2 (M' := KR_isOf) dX9_canItem_2 l_R_135 s_KR_isOf c_KR_isOf rfl rfl ⟨rfl, rfl⟩ ?_
  refine b_if_eq (tgt := 33) dX9_canItem_5 rfl (fun zc5 => ?_) (fun zc5 => ?_)
  · refine g_bipush dX9_canItem_33 bp_m2 ?_
    refine g_goto (tgt := 53) dX9_canItem_35 rfl ?_
    exact e_iret dX9_canItem_53 rfl (by first | exact (itA_ok (by simp [*]) (by omega)).symm | exact (itA_full (by simp [*]) (by omega)).symm | exact (itA_bad (by simp [*])).symm) (by rfl)
  · refine g_iconst dX9_canItem_8 ic_1 ?_
    refine g_iload_n dX9_canItem_9 rfl ?_
    refine g_s2 (M' := KR_isOf) dX9_canItem_10 l_R_135 s_KR_isOf c_KR_isOf rfl rfl ⟨rfl, rfl⟩ ?_
    refine b_if_eq (tgt := 33) dX9_canItem_13 rfl (fun zc13 => ?_) (fun zc13 => ?_)
    · refine g_bipush dX9_canItem_33 bp_m2 ?_
      refine g_goto (tgt := 53) dX9_canItem_35 rfl ?_
      exact e_iret dX9_canItem_53 rfl (by first | exact (itA_ok (by simp [*]) (by omega)).symm | exact (itA_full (by simp [*]) (by omega)).symm | exact (itA_bad (by simp [*])).symm) (by rfl)
    · refine g_iconst dX9_canItem_16 ic_2 ?_
      refine g_iload_n dX9_canItem_17 rfl ?_
      refine g_s2 (M' := KR_isOf) dX9_canItem_18 l_R_135 s_KR_isOf c_KR_isOf rfl rfl ⟨rfl, rfl⟩ ?_
      refine b_if_eq (tgt := 33) dX9_canItem_21 rfl (fun zc21 => ?_) (fun zc21 => ?_)
      · refine g_bipush dX9_canItem_33 bp_m2 ?_
        refine g_goto (tgt := 53) dX9_canItem_35 rfl ?_
        exact e_iret dX9_canItem_53 rfl (by first | exact (itA_ok (by simp [*]) (by omega)).symm | exact (itA_full (by simp [*]) (by omega)).symm | exact (itA_bad (by simp [*])).symm) (by rfl)
      · refine g_iconst dX9_canItem_24 ic_3 ?_
        refine g_iload dX9_canItem_25 rfl ?_
        refine g_s2 (M' := KR_isOf) dX9_canItem_27 l_R_135 s_KR_isOf c_KR_isOf rfl rfl ⟨rfl, rfl⟩ ?_
        refine b_if_ne (tgt := 38) dX9_canItem_30 rfl (fun zc30 => ?_) (fun zc30 => ?_)
        · refine g_aload_n dX9_canItem_38 rfl ?_
          refine g_v0 (M' := KR_many) dX9_canItem_39 l_R_42 v_KR_many c_KR_many rc_84 rfl rfl ⟨rfl, rfl⟩ ?_
          refine g_top hW.a7 ?_
          refine g_bipush dX9_canItem_42 bp_8 ?_
          refine n_icmp_ne (tgt := 52) (by omega) (by omega) dX9_canItem_44 rfl (fun zc44 => ?_) (fun zc44 => ?_)
          · refine g_iconst dX9_canItem_52 ic_0 ?_
            exact e_iret dX9_canItem_53 rfl (by first | exact (itA_ok (by simp [*]) (by omega)).symm | exact (itA_full (by simp [*]) (by omega)).symm | exact (itA_bad (by simp [*])).symm) (by rfl)
          · refine g_bipush dX9_canItem_47 bp_m4 ?_
            refine g_goto (tgt := 53) dX9_canItem_49 rfl ?_
            exact e_iret dX9_canItem_53 rfl (by first | exact (itA_ok (by simp [*]) (by omega)).symm | exact (itA_full (by simp [*]) (by omega)).symm | exact (itA_bad (by simp [*])).symm) (by rfl)
        · refine g_bipush dX9_canItem_33 bp_m2 ?_
          refine g_goto (tgt := 53) dX9_canItem_35 rfl ?_
          exact e_iret dX9_canItem_53 rfl (by first | exact (itA_ok (by simp [*]) (by omega)).symm | exact (itA_full (by simp [*]) (by omega)).symm | exact (itA_bad (by simp [*])).symm) (by rfl)
