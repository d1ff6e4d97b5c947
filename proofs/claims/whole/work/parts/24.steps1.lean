/-! CALLS: one answer, and what stands between calls stands again -/
theorem mea_ne {σ : SI} {B n c : Nat} {a : Nat → Int32} (h : c ≠ B) (h7 : c ≠ B + 7) (h8 : c ≠ B + 8) : mea σ B a n c = σ c := by
  unfold mea
  rw [uI_ne h, fill_row h7, fill_row h8]
theorem RS.keepr {σ σ' : SI} {B : Nat} {a a' : Nat → Int32} (h : RS σ B a) (e1 : σ' (B + 1) = σ (B + 1)) (e2 : σ' (B + 2) = σ (B + 2)) (e : ∀ j, 56 ≤ j → a' j = a j) : RS σ' B a' := by
  have k0 : ∀ s, kbN a' s = kbN a s := fun s => by unfold kbN; rw [e _ (by omega)]
  have k1 : ∀ s k j, kpA a' s k j = kpA a s k j := fun s k j => e _ (by omega)
  refine ⟨by rw [e1, k0, k0, k0]; exact h.1, fun s hs hq k hk => ?_⟩
  rw [e2, k1, k1, k1, k1]
  exact h.2 s hs (by rw [← k0]; exact hq) k hk
theorem HL_mea {σ : SI} {B n : Nat} {a : Nat → Int32} (hW : WF a n) (hR : RB σ B a n) (hS : RS σ B a) : HL (mea σ B a n) B a n :=
  ⟨hW, mea_RB hR, mea_RD, hS.keepr (mea_ne (by omega) (by omega) (by omega)) (mea_ne (by omega) (by omega) (by omega)) (fun _ _ => rfl)⟩
section STP
variable {Kp Kr : MM} {args : List Value} {σ σ1 σ2 : SI} {δ δ1 : SD} {r : Value} {a a' : Nat → Int32} {n n' s o tl : Nat} {P : Nat → Nat → Int32} {tx rf : Nat → Int32}
theorem Step.no {j : Nat} (hj : j < 3) (hI : IC σ a n s o P tl tx rf) (hJ : IR σ a s P tl tx rf) (e1 : E Kp (.ref 5 :: args) (HH σ δ) (some r) (HH (rfC σ j) δ))
    (e2 : IR (rfC σ j) a s P tl tx rf → E Kr (.ref 84 :: args) (HH (rfC σ j) δ) (some r) (HH (rfM (rfC σ j) j) δ)) (hrk : rOK (mR Kp) r = true := by rfl) : Step Kp Kr args σ δ := by
  have hJ1 : IR (rfC σ j) a s P tl tx rf := hJ.cong (fun c hc => rfC_hi hc)
  exact Step.of e1 (e2 hJ1) (hI.ref j hj) (hJ1.ref j hj) (fun c hc => rfM_lo hc) hrk
theorem Step.same (hI : IC σ a n s o P tl tx rf) (hJ : IR σ a s P tl tx rf) (e1 : E Kp (.ref 5 :: args) (HH σ δ) (some r) (HH σ δ)) (e2 : E Kr (.ref 84 :: args) (HH σ δ) (some r) (HH σ δ)) (hrk : rOK (mR Kp) r = true := by rfl) : Step Kp Kr args σ δ :=
  Step.of e1 e2 hI hJ (fun c hc => rfl) hrk
theorem Step.ly (hI : IC σ a n s o P tl tx rf) (hJ : IR σ a s P tl tx rf) (e1 : E Kp (.ref 5 :: args) (HH σ δ) (some r) (HH σ1 δ1)) (f1 : ∀ c, c < 6 ∨ 14 < c → σ1 c = sPush σ s o c)
    (e2 : IR σ1 a s P tl tx rf → E Kr (.ref 84 :: args) (HH σ1 δ1) (some r) (HH σ2 δ1)) (hl : HL σ1 6 a' n') (f2 : ∀ c, c ≠ 85 → σ2 c = sKeep σ1 s c) (hr : sKeep σ1 s 85 = a → σ2 85 = a') (hrk : rOK (mR Kp) r = true := by rfl) : Step Kp Kr args σ δ := by
  have hJ1 : IR σ1 a s P tl tx rf := hJ.cong (fun c hc => by rw [f1 c (by omega), push_hi hc])
  have hJ2 := hJ1.keep hI.s5
  exact Step.of e1 (e2 hJ1) (hI.push.lyt (fun c hc => f1 c (by omega)) hl) (hJ2.lyt (fun c h1 h2 => f2 c h2) (hr hJ2.row)) (fun c hc => by rw [f2 c (by omega), keep_lo hc]) hrk
end STP
section STEPS
variable {σ : SI} {δ : SD}
theorem step_sheet {w h : Int32} (hT : InvT σ) : Step KP_sheet KR_sheet [.int w, .int h] σ δ := by
  obtain ⟨a, n, s, o, P, tl, tx, rf, hI, hJ⟩ := hT
  have hW := hI.hl.wf
  have hI1 := hI.push
  by_cases hk : sheetOK w h = true
  · exact Step.ly hI hJ (c_KP_sheet_ok hI hk) (fun c hc => by rw [mea_ne (by omega) (by omega) (by omega), uI_ne (by omega), uI_ne (by omega)]) (fun h1 => c_KR_sheet_ok h1 hI.s5 hW hk)
      (HL_mea (WF_size hW hk) (RB_size hI1.hl.rb) (hI1.hl.rs.keepr (by rw [uI_ne (by omega), uI_ne (by omega)]) (by rw [uI_ne (by omega), uI_ne (by omega)]) (fun j hj => by rw [upd_n (by omega), upd_n (by omega)])))
      (fun c hc => by rw [uI_ne hc, uI_ne hc]) (fun hr => by rw [zuI_row, zuI_row, hr])
  · exact Step.no (by decide) hI hJ (c_KP_sheet_no2 hI hk) (fun h1 => c_KR_sheet_no2 h1 hI.s5 hW hk)
theorem step_sets {what v : Int32} (hT : InvT σ) : Step KP_sets KR_sets [.int what, .int v] σ δ := by
  obtain ⟨a, n, s, o, P, tl, tx, rf, hI, hJ⟩ := hT
  have hW := hI.hl.wf
  have hI1 := hI.push
  by_cases hk : setOK what v = true
  · have hq : inB what (nI 0) (nI 4) = true := by unfold setOK at hk; rw [Bool.and_eq_true] at hk; exact hk.1
    obtain ⟨j, -, hj, rfl⟩ := (inB_iff (by decide) (by decide)).mp hq
    have hj5 : j < 5 := by omega
    exact Step.ly hI hJ (c_KP_sets_ok hI hj5 hk) (fun c hc => by rw [mea_ne (by omega) (by omega) (by omega), uI_ne (by omega)]) (fun h1 => c_KR_sets_ok h1 hI.s5 hW hj5 hk)
      (HL_mea (WF_set hW hj5 hk) (RB_set hI1.hl.rb hj5) (hI1.hl.rs.keepr (by rw [uI_ne (by omega)]) (by rw [uI_ne (by omega)]) (fun j hj => by rw [upd_n (by omega)])))
      (fun c hc => by rw [uI_ne hc]) (fun hr => by rw [zuI_row, hr])
  · exact Step.no (by decide) hI hJ (c_KP_sets_no2 hI hk) (fun h1 => c_KR_sets_no2 h1 hI.s5 hW hk)
theorem item_ne {n c0 B : Nat} {so r c b : Int32} (h : c0 ≠ B) (h4 : c0 ≠ B + 4) (h5 : c0 ≠ B + 5) (h6 : c0 ≠ B + 6) : sItem σ B n so r c b c0 = σ c0 := by
  unfold sItem
  rw [uI_ne h, uI_ne h6, uI_ne h5, uI_ne h4, uI_ne h4, uI_ne h4, uI_ne h4]
theorem step_item {so r c b : Int32} (hT : InvT σ) : Step KP_item KR_item [.int so, .int r, .int c, .int b] σ δ := by
  obtain ⟨a, n, s, o, P, tl, tx, rf, hI, hJ⟩ := hT
  have hW := hI.hl.wf
  have hI1 := hI.push
  cases hk : (traitOK (nI 0) so && traitOK (nI 1) r && traitOK (nI 2) c && traitOK (nI 3) b) with
  | false => exact Step.no (by decide) hI hJ (c_KP_item_no2 hI hk) (fun h1 => c_KR_item_no2 h1 hI.s5 hW hk)
  | true =>
    by_cases h : n < 8
    · exact Step.ly hI hJ (c_KP_item_ok hI h hk) (fun c hc => by rw [mea_ne (by omega) (by omega) (by omega), item_ne (by omega) (by omega) (by omega) (by omega)]) (fun h1 => c_KR_item_ok h1 hI.s5 hW h hk)
        (HL_mea (WF_item hW h hk) (RB_item hI1.hl.rb h) (hI1.hl.rs.keepr (item_ne (by omega) (by omega) (by omega) (by omega)) (item_ne (by omega) (by omega) (by omega) (by omega)) (fun j hj => by unfold aItem; repeat rw [upd_n (by omega)])))
        (fun c hc => by unfold mItem; repeat rw [uI_ne hc]) (fun hr => by rw [mItem_row, hr])
    · exact Step.no (by decide) hI hJ (c_KP_item_no4 hI (by omega) hk) (fun h1 => c_KR_item_no4 h1 hI.s5 hW (by omega) hk)
theorem sdrop_ne {n k c0 B : Nat} (h : c0 ≠ B) (h4 : c0 ≠ B + 4) (h5 : c0 ≠ B + 5) (h6 : c0 ≠ B + 6) : sDrop σ B n k c0 = σ c0 := by
  unfold sDrop
  rw [uI_ne h, uR_ne h6, uR_ne h5, uR_ne h4]
theorem step_drops {k : Int32} (hT : InvT σ) : Step KP_drops KR_drops [.int k] σ δ := by
  obtain ⟨a, n, s, o, P, tl, tx, rf, hI, hJ⟩ := hT
  have hW := hI.hl.wf
  have hn := hW.n8
  have hI1 := hI.push
  by_cases hk : itB k n = true
  · obtain ⟨j, hj, rfl⟩ := (itB_iff (by omega)).mp hk
    exact Step.ly hI hJ (c_KP_drops_ok hI hj) (fun c hc => by rw [mea_ne (by omega) (by omega) (by omega), sdrop_ne (by omega) (by omega) (by omega) (by omega)]) (fun h1 => c_KR_drops_ok h1 hI.s5 hW hj)
      (HL_mea (WF_drop hW hj) (RB_drop hI1.hl.rb hj) (hI1.hl.rs.keepr (sdrop_ne (by omega) (by omega) (by omega) (by omega)) (sdrop_ne (by omega) (by omega) (by omega) (by omega)) (fun i hi => by unfold aDrop; rw [if_neg (by omega), if_neg (by omega)])))
      (fun c hc => by unfold mDrop; rw [uI_ne hc, uR_ne hc]) (fun hr => by rw [mDrop_row hj, hr])
  · exact Step.no (by decide) hI hJ (c_KP_drops_no2 hI hk) (fun h1 => c_KR_drops_no2 h1 hI.s5 hW hk)
theorem step_becomes {k what v : Int32} (hT : InvT σ) : Step KP_becomes KR_becomes [.int k, .int what, .int v] σ δ := by
  obtain ⟨a, n, s, o, P, tl, tx, rf, hI, hJ⟩ := hT
  have hW := hI.hl.wf
  have hn := hW.n8
  have hI1 := hI.push
  by_cases hk : (itB k n && traitOK what v) = true
  · have hq := hk
    rw [Bool.and_eq_true] at hq
    obtain ⟨k0, hk0, rfl⟩ := (itB_iff (by omega)).mp hq.1
    have hw : inB what (nI 0) (nI 3) = true := by have := hq.2; unfold traitOK at this; rw [Bool.and_eq_true] at this; exact this.1
    obtain ⟨j, -, hj, rfl⟩ := (inB_iff (by decide) (by decide)).mp hw
    have hj4 : j < 4 := by omega
    exact Step.ly hI hJ (c_KP_becomes_ok hI hk0 hj4 hq.2) (fun c hc => by rw [mea_ne (by omega) (by omega) (by omega), uI_ne (by omega)]) (fun h1 => c_KR_becomes_ok h1 hI.s5 hW hk0 hj4 hq.2)
      (HL_mea (WF_trait hW hk0 hj4 hq.2) (RB_trait hI1.hl.rb hk0 hj4) (hI1.hl.rs.keepr (by rw [uI_ne (by omega)]) (by rw [uI_ne (by omega)]) (fun j hj => by rw [upd_n (by omega)])))
      (fun c hc => by rw [uI_ne hc]) (fun hr => by rw [zuI_row, hr])
  · exact Step.no (by decide) hI hJ (c_KP_becomes_no2 hI hk) (fun h1 => c_KR_becomes_no2 h1 hI.s5 hW hk)
theorem slay_ne {k c0 B : Nat} {x y : Int32} (h5 : c0 ≠ B + 5) (h6 : c0 ≠ B + 6) : sLay σ B k x y c0 = σ c0 := by
  unfold sLay
  rw [uI_ne h6, uI_ne h5]
theorem mlay_ne {k c0 : Nat} {x y : Int32} (h : c0 ≠ 85) : mLay σ k x y c0 = σ c0 := by
  unfold mLay
  rw [uI_ne h, uI_ne h]
theorem HL_lay {B n k : Nat} {a : Nat → Int32} {x y : Int32} (h : HL σ B a n) (hk : k < n) (hp : plc x y) : HL (sLay σ B k x y) B (aLay a k x y) n := by
  have h8 := h.wf.n8
  exact ⟨WF_lay h.wf hk hp, RB_lay h.rb hk, RD_lay h.rd, h.rs.keepr (slay_ne (by omega) (by omega)) (slay_ne (by omega) (by omega)) (fun j hj => aLay_oth (by omega))⟩
theorem step_lays {k x y : Int32} (hT : InvT σ) : Step KP_lays KR_lays [.int k, .int x, .int y] σ δ := by
  obtain ⟨a, n, s, o, P, tl, tx, rf, hI, hJ⟩ := hT
  have hW := hI.hl.wf
  have hn := hW.n8
  have hI1 := hI.push
  cases hk : itB k n with
  | false =>
    have e := lyA_no (a := a) (n := n) (k := k) (x := x) (y := y) (Or.inl hk)
    exact Step.no (by decide) hI hJ (c_KP_lays_no2 hI e) (fun h1 => c_KR_lays_no2 h1 hI.s5 hW e)
  | true =>
    cases hp : (inB x (nI 0) (nI 15) && inB y (nI 0) (nI 15)) with
    | false =>
      have e := lyA_no (a := a) (n := n) (k := k) (x := x) (y := y) (Or.inr hp)
      exact Step.no (by decide) hI hJ (c_KP_lays_no2 hI e) (fun h1 => c_KR_lays_no2 h1 hI.s5 hW e)
    | true =>
      obtain ⟨j, hj, rfl⟩ := (itB_iff (by omega)).mp hk
      cases hf : fitA a n j x y with
      | false =>
        have e := lyA_bad hk hp hf
        exact Step.no (by decide) hI hJ (c_KP_lays_no3 hI e) (fun h1 => c_KR_lays_no3 h1 hI.s5 hW e)
      | true =>
        have e := lyA_yes hk hp hf
        have hq := hp
        rw [Bool.and_eq_true] at hq
        have hpl : plc x y := Or.inr ⟨inB_btw hq.1, inB_btw hq.2⟩
        exact Step.ly hI hJ (c_KP_lays_ok hI hj e) (fun c hc => slay_ne (by omega) (by omega)) (fun h1 => c_KR_lays_ok h1 hI.s5 hW hj e)
          (HL_lay hI1.hl hj hpl) (fun c hc => mlay_ne hc) (fun hr => by rw [mLay_row, hr])
theorem step_off {k : Int32} (hT : InvT σ) : Step KP_off KR_off [.int k] σ δ := by
  obtain ⟨a, n, s, o, P, tl, tx, rf, hI, hJ⟩ := hT
  have hW := hI.hl.wf
  have hn := hW.n8
  have hI1 := hI.push
  cases hk : itB k n with
  | false =>
    have e := canOff_no (a := a) hk
    exact Step.no (by decide) hI hJ (c_KP_off_no2 hI e) (fun h1 => c_KR_off_no2 h1 hI.s5 hW e)
  | true =>
    obtain ⟨j, hj, rfl⟩ := (itB_iff (by omega)).mp hk
    cases hf : liesA a j with
    | false =>
      have e := canOff_bad hk hf
      exact Step.no (by decide) hI hJ (c_KP_off_no3 hI e) (fun h1 => c_KR_off_no3 h1 hI.s5 hW e)
    | true =>
      have e := canOff_yes hk hf
      exact Step.ly hI hJ (c_KP_off_ok hI hj e) (fun c hc => slay_ne (by omega) (by omega)) (fun h1 => c_KR_off_ok h1 hI.s5 hW hj e)
        (HL_lay hI1.hl hj (Or.inl ⟨rfl, rfl⟩)) (fun c hc => mlay_ne hc) (fun hr => by rw [mLay_row, hr])
theorem step_swaps {i k : Int32} (hT : InvT σ) : Step KP_swaps KR_swaps [.int i, .int k] σ δ := by
  obtain ⟨a, n, s, o, P, tl, tx, rf, hI, hJ⟩ := hT
  have hW := hI.hl.wf
  have hn := hW.n8
  have hI1 := hI.push
  by_cases hb : itB i n = false ∨ itB k n = false ∨ i = k
  · have e := swA_no (a := a) hb
    exact Step.no (by decide) hI hJ (c_KP_swaps_no2 hI e) (fun h1 => c_KR_swaps_no2 h1 hI.s5 hW e)
  · simp only [not_or, Bool.not_eq_false] at hb
    obtain ⟨b1, b2, b3⟩ := hb
    obtain ⟨ci, hi, rfl⟩ := (itB_iff (by omega)).mp b1
    obtain ⟨ck, hk, rfl⟩ := (itB_iff (by omega)).mp b2
    have ok : swapA a n (nI ci) (nI ck) = nI 0 → Step KP_swaps KR_swaps [.int (nI ci), .int (nI ck)] σ δ := fun e =>
      Step.ly hI hJ (c_KP_swaps_ok hI hi hk e) (fun c hc => by unfold sSwap; rw [slay_ne (by omega) (by omega), slay_ne (by omega) (by omega)]) (fun h1 => c_KR_swaps_ok h1 hI.s5 hW hi hk e)
        (HL_lay (HL_lay hI1.hl hi (hW.pl hk)) hk (hW.pl hi)) (fun c hc => by unfold mSwap; rw [mlay_ne hc, mlay_ne hc]) (fun hr => by rw [mSwap_row, hr])
    cases h1 : liesA a ci with
    | true => exact ok (swA_1 b1 b2 b3 h1)
    | false =>
      cases h2 : liesA a ck with
      | true => exact ok (swA_2 b1 b2 b3 h2)
      | false =>
        have e := swA_bad b1 b2 b3 h1 h2
        exact Step.no (by decide) hI hJ (c_KP_swaps_no3 hI e) (fun h1 => c_KR_swaps_no3 h1 hI.s5 hW hi hk e)
end STEPS

