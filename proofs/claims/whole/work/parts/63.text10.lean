/-! THE TEXT: an order obeyed by both -/
set_option maxHeartbeats 200000 in
theorem uR_fun {σ σ' : SI} {c : Nat} {g : Nat → Int32} (h : ∀ x, x ≠ c → σ' x = σ x) (hg : σ' c = g) : σ' = uR σ c g := by
  funext x
  by_cases e : x = c
  · rw [e, uR_eq, hg]
  · rw [uR_ne e, h x e]
/-- what the reference can with an order over the row a and these numbers, and does -/
def rCan (δ : SD) (c : Nat) (a Mr : Nat → Int32) (v : Int32) : Prop := ∀ σ : SI, σ 85 = a → σ 93 = Mr → E KR_can [.ref 84, .int (nI c)] (HH σ δ) (some (.int v)) (HH σ δ)
def rDoes (δ : SD) (c : Nat) (a Mr a' : Nat → Int32) : Prop := ∀ σ : SI, σ 85 = a → σ 93 = Mr → ∃ r, E KR_does [.ref 84, .int (nI c)] (HH σ δ) (some (.int r)) (HH (uR σ 85 a') δ)
/-- both obey order k, both refuse it -/
def obY (σ : SI) (δ : SD) (k c : Nat) (a Mr : Nat → Int32) : Prop := ∃ (σ' : SI) (a' : Nat → Int32) (n' : Nat), E KP_obeys [.ref 5, .int (nI k)] (HH σ δ) (some (.int (bI true))) (HH σ' δ) ∧ HL σ' 15 a' n' ∧ (∀ x, x < 15 ∨ 23 < x → σ' x = σ x) ∧ rCan δ c a Mr (nI 0) ∧ rDoes δ c a Mr a'
def obN (σ : SI) (δ : SD) (k c : Nat) (a Mr : Nat → Int32) : Prop := E KP_obeys [.ref 5, .int (nI k)] (HH σ δ) (some (.int (bI false))) (HH σ δ) ∧ ∃ v : Int32, v < 0 ∧ rCan δ c a Mr v
set_option maxHeartbeats 200000 in
theorem ob_105 {σ : SI} {δ : SD} {a : Nat → Int32} {n : Nat} (hL : HL σ 15 a n) {v0 v1 v2 v3 : Int32} {k : Nat} (hk : k < 60) (g0 : σ 83 (k * 4 + 0) = v0) (g1 : σ 83 (k * 4 + 1) = v1) (g2 : σ 83 (k * 4 + 2) = v2) (g3 : σ 83 (k * 4 + 3) = v3) (hl : σ 82 k = nI 105) {Mr : Nat → Int32} (m0 : Mr 0 = v0) (m1 : Mr 1 = v1) (m2 : Mr 2 = v2) (m3 : Mr 3 = v3) : obY σ δ k 105 a Mr ∨ obN σ δ k 105 a Mr := by
  have hW := hL.wf
  have n8 := hW.n8
  cases hq : (traitOK (nI 0) v0 && traitOK (nI 1) v1 && traitOK (nI 2) v2 && traitOK (nI 3) v3) with
  | false =>
    have e := itA_bad (n := n) hq
    exact Or.inr ⟨c_KP_obeys_105n hL hk g0 g1 g2 g3 hl (by rw [e]; decide), -2, by decide, fun τ t1 t2 => by
      have zq := c_KR_can_105 (σ := τ) (δ := δ) (n := n) (by rw [t1]; exact hW) ((congrFun t2 0).trans m0) ((congrFun t2 1).trans m1) ((congrFun t2 2).trans m2) ((congrFun t2 3).trans m3)
      rw [e] at zq
      exact zq⟩
  | true =>
    by_cases h8 : n < 8
    · have e := itA_ok hq h8
      refine Or.inl ⟨_, _, _, c_KP_obeys_105 hL hk g0 g1 g2 g3 hl e h8 (WF_item hW h8 hq), HL_mea (WF_item hW h8 hq) (RB_item hL.rb h8) (hL.rs.keepr (item_ne (by omega) (by omega) (by omega) (by omega)) (item_ne (by omega) (by omega) (by omega) (by omega)) (fun j hj => by unfold aItem; repeat rw [upd_n (by omega)])), fun x hx => by rw [mea_ne (by omega) (by omega) (by omega), item_ne (by omega) (by omega) (by omega) (by omega)], fun τ t1 t2 => by
        have zq := c_KR_can_105 (σ := τ) (δ := δ) (n := n) (by rw [t1]; exact hW) ((congrFun t2 0).trans m0) ((congrFun t2 1).trans m1) ((congrFun t2 2).trans m2) ((congrFun t2 3).trans m3)
        rw [e] at zq
        exact zq, fun τ t1 t2 => ?_⟩
      have zq := c_KR_does_105 (σ := τ) (δ := δ) (n := n) (by rw [t1]; exact hW) ((congrFun t2 0).trans m0) ((congrFun t2 1).trans m1) ((congrFun t2 2).trans m2) ((congrFun t2 3).trans m3) h8
      have zr : mItem τ n v0 v1 v2 v3 = uR τ 85 (aItem a n v0 v1 v2 v3) := uR_fun (fun x hx => by unfold mItem; repeat rw [uI_ne hx]) (by rw [mItem_row, t1])
      rw [zr] at zq
      exact ⟨_, zq⟩
    · have e := itA_full (n := n) hq (by omega)
      exact Or.inr ⟨c_KP_obeys_105n hL hk g0 g1 g2 g3 hl (by rw [e]; decide), -4, by decide, fun τ t1 t2 => by
        have zq := c_KR_can_105 (σ := τ) (δ := δ) (n := n) (by rw [t1]; exact hW) ((congrFun t2 0).trans m0) ((congrFun t2 1).trans m1) ((congrFun t2 2).trans m2) ((congrFun t2 3).trans m3)
        rw [e] at zq
        exact zq⟩
set_option maxHeartbeats 200000 in
theorem ob_119 {σ : SI} {δ : SD} {a : Nat → Int32} {n : Nat} (hL : HL σ 15 a n) {v0 v1 v2 v3 : Int32} {k : Nat} (hk : k < 60) (g0 : σ 83 (k * 4 + 0) = v0) (g1 : σ 83 (k * 4 + 1) = v1) (g2 : σ 83 (k * 4 + 2) = v2) (g3 : σ 83 (k * 4 + 3) = v3) (hl : σ 82 k = nI 119) {Mr : Nat → Int32} (m0 : Mr 0 = v0) (m1 : Mr 1 = v1) : obY σ δ k 119 a Mr ∨ obN σ δ k 119 a Mr := by
  have hW := hL.wf
  have n8 := hW.n8
  cases hq : sheetOK v0 v1 with
  | false =>
    exact Or.inr ⟨c_KP_obeys_119n hL hk g0 g1 g2 g3 hl hq, -2, by decide, fun τ t1 t2 => by
      have zq := c_KR_can_119 (σ := τ) (δ := δ) (n := n) (by rw [t1]; exact hW) ((congrFun t2 0).trans m0) ((congrFun t2 1).trans m1) rfl rfl
      rw [if_neg (by rw [hq]; decide)] at zq
      exact zq⟩
  | true =>
    refine Or.inl ⟨_, _, _, c_KP_obeys_119 hL hk g0 g1 g2 g3 hl hq, HL_mea (WF_size hW hq) (RB_size hL.rb) (hL.rs.keepr (by rw [uI_ne (by omega), uI_ne (by omega)]) (by rw [uI_ne (by omega), uI_ne (by omega)]) (fun j hj => by rw [upd_n (by omega), upd_n (by omega)])), fun x hx => by rw [mea_ne (by omega) (by omega) (by omega), uI_ne (by omega), uI_ne (by omega)], fun τ t1 t2 => by
      have zq := c_KR_can_119 (σ := τ) (δ := δ) (n := n) (by rw [t1]; exact hW) ((congrFun t2 0).trans m0) ((congrFun t2 1).trans m1) rfl rfl
      rw [if_pos hq] at zq
      exact zq, fun τ t1 t2 => ?_⟩
    have zq := c_KR_does_119 (σ := τ) (δ := δ) (n := n) (by rw [t1]; exact hW) ((congrFun t2 0).trans m0) ((congrFun t2 1).trans m1) rfl rfl
    have zr : uI (uI τ 85 0 v0) 85 1 v1 = uR τ 85 (upd (upd a 0 v0) 1 v1) := uR_fun (fun x hx => by rw [uI_ne hx, uI_ne hx]) (by rw [zuI_row, zuI_row, t1])
    rw [zr] at zq
    exact ⟨_, zq⟩
set_option maxHeartbeats 200000 in
theorem ob_112 {σ : SI} {δ : SD} {a : Nat → Int32} {n : Nat} (hL : HL σ 15 a n) {v0 v1 v2 v3 : Int32} {k : Nat} (hk : k < 60) (g0 : σ 83 (k * 4 + 0) = v0) (g1 : σ 83 (k * 4 + 1) = v1) (g2 : σ 83 (k * 4 + 2) = v2) (g3 : σ 83 (k * 4 + 3) = v3) (hl : σ 82 k = nI 112) {Mr : Nat → Int32} (m0 : Mr 0 = v0) (m1 : Mr 1 = v1) (m2 : Mr 2 = v2) : obY σ δ k 112 a Mr ∨ obN σ δ k 112 a Mr := by
  have hW := hL.wf
  have n8 := hW.n8
  cases hq : itB v0 n with
  | false =>
    have e := lyA_no (a := a) (n := n) (k := v0) (x := v1) (y := v2) (Or.inl hq)
    exact Or.inr ⟨c_KP_obeys_112n hL hk g0 g1 g2 g3 hl (by rw [e]; decide), -2, by decide, fun τ t1 t2 => by
      have zq := c_KR_can_112 (σ := τ) (δ := δ) (n := n) (by rw [t1]; exact hW) ((congrFun t2 0).trans m0) ((congrFun t2 1).trans m1) ((congrFun t2 2).trans m2) rfl
      rw [t1, e] at zq
      exact zq⟩
  | true =>
    cases hp : (inB v1 (nI 0) (nI 15) && inB v2 (nI 0) (nI 15)) with
    | false =>
      have e := lyA_no (a := a) (n := n) (k := v0) (x := v1) (y := v2) (Or.inr hp)
      exact Or.inr ⟨c_KP_obeys_112n hL hk g0 g1 g2 g3 hl (by rw [e]; decide), -2, by decide, fun τ t1 t2 => by
        have zq := c_KR_can_112 (σ := τ) (δ := δ) (n := n) (by rw [t1]; exact hW) ((congrFun t2 0).trans m0) ((congrFun t2 1).trans m1) ((congrFun t2 2).trans m2) rfl
        rw [t1, e] at zq
        exact zq⟩
    | true =>
      obtain ⟨j, hj, hv⟩ := (itB_iff (by omega)).mp hq
      subst hv
      cases hf : fitA a n j v1 v2 with
      | false =>
        have e := lyA_bad hq hp hf
        exact Or.inr ⟨c_KP_obeys_112n hL hk g0 g1 g2 g3 hl (by rw [e]; decide), -3, by decide, fun τ t1 t2 => by
          have zq := c_KR_can_112 (σ := τ) (δ := δ) (n := n) (by rw [t1]; exact hW) ((congrFun t2 0).trans m0) ((congrFun t2 1).trans m1) ((congrFun t2 2).trans m2) rfl
          rw [t1, e] at zq
          exact zq⟩
      | true =>
        have e := lyA_yes hq hp hf
        have hq2 := hp
        rw [Bool.and_eq_true] at hq2
        have hpl : plc v1 v2 := Or.inr ⟨inB_btw hq2.1, inB_btw hq2.2⟩
        refine Or.inl ⟨_, _, _, c_KP_obeys_112 hL hk g0 g1 g2 g3 hl hj rfl e, HL_lay hL hj hpl, fun x hx => slay_ne (by omega) (by omega), fun τ t1 t2 => by
          have zq := c_KR_can_112 (σ := τ) (δ := δ) (n := n) (by rw [t1]; exact hW) ((congrFun t2 0).trans m0) ((congrFun t2 1).trans m1) ((congrFun t2 2).trans m2) rfl
          rw [t1, e] at zq
          exact zq, fun τ t1 t2 => ?_⟩
        have zq := c_KR_does_112 (σ := τ) (δ := δ) (n := n) (by rw [t1]; exact hW) ((congrFun t2 0).trans m0) ((congrFun t2 1).trans m1) ((congrFun t2 2).trans m2) rfl hj rfl
        have zr : uI (uI τ 85 (8 + 6 * j + 4) v1) 85 (8 + 6 * j + 5) v2 = uR τ 85 (aLay a j v1 v2) := uR_fun (fun x hx => by rw [uI_ne hx, uI_ne hx]) (by rw [zuI_row, zuI_row, t1]; rfl)
        rw [zr] at zq
        exact ⟨_, zq⟩
set_option maxHeartbeats 200000 in
theorem ob_111 {σ : SI} {δ : SD} {a : Nat → Int32} {n : Nat} (hL : HL σ 15 a n) {v0 v1 v2 v3 : Int32} {k : Nat} (hk : k < 60) (g0 : σ 83 (k * 4 + 0) = v0) (g1 : σ 83 (k * 4 + 1) = v1) (g2 : σ 83 (k * 4 + 2) = v2) (g3 : σ 83 (k * 4 + 3) = v3) (hl : σ 82 k = nI 111) {Mr : Nat → Int32} (m0 : Mr 0 = v0) : obY σ δ k 111 a Mr ∨ obN σ δ k 111 a Mr := by
  have hW := hL.wf
  have n8 := hW.n8
  cases hq : itB v0 n with
  | false =>
    have e := canOff_no (a := a) hq
    exact Or.inr ⟨c_KP_obeys_111n hL hk g0 g1 g2 g3 hl (by rw [e]; decide), -2, by decide, fun τ t1 t2 => by
      have zq := c_KR_can_111 (σ := τ) (δ := δ) (n := n) (by rw [t1]; exact hW) ((congrFun t2 0).trans m0) rfl rfl rfl
      rw [t1, e] at zq
      exact zq⟩
  | true =>
    obtain ⟨j, hj, hv⟩ := (itB_iff (by omega)).mp hq
    subst hv
    cases hf : liesA a j with
    | false =>
      have e := canOff_bad hq hf
      exact Or.inr ⟨c_KP_obeys_111n hL hk g0 g1 g2 g3 hl (by rw [e]; decide), -3, by decide, fun τ t1 t2 => by
        have zq := c_KR_can_111 (σ := τ) (δ := δ) (n := n) (by rw [t1]; exact hW) ((congrFun t2 0).trans m0) rfl rfl rfl
        rw [t1, e] at zq
        exact zq⟩
    | true =>
      have e := canOff_yes hq hf
      refine Or.inl ⟨_, _, _, c_KP_obeys_111 hL hk g0 g1 g2 g3 hl hj rfl e, HL_lay hL hj (Or.inl ⟨rfl, rfl⟩), fun x hx => slay_ne (by omega) (by omega), fun τ t1 t2 => by
        have zq := c_KR_can_111 (σ := τ) (δ := δ) (n := n) (by rw [t1]; exact hW) ((congrFun t2 0).trans m0) rfl rfl rfl
        rw [t1, e] at zq
        exact zq, fun τ t1 t2 => ?_⟩
      have zq := c_KR_does_111 (σ := τ) (δ := δ) (n := n) (by rw [t1]; exact hW) ((congrFun t2 0).trans m0) rfl rfl rfl hj rfl
      have zr : mLay τ j (-1) (-1) = uR τ 85 (aLay a j (-1) (-1)) := uR_fun (fun x hx => mlay_ne hx) (by rw [mLay_row, t1])
      rw [zr] at zq
      exact ⟨_, zq⟩
set_option maxHeartbeats 200000 in
theorem ob_97 {σ : SI} {δ : SD} {a : Nat → Int32} {n : Nat} (hL : HL σ 15 a n) {v0 v1 v2 v3 : Int32} {k : Nat} (hk : k < 60) (g0 : σ 83 (k * 4 + 0) = v0) (g1 : σ 83 (k * 4 + 1) = v1) (g2 : σ 83 (k * 4 + 2) = v2) (g3 : σ 83 (k * 4 + 3) = v3) (hl : σ 82 k = nI 97) {Mr : Nat → Int32} : obY σ δ k 97 a Mr ∨ obN σ δ k 97 a Mr := by
  have hW := hL.wf
  have n8 := hW.n8
  refine Or.inl ⟨_, _, _, c_KP_obeys_97 hL hk g0 g1 g2 g3 hl, HL_run hL pkL_ok, fun x hx => runS_ne (by omega) (by omega), fun τ t1 t2 => by
    have zq := c_KR_can_97 (σ := τ) (δ := δ) (n := n) (by rw [t1]; exact hW) rfl rfl rfl rfl
    skip
    exact zq, fun τ t1 t2 => ?_⟩
  have zq := c_KR_does_97 (σ := τ) (δ := δ) (n := n) (by rw [t1]; exact hW) rfl rfl rfl rfl
  have zr : runM τ (pkL (τ 85) n 6) = uR τ 85 (runA a (pkL a n 6)) := uR_fun (fun x hx => runM_ne hx) (by rw [runM_row, t1])
  rw [zr] at zq
  exact ⟨_, zq⟩
set_option maxHeartbeats 200000 in
theorem ob_109 {σ : SI} {δ : SD} {a : Nat → Int32} {n : Nat} (hL : HL σ 15 a n) {v0 v1 v2 v3 : Int32} {k : Nat} (hk : k < 60) (g0 : σ 83 (k * 4 + 0) = v0) (g1 : σ 83 (k * 4 + 1) = v1) (g2 : σ 83 (k * 4 + 2) = v2) (g3 : σ 83 (k * 4 + 3) = v3) (hl : σ 82 k = nI 109) {Mr : Nat → Int32} (m0 : Mr 0 = v0) : obY σ δ k 109 a Mr ∨ obN σ δ k 109 a Mr := by
  have hW := hL.wf
  have n8 := hW.n8
  cases hq : setOK (nI 0) v0 with
  | false =>
    exact Or.inr ⟨c_KP_obeys_109n hL hk g0 g1 g2 g3 hl hq, -2, by decide, fun τ t1 t2 => by
      have zq := c_KR_can_109 (σ := τ) (δ := δ) (n := n) (by rw [t1]; exact hW) ((congrFun t2 0).trans m0) rfl rfl rfl
      rw [if_neg (by rw [hq]; decide)] at zq
      exact zq⟩
  | true =>
    refine Or.inl ⟨_, _, _, c_KP_obeys_109 hL hk g0 g1 g2 g3 hl hq, HL_mea (WF_set hW (by decide) hq) (RB_set hL.rb (by decide)) (hL.rs.keepr (by rw [uI_ne (by omega)]) (by rw [uI_ne (by omega)]) (fun j hj => by rw [upd_n (by omega)])), fun x hx => by rw [mea_ne (by omega) (by omega) (by omega), uI_ne (by omega)], fun τ t1 t2 => by
      have zq := c_KR_can_109 (σ := τ) (δ := δ) (n := n) (by rw [t1]; exact hW) ((congrFun t2 0).trans m0) rfl rfl rfl
      rw [if_pos hq] at zq
      exact zq, fun τ t1 t2 => ?_⟩
    have zq := c_KR_does_109 (σ := τ) (δ := δ) (n := n) (by rw [t1]; exact hW) ((congrFun t2 0).trans m0) rfl rfl rfl
    have zr : uI τ 85 (2 + 0) v0 = uR τ 85 (upd a (2 + 0) v0) := uR_fun (fun x hx => by rw [uI_ne hx]) (by rw [zuI_row, t1])
    rw [zr] at zq
    exact ⟨_, zq⟩
set_option maxHeartbeats 200000 in
theorem ob_103 {σ : SI} {δ : SD} {a : Nat → Int32} {n : Nat} (hL : HL σ 15 a n) {v0 v1 v2 v3 : Int32} {k : Nat} (hk : k < 60) (g0 : σ 83 (k * 4 + 0) = v0) (g1 : σ 83 (k * 4 + 1) = v1) (g2 : σ 83 (k * 4 + 2) = v2) (g3 : σ 83 (k * 4 + 3) = v3) (hl : σ 82 k = nI 103) {Mr : Nat → Int32} (m0 : Mr 0 = v0) : obY σ δ k 103 a Mr ∨ obN σ δ k 103 a Mr := by
  have hW := hL.wf
  have n8 := hW.n8
  cases hq : setOK (nI 1) v0 with
  | false =>
    exact Or.inr ⟨c_KP_obeys_103n hL hk g0 g1 g2 g3 hl hq, -2, by decide, fun τ t1 t2 => by
      have zq := c_KR_can_103 (σ := τ) (δ := δ) (n := n) (by rw [t1]; exact hW) ((congrFun t2 0).trans m0) rfl rfl rfl
      rw [if_neg (by rw [hq]; decide)] at zq
      exact zq⟩
  | true =>
    refine Or.inl ⟨_, _, _, c_KP_obeys_103 hL hk g0 g1 g2 g3 hl hq, HL_mea (WF_set hW (by decide) hq) (RB_set hL.rb (by decide)) (hL.rs.keepr (by rw [uI_ne (by omega)]) (by rw [uI_ne (by omega)]) (fun j hj => by rw [upd_n (by omega)])), fun x hx => by rw [mea_ne (by omega) (by omega) (by omega), uI_ne (by omega)], fun τ t1 t2 => by
      have zq := c_KR_can_103 (σ := τ) (δ := δ) (n := n) (by rw [t1]; exact hW) ((congrFun t2 0).trans m0) rfl rfl rfl
      rw [if_pos hq] at zq
      exact zq, fun τ t1 t2 => ?_⟩
    have zq := c_KR_does_103 (σ := τ) (δ := δ) (n := n) (by rw [t1]; exact hW) ((congrFun t2 0).trans m0) rfl rfl rfl
    have zr : uI τ 85 (2 + 1) v0 = uR τ 85 (upd a (2 + 1) v0) := uR_fun (fun x hx => by rw [uI_ne hx]) (by rw [zuI_row, t1])
    rw [zr] at zq
    exact ⟨_, zq⟩
set_option maxHeartbeats 200000 in
theorem ob_98 {σ : SI} {δ : SD} {a : Nat → Int32} {n : Nat} (hL : HL σ 15 a n) {v0 v1 v2 v3 : Int32} {k : Nat} (hk : k < 60) (g0 : σ 83 (k * 4 + 0) = v0) (g1 : σ 83 (k * 4 + 1) = v1) (g2 : σ 83 (k * 4 + 2) = v2) (g3 : σ 83 (k * 4 + 3) = v3) (hl : σ 82 k = nI 98) {Mr : Nat → Int32} (m0 : Mr 0 = v0) : obY σ δ k 98 a Mr ∨ obN σ δ k 98 a Mr := by
  have hW := hL.wf
  have n8 := hW.n8
  cases hq : setOK (nI 2) v0 with
  | false =>
    exact Or.inr ⟨c_KP_obeys_98n hL hk g0 g1 g2 g3 hl hq, -2, by decide, fun τ t1 t2 => by
      have zq := c_KR_can_98 (σ := τ) (δ := δ) (n := n) (by rw [t1]; exact hW) ((congrFun t2 0).trans m0) rfl rfl rfl
      rw [if_neg (by rw [hq]; decide)] at zq
      exact zq⟩
  | true =>
    refine Or.inl ⟨_, _, _, c_KP_obeys_98 hL hk g0 g1 g2 g3 hl hq, HL_mea (WF_set hW (by decide) hq) (RB_set hL.rb (by decide)) (hL.rs.keepr (by rw [uI_ne (by omega)]) (by rw [uI_ne (by omega)]) (fun j hj => by rw [upd_n (by omega)])), fun x hx => by rw [mea_ne (by omega) (by omega) (by omega), uI_ne (by omega)], fun τ t1 t2 => by
      have zq := c_KR_can_98 (σ := τ) (δ := δ) (n := n) (by rw [t1]; exact hW) ((congrFun t2 0).trans m0) rfl rfl rfl
      rw [if_pos hq] at zq
      exact zq, fun τ t1 t2 => ?_⟩
    have zq := c_KR_does_98 (σ := τ) (δ := δ) (n := n) (by rw [t1]; exact hW) ((congrFun t2 0).trans m0) rfl rfl rfl
    have zr : uI τ 85 (2 + 2) v0 = uR τ 85 (upd a (2 + 2) v0) := uR_fun (fun x hx => by rw [uI_ne hx]) (by rw [zuI_row, t1])
    rw [zr] at zq
    exact ⟨_, zq⟩
set_option maxHeartbeats 200000 in
theorem ob_114 {σ : SI} {δ : SD} {a : Nat → Int32} {n : Nat} (hL : HL σ 15 a n) {v0 v1 v2 v3 : Int32} {k : Nat} (hk : k < 60) (g0 : σ 83 (k * 4 + 0) = v0) (g1 : σ 83 (k * 4 + 1) = v1) (g2 : σ 83 (k * 4 + 2) = v2) (g3 : σ 83 (k * 4 + 3) = v3) (hl : σ 82 k = nI 114) {Mr : Nat → Int32} (m0 : Mr 0 = v0) : obY σ δ k 114 a Mr ∨ obN σ δ k 114 a Mr := by
  have hW := hL.wf
  have n8 := hW.n8
  cases hq : setOK (nI 3) v0 with
  | false =>
    exact Or.inr ⟨c_KP_obeys_114n hL hk g0 g1 g2 g3 hl hq, -2, by decide, fun τ t1 t2 => by
      have zq := c_KR_can_114 (σ := τ) (δ := δ) (n := n) (by rw [t1]; exact hW) ((congrFun t2 0).trans m0) rfl rfl rfl
      rw [if_neg (by rw [hq]; decide)] at zq
      exact zq⟩
  | true =>
    refine Or.inl ⟨_, _, _, c_KP_obeys_114 hL hk g0 g1 g2 g3 hl hq, HL_mea (WF_set hW (by decide) hq) (RB_set hL.rb (by decide)) (hL.rs.keepr (by rw [uI_ne (by omega)]) (by rw [uI_ne (by omega)]) (fun j hj => by rw [upd_n (by omega)])), fun x hx => by rw [mea_ne (by omega) (by omega) (by omega), uI_ne (by omega)], fun τ t1 t2 => by
      have zq := c_KR_can_114 (σ := τ) (δ := δ) (n := n) (by rw [t1]; exact hW) ((congrFun t2 0).trans m0) rfl rfl rfl
      rw [if_pos hq] at zq
      exact zq, fun τ t1 t2 => ?_⟩
    have zq := c_KR_does_114 (σ := τ) (δ := δ) (n := n) (by rw [t1]; exact hW) ((congrFun t2 0).trans m0) rfl rfl rfl
    have zr : uI τ 85 (2 + 3) v0 = uR τ 85 (upd a (2 + 3) v0) := uR_fun (fun x hx => by rw [uI_ne hx]) (by rw [zuI_row, t1])
    rw [zr] at zq
    exact ⟨_, zq⟩
set_option maxHeartbeats 200000 in
theorem ob_99 {σ : SI} {δ : SD} {a : Nat → Int32} {n : Nat} (hL : HL σ 15 a n) {v0 v1 v2 v3 : Int32} {k : Nat} (hk : k < 60) (g0 : σ 83 (k * 4 + 0) = v0) (g1 : σ 83 (k * 4 + 1) = v1) (g2 : σ 83 (k * 4 + 2) = v2) (g3 : σ 83 (k * 4 + 3) = v3) (hl : σ 82 k = nI 99) {Mr : Nat → Int32} (m0 : Mr 0 = v0) : obY σ δ k 99 a Mr ∨ obN σ δ k 99 a Mr := by
  have hW := hL.wf
  have n8 := hW.n8
  cases hq : setOK (nI 4) v0 with
  | false =>
    exact Or.inr ⟨c_KP_obeys_99n hL hk g0 g1 g2 g3 hl hq, -2, by decide, fun τ t1 t2 => by
      have zq := c_KR_can_99 (σ := τ) (δ := δ) (n := n) (by rw [t1]; exact hW) ((congrFun t2 0).trans m0) rfl rfl rfl
      rw [if_neg (by rw [hq]; decide)] at zq
      exact zq⟩
  | true =>
    refine Or.inl ⟨_, _, _, c_KP_obeys_99 hL hk g0 g1 g2 g3 hl hq, HL_mea (WF_set hW (by decide) hq) (RB_set hL.rb (by decide)) (hL.rs.keepr (by rw [uI_ne (by omega)]) (by rw [uI_ne (by omega)]) (fun j hj => by rw [upd_n (by omega)])), fun x hx => by rw [mea_ne (by omega) (by omega) (by omega), uI_ne (by omega)], fun τ t1 t2 => by
      have zq := c_KR_can_99 (σ := τ) (δ := δ) (n := n) (by rw [t1]; exact hW) ((congrFun t2 0).trans m0) rfl rfl rfl
      rw [if_pos hq] at zq
      exact zq, fun τ t1 t2 => ?_⟩
    have zq := c_KR_does_99 (σ := τ) (δ := δ) (n := n) (by rw [t1]; exact hW) ((congrFun t2 0).trans m0) rfl rfl rfl
    have zr : uI τ 85 (2 + 4) v0 = uR τ 85 (upd a (2 + 4) v0) := uR_fun (fun x hx => by rw [uI_ne hx]) (by rw [zuI_row, t1])
    rw [zr] at zq
    exact ⟨_, zq⟩
set_option maxHeartbeats 200000 in
theorem ob_all {σ : SI} {δ : SD} {a : Nat → Int32} {n : Nat} (hL : HL σ 15 a n) {k : Nat} (hk : k < 60) {c : Nat} (hc : c < 128) (hb : ¬ nbI (nI c) = -1) (hl : σ 82 k = nI c) {Mr : Nat → Int32} (hv : ∀ m, m ≤ 4 → nbI (nI c) = nI m → ∀ j, j < m → Mr j = σ 83 (k * 4 + j)) : obY σ δ k c a Mr ∨ obN σ δ k c a Mr := by
  cases hlt : letB c with
  | false => exact absurd (let_no c hc hlt).1 hb
  | true =>
    rcases let_is c hc hlt with rfl | rfl | rfl | rfl | rfl | rfl | rfl | rfl | rfl | rfl
    · exact ob_97 hL hk rfl rfl rfl rfl hl
    · exact ob_98 hL hk rfl rfl rfl rfl hl (hv 1 (by omega) (by decide +kernel) 0 (by omega))
    · exact ob_99 hL hk rfl rfl rfl rfl hl (hv 1 (by omega) (by decide +kernel) 0 (by omega))
    · exact ob_103 hL hk rfl rfl rfl rfl hl (hv 1 (by omega) (by decide +kernel) 0 (by omega))
    · exact ob_105 hL hk rfl rfl rfl rfl hl (hv 4 (by omega) (by decide +kernel) 0 (by omega)) (hv 4 (by omega) (by decide +kernel) 1 (by omega)) (hv 4 (by omega) (by decide +kernel) 2 (by omega)) (hv 4 (by omega) (by decide +kernel) 3 (by omega))
    · exact ob_109 hL hk rfl rfl rfl rfl hl (hv 1 (by omega) (by decide +kernel) 0 (by omega))
    · exact ob_111 hL hk rfl rfl rfl rfl hl (hv 1 (by omega) (by decide +kernel) 0 (by omega))
    · exact ob_112 hL hk rfl rfl rfl rfl hl (hv 3 (by omega) (by decide +kernel) 0 (by omega)) (hv 3 (by omega) (by decide +kernel) 1 (by omega)) (hv 3 (by omega) (by decide +kernel) 2 (by omega))
    · exact ob_114 hL hk rfl rfl rfl rfl hl (hv 1 (by omega) (by decide +kernel) 0 (by omega))
    · exact ob_119 hL hk rfl rfl rfl rfl hl (hv 2 (by omega) (by decide +kernel) 0 (by omega)) (hv 2 (by omega) (by decide +kernel) 1 (by omega))
