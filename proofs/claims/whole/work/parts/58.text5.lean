/-! THE TEXT: the reference takes numbers -/
def vF (tc : Nat → Nat) (t f : Nat) : Nat := if f = 0 then 0 else if f = 1 then tc t - 48 else 10 * (tc t - 48) + tc (t + 1) - 48
def rnM (tc : Nat → Nat) (tl : Nat) (Mr : Nat → Int32) (s : Nat) : Nat → Nat → Int32
  | 0 => Mr
  | j + 1 => if (onP tc tl s j).2 = true then upd (rnM tc tl Mr s j) j (nI (if dgB tc tl (skP tc tl (onP tc tl s j).1) = true then nmV tc tl (skP tc tl (onP tc tl s j).1) else 0)) else rnM tc tl Mr s j
section RN2
variable {tc : Nat → Nat} {tl s m j t f i : Nat} {σ : SI} {Mr : Nat → Int32}
theorem upd_same2 {a : Nat → Int32} {x y : Int32} : upd (upd a i x) i y = upd a i y := by
  funext q
  unfold upd
  by_cases h : q = i
  · rw [if_pos h, if_pos h]
  · rw [if_neg h, if_neg h, if_neg h]
theorem vF_s (h : f < 2) : 10 * vF tc t f + tc (t + f) - 48 = vF tc t (f + 1) := by
  rcases (show f = 0 ∨ f = 1 by omega) with rfl | rfl
  · show 10 * 0 + tc t - 48 = tc t - 48
    omega
  · rfl
theorem rn_s (h : (onP tc tl s j).2 = true) : rnM tc tl Mr s (j + 1) = upd (rnM tc tl Mr s j) j (nI (if dgB tc tl (skP tc tl (onP tc tl s j).1) = true then nmV tc tl (skP tc tl (onP tc tl s j).1) else 0)) := if_pos h
theorem dg_tR (hT : TXR σ tc tl) (h : dgB tc tl t = true) : t < tl ∧ 48 ≤ tc t ∧ tc t ≤ 57 := by
  by_cases g : t < tl
  · have hc := (hT.2.2 t g).2
    rw [dg_at g, inB_nI (by omega) (by omega) (by omega), Bool.and_eq_true, decide_eq_true_eq, decide_eq_true_eq] at h
    exact ⟨g, h⟩
  · rw [dg_no g] at h; exact absurd h (by decide)
theorem skI_leR (hT : TXR σ tc tl) (hp : t ≤ 120) : ∀ i, skI tc tl t i ≤ 120
  | 0 => hp
  | i + 1 => by
    have ih := skI_leR hT hp i
    have htl := hT.2.1
    by_cases h : hrV tc tl (skI tc tl t i) = nI 32
    · rw [sk_y h]
      by_cases g : skI tc tl t i < tl
      · omega
      · rw [hr_n g] at h; exact absurd h (by decide)
    · rw [sk_n h]; exact ih
theorem skP_leR (hT : TXR σ tc tl) (hp : t ≤ 120) : skP tc tl t ≤ 120 := skI_leR hT hp 120
theorem on_leR (hT : TXR σ tc tl) (hs : s + 1 ≤ 120) : ∀ j, (onP tc tl s j).1 ≤ 120
  | 0 => hs
  | j + 1 => by
    have ih := on_leR hT hs j
    have hk := skP_leR hT ih
    have htl := hT.2.1
    unfold onP
    split
    · show nmE tc tl (skP tc tl (onP tc tl s j).1) ≤ 120
      generalize skP tc tl (onP tc tl s j).1 = u at *
      cases h : dgB tc tl u with
      | false => rw [nm_e0 h]; exact hk
      | true =>
        have h1 := dg_tR hT h
        cases h2 : dgB tc tl (u + 1) with
        | false => rw [nm_e1 h h2]; omega
        | true => have h3 := dg_tR hT h2; rw [nm_e2 h h2]; omega
    · exact ih
theorem rn_1 (h6 : 1 ≤ f → dgB tc tl t = true) (h : dgB tc tl (t + f) = true) : dgB tc tl t = true := by
  rcases Nat.eq_zero_or_pos f with e | e
  · subst e; exact h
  · exact h6 e
theorem rn_2 (hf : f + 1 = 2) (h : dgB tc tl (t + f) = true) : dgB tc tl (t + 1) = true := by
  obtain rfl : f = 1 := by omega
  exact h
/-- where the figures end -/
theorem rn_end (h5 : f ≤ 2) (h6 : 1 ≤ f → dgB tc tl t = true) (h7 : f = 2 → dgB tc tl (t + 1) = true) (hx : dgB tc tl (t + f) = false ∨ 2 ≤ f) : nmE tc tl t = t + f ∧ (if dgB tc tl t = true then nmV tc tl t else 0) = vF tc t f ∧ nmK tc tl t = (decide (1 ≤ f) && !dgB tc tl (t + f)) := by
  rcases (show f = 0 ∨ f = 1 ∨ f = 2 by omega) with rfl | rfl | rfl
  · have h : dgB tc tl t = false := hx.elim id (fun g => absurd g (by omega))
    exact ⟨nm_e0 h, if_neg (by rw [h]; decide), nm_k0 h⟩
  · have h := h6 (by omega)
    have h2 : dgB tc tl (t + 1) = false := hx.elim id (fun g => absurd g (by omega))
    exact ⟨nm_e1 h h2, by rw [if_pos h, nm_v1 h2]; rfl, by rw [nm_k1 h h2 h2, h2]; rfl⟩
  · have h := h6 (by omega)
    have h2 := h7 rfl
    refine ⟨nm_e2 h h2, by rw [if_pos h, nm_v2 h2]; rfl, ?_⟩
    rw [nm_k2 h h2 rfl]
    rfl
theorem on_bad (h2 : (onP tc tl s i).2 = true) (ht : skP tc tl (onP tc tl s i).1 = t) (hf : nmK tc tl t = false) (hi : i < m) : onP tc tl s m = (nmE tc tl t, false) ∧ rnM tc tl Mr s m = upd (rnM tc tl Mr s i) i (nI (if dgB tc tl t = true then nmV tc tl t else 0)) := by
  have e := on_s h2
  have e2 := rn_s (Mr := Mr) h2
  rw [ht] at e e2
  rw [hf] at e
  have st : ∀ j, onP tc tl s (i + 1 + j) = onP tc tl s (i + 1) ∧ rnM tc tl Mr s (i + 1 + j) = rnM tc tl Mr s (i + 1) := fun j => by
    induction j with
    | zero => exact ⟨rfl, rfl⟩
    | succ j ih =>
      have hn : ¬ (onP tc tl s (i + 1 + j)).2 = true := by rw [ih.1, e]; exact Bool.false_ne_true
      exact ⟨(if_neg hn).trans ih.1, (if_neg hn).trans ih.2⟩
  have := st (m - (i + 1))
  rw [show i + 1 + (m - (i + 1)) = m by omega] at this
  exact ⟨this.1.trans e, this.2.trans e2⟩
theorem rn_ok (hf : 0 < f) (h : dgB tc tl (t + f) = false) : (decide (1 ≤ f) && !dgB tc tl (t + f)) = true := by rw [h, decide_eq_true (show 1 ≤ f by omega)]; rfl
end RN2
set_option maxRecDepth 100000 in
set_option maxHeartbeats 200000 in
theorem c_KR_takesAll {σ : SI} {δ : SD} {tc : Nat → Nat} {tl : Nat} (hT : TXR σ tc tl) {s m : Nat} {Mr : Nat → Int32} (hs : s + 1 ≤ 120) (hm4 : m ≤ 4) : E KR_takesAll [.ref 84, .int (nI m)] (HH (rS σ (s + 1) (Mr)) δ) (some (.int (bI (onP tc tl s m).2))) (HH (rS σ ((onP tc tl s m).1) (rnM tc tl Mr s m)) δ) := by
  have htl := hT.2.1
  refine E.ofL [some (.ref 84), some (.int (nI m))] rfl pn_RX9 rfl (fun sc => ?_)
  generalize hRz : (fun (zr : Option Value) (zk : XH) => zr = some (.int (bI (onP tc tl s m).2)) ∧ zk = HH (rS σ ((onP tc tl s m).1) (rnM tc tl Mr s m)) δ) = R
  refine g_iconst dX9_takesAll_0 ic_0 ?_
  refine g_istore_n dX9_takesAll_1 rfl ?_
  refine g_heap (show _ = HH (rS σ ((onP tc tl s 0).1) (rnM tc tl Mr s 0)) δ from rfl) ?_
  have H2 : ∀ (N : Nat) (i : Nat), i ≤ m → (onP tc tl s i).2 = true → m - i < N → G sc KR_takesAll 2 (aL [some (.ref 84), some (.int (nI m)), some (.int (nI i))]) [] (HH (rS σ ((onP tc tl s i).1) (rnM tc tl Mr s i)) δ) (0, 0) R := by
    intro N
    induction N with
    | zero => intro i h1 h2 hN2; exact absurd hN2 (Nat.not_lt_zero _)
    | succ N ih2 =>
      intro i h1 h2 hN2
      refine g_iload_n dX9_takesAll_2 rfl ?_
      refine g_iload_n dX9_takesAll_3 rfl ?_
      refine n_icmp_ge (tgt := 112) (by omega) (by omega) dX9_takesAll_4 rfl (fun zc4 => ?_) (fun zc4 => ?_)
      · obtain rfl : i = m := by omega
        refine g_iconst dX9_takesAll_112 ic_1 ?_
        exact g_zret (S := []) dX9_takesAll_113 rfl (Or.inr rfl) (by rw [← hRz]; exact ⟨by first | exact congrArg (fun b => some (Value.int (bI b))) (congrArg Prod.snd (on_bad (Mr := Mr) h2 ht hf (by omega)).1).symm | exact congrArg (fun b => some (Value.int (bI b))) h2.symm, by first | rw [(on_bad (m := m) (Mr := Mr) h2 ht hf (by omega)).1, (on_bad (m := m) (Mr := Mr) h2 ht hf (by omega)).2, he.1, he.2.1] | rfl⟩) (Nat.zero_le _) (Nat.zero_le _)
      · have hb := on_leR hT hs i
        refine g_aload_n dX9_takesAll_7 rfl ?_
        refine g_v0 (M' := KR_here) dX9_takesAll_8 l_R_311 v_KR_here (c_KR_here hT hb) rc_84 HH_len rfl ⟨rfl, rfl⟩ ?_
        obtain ⟨t, ht⟩ : ∃ t, skP tc tl (onP tc tl s i).1 = t := ⟨_, rfl⟩
        have ht120 : t ≤ 120 := by rw [← ht]; exact skP_leR hT hb
        rw [ht]
        refine g_istore_n dX9_takesAll_11 rfl ?_
        refine g_iconst dX9_takesAll_12 ic_0 ?_
        refine g_istore dX9_takesAll_13 rfl ?_
        refine g_aload_n dX9_takesAll_15 rfl ?_
        refine q_getq dX9_takesAll_16 f_R_35 ck_84 (by decide) ty_8_14 rf_84_14 ?_
        refine g_iload_n dX9_takesAll_19 rfl ?_
        refine g_iconst dX9_takesAll_20 ic_0 ?_
        refine q_iast dX9_takesAll_21 ck_93 (ixD_nI (by omega) (by decide)) ?_
        refine g_heap (show _ = HH (rS σ (t + 0) (upd (rnM tc tl Mr s i) i (nI (vF tc t 0)))) δ from (congrArg (fun z => HH z δ) rS_pM)) ?_
        have H22 : ∀ (N : Nat) (f : Nat), f ≤ 2 → (1 ≤ f → dgB tc tl t = true) → (f = 2 → dgB tc tl (t + 1) = true) → 2 - f < N → G sc KR_takesAll 22 (aL [some (.ref 84), some (.int (nI m)), some (.int (nI i)), some (.int (hrV tc tl t)), some (.int (nI f))]) [] (HH (rS σ (t + f) (upd (rnM tc tl Mr s i) i (nI (vF tc t f)))) δ) (0, 0) R := by
          intro N
          induction N with
          | zero => intro f h5 h6 h7 hN22; exact absurd hN22 (Nat.not_lt_zero _)
          | succ N ih22 =>
            intro f h5 h6 h7 hN22
            refine g_aload_n dX9_takesAll_22 rfl ?_
            refine g_aload_n dX9_takesAll_23 rfl ?_
            refine q_geti dX9_takesAll_24 f_R_304 ck_84 (by decide) ty_8_13 ?_
            refine g_top rS_p ?_
            refine g_v1 (M' := KR_isFigure) dX9_takesAll_27 l_R_314 v_KR_isFigure (c_KR_isFigure hT (by omega)) rc_84 rfl rfl ⟨rfl, rfl⟩ ?_
            refine b_if_eq (tgt := 83) dX9_takesAll_30 rfl (fun zc30 => ?_) (fun zc30 => ?_)
            · have he := rn_end h5 h6 h7 (by first | exact Or.inl zc30 | exact Or.inr (by omega))
              refine g_iload_n dX9_takesAll_83 rfl ?_
              refine g_iconst dX9_takesAll_84 ic_m1 ?_
              refine g_icmp_eq (tgt := 104) dX9_takesAll_85 rfl (fun zc85 => ?_) (fun zc85 => ?_)
              · have hf : nmK tc tl t = false := nm_k0 (by unfold dgB; rw [zc85]; decide)
                refine g_iconst dX9_takesAll_104 ic_0 ?_
                exact g_zret (S := []) dX9_takesAll_105 rfl (Or.inl rfl) (by rw [← hRz]; exact ⟨by first | exact congrArg (fun b => some (Value.int (bI b))) (congrArg Prod.snd (on_bad (Mr := Mr) h2 ht hf (by omega)).1).symm | exact congrArg (fun b => some (Value.int (bI b))) h2.symm, by first | rw [(on_bad (m := m) (Mr := Mr) h2 ht hf (by omega)).1, (on_bad (m := m) (Mr := Mr) h2 ht hf (by omega)).2, he.1, he.2.1] | rfl⟩) (Nat.zero_le _) (Nat.zero_le _)
              · refine g_iload dX9_takesAll_88 rfl ?_
                refine n_if_eq (tgt := 104) (by omega) dX9_takesAll_90 rfl (fun zc90 => ?_) (fun zc90 => ?_)
                · have hf : nmK tc tl t = false := by rw [he.2.2, zc90]; rfl
                  refine g_iconst dX9_takesAll_104 ic_0 ?_
                  exact g_zret (S := []) dX9_takesAll_105 rfl (Or.inl rfl) (by rw [← hRz]; exact ⟨by first | exact congrArg (fun b => some (Value.int (bI b))) (congrArg Prod.snd (on_bad (Mr := Mr) h2 ht hf (by omega)).1).symm | exact congrArg (fun b => some (Value.int (bI b))) h2.symm, by first | rw [(on_bad (m := m) (Mr := Mr) h2 ht hf (by omega)).1, (on_bad (m := m) (Mr := Mr) h2 ht hf (by omega)).2, he.1, he.2.1] | rfl⟩) (Nat.zero_le _) (Nat.zero_le _)
                · refine g_aload_n dX9_takesAll_93 rfl ?_
                  refine g_aload_n dX9_takesAll_94 rfl ?_
                  refine q_geti dX9_takesAll_95 f_R_304 ck_84 (by decide) ty_8_13 ?_
                  refine g_top rS_p ?_
                  refine g_v1 (M' := KR_isFigure) dX9_takesAll_98 l_R_314 v_KR_isFigure (c_KR_isFigure hT (by omega)) rc_84 rfl rfl ⟨rfl, rfl⟩ ?_
                  refine b_if_eq (tgt := 106) dX9_takesAll_101 rfl (fun zc101 => ?_) (fun zc101 => ?_)
                  · refine n_iinc (b := 1) dX9_takesAll_106 rfl rfl rfl ?_
                    refine g_goto (tgt := 2) dX9_takesAll_109 rfl ?_
                    refine g_heap (show _ = HH (rS σ ((onP tc tl s (i + 1)).1) (rnM tc tl Mr s (i + 1))) δ from by rw [on_s h2, rn_s h2, ht, he.1, he.2.1]) ?_
                    exact g_can _ (by exact ⟨rfl, rfl, rfl, trivial⟩) (ih2 (i + 1) (by omega) (by rw [on_s h2, ht]; exact he.2.2.trans (rn_ok (by omega) zc101)) (by omega))
                  · have hf : nmK tc tl t = false := by rw [he.2.2, zc101, Bool.not_true, Bool.and_false]
                    refine g_iconst dX9_takesAll_104 ic_0 ?_
                    exact g_zret (S := []) dX9_takesAll_105 rfl (Or.inl rfl) (by rw [← hRz]; exact ⟨by first | exact congrArg (fun b => some (Value.int (bI b))) (congrArg Prod.snd (on_bad (Mr := Mr) h2 ht hf (by omega)).1).symm | exact congrArg (fun b => some (Value.int (bI b))) h2.symm, by first | rw [(on_bad (m := m) (Mr := Mr) h2 ht hf (by omega)).1, (on_bad (m := m) (Mr := Mr) h2 ht hf (by omega)).2, he.1, he.2.1] | rfl⟩) (Nat.zero_le _) (Nat.zero_le _)
            · have hd := dg_tR hT zc30
              refine g_iload dX9_takesAll_33 rfl ?_
              refine g_iconst dX9_takesAll_35 ic_2 ?_
              refine n_icmp_ge (tgt := 83) (by omega) (by omega) dX9_takesAll_36 rfl (fun zc36 => ?_) (fun zc36 => ?_)
              · have he := rn_end h5 h6 h7 (by first | exact Or.inl zc30 | exact Or.inr (by omega))
                refine g_iload_n dX9_takesAll_83 rfl ?_
                refine g_iconst dX9_takesAll_84 ic_m1 ?_
                refine g_icmp_eq (tgt := 104) dX9_takesAll_85 rfl (fun zc85 => ?_) (fun zc85 => ?_)
                · have hf : nmK tc tl t = false := nm_k0 (by unfold dgB; rw [zc85]; decide)
                  refine g_iconst dX9_takesAll_104 ic_0 ?_
                  exact g_zret (S := []) dX9_takesAll_105 rfl (Or.inl rfl) (by rw [← hRz]; exact ⟨by first | exact congrArg (fun b => some (Value.int (bI b))) (congrArg Prod.snd (on_bad (Mr := Mr) h2 ht hf (by omega)).1).symm | exact congrArg (fun b => some (Value.int (bI b))) h2.symm, by first | rw [(on_bad (m := m) (Mr := Mr) h2 ht hf (by omega)).1, (on_bad (m := m) (Mr := Mr) h2 ht hf (by omega)).2, he.1, he.2.1] | rfl⟩) (Nat.zero_le _) (Nat.zero_le _)
                · refine g_iload dX9_takesAll_88 rfl ?_
                  refine n_if_eq (tgt := 104) (by omega) dX9_takesAll_90 rfl (fun zc90 => ?_) (fun zc90 => ?_)
                  · have hf : nmK tc tl t = false := by rw [he.2.2, zc90]; rfl
                    refine g_iconst dX9_takesAll_104 ic_0 ?_
                    exact g_zret (S := []) dX9_takesAll_105 rfl (Or.inl rfl) (by rw [← hRz]; exact ⟨by first | exact congrArg (fun b => some (Value.int (bI b))) (congrArg Prod.snd (on_bad (Mr := Mr) h2 ht hf (by omega)).1).symm | exact congrArg (fun b => some (Value.int (bI b))) h2.symm, by first | rw [(on_bad (m := m) (Mr := Mr) h2 ht hf (by omega)).1, (on_bad (m := m) (Mr := Mr) h2 ht hf (by omega)).2, he.1, he.2.1] | rfl⟩) (Nat.zero_le _) (Nat.zero_le _)
                  · refine g_aload_n dX9_takesAll_93 rfl ?_
                    refine g_aload_n dX9_takesAll_94 rfl ?_
                    refine q_geti dX9_takesAll_95 f_R_304 ck_84 (by decide) ty_8_13 ?_
                    refine g_top rS_p ?_
                    refine g_v1 (M' := KR_isFigure) dX9_takesAll_98 l_R_314 v_KR_isFigure (c_KR_isFigure hT (by omega)) rc_84 rfl rfl ⟨rfl, rfl⟩ ?_
                    refine b_if_eq (tgt := 106) dX9_takesAll_101 rfl (fun zc101 => ?_) (fun zc101 => ?_)
                    · refine n_iinc (b := 1) dX9_takesAll_106 rfl rfl rfl ?_
                      refine g_goto (tgt := 2) dX9_takesAll_109 rfl ?_
                      refine g_heap (show _ = HH (rS σ ((onP tc tl s (i + 1)).1) (rnM tc tl Mr s (i + 1))) δ from by rw [on_s h2, rn_s h2, ht, he.1, he.2.1]) ?_
                      exact g_can _ (by exact ⟨rfl, rfl, rfl, trivial⟩) (ih2 (i + 1) (by omega) (by rw [on_s h2, ht]; exact he.2.2.trans (rn_ok (by omega) zc101)) (by omega))
                    · have hf : nmK tc tl t = false := by rw [he.2.2, zc101, Bool.not_true, Bool.and_false]
                      refine g_iconst dX9_takesAll_104 ic_0 ?_
                      exact g_zret (S := []) dX9_takesAll_105 rfl (Or.inl rfl) (by rw [← hRz]; exact ⟨by first | exact congrArg (fun b => some (Value.int (bI b))) (congrArg Prod.snd (on_bad (Mr := Mr) h2 ht hf (by omega)).1).symm | exact congrArg (fun b => some (Value.int (bI b))) h2.symm, by first | rw [(on_bad (m := m) (Mr := Mr) h2 ht hf (by omega)).1, (on_bad (m := m) (Mr := Mr) h2 ht hf (by omega)).2, he.1, he.2.1] | rfl⟩) (Nat.zero_le _) (Nat.zero_le _)
              · refine g_aload_n dX9_takesAll_39 rfl ?_
                refine q_getq dX9_takesAll_40 f_R_35 ck_84 (by decide) ty_8_14 rf_84_14 ?_
                refine g_iload_n dX9_takesAll_43 rfl ?_
                refine g_bipush dX9_takesAll_44 bp_10 ?_
                refine g_aload_n dX9_takesAll_46 rfl ?_
                refine q_getq dX9_takesAll_47 f_R_35 ck_84 (by decide) ty_8_14 rf_84_14 ?_
                refine g_iload_n dX9_takesAll_50 rfl ?_
                refine q_iald dX9_takesAll_51 ck_93 (ixD_nI (by omega) (by decide)) ?_
                refine g_top (rS_M.trans upd_s) ?_
                refine n_imul dX9_takesAll_52 ?_
                refine g_aload_n dX9_takesAll_53 rfl ?_
                refine q_getq dX9_takesAll_54 f_R_32 ck_84 (by decide) ty_8_11 rf_84_11 ?_
                refine g_aload_n dX9_takesAll_57 rfl ?_
                refine q_geti dX9_takesAll_58 f_R_304 ck_84 (by decide) ty_8_13 ?_
                refine g_top rS_p ?_
                refine q_iald dX9_takesAll_61 ck_92 (ixD_nI (by omega) (by decide)) ?_
                refine g_top (rS_tx.trans (hT.2.2 (t + f) (by omega)).1) ?_
                refine n_iadd dX9_takesAll_62 ?_
                refine g_bipush dX9_takesAll_63 bp_48 ?_
                refine n_isub dX9_takesAll_65 (by omega) ?_
                refine q_iast dX9_takesAll_66 ck_93 (ixD_nI (by omega) (by decide)) ?_
                refine g_heap (congrArg (fun z => HH z δ) rS_pM) ?_
                refine g_aload_n dX9_takesAll_67 rfl ?_
                refine g_dup dX9_takesAll_68 rfl ?_
                refine q_geti dX9_takesAll_69 f_R_304 ck_84 (by decide) ty_8_13 ?_
                refine g_top rS_p ?_
                refine g_iconst dX9_takesAll_72 ic_1 ?_
                refine n_iadd dX9_takesAll_73 ?_
                refine q_puti dX9_takesAll_74 f_R_304 ck_84 (by decide) ty_8_13 fi_8_13 ?_
                refine g_heap (congrArg (fun z => HH z δ) rS_put) ?_
                refine n_iinc (b := 1) dX9_takesAll_77 rfl rfl rfl ?_
                refine g_goto (tgt := 22) dX9_takesAll_80 rfl ?_
                refine g_heap (show _ = HH (rS σ (t + (f + 1)) (upd (rnM tc tl Mr s i) i (nI (vF tc t (f + 1))))) δ from by rw [upd_same2, vF_s (by omega)]; rfl) ?_
                exact g_can _ (by exact ⟨rfl, rfl, rfl, rfl, rfl, trivial⟩) (ih22 (f + 1) (by omega) (fun _ => rn_1 h6 zc30) (fun h => rn_2 (by omega) zc30) (by omega))
        exact g_can _ (by exact ⟨rfl, rfl, rfl, rfl, rfl, trivial⟩) (H22 _ 0 (by omega) (fun h => absurd h (by omega)) (fun h => absurd h (by omega)) (Nat.lt_succ_self _))
  exact g_can _ (by exact ⟨rfl, rfl, rfl, trivial⟩) (H2 _ 0 (by omega) rfl (Nat.lt_succ_self _))
