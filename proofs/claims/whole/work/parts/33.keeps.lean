/-! CALLS: keeps -/
section LO
variable {σ ρ : SI} {B n q : Nat} {a a' : Nat → Int32}
theorem lo_line (e : ∀ j, j < 56 → a' j = a j) {i : Nat} : lineF a' i = lineF a i := by
  unfold lineF
  rw [e 0 (by decide), e 2 (by decide), e 6 (by decide)]
theorem lo_lb (e : ∀ j, j < 56 → a' j = a j) : ∀ i, lbF a' i = lbF a i
  | 0 => rfl
  | i + 1 => by unfold lbF; rw [lo_lb e i, lo_line e]
theorem lo_RB (h : RB σ B a n) (hn : n ≤ 8) (e : ∀ j, j < 56 → a' j = a j) : RB σ B a' n := by
  refine ⟨?_, ?_, h.c, fun i hi => ?_, fun k hk j hj => ?_, fun k hk => ?_, fun k hk => ?_⟩
  · rw [e _ (by decide)]; exact h.w
  · rw [e _ (by decide)]; exact h.h
  · rw [e _ (by omega)]; exact h.s i hi
  · unfold its; rw [e _ (by omega)]; exact h.t hk hj
  · unfold its; rw [e _ (by omega)]; exact h.x hk
  · unfold its; rw [e _ (by omega)]; exact h.y hk
theorem lo_RD (h : RD σ B a n) (hn : n ≤ 8) (e : ∀ j, j < 56 → a' j = a j) : RD σ B a' n := by
  refine ⟨fun k hk => ?_, fun k hk => ?_, ?_⟩
  · rw [lo_wide e (by omega)]; exact h.1 k hk
  · rw [lo_high e (by omega)]; exact h.2.1 k hk
  · unfold colN; rw [e _ (by decide), lo_lb e]; exact h.2.2
theorem xK_R (hW : WF a n) {k : Nat} : xK a n k = kxR a n k ∧ yK a n k = kyR a n k := by
  unfold xK yK kxR kyR
  cases hl : lK a n k with
  | true => rw [if_pos (lK_t hl).1, if_pos (lK_t hl).1]; exact ⟨rfl, rfl⟩
  | false =>
    have h1 := lK_f hl
    unfold xK at h1
    by_cases hk : k < n
    · rw [if_pos hk] at h1 ⊢
      rw [if_pos hk, h1]
      refine ⟨rfl, ?_⟩
      rcases hW.pl hk with g | g
      · exact g.2
      · obtain ⟨⟨j, -, j2, j3⟩, -⟩ := g
        rw [h1] at j3
        exact absurd j3.symm (nI_m1 (by omega))
    · rw [if_neg hk, if_neg hk]; exact ⟨rfl, rfl⟩
theorem bs_or {a a' : Nat → Int32} {q : Nat} (hq : q < 3) (h1 : kbN a' q = 1) (h2 : ∀ s, s < 3 → s ≠ q → kbN a' s = kbN a s) : bsA a ||| nI (2 ^ q) = nI (kbN a' 0 + 2 * kbN a' 1 + 4 * kbN a' 2) := by
  unfold bsA
  rcases (show q = 0 ∨ q = 1 ∨ q = 2 by omega) with rfl | rfl | rfl
  · rw [h1, h2 1 (by decide) (by decide), h2 2 (by decide) (by decide)]
    rcases kb_01 a 0 with e0 | e0 <;> rcases kb_01 a 1 with e1 | e1 <;> rcases kb_01 a 2 with e2 | e2 <;> rw [e0, e1, e2] <;> decide
  · rw [h1, h2 0 (by decide) (by decide), h2 2 (by decide) (by decide)]
    rcases kb_01 a 0 with e0 | e0 <;> rcases kb_01 a 1 with e1 | e1 <;> rcases kb_01 a 2 with e2 | e2 <;> rw [e0, e1, e2] <;> decide
  · rw [h1, h2 0 (by decide) (by decide), h2 1 (by decide) (by decide)]
    rcases kb_01 a 0 with e0 | e0 <;> rcases kb_01 a 1 with e1 | e1 <;> rcases kb_01 a 2 with e2 | e2 <;> rw [e0, e1, e2] <;> decide
theorem HL_keep (hL : HL σ B a n) (hq : q < 3) (hr : ρ 85 = a) : HL (uI (kpS σ B a n q 8) (B + 1) 0 (bsA a ||| nI (2 ^ q))) B (kmS ρ a n q 8 85) n := by
  have hn := hL.wf.n8
  have lo : ∀ j, j < 56 → kmS ρ a n q 8 85 j = a j := fun j hj => by rw [km_lo hj, hr]
  have k1 : kbN (kmS ρ a n q 8 85) q = 1 := by unfold kbN; rw [km_fl, if_pos rfl]
  have k2 : ∀ s, s < 3 → s ≠ q → kbN (kmS ρ a n q 8 85) s = kbN a s := fun s hs h => by unfold kbN; rw [km_out (by omega) (Nat.le_refl 8), hr]
  refine ⟨km_WF hL.wf hr hq (Nat.le_refl 8), lo_RB (RB_r1 (kp_RB hL.rb)) hn lo, lo_RD (RD_r1 (kp_RD hL.rd)) hn lo, ?_, fun s hs hb k hk => ?_⟩
  · rw [uI_same, bs_or hq k1 k2]
  · rw [uI_ne (by omega)]
    by_cases h : s = q
    · subst h
      have g := kp_in (σ := σ) (B := B) (n := n) (s := s) (a := a) (k := 8) hk
      have m := km_in (σ := ρ) (a := a) (n := n) (q := s) (k := 8) hk
      have e := xK_R hL.wf (k := k)
      have r0 : kpA (kmS ρ a n s 8 85) s k 0 = kxR a n k := by unfold kpA; rw [Nat.add_zero]; exact m.1
      have r1 : kpA (kmS ρ a n s 8 85) s k 1 = kyR a n k := by unfold kpA; rw [show 56 + 33 * s + 1 + 4 * k + 1 = 56 + 33 * s + 2 + 4 * k by omega]; exact m.2.1
      have r2 : kpA (kmS ρ a n s 8 85) s k 2 = kwR a n k := by unfold kpA; rw [show 56 + 33 * s + 1 + 4 * k + 2 = 56 + 33 * s + 3 + 4 * k by omega]; exact m.2.2.1
      have r3 : kpA (kmS ρ a n s 8 85) s k 3 = khR a n k := by unfold kpA; rw [show 56 + 33 * s + 1 + 4 * k + 3 = 56 + 33 * s + 4 + 4 * k by omega]; exact m.2.2.2
      rw [g.1, g.2.1, g.2.2.1, g.2.2.2, r0, r1, r2, r3]
      refine ⟨e.1, e.2, fun h => ?_⟩
      unfold kxR at h
      cases hl : lK a n k with
      | true =>
        unfold wK hK kwR khR
        rw [hl, if_pos (lK_t hl).1, if_pos (lK_t hl).1, if_pos rfl, if_pos rfl]
        exact ⟨rfl, rfl⟩
      | false => rw [hl] at h; exact absurd rfl h
    · have o : ∀ j, j < 4 → kpA (kmS ρ a n q 8 85) s k j = kpA a s k j := fun j hj => by unfold kpA; rw [km_out (by omega) (Nat.le_refl 8), hr]
      rw [kp_out (by omega) (Nat.le_refl 8), kp_out (by omega) (Nat.le_refl 8), kp_out (by omega) (Nat.le_refl 8), kp_out (by omega) (Nat.le_refl 8), o 0 (by decide), o 1 (by decide), o 2 (by decide), o 3 (by decide)]
      exact hL.rs.2 s hs (by rw [← k2 s hs h]; exact hb) k hk
end LO
set_option maxRecDepth 100000 in
theorem c_KP_keeps_ok {σ : SI} {δ : SD} {a : Nat → Int32} {n s o tl : Nat} {P : Nat → Nat → Int32} {tx rf : Nat → Int32} (hI : IC σ a n s o P tl tx rf) {q : Nat} (hq3 : q < 3) : E KP_keeps [.ref 5, .int (nI q)] (HH σ δ) (some (.int (nI (cntN (liesA a) n)))) (HH (uI (kpS (sPush σ s o) 6 a n q 8) 7 0 (bsA a ||| nI (2 ^ q))) δ) := by
  have hI1 := hI.push
  have hW := hI.hl.wf
  have hR := hI.hl.rb
  have hD := hI.hl.rd
  have h2 := hR.c
  have h8 := hW.n8
  have hB := LB_6
  refine E.ofL [some (.ref 5), some (.int (nI q))] rfl pn_RX8 rfl (fun sc => ?_)
  refine g_iload_n dX8_keeps_0 rfl ?_
  refine g_iconst dX8_keeps_1 ic_0 ?_
  refine g_iconst dX8_keeps_2 ic_2 ?_
  refine g_s3 (M' := KP_within) dX8_keeps_3 l_P_96 s_KP_within c_KP_within rfl rfl ⟨rfl, rfl⟩ ?_
  refine g_top (show _ = bI true from in1 (Nat.zero_le _) (by omega) (by decide)) ?_
  refine g_s1 (M' := KP_goodIf) dX8_keeps_6 l_P_81 s_KP_goodIf c_KP_goodIf rfl rfl ⟨rfl, rfl⟩ ?_
  refine g_top (if_pos rfl) ?_
  refine g_istore_n dX8_keeps_9 rfl ?_
  refine g_aload_n dX8_keeps_10 rfl ?_
  refine g_iload_n dX8_keeps_11 rfl ?_
  refine g_v1 (M' := KP_mayChange) dX8_keeps_12 l_P_58 v_KP_mayChange (c_KP_mayChange0 hI) rc_5 rfl rfl ⟨rfl, rfl⟩ ?_
  refine b_if_eq (tgt := 36) dX8_keeps_15 rfl (fun zc15 => ?_) (fun zc15 => ?_)
  · exact absurd zc15 (by decide)
  · refine g_aload_n dX8_keeps_18 rfl ?_
    refine q_getq dX8_keeps_19 f_P_12 ck_5 (by decide) ty_7_0 rf_5_0 ?_
    refine q_getq dX8_keeps_22 f_P_205 ck_6 (by decide) ty_0_3 (rfL_3 LB_6) ?_
    refine g_aload_n dX8_keeps_25 rfl ?_
    refine q_getq dX8_keeps_26 f_P_12 ck_5 (by decide) ty_7_0 rf_5_0 ?_
    refine g_iload_n dX8_keeps_29 rfl ?_
    refine g_v2 (M' := KE_keep) dX8_keeps_30 l_P_209 v_KE_keep (c_KE_keep LB_6 hI1.hl hq3) (rcE LB_6) rfl rfl ⟨rfl, rfl⟩ ?_
    refine g_goto (tgt := 37) dX8_keeps_33 rfl ?_
    exact e_iret dX8_keeps_37 rfl (by rfl) (by rfl)
set_option maxRecDepth 100000 in
theorem c_KP_keeps_no2 {σ : SI} {δ : SD} {a : Nat → Int32} {n s o tl : Nat} {P : Nat → Nat → Int32} {tx rf : Nat → Int32} (hI : IC σ a n s o P tl tx rf) {q : Int32} (hq3 : inB q (nI 0) (nI 2) = false) : E KP_keeps [.ref 5, .int q] (HH σ δ) (some (.int (-2))) (HH (rfC σ 0) δ) := by
  have hI1 := hI.push
  have hW := hI.hl.wf
  have hR := hI.hl.rb
  have hD := hI.hl.rd
  have h2 := hR.c
  have h8 := hW.n8
  have hB := LB_6
  refine E.ofL [some (.ref 5), some (.int q)] rfl pn_RX8 rfl (fun sc => ?_)
  refine g_iload_n dX8_keeps_0 rfl ?_
  refine g_iconst dX8_keeps_1 ic_0 ?_
  refine g_iconst dX8_keeps_2 ic_2 ?_
  refine g_s3 (M' := KP_within) dX8_keeps_3 l_P_96 s_KP_within c_KP_within rfl rfl ⟨rfl, rfl⟩ ?_
  refine g_top (show _ = bI false by rw [hq3]) ?_
  refine g_s1 (M' := KP_goodIf) dX8_keeps_6 l_P_81 s_KP_goodIf c_KP_goodIf rfl rfl ⟨rfl, rfl⟩ ?_
  refine g_top (if_neg (by decide)) ?_
  refine g_istore_n dX8_keeps_9 rfl ?_
  refine g_aload_n dX8_keeps_10 rfl ?_
  refine g_iload_n dX8_keeps_11 rfl ?_
  refine g_v1 (M' := KP_mayChange) dX8_keeps_12 l_P_58 v_KP_mayChange c_KP_mayChange2 rc_5 rfl rfl ⟨rfl, rfl⟩ ?_
  refine b_if_eq (tgt := 36) dX8_keeps_15 rfl (fun zc15 => ?_) (fun zc15 => ?_)
  · refine g_iload_n dX8_keeps_36 rfl ?_
    exact e_iret dX8_keeps_37 rfl (by rfl) (by rfl)
  · exact absurd zc15 (by decide)
theorem step_keeps {σ : SI} {δ : SD} {q : Int32} (hT : InvT σ) : Step KP_keeps KR_keeps [.int q] σ δ := by
  obtain ⟨a, n, s, o, P, tl, tx, rf, hI, hJ⟩ := hT
  have hW := hI.hl.wf
  have hI1 := hI.push
  cases hq : inB q (nI 0) (nI 2) with
  | false => exact Step.no (by decide) hI hJ (c_KP_keeps_no2 hI hq) (fun h1 => c_KR_keeps_no2 h1 hI.s5 hW hq)
  | true =>
    obtain ⟨j, -, hj, rfl⟩ := (inB_iff (by decide) (by decide)).mp hq
    have hj3 : j < 3 := by omega
    obtain rfl := hJ.row
    have f1 : ∀ c, c < 6 ∨ 14 < c → uI (kpS (sPush σ s o) 6 (σ 85) n j 8) 7 0 (bsA (σ 85) ||| nI (2 ^ j)) c = sPush σ s o c := fun c hc => by rw [uI_ne (by omega), kp_ne (by omega)]
    have e85 : uI (kpS (sPush σ s o) 6 (σ 85) n j 8) 7 0 (bsA (σ 85) ||| nI (2 ^ j)) 85 = σ 85 := by rw [f1 _ (by omega), push_hi (by omega)]
    have e1 := c_KP_keeps_ok (δ := δ) hI hj3
    have hl := HL_keep (ρ := sKeep (uI (kpS (sPush σ s o) 6 (σ 85) n j 8) 7 0 (bsA (σ 85) ||| nI (2 ^ j))) s) hI1.hl hj3
    generalize uI (kpS (sPush σ s o) 6 (σ 85) n j 8) 7 0 (bsA (σ 85) ||| nI (2 ^ j)) = τ at *
    have hJ1 : IR τ (σ 85) s P tl tx rf := hJ.cong (fun c hc => by rw [f1 c (by omega), push_hi hc])
    have hr := (hJ1.keep hI.s5).row
    refine Step.ly (σ2 := kmS (sKeep τ s) (σ 85) n j 8) hI hJ e1 f1 (fun h1 => ?_) (hl hr) (fun c hc => km_ne hc) (fun _ => rfl)
    have := c_KR_keeps_ok (δ := δ) h1 hI.s5 hW (q := j) hj3
    rwa [e85] at this

