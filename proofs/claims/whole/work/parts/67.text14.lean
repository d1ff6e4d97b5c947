/-! THE TEXT: the call -/
section RD
variable {σ σ1 : SI} {δ : SD} {a : Nat → Int32} {n s o tl k : Nat} {P : Nat → Nat → Int32} {tx rf : Nat → Int32} {tc : Nat → Nat}
set_option maxHeartbeats 200000 in
theorem rd_bad (hI : IC σ a n s o P tl tx rf) (hJ : IR σ a s P tl tx rf) (hR : TXR σ tc tl) (hk : k < 60) (hq : ∀ i, i < k → (odE tc tl (sqP tc tl i)).2 = true ∧ sqP tc tl i < tl) (hkl : sqP tc tl k < tl ∨ k = 0) (hf : (odE tc tl (sqP tc tl k)).2 = false) {p' o' : Nat} {Lr Nr : Nat → Int32} (hF : E KT_findFault [.ref 80] (HH σ δ) (some (.int (nI (odE tc tl (sqP tc tl k)).1))) (HH (tS σ p' o' Lr Nr) δ)) : Step KP_reads KR_reads [] σ δ := by
  obtain ⟨σ1, hσ1⟩ : ∃ z, tS σ p' o' Lr Nr = z := ⟨_, rfl⟩
  have f1 : ∀ c, c ≠ 80 ∧ c ≠ 82 ∧ c ≠ 83 → σ1 c = σ c := fun c hc => by rw [← hσ1]; exact tS_c hc
  have g1 : σ1 80 0 = σ 80 0 := by rw [← hσ1]; exact tS_len
  rw [hσ1] at hF
  have hle := od_leR hR (sq_leR hR k)
  exact Step.oth hI hJ (c_KP_reads_bad (by omega) hF) (fun c h1 h2 => f1 c (by omega)) g1 (fun h1 => c_KR_reads_bad (hR.cong (by rw [f1 84 (by decide)]) (f1 92 (by decide))) hk hq hkl hf) (fun c hc => rS_c (by omega)) (rS_84 (by decide)) (rS_84 (by decide))
/-- a layout under orders: the cells, the row, how many items -/
abbrev RX : Type := SI × (Nat → Int32) × Nat
def rdP (β : SI) (x : RX) : Prop := HL x.1 15 x.2.1 x.2.2 ∧ ∀ c, c < 15 ∨ 23 < c → x.1 c = β c
def rdQ (δ : SD) (tc : Nat → Nat) (tl : Nat) (M0 : Nat → Int32) (i : Nat) (x y : RX) : Prop := E KP_obeys [.ref 5, .int (nI i)] (HH x.1 δ) (some (.int (bI true))) (HH y.1 δ) ∧ rCan δ (tc (sqP tc tl i)) x.2.1 (sqM tc tl M0 (i + 1)) (nI 0) ∧ rDoes δ (tc (sqP tc tl i)) x.2.1 (sqM tc tl M0 (i + 1)) y.2.1
def rdS (δ : SD) (tc : Nat → Nat) (tl : Nat) (M0 : Nat → Int32) (i : Nat) (x : RX) : Prop := E KP_obeys [.ref 5, .int (nI i)] (HH x.1 δ) (some (.int (bI false))) (HH x.1 δ) ∧ ∃ v : Int32, v < 0 ∧ rCan δ (tc (sqP tc tl i)) x.2.1 (sqM tc tl M0 (i + 1)) v
set_option maxHeartbeats 200000 in
theorem rd_run (hL0 : HL (cop σ1 15 6) 15 a n) (hX : TX σ tc tl) (hk : k ≤ 60) (hq : ∀ i, i < k → (odE tc tl (sqP tc tl i)).2 = true ∧ sqP tc tl i < tl) (hσ1 : tS σ (sqP tc tl k) k (sqL tc tl (σ 82) k) (sqN tc tl (σ 83) k) = σ1) (M0 : Nat → Int32) :
    (∃ f : Nat → RX, f 0 = (cop σ1 15 6, a, n) ∧ (∀ i, i < k → rdQ δ tc tl M0 i (f i) (f (i + 1))) ∧ (∀ i, i ≤ k → rdP (cop σ1 15 6) (f i))) ∨ (∃ (j : Nat) (f : Nat → RX), j < k ∧ f 0 = (cop σ1 15 6, a, n) ∧ (∀ i, i < j → rdQ δ tc tl M0 i (f i) (f (i + 1))) ∧ (∀ i, i ≤ j → rdP (cop σ1 15 6) (f i)) ∧ rdS δ tc tl M0 j (f j)) := by
  refine run_seq (P := fun _ x => rdP (cop σ1 15 6) x) (Q := rdQ δ tc tl M0) (S := rdS δ tc tl M0) (x0 := (cop σ1 15 6, a, n)) ⟨hL0, fun c hc => rfl⟩ k (fun i hi x hx => ?_)
  obtain ⟨hL, hfr⟩ := hx
  have hi' := hq i hi
  obtain ⟨m, hm4, hm, -⟩ := od_m hi'.1
  have hch : hrV tc tl (sqP tc tl i) = nI (tc (sqP tc tl i)) := hr_y hi'.2
  have hlt := (hX.2.2 _ hi'.2).2
  have hb : ¬ nbI (nI (tc (sqP tc tl i))) = -1 := by
    rw [← hch, hm]
    exact nI_m1 (by omega)
  have hl : x.1 82 i = nI (tc (sqP tc tl i)) := by
    rw [hfr 82 (by omega), cop_ne (by omega), ← hσ1, tS_L, sqL_get (fun i hi => (hq i hi).1) hi]
    exact hch
  have hv : ∀ m, m ≤ 4 → nbI (nI (tc (sqP tc tl i))) = nI m → ∀ j, j < m → sqM tc tl M0 (i + 1) j = x.1 83 (i * 4 + j) := fun m hm4 hm j hj => by
    rw [hfr 83 (by omega), cop_ne (by omega), ← hσ1, tS_N]
    exact (sqN_get (fun i hi => (hq i hi).1) hi hm4 (by rw [hch]; exact hm) hj).symm
  rcases ob_all (δ := δ) hL (show i < 60 by omega) hlt hb hl hv with ⟨σ', a', n', e1, e2, e3, e4, e5⟩ | ⟨e1, v, e2, e3⟩
  · exact Or.inl ⟨(σ', a', n'), ⟨e1, e4, e5⟩, e2, fun c hc => (e3 c hc).trans (hfr c hc)⟩
  · exact Or.inr ⟨e1, v, e2, e3⟩
set_option maxHeartbeats 200000 in
theorem rd_ok (hI : IC σ a n s o P tl tx rf) (hJ : IR σ a s P tl tx rf) (hX : TX σ tc tl) (hR : TXR σ tc tl) (hk0 : 1 ≤ k) (hk : k ≤ 60) (hq : ∀ i, i < k → (odE tc tl (sqP tc tl i)).2 = true ∧ sqP tc tl i < tl) (hkl : ¬ sqP tc tl k < tl) (hσ1 : tS σ (sqP tc tl k) k (sqL tc tl (σ 82) k) (sqN tc tl (σ 83) k) = σ1)
    {M0 : Nat → Int32} (hM0 : sqM tc tl (σ 93) k = M0) {f : Nat → RX} (f0 : f 0 = (cop σ1 15 6, a, n)) (hQ : ∀ i, i < k → rdQ δ tc tl M0 i (f i) (f (i + 1))) (hP : ∀ i, i ≤ k → rdP (cop σ1 15 6) (f i)) : Step KP_reads KR_reads [] σ δ := by
  have hF := c_KT_findFault_ok (δ := δ) hX hk0 hk hq hkl
  rw [hσ1] at hF
  have s1 : ∀ c, c ≠ 80 ∧ c ≠ 82 ∧ c ≠ 83 → σ1 c = σ c := fun c hc => by rw [← hσ1]; exact tS_c hc
  have s2 : σ1 80 0 = σ 80 0 := by rw [← hσ1]; exact tS_len
  have s3 : σ1 80 1 = nI k := by rw [← hσ1]; exact tS_o
  obtain ⟨hLk, hfk⟩ := hP k (Nat.le_refl k)
  have g1 : ∀ c, c < 15 ∨ 23 < c → (f k).1 c = σ1 c := fun c hc => (hfk c hc).trans (cop_ne (by omega))
  have hIk : IC (f k).1 a n s o P tl tx rf := hI.othr (fun c h1 h2 => by rw [g1 c h2, s1 c (by omega)]) (by rw [g1 80 (by omega)]; exact s2)
  obtain ⟨σp, hσp⟩ : ∃ z, sPush (f k).1 s o = z := ⟨_, rfl⟩
  have hpu := c_KQ_push (δ := δ) hIk
  rw [hσp] at hpu
  have e1 := c_KP_reads_ok hk hF s3 (τ := fun i => (f i).1) (show cop σ1 15 6 = (f 0).1 by rw [f0]) (fun i hi => (hQ i hi).1) hpu
  obtain ⟨σ3, hσ3⟩ : ∃ z, cop σp 6 15 = z := ⟨_, rfl⟩
  rw [hσ3] at e1
  have p1 : ∀ c, c < 24 → σp c = (f k).1 c := fun c hc => by rw [← hσp]; exact push_mid hc
  have p2 : ∀ c, 84 ≤ c → σp c = (f k).1 c := fun c hc => by rw [← hσp]; exact push_hi hc
  have q1 : ∀ c, c < 6 ∨ 14 < c → σ3 c = σp c := fun c hc => by rw [← hσ3]; exact cop_ne (by omega)
  have hH : HL σ3 6 (f k).2.1 (f k).2.2 := by
    rw [← hσ3]
    exact HL.cop (hLk.cong (fun i hi => p1 _ (by omega))) (by omega)
  have u1 : ∀ c, 84 ≤ c → σ3 c = σ c := fun c hc => by rw [q1 c (by omega), p2 c hc, g1 c (by omega), s1 c (by omega)]
  have hR3 : TXR σ3 tc tl := hR.cong (by rw [u1 84 (by omega)]) (u1 92 (by omega))
  have e93 : σ3 93 = σ 93 := u1 93 (by omega)
  have e85 : σ3 85 = a := (u1 85 (by omega)).trans hJ.row
  obtain ⟨ρk, hρk⟩ : ∃ z, rQ σ3 (f k).2.1 (sqP tc tl k) (sqM tc tl M0 k) = z := ⟨_, rfl⟩
  have r84 : ∀ c, c ≠ 13 ∧ c ≠ 15 → ρk 84 c = σ 84 c := fun c hc => by rw [← hρk, rQ_84 hc, u1 84 (by omega)]
  have rc : ∀ c, c ≠ 84 ∧ c ≠ 85 ∧ c ≠ 87 ∧ c ≠ 93 → ρk c = σ3 c := fun c hc => by rw [← hρk]; exact rQ_c hc
  have r85 : ρk 85 = (f k).2.1 := by rw [← hρk]; exact rQ_85
  have r87 : ∀ b, b < 155 → ρk 87 b = a b := fun b hb => by rw [← hρk, rQ_87 hb, e85]
  obtain ⟨τ2, hτ2⟩ : ∃ z, fill (fill ρk 85 (ρk 87) 155) 87 (ρk 85) 155 = z := ⟨_, rfl⟩
  obtain ⟨κ, hκ⟩ : ∃ z, sKeep τ2 s = z := ⟨_, rfl⟩
  have hA := c_KR_keepsAside (τ := ρk) (δ := δ) (κ := κ) hI.s5 (by rw [r84 3 (by decide)]; exact hJ.sd) (by rw [hτ2]; exact hκ)
  have e2 := c_KR_reads_ok (δ := δ) hR3 hk0 hk hq hkl (ρ := fun i => rQ σ3 (f i).2.1 (odP tc tl i) (sqM tc tl M0 i)) (ρ2 := fun i => rQ σ3 (f i).2.1 (sqP tc tl i) (sqM tc tl M0 i)) (show _ = rQ σ3 (f 0).2.1 (odP tc tl 0) (sqM tc tl M0 0) by rw [rq_start, e93, hM0, e85, f0]; rfl) (fun i hi => rq_here hR3) (fun i hi => rq_ok hR3 (hq i hi).1 (hr_y (hq i hi).2) (hQ i hi).2.1 (hQ i hi).2.2) (fun i hi => rQ_15) (by rw [hρk]; exact hA)
  have t85 : ∀ b, b < 155 → τ2 85 b = a b := fun b hb => by rw [← hτ2, fill_ne (by decide), fill_in hb, r87 b hb]
  have t87 : ∀ b, b < 155 → τ2 87 b = (f k).2.1 b := fun b hb => by rw [← hτ2, fill_in hb, r85]
  have t0 : ∀ c, c ≠ 85 ∧ c ≠ 87 → τ2 c = ρk c := fun c hc => by rw [← hτ2, fill_row hc.2, fill_row hc.1]
  have J1 : IR τ2 (τ2 85) s P tl tx rf := by
    refine ⟨rfl, ?_, fun i hi j hj => ?_, fun j hj => ?_, ?_, fun i hi => ?_⟩
    · rw [t0 84 (by decide), r84 3 (by decide)]; exact hJ.sd
    · rw [t0 86 (by decide), rc 86 (by decide), u1 86 (by decide)]; exact hJ.st hi hj
    · rw [t0 88 (by decide), rc 88 (by decide), u1 88 (by decide)]; exact hJ.rz hj
    · rw [t0 84 (by decide), r84 12 (by decide)]; exact hJ.t
    · rw [t0 92 (by decide), rc 92 (by decide), u1 92 (by decide)]; exact hJ.tz hi
  have J2 := J1.keep hI.s5
  rw [hκ] at J2
  obtain ⟨σ4, hσ4⟩ : ∃ z, fill κ 85 (κ 87) 155 = z := ⟨_, rfl⟩
  rw [hσ4] at e2
  have J3 : IR σ4 (σ4 85) (nxS s) (nxP (τ2 85) s P) tl tx rf := J2.lyt (fun c h1 h2 => by rw [← hσ4]; exact fill_row h2) rfl
  have I1 : IC (f k).1 (τ2 85) n s o P tl tx rf := hIk.lyt (fun c hc => rfl) (hIk.hl.row (fun j hj => t85 j hj))
  have I2 := I1.push
  rw [hσp] at I2
  have I3 : IC σ3 (σ4 85) (f k).2.2 (nxS s) (nxO s o) (nxP (τ2 85) s P) tl tx rf := I2.lyt (fun c hc => q1 c (by omega)) (hH.row (fun j hj => by rw [← hσ4, fill_in hj, ← hκ, keep_87]; exact t87 j hj))
  exact Step.of e1 e2 I3 J3 (fun c hc => by rw [← hσ4, fill_row (by omega), ← hκ, keep_lo hc, t0 c (by omega), rc c (by omega)])
set_option maxHeartbeats 200000 in
theorem rd_stop (hI : IC σ a n s o P tl tx rf) (hJ : IR σ a s P tl tx rf) (hX : TX σ tc tl) (hR : TXR σ tc tl) (hk0 : 1 ≤ k) (hk : k ≤ 60) (hq : ∀ i, i < k → (odE tc tl (sqP tc tl i)).2 = true ∧ sqP tc tl i < tl) (hkl : ¬ sqP tc tl k < tl) (hσ1 : tS σ (sqP tc tl k) k (sqL tc tl (σ 82) k) (sqN tc tl (σ 83) k) = σ1)
    {M0 : Nat → Int32} (hM0 : sqM tc tl (σ 93) k = M0) {j : Nat} (hj : j < k) {f : Nat → RX} (f0 : f 0 = (cop σ1 15 6, a, n)) (hQ : ∀ i, i < j → rdQ δ tc tl M0 i (f i) (f (i + 1))) (hP : ∀ i, i ≤ j → rdP (cop σ1 15 6) (f i)) (hS : rdS δ tc tl M0 j (f j)) : Step KP_reads KR_reads [] σ δ := by
  obtain ⟨hN, v, hv, hcan⟩ := hS
  have hv0 : ¬ v = 0 := fun h => by rw [h] at hv; exact absurd hv (by decide)
  have hv1 : ¬ (0 : Int32) ≤ v := fun h => by
    rw [Int32.le_iff_toInt_le] at h
    rw [Int32.lt_iff_toInt_lt] at hv
    omega
  have hF := c_KT_findFault_ok (δ := δ) hX hk0 hk hq hkl
  rw [hσ1] at hF
  have s1 : ∀ c, c ≠ 80 ∧ c ≠ 82 ∧ c ≠ 83 → σ1 c = σ c := fun c hc => by rw [← hσ1]; exact tS_c hc
  have s2 : σ1 80 0 = σ 80 0 := by rw [← hσ1]; exact tS_len
  have s3 : σ1 80 1 = nI k := by rw [← hσ1]; exact tS_o
  obtain ⟨hLk, hfk⟩ := hP j (Nat.le_refl j)
  have g1 : ∀ c, c < 15 ∨ 23 < c → (f j).1 c = σ1 c := fun c hc => (hfk c hc).trans (cop_ne (by omega))
  have hIk : IC (f j).1 a n s o P tl tx rf := hI.othr (fun c h1 h2 => by rw [g1 c h2, s1 c (by omega)]) (by rw [g1 80 (by omega)]; exact s2)
  have e1 := c_KP_reads_stop hk hF s3 (τ := fun i => (f i).1) (show cop σ1 15 6 = (f 0).1 by rw [f0]) hj (fun i hi => (hQ i hi).1) hN
  have u1 : ∀ c, 84 ≤ c → (f j).1 c = σ c := fun c hc => by rw [g1 c (by omega), s1 c (by omega)]
  replace e1 : E KP_reads [.ref 5] (HH σ δ) (some (.int (-1000 - nI j))) (HH (f j).1 δ) := e1
  obtain ⟨σ3, hσ3⟩ : ∃ z, (f j).1 = z := ⟨_, rfl⟩
  rw [hσ3] at e1 hIk
  have u1 : ∀ c, 84 ≤ c → σ3 c = σ c := fun c hc => by rw [← hσ3]; exact u1 c hc
  have hR3 : TXR σ3 tc tl := hR.cong (by rw [u1 84 (by omega)]) (u1 92 (by omega))
  have e93 : σ3 93 = σ 93 := u1 93 (by omega)
  have e85 : σ3 85 = a := (u1 85 (by omega)).trans hJ.row
  obtain ⟨ρj, hρj⟩ : ∃ z, uI (rQ σ3 (f j).2.1 (odP tc tl (j + 1)) (sqM tc tl M0 (j + 1))) 84 15 v = z := ⟨_, rfl⟩
  obtain ⟨ρ, hρ⟩ : ∃ z : Nat → SI, z = fun i => if i ≤ j then rQ σ3 (f i).2.1 (odP tc tl i) (sqM tc tl M0 i) else ρj := ⟨_, rfl⟩
  have r1 : ∀ i, i ≤ j → ρ i = rQ σ3 (f i).2.1 (odP tc tl i) (sqM tc tl M0 i) := fun i hi => by rw [hρ]; exact if_pos hi
  have r2 : ρ (j + 1) = ρj := by rw [hρ]; exact if_neg (by omega)
  have e2 := c_KR_reads_stop (δ := δ) hR3 hk0 hk hq hkl hj (ρ := ρ) (ρ2 := fun i => rQ σ3 (f i).2.1 (sqP tc tl i) (sqM tc tl M0 i)) (by rw [r1 0 (Nat.zero_le j), rq_start, e93, hM0, e85, f0]; rfl) (fun i hi => by rw [r1 i hi]; exact rq_here hR3) (fun i hi => by
    rcases Nat.lt_or_ge i j with h | h
    · rw [r1 (i + 1) h]
      exact rq_ok hR3 (hq i (by omega)).1 (hr_y (hq i (by omega)).2) (hQ i h).2.1 (hQ i h).2.2
    · obtain rfl : i = j := by omega
      rw [r2, ← hρj]
      exact rq_no hR3 (hq i (by omega)).1 (hr_y (hq i (by omega)).2) hv0 hcan) (fun i hi => by rw [r1 (i + 1) hi]; exact rQ_15) hv1 (by rw [r2, ← hρj]; exact uI_same)
  rw [r2] at e2
  have k84 : ∀ c, c ≠ 13 ∧ c ≠ 15 → ρj 84 c = σ 84 c := fun c hc => by rw [← hρj, uI_oth (by omega), rQ_84 hc, u1 84 (by omega)]
  have kc : ∀ c, c ≠ 84 ∧ c ≠ 85 ∧ c ≠ 87 ∧ c ≠ 93 → ρj c = σ3 c := fun c hc => by rw [← hρj, uI_ne hc.1]; exact rQ_c hc
  have k87 : ∀ b, b < 155 → ρj 87 b = a b := fun b hb => by rw [← hρj, uI_ne (by decide), rQ_87 hb, e85]
  obtain ⟨σ4, hσ4⟩ : ∃ z, fill ρj 85 (ρj 87) 155 = z := ⟨_, rfl⟩
  rw [hσ4] at e2
  have t0 : ∀ c, c ≠ 85 → σ4 c = ρj c := fun c hc => by rw [← hσ4]; exact fill_row hc
  have J1 : IR σ4 (σ4 85) s P tl tx rf := by
    refine ⟨rfl, ?_, fun i hi j hj => ?_, fun j hj => ?_, ?_, fun i hi => ?_⟩
    · rw [t0 84 (by decide), k84 3 (by decide)]; exact hJ.sd
    · rw [t0 86 (by decide), kc 86 (by decide), u1 86 (by decide)]; exact hJ.st hi hj
    · rw [t0 88 (by decide), kc 88 (by decide), u1 88 (by decide)]; exact hJ.rz hj
    · rw [t0 84 (by decide), k84 12 (by decide)]; exact hJ.t
    · rw [t0 92 (by decide), kc 92 (by decide), u1 92 (by decide)]; exact hJ.tz hi
  have I1 : IC σ3 (σ4 85) n s o P tl tx rf := hIk.lyt (fun c hc => rfl) (hIk.hl.row (fun j hj => by rw [← hσ4, fill_in hj]; exact k87 j hj))
  exact Step.of e1 e2 I1 J1 (fun c hc => by rw [t0 c (by omega), kc c (by omega)])
end RD
set_option maxHeartbeats 200000 in
theorem step_reads {σ : SI} {δ : SD} (hT : InvT σ) : Step KP_reads KR_reads [] σ δ := by
  obtain ⟨a, n, s, o, P, tl, tx, rf, hI, hJ⟩ := hT
  obtain ⟨tc, htc⟩ : ∃ tc : Nat → Nat, ∀ i, i < tl → tx i = nI (tc i) ∧ tc i < 128 := by
    refine ⟨fun i => (tx i).toNatClampNeg, fun i hi => ?_⟩
    obtain ⟨-, c, hc, e⟩ := hI.tz hi
    show tx i = nI (tx i).toNatClampNeg ∧ (tx i).toNatClampNeg < 128
    rw [e, nI_clamp (by omega)]
    exact ⟨rfl, hc⟩
  have hX : TX σ tc tl := ⟨hI.t.2, hI.t.1, fun i hi => ⟨(hI.tz hi).1.trans (htc i hi).1, (htc i hi).2⟩⟩
  have hR : TXR σ tc tl := ⟨hJ.t, hI.t.1, fun i hi => ⟨(hJ.tz hi).trans (htc i hi).1, (htc i hi).2⟩⟩
  rcases tx_cases hI.t.1 with ⟨k, hk, hq, hkl, hf⟩ | ⟨k, hk, hq, hkl⟩
  · exact rd_bad hI hJ hR hk hq (Or.inl hkl) hf (c_KT_findFault_bad hX hk hq hkl hf)
  · rcases Nat.eq_zero_or_pos k with hk0 | hk0
    · subst hk0
      have hz : nbI (hrV tc tl (sqP tc tl 0)) = -1 := by rw [hr_n hkl]; decide +kernel
      have e : odE tc tl (sqP tc tl 0) = (sqP tc tl 0, false) := if_pos hz
      have h1 : sqP tc tl 0 ≤ tl := skI_tl (Nat.zero_le _) 120
      have h2 : tl = (odE tc tl (sqP tc tl 0)).1 := by
        rw [e]
        exact Nat.le_antisymm (Nat.le_of_not_lt hkl) h1
      have hF := c_KT_findFault_none (δ := δ) hX hkl
      refine rd_bad hI hJ hR (k := 0) (by decide) (fun i hi => absurd hi (Nat.not_lt_zero i)) (Or.inr rfl) (by rw [e]) (p' := sqP tc tl 0) (o' := 0) (Lr := σ 82) (Nr := σ 83) ?_
      rw [← h2]
      exact hF
    · obtain ⟨σ1, hσ1⟩ : ∃ z, tS σ (sqP tc tl k) k (sqL tc tl (σ 82) k) (sqN tc tl (σ 83) k) = z := ⟨_, rfl⟩
      have hL0 : HL (cop σ1 15 6) 15 a n := HL.cop (hI.hl.cong (fun i hi => by rw [← hσ1]; exact tS_c (by omega))) (by omega)
      rcases rd_run (δ := δ) hL0 hX hk hq hσ1 (sqM tc tl (σ 93) k) with ⟨f, f0, hQ, hP⟩ | ⟨j, f, hj, f0, hQ, hP, hS⟩
      · exact rd_ok hI hJ hX hR hk0 hk hq hkl hσ1 rfl f0 hQ hP
      · exact rd_stop hI hJ hX hR hk0 hk hq hkl hσ1 rfl hj f0 hQ hP hS
