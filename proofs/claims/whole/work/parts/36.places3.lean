/-! CONTRACTS: what is free -/
/-- down from m: m less 1 -/
def decI : Nat → Int32
  | 0 => -1
  | q + 1 => nI q
theorem decI_pos {m : Nat} (h : ¬ decI m < 0) : ∃ q, m = q + 1 := by
  cases m with
  | zero => exact absurd (show decI 0 < 0 by decide) h
  | succ q => exact ⟨q, rfl⟩
theorem decI_neg {m : Nat} (h : decI m < 0) (hm : m < 1000 := by omega) : m = 0 := by
  cases m with
  | zero => rfl
  | succ q =>
    exfalso
    have h1 : (nI q) < 0 := h
    exact nI_pos (by omega) h1
theorem d_idec {sc : XS} {M : MM} {pc : Nat} {L : XL} {S : List Value} {h : XH} {w : Nat × Nat} {R : Option Value → XH → Prop} {i q : Nat} (hd : decode (mB M) pc = .ok (.iinc i (-1), 3)) (ho : okS M i = true) (hl : L i = some (.int (decI (q + 1)))) (k : G sc M (pc + 3) (sL L i (.int (decI q))) S h w R) : G sc M pc L S h w R := by
  cases q with
  | zero => exact g_iinc hd ho hl (show decI 1 + Int32.ofInt (-1) = decI 0 by decide) k
  | succ q => exact n_idec hd ho hl k
theorem gt_step {p : Nat → Prop} {k m : Nat} (h : ∀ i, k + 1 ≤ i → i < m → p i) (hk : p k) : ∀ i, k ≤ i → i < m → p i := fun i hi h2 => by
  rcases Nat.lt_or_ge k i with q | q
  · exact h i q h2
  · rw [show i = k by omega]; exact hk
def findL (p : Nat → Bool) : Nat → Int32
  | 0 => -1
  | n + 1 => if p n then nI n else findL p n
theorem findL_no {p : Nat → Bool} : ∀ {n : Nat}, (∀ i, i < n → p i = false) → findL p n = -1
  | 0, _ => rfl
  | n + 1, h => by unfold findL; rw [h n (by omega), findL_no (fun i hi => h i (by omega))]; rfl
theorem skip_L {p : Nat → Bool} {k : Nat} : ∀ m, (∀ i, k ≤ i → i < k + m → p i = false) → findL p (k + m) = findL p k
  | 0, _ => rfl
  | m + 1, h => by
    show (if p (k + m) then nI (k + m) else findL p (k + m)) = _
    rw [h (k + m) (by omega) (by omega), skip_L m (fun i h1 h2 => h i h1 (by omega))]; rfl
theorem skip_I {p : Nat → Bool} {k : Nat} : ∀ m, (∀ i, k ≤ i → i < k + m → p i = false) → findI p (k + m) = findI p k
  | 0, _ => rfl
  | m + 1, h => by
    show (if findI p (k + m) = -1 then (if p (k + m) then nI (k + m) else -1) else findI p (k + m)) = _
    rw [h (k + m) (by omega) (by omega), skip_I m (fun i h1 h2 => h i h1 (by omega))]
    split <;> simp [*]
theorem skip_C {p : Nat → Bool} {k : Nat} : ∀ m, (∀ i, k ≤ i → i < k + m → p i = false) → cntN p (k + m) = cntN p k
  | 0, _ => rfl
  | m + 1, h => by
    show cntN p (k + m) + (if p (k + m) then 1 else 0) = _
    rw [h (k + m) (by omega) (by omega), skip_C m (fun i h1 h2 => h i h1 (by omega))]; rfl
theorem findL_at {p : Nat → Bool} {k n : Nat} (hk : k < n) (h : ∀ i, k < i → i < n → p i = false) (hp : p k = true) : findL p n = nI k := by
  have := skip_L (p := p) (k := k + 1) (n - (k + 1)) (fun i h1 h2 => h i (by omega) (by omega))
  rw [show k + 1 + (n - (k + 1)) = n by omega] at this
  rw [this]
  unfold findL
  rw [hp]
  rfl
theorem findI_none {p : Nat → Bool} : ∀ {n : Nat}, n < 1000000 → findI p n = -1 → ∀ i, i < n → p i = false
  | 0, _, _, i, hi => absurd hi (Nat.not_lt_zero i)
  | n + 1, hn, h, i, hi => by
    have e : findI p n = -1 := by
      by_cases q : findI p n = -1
      · exact q
      · unfold findI at h; rw [if_neg q] at h; exact absurd h q
    rcases Nat.lt_or_ge i n with q | q
    · exact findI_none (by omega) e i q
    · rw [show i = n by omega]
      unfold findI at h
      rw [if_pos e] at h
      cases hp : p n with
      | false => rfl
      | true => rw [hp] at h; exact absurd h (nI_m1 (by omega))
theorem findI_some {p : Nat → Bool} : ∀ {n : Nat}, ¬ findI p n = -1 → ∃ k, k < n ∧ p k = true ∧ findI p n = nI k
  | 0, h => absurd rfl h
  | n + 1, h => by
    unfold findI at h ⊢
    by_cases q : findI p n = -1
    · rw [if_pos q] at h ⊢
      cases hp : p n with
      | false => rw [hp] at h; exact absurd rfl h
      | true => exact ⟨n, by omega, hp, rfl⟩
    · rw [if_neg q]
      obtain ⟨k, h1, h2, h3⟩ := findI_some q
      exact ⟨k, by omega, h2, h3⟩
theorem findL_none {p : Nat → Bool} {n : Nat} (h : findI p n = -1) (hn : n < 1000000 := by omega) : findL p n = findI p n := by
  rw [h]
  exact findL_no (findI_none hn h)
def tellA (a : Nat → Int32) (n k w : Nat) : Int32 := if w = 3 then nI (cntN (fitP a n k) 256) else if w = 2 then findL (fitP a n k) 256 else findI (fitP a n k) 256
theorem tell_0 {a : Nat → Int32} {n k : Nat} : tellA a n k 0 = findI (fitP a n k) 256 := (if_neg (by decide)).trans (if_neg (by decide))
theorem tell_2 {a : Nat → Int32} {n k : Nat} : tellA a n k 2 = findL (fitP a n k) 256 := (if_neg (by decide)).trans (if_pos rfl)
theorem tell_3 {a : Nat → Int32} {n k : Nat} : tellA a n k 3 = nI (cntN (fitP a n k) 256) := if_pos rfl
/-- first, last, how many of the first p -/
def tl3 (f : Nat → Bool) (p : Nat) (u v : Int32) (c : Nat) : Prop := u = findI f p ∧ v = findL f p ∧ c = cntN f p ∧ p ≤ 256
section TL
variable {f : Nat → Bool} {p q c : Nat} {u v : Int32}
theorem tl3_0 : tl3 f (16 * 0) (-1) (-1) 0 := ⟨rfl, rfl, rfl, by decide⟩
theorem tl3_c (h : tl3 f p u v c) : c ≤ 256 := by
  obtain ⟨-, -, h3, h4⟩ := h
  have := cntN_le (p := f) p
  omega
theorem tl3_skip (h : tl3 f p u v c) (hq : p ≤ q) (hg : (∀ i, p ≤ i → i < q → f i = false) ∧ q ≤ 256) : tl3 f q u v c := by
  obtain ⟨h1, h2, h3, h4⟩ := h
  have e : p + (q - p) = q := by omega
  have g : ∀ i, p ≤ i → i < p + (q - p) → f i = false := fun i h1 h2 => hg.1 i h1 (by omega)
  have a1 := skip_I (q - p) g
  have a2 := skip_L (q - p) g
  have a3 := skip_C (q - p) g
  rw [e] at a1 a2 a3
  exact ⟨h1.trans a1.symm, h2.trans a2.symm, h3.trans a3.symm, hg.2⟩
theorem tl3_n (h : tl3 f p u v c) (hf : f p = false) (hp : p < 256 := by omega) : tl3 f (p + 1) u v c :=
  tl3_skip h (by omega) ⟨fun i h1 h2 => by rw [show i = p by omega]; exact hf, by omega⟩
theorem cnt_none (h : cntN f p = 0) : findI f p = -1 := by
  by_cases q : findI f p = -1
  · exact q
  · obtain ⟨k, h1, h2, -⟩ := findI_some q
    exfalso
    have : ∀ m, k < m → 0 < cntN f m := fun m => by
      induction m with
      | zero => exact fun h => absurd h (Nat.not_lt_zero _)
      | succ m ih =>
        intro hm
        unfold cntN
        rcases Nat.lt_or_ge k m with q | q
        · have := ih q; omega
        · rw [show m = k by omega, h2]; simp
    have := this p h1
    omega
theorem cnt_some (h : ¬ cntN f p = 0) (hp : p < 1000000) : ¬ findI f p = -1 := fun e => h (by
  have := skip_C (p := f) (k := 0) p (fun i _ h2 => findI_none hp e i (by omega))
  rw [Nat.zero_add] at this
  rw [this]; rfl)
theorem tl3_y0 (h : tl3 f p u v c) (hf : f p = true) (hp : p < 256) (hc : c = 0) : tl3 f (p + 1) (nI p) (nI p) (c + 1) := by
  obtain ⟨h1, h2, h3, h4⟩ := h
  have e := cnt_none (h3.symm.trans hc)
  refine ⟨?_, ?_, ?_, by omega⟩
  · unfold findI; rw [if_pos e, hf]; rfl
  · unfold findL; rw [hf]; rfl
  · unfold cntN; rw [hf, ← h3]; rfl
theorem tl3_y1 (h : tl3 f p u v c) (hf : f p = true) (hp : p < 256) (hc : ¬ c = 0) : tl3 f (p + 1) u (nI p) (c + 1) := by
  obtain ⟨h1, h2, h3, h4⟩ := h
  have e := cnt_some (p := p) (f := f) (by rw [← h3]; exact hc) (by omega)
  refine ⟨?_, ?_, ?_, by omega⟩
  · unfold findI; rw [if_neg e]; exact h1
  · unfold findL; rw [hf]; rfl
  · unfold cntN; rw [hf, ← h3]; rfl
end TL
section TLA
variable {a : Nat → Int32} {n k w c : Nat} {u v : Int32}
theorem tl3_3 (h : tl3 (fitP a n k) 256 u v c) (hw : w = 3) : nI c = tellA a n k w := by unfold tellA; rw [if_pos hw, h.2.2.1]
theorem tl3_2 (h : tl3 (fitP a n k) 256 u v c) (hw : w = 2) : v = tellA a n k w := by unfold tellA; rw [if_neg (by omega), if_pos hw, h.2.1]
theorem tl3_0w (h : tl3 (fitP a n k) 256 u v c) (h3 : ¬ w = 3) (h2 : ¬ w = 2) : u = tellA a n k w := by unfold tellA; rw [if_neg h3, if_neg h2, h.1]
theorem fp_gap (hW : WF a n) (hk : k < n) {x y : Nat} (hx : (a 0).toNatClampNeg ≤ x) (hy : y < 16) : (∀ i, 16 * y + x ≤ i → i < 16 * (y + 1) → fitP a n k i = false) ∧ 16 * (y + 1) ≤ 256 :=
  ⟨fun i h1 h2 => fp_out hW hk (by omega) (by omega), by omega⟩
theorem fp_gap2 (hW : WF a n) (hk : k < n) {y : Nat} (hy : (a 1).toNatClampNeg ≤ y) : (∀ i, 16 * y ≤ i → i < 256 → fitP a n k i = false) ∧ 256 ≤ 256 :=
  ⟨fun i h1 h2 => fp_out hW hk (by omega) (by omega), by omega⟩
end TLA
set_option maxRecDepth 100000 in
theorem c_KR_lastPlace {σ : SI} {δ : SD} {n : Nat} (hW : WF (σ 85) n) {k : Nat} (hk : k < n) : E KR_lastPlace [.ref 84, .int (nI k)] (HH σ δ) (some (.int (findL (fitP (σ 85) n k) 256))) (HH σ δ) := by
  have h8 := hW.n8
  refine E.ofL [some (.ref 84), some (.int (nI k))] rfl pn_RX9 rfl (fun sc => ?_)
  generalize hRz : (fun (zr : Option Value) (zk : XH) => zr = some (.int (findL (fitP (σ 85) n k) 256)) ∧ zk = HH σ δ) = R
  refine g_sipush dX9_lastPlace_0 sp_255 ?_
  refine g_istore_n dX9_lastPlace_3 rfl ?_
  have H4 : ∀ (N : Nat) (p : Nat), p ≤ 256 → (∀ i, p ≤ i → i < 256 → fitP (σ 85) n k i = false) → p < N → G sc KR_lastPlace 4 (aL [some (.ref 84), some (.int (nI k)), some (.int (decI p))]) [] (HH σ δ) (0, 0) R := by
    intro N
    induction N with
    | zero => intro p h1 hb hN4; exact absurd hN4 (Nat.not_lt_zero _)
    | succ N ih4 =>
      intro p h1 hb hN4
      refine g_iload_n dX9_lastPlace_4 rfl ?_
      refine g_if_lt (tgt := 32) dX9_lastPlace_5 rfl (fun zc5 => ?_) (fun zc5 => ?_)
      · refine g_iconst dX9_lastPlace_32 ic_m1 ?_
        exact g_iret (S := []) dX9_lastPlace_33 rfl (by rw [← hRz]; exact ⟨congrArg (fun zz => some (Value.int zz)) (show _ = _ by exact (findL_no (fun i h2 => hb i (by have := decI_neg zc5; omega) h2)).symm), by rfl⟩) (Nat.zero_le _) (Nat.zero_le _)
      · obtain ⟨q, rfl⟩ := decI_pos zc5
        refine g_aload_n dX9_lastPlace_8 rfl ?_
        refine g_iload_n dX9_lastPlace_9 rfl ?_
        refine g_iload_n dX9_lastPlace_10 rfl ?_
        refine g_top (show decI (q + 1) = nI q from rfl) ?_
        refine g_bipush dX9_lastPlace_11 bp_16 ?_
        refine n_irem dX9_lastPlace_13 (by omega) (by omega) (by omega) ?_
        refine g_iload_n dX9_lastPlace_14 rfl ?_
        refine g_top (show decI (q + 1) = nI q from rfl) ?_
        refine g_bipush dX9_lastPlace_15 bp_16 ?_
        refine n_idiv dX9_lastPlace_17 (by omega) (by omega) (by omega) ?_
        refine g_v3 (M' := KR_isFit) dX9_lastPlace_18 l_R_89 v_KR_isFit (c_KR_isFit hW (by omega)) rc_84 rfl rfl ⟨rfl, rfl⟩ ?_
        refine b_if_eq (tgt := 26) dX9_lastPlace_21 rfl (fun zc21 => ?_) (fun zc21 => ?_)
        · refine d_idec dX9_lastPlace_26 rfl rfl ?_
          refine g_goto (tgt := 4) dX9_lastPlace_29 rfl ?_
          exact g_can _ (by exact ⟨rfl, rfl, rfl, trivial⟩) (ih4 q (by omega) (gt_step hb zc21) (by omega))
        · refine g_iload_n dX9_lastPlace_24 rfl ?_
          refine g_top (show decI (q + 1) = nI q from rfl) ?_
          exact g_iret (S := []) dX9_lastPlace_25 rfl (by rw [← hRz]; exact ⟨congrArg (fun zz => some (Value.int zz)) (show _ = _ by exact (findL_at (by omega) (fun i h1 h2 => hb i (by omega) h2) zc21).symm), by rfl⟩) (Nat.zero_le _) (Nat.zero_le _)
  exact g_can _ (by exact ⟨rfl, rfl, rfl, trivial⟩) (H4 _ 256 (by omega) (fun i h1 h2 => absurd h2 (by omega)) (Nat.lt_succ_self _))
set_option maxRecDepth 100000 in
theorem c_KR_freeNow0 {σ : SI} {δ : SD} {n : Nat} (hW : WF (σ 85) n) {k : Nat} (hk : k < n) : E KR_freeNow [.ref 84, .int (nI k), .int (nI 0)] (HH σ δ) (some (.int (tellA (σ 85) n k 0))) (HH σ δ) := by
  have h8 := hW.n8
  refine E.ofL [some (.ref 84), some (.int (nI k)), some (.int (nI 0))] rfl pn_RX9 rfl (fun sc => ?_)
  refine g_aload_n dX9_freeNow_0 rfl ?_
  refine g_iload_n dX9_freeNow_1 rfl ?_
  refine g_v1 (M' := KR_firstPlace) dX9_freeNow_2 l_R_188 v_KR_firstPlace (c_KR_firstPlace hW (by omega)) rc_84 rfl rfl ⟨rfl, rfl⟩ ?_
  refine g_istore_n dX9_freeNow_5 rfl ?_
  refine g_iload_n dX9_freeNow_6 rfl ?_
  refine g_iconst dX9_freeNow_7 ic_3 ?_
  refine n_icmp_ne (tgt := 19) (by omega) (by omega) dX9_freeNow_8 rfl (fun zc8 => ?_) (fun zc8 => ?_)
  · refine g_iload_n dX9_freeNow_19 rfl ?_
    refine g_iconst dX9_freeNow_20 ic_m1 ?_
    refine g_icmp_eq (tgt := 28) dX9_freeNow_21 rfl (fun zc21 => ?_) (fun zc21 => ?_)
    · refine g_iload_n dX9_freeNow_28 rfl ?_
      refine g_goto (tgt := 50) dX9_freeNow_29 rfl ?_
      exact e_iret dX9_freeNow_50 rfl (by exact tell_0.symm) (by rfl)
    · refine g_iload_n dX9_freeNow_24 rfl ?_
      refine n_if_ne (tgt := 32) (by omega) dX9_freeNow_25 rfl (fun zc25 => absurd zc25 (by decide)) (fun _ => ?_)
      refine g_iload_n dX9_freeNow_28 rfl ?_
      refine g_goto (tgt := 50) dX9_freeNow_29 rfl ?_
      exact e_iret dX9_freeNow_50 rfl (by exact tell_0.symm) (by rfl)
  · exact absurd zc8 (by decide)
set_option maxRecDepth 100000 in
theorem c_KR_freeNow2 {σ : SI} {δ : SD} {n : Nat} (hW : WF (σ 85) n) {k : Nat} (hk : k < n) : E KR_freeNow [.ref 84, .int (nI k), .int (nI 2)] (HH σ δ) (some (.int (tellA (σ 85) n k 2))) (HH σ δ) := by
  have h8 := hW.n8
  refine E.ofL [some (.ref 84), some (.int (nI k)), some (.int (nI 2))] rfl pn_RX9 rfl (fun sc => ?_)
  refine g_aload_n dX9_freeNow_0 rfl ?_
  refine g_iload_n dX9_freeNow_1 rfl ?_
  refine g_v1 (M' := KR_firstPlace) dX9_freeNow_2 l_R_188 v_KR_firstPlace (c_KR_firstPlace hW (by omega)) rc_84 rfl rfl ⟨rfl, rfl⟩ ?_
  refine g_istore_n dX9_freeNow_5 rfl ?_
  refine g_iload_n dX9_freeNow_6 rfl ?_
  refine g_iconst dX9_freeNow_7 ic_3 ?_
  refine n_icmp_ne (tgt := 19) (by omega) (by omega) dX9_freeNow_8 rfl (fun zc8 => ?_) (fun zc8 => ?_)
  · refine g_iload_n dX9_freeNow_19 rfl ?_
    refine g_iconst dX9_freeNow_20 ic_m1 ?_
    refine g_icmp_eq (tgt := 28) dX9_freeNow_21 rfl (fun zc21 => ?_) (fun zc21 => ?_)
    · refine g_iload_n dX9_freeNow_28 rfl ?_
      refine g_goto (tgt := 50) dX9_freeNow_29 rfl ?_
      exact e_iret dX9_freeNow_50 rfl (by first | exact (findL_none zc21).symm.trans tell_2.symm | exact tell_2.symm) (by rfl)
    · refine g_iload_n dX9_freeNow_24 rfl ?_
      refine n_if_ne (tgt := 32) (by omega) dX9_freeNow_25 rfl (fun _ => ?_) (fun zc25 => absurd zc25 (by decide))
      refine g_iload_n dX9_freeNow_32 rfl ?_
      refine g_iconst dX9_freeNow_33 ic_1 ?_
      refine n_icmp_ne (tgt := 45) (by omega) (by omega) dX9_freeNow_34 rfl (fun zc34 => ?_) (fun zc34 => ?_)
      · refine g_aload_n dX9_freeNow_45 rfl ?_
        refine g_iload_n dX9_freeNow_46 rfl ?_
        refine g_v1 (M' := KR_lastPlace) dX9_freeNow_47 l_R_197 v_KR_lastPlace (c_KR_lastPlace hW (by omega)) rc_84 rfl rfl ⟨rfl, rfl⟩ ?_
        exact e_iret dX9_freeNow_50 rfl (by first | exact (findL_none zc21).symm.trans tell_2.symm | exact tell_2.symm) (by rfl)
      · exact absurd zc34 (by decide)
  · exact absurd zc8 (by decide)
set_option maxRecDepth 100000 in
theorem c_KR_freeNow3 {σ : SI} {δ : SD} {n : Nat} (hW : WF (σ 85) n) {k : Nat} (hk : k < n) : E KR_freeNow [.ref 84, .int (nI k), .int (nI 3)] (HH σ δ) (some (.int (tellA (σ 85) n k 3))) (HH σ δ) := by
  have h8 := hW.n8
  refine E.ofL [some (.ref 84), some (.int (nI k)), some (.int (nI 3))] rfl pn_RX9 rfl (fun sc => ?_)
  refine g_aload_n dX9_freeNow_0 rfl ?_
  refine g_iload_n dX9_freeNow_1 rfl ?_
  refine g_v1 (M' := KR_firstPlace) dX9_freeNow_2 l_R_188 v_KR_firstPlace (c_KR_firstPlace hW (by omega)) rc_84 rfl rfl ⟨rfl, rfl⟩ ?_
  refine g_istore_n dX9_freeNow_5 rfl ?_
  refine g_iload_n dX9_freeNow_6 rfl ?_
  refine g_iconst dX9_freeNow_7 ic_3 ?_
  refine n_icmp_ne (tgt := 19) (by omega) (by omega) dX9_freeNow_8 rfl (fun zc8 => ?_) (fun zc8 => ?_)
  · exact absurd zc8 (by decide)
  · refine g_aload_n dX9_freeNow_11 rfl ?_
    refine g_iload_n dX9_freeNow_12 rfl ?_
    refine g_v1 (M' := KR_placesMany) dX9_freeNow_13 l_R_191 v_KR_placesMany (c_KR_placesMany hW (by omega)) rc_84 rfl rfl ⟨rfl, rfl⟩ ?_
    refine g_goto (tgt := 50) dX9_freeNow_16 rfl ?_
    exact e_iret dX9_freeNow_50 rfl (by exact tell_3.symm) (by rfl)
set_option maxRecDepth 100000 in
theorem c_KA_tell {σ : SI} {δ : SD} {B n : Nat} {a : Nat → Int32} (hB : LB B) (hW : WF a n) (hR : RB σ B a n) (hD : RD σ B a n) {k w : Nat} (hk : k < n) (hw4 : w < 4) : E KA_tell [.ref 72, .ref B, .int (nI k), .int (nI w)] (HH σ δ) (some (.int (tellA a n k w))) (HH σ δ) := by
  have h8 := hW.n8
  have h2 := hR.c
  have hw := hW.wid
  have hh := hW.hei
  refine E.ofL [some (.ref 72), some (.ref B), some (.int (nI k)), some (.int (nI w))] rfl pn_RX2 rfl (fun sc => ?_)
  generalize hRz : (fun (zr : Option Value) (zk : XH) => zr = some (.int (tellA a n k w)) ∧ zk = HH σ δ) = R
  refine g_iconst dX2_tell_0 ic_m1 ?_
  refine g_istore dX2_tell_1 rfl ?_
  refine g_iconst dX2_tell_3 ic_m1 ?_
  refine g_istore dX2_tell_4 rfl ?_
  refine g_iconst dX2_tell_6 ic_0 ?_
  refine g_istore dX2_tell_7 rfl ?_
  refine g_iconst dX2_tell_9 ic_0 ?_
  refine g_istore dX2_tell_10 rfl ?_
  have H12 : ∀ (N : Nat) (y : Nat) (u v : Int32) (c : Nat), y ≤ (a 1).toNatClampNeg → tl3 (fitP a n k) (16 * y) u v c → (a 1).toNatClampNeg - y < N → G sc KA_tell 12 (aL [some (.ref 72), some (.ref B), some (.int (nI k)), some (.int (nI w)), some (.int u), some (.int v), some (.int (nI c)), some (.int (nI y))]) [] (HH σ δ) (0, 0) R := by
    intro N
    induction N with
    | zero => intro y u v c h1 hb hN12; exact absurd hN12 (Nat.not_lt_zero _)
    | succ N ih12 =>
      intro y u v c h1 hb hN12
      refine g_iload dX2_tell_12 rfl ?_
      refine g_aload_n dX2_tell_14 rfl ?_
      refine q_geti dX2_tell_15 f_A_21 (ckL_0 hB) (by decide) ty_0_1 ?_
      refine g_top (hR.h.trans hh.2.2) ?_
      refine n_icmp_ge (tgt := 83) (by omega) (by omega) dX2_tell_18 rfl (fun zc18 => ?_) (fun zc18 => ?_)
      · have hz := tl3_skip hb (show 16 * y ≤ 256 by omega) (fp_gap2 hW hk (by omega))
        refine g_iload_n dX2_tell_83 rfl ?_
        refine g_iconst dX2_tell_84 ic_3 ?_
        refine n_icmp_ne (tgt := 91) (by omega) (by omega) dX2_tell_85 rfl (fun zc85 => ?_) (fun zc85 => ?_)
        · refine g_iload_n dX2_tell_91 rfl ?_
          refine g_iconst dX2_tell_92 ic_2 ?_
          refine n_icmp_ne (tgt := 101) (by omega) (by omega) dX2_tell_93 rfl (fun zc93 => ?_) (fun zc93 => ?_)
          · refine g_iload dX2_tell_101 rfl ?_
            exact g_iret (S := []) dX2_tell_103 rfl (by rw [← hRz]; exact ⟨congrArg (fun zz => some (Value.int zz)) (show _ = _ by first | exact tl3_2 hz zc93 | exact tl3_0w hz zc85 zc93), by rfl⟩) (Nat.zero_le _) (Nat.zero_le _)
          · refine g_iload dX2_tell_96 rfl ?_
            refine g_goto (tgt := 103) dX2_tell_98 rfl ?_
            exact g_iret (S := []) dX2_tell_103 rfl (by rw [← hRz]; exact ⟨congrArg (fun zz => some (Value.int zz)) (show _ = _ by first | exact tl3_2 hz zc93 | exact tl3_0w hz zc85 zc93), by rfl⟩) (Nat.zero_le _) (Nat.zero_le _)
        · refine g_iload dX2_tell_88 rfl ?_
          exact g_iret (S := []) dX2_tell_90 rfl (by rw [← hRz]; exact ⟨congrArg (fun zz => some (Value.int zz)) (show _ = _ by exact tl3_3 hz zc85), by rfl⟩) (Nat.zero_le _) (Nat.zero_le _)
      · refine g_iconst dX2_tell_21 ic_0 ?_
        refine g_istore dX2_tell_22 rfl ?_
        have H24 : ∀ (N : Nat) (x : Nat) (u v : Int32) (c : Nat), x ≤ (a 0).toNatClampNeg → tl3 (fitP a n k) (16 * y + x) u v c → (a 0).toNatClampNeg - x < N → G sc KA_tell 24 (aL [some (.ref 72), some (.ref B), some (.int (nI k)), some (.int (nI w)), some (.int u), some (.int v), some (.int (nI c)), some (.int (nI y)), some (.int (nI x))]) [] (HH σ δ) (0, 0) R := by
          intro N
          induction N with
          | zero => intro x u v c h3 hb1 hN24; exact absurd hN24 (Nat.not_lt_zero _)
          | succ N ih24 =>
            intro x u v c h3 hb1 hN24
            have hc := tl3_c hb1
            refine g_iload dX2_tell_24 rfl ?_
            refine g_aload_n dX2_tell_26 rfl ?_
            refine q_geti dX2_tell_27 f_A_27 (ckL_0 hB) (by decide) ty_0_0 ?_
            refine g_top (hR.w.trans hw.2.2) ?_
            refine n_icmp_ge (tgt := 77) (by omega) (by omega) dX2_tell_30 rfl (fun zc30 => ?_) (fun zc30 => ?_)
            · refine n_iinc (b := 1) dX2_tell_77 rfl rfl rfl ?_
              refine g_goto (tgt := 12) dX2_tell_80 rfl ?_
              exact g_can _ (by exact ⟨rfl, rfl, rfl, rfl, rfl, rfl, rfl, rfl, trivial⟩) (ih12 (y + 1) _ _ _ (by omega) (tl3_skip hb1 (by omega) (fp_gap hW hk (by omega) (by omega))) (by omega))
            · refine g_aload_n dX2_tell_33 rfl ?_
              refine g_iload_n dX2_tell_34 rfl ?_
              refine g_iload dX2_tell_35 rfl ?_
              refine g_iload dX2_tell_37 rfl ?_
              refine g_v3 (M' := KL_hasRoom) dX2_tell_39 l_A_30 v_KL_hasRoom (c_KL_hasRoom hB hW hR hD hk (Or.inr ⟨x, by omega, by omega, rfl⟩)) (rcL hB) rfl rfl ⟨rfl, rfl⟩ ?_
              refine b_if_eq (tgt := 71) dX2_tell_42 rfl (fun zc42 => ?_) (fun zc42 => ?_)
              · refine n_iinc (b := 1) dX2_tell_71 rfl rfl rfl ?_
                refine g_goto (tgt := 24) dX2_tell_74 rfl ?_
                exact g_can _ (by exact ⟨rfl, rfl, rfl, rfl, rfl, rfl, rfl, rfl, rfl, trivial⟩) (ih24 (x + 1) _ _ _ (by omega) (by first | exact tl3_n (p := 16 * y + x) hb1 (fp_at (by omega) zc42) | exact tl3_y0 (p := 16 * y + x) hb1 (fp_at (by omega) zc42) (by omega) zc56 | exact tl3_y1 (p := 16 * y + x) hb1 (fp_at (by omega) zc42) (by omega) zc56) (by omega))
              · refine g_iload dX2_tell_45 rfl ?_
                refine g_iload dX2_tell_47 rfl ?_
                refine g_s2N (M' := KP_placeOf) dX2_tell_49 l_A_34 s_KP_placeOf c_KP_placeOf rfl rfl ⟨rfl, rfl⟩ ?_
                refine g_istore dX2_tell_52 rfl ?_
                refine g_iload dX2_tell_54 rfl ?_
                refine n_if_ne (tgt := 64) (by omega) dX2_tell_56 rfl (fun zc56 => ?_) (fun zc56 => ?_)
                · refine g_iload dX2_tell_64 rfl ?_
                  refine g_istore dX2_tell_66 rfl ?_
                  refine n_iinc (b := 1) dX2_tell_68 rfl rfl rfl ?_
                  refine n_iinc (b := 1) dX2_tell_71 rfl rfl rfl ?_
                  refine g_goto (tgt := 24) dX2_tell_74 rfl ?_
                  exact g_can _ (by exact ⟨rfl, rfl, rfl, rfl, rfl, rfl, rfl, rfl, rfl, trivial⟩) (ih24 (x + 1) _ _ _ (by omega) (by first | exact tl3_n (p := 16 * y + x) hb1 (fp_at (by omega) zc42) | exact tl3_y0 (p := 16 * y + x) hb1 (fp_at (by omega) zc42) (by omega) zc56 | exact tl3_y1 (p := 16 * y + x) hb1 (fp_at (by omega) zc42) (by omega) zc56) (by omega))
                · refine g_iload dX2_tell_59 rfl ?_
                  refine g_goto (tgt := 66) dX2_tell_61 rfl ?_
                  refine g_istore dX2_tell_66 rfl ?_
                  refine n_iinc (b := 1) dX2_tell_68 rfl rfl rfl ?_
                  refine n_iinc (b := 1) dX2_tell_71 rfl rfl rfl ?_
                  refine g_goto (tgt := 24) dX2_tell_74 rfl ?_
                  exact g_can _ (by exact ⟨rfl, rfl, rfl, rfl, rfl, rfl, rfl, rfl, rfl, trivial⟩) (ih24 (x + 1) _ _ _ (by omega) (by first | exact tl3_n (p := 16 * y + x) hb1 (fp_at (by omega) zc42) | exact tl3_y0 (p := 16 * y + x) hb1 (fp_at (by omega) zc42) (by omega) zc56 | exact tl3_y1 (p := 16 * y + x) hb1 (fp_at (by omega) zc42) (by omega) zc56) (by omega))
        exact g_can _ (by exact ⟨rfl, rfl, rfl, rfl, rfl, rfl, rfl, rfl, rfl, trivial⟩) (H24 _ 0 _ _ _ (by omega) hb (Nat.lt_succ_self _))
  exact g_can _ (by exact ⟨rfl, rfl, rfl, rfl, rfl, rfl, rfl, rfl, trivial⟩) (H12 _ 0 _ _ 0 (by omega) tl3_0 (Nat.lt_succ_self _))
set_option maxRecDepth 100000 in
theorem c_KP_free_ok0 {σ : SI} {δ : SD} {a : Nat → Int32} {n s o tl : Nat} {P : Nat → Nat → Int32} {tx rf : Nat → Int32} (hI : IC σ a n s o P tl tx rf) {k : Nat} (hk : k < n) : E KP_free [.ref 5, .int (nI k), .int (nI 0)] (HH σ δ) (some (.int (tellA a n k 0))) (HH σ δ) := by
  have hW := hI.hl.wf
  have hR := hI.hl.rb
  have hD := hI.hl.rd
  have h2 := hR.c
  have h8 := hW.n8
  have hB := LB_6
  refine E.ofL [some (.ref 5), some (.int (nI k)), some (.int (nI 0))] rfl pn_RX8 rfl (fun sc => ?_)
  refine g_aload_n dX8_free_0 rfl ?_
  refine q_getq dX8_free_1 f_P_12 ck_5 (by decide) ty_7_0 rf_5_0 ?_
  refine g_iload_n dX8_free_4 rfl ?_
  refine g_v1 (M' := KL_hasItem) dX8_free_5 l_P_78 v_KL_hasItem (c_KL_hasItem LB_6 h2 h8) (rcL LB_6) rfl rfl ⟨rfl, rfl⟩ ?_
  refine g_top (it1 hk h8) ?_
  refine n_if_eq (tgt := 24) (by omega) dX8_free_8 rfl (fun zc8 => absurd zc8 (by decide)) (fun _ => ?_)
  refine g_iload_n dX8_free_11 rfl ?_
  refine g_iconst dX8_free_12 ic_0 ?_
  refine g_iconst dX8_free_13 ic_3 ?_
  refine g_s3 (M' := KP_within) dX8_free_14 l_P_96 s_KP_within c_KP_within rfl rfl ⟨rfl, rfl⟩ ?_
  refine g_top (in1 (Nat.zero_le _) (by omega) (by decide)) ?_
  refine n_if_eq (tgt := 24) (by omega) dX8_free_17 rfl (fun zc17 => absurd zc17 (by decide)) (fun _ => ?_)
  refine g_iconst dX8_free_20 ic_1 ?_
  refine g_top bI_t.symm ?_
  refine g_goto (tgt := 25) dX8_free_21 rfl ?_
  refine g_s1 (M' := KP_goodIf) dX8_free_25 l_P_81 s_KP_goodIf c_KP_goodIf rfl rfl ⟨rfl, rfl⟩ ?_
  refine g_top (if_pos rfl) ?_
  refine g_istore_n dX8_free_28 rfl ?_
  refine g_aload_n dX8_free_29 rfl ?_
  refine g_iload_n dX8_free_30 rfl ?_
  refine g_v1 (M' := KP_mayAnswer) dX8_free_31 l_P_100 v_KP_mayAnswer c_KP_mayAnswer0 rc_5 rfl rfl ⟨rfl, rfl⟩ ?_
  refine b_if_ne (tgt := 39) dX8_free_34 rfl (fun zc34 => ?_) (fun zc34 => ?_)
  · refine g_iload_n dX8_free_39 rfl ?_
    refine g_iconst dX8_free_40 ic_1 ?_
    refine n_icmp_ne (tgt := 63) (by omega) (by omega) dX8_free_41 rfl (fun zc41 => ?_) (fun zc41 => ?_)
    · refine g_aload_n dX8_free_63 rfl ?_
      refine q_getq dX8_free_64 f_P_36 ck_5 (by decide) ty_7_3 rf_5_3 ?_
      refine g_aload_n dX8_free_67 rfl ?_
      refine q_getq dX8_free_68 f_P_12 ck_5 (by decide) ty_7_0 rf_5_0 ?_
      refine g_iload_n dX8_free_71 rfl ?_
      refine g_iload_n dX8_free_72 rfl ?_
      refine g_v3 (M' := KA_tell) dX8_free_73 l_P_148 v_KA_tell (c_KA_tell LB_6 hW hR hD hk (by decide)) rc_72 rfl rfl ⟨rfl, rfl⟩ ?_
      exact e_iret dX8_free_76 rfl (by rfl) (by rfl)
    · exact absurd zc41 (by decide)
  · exact absurd zc34 (by decide)
set_option maxRecDepth 100000 in
theorem c_KR_free_ok0 {σ : SI} {δ : SD} {a : Nat → Int32} {n s tl : Nat} {P : Nat → Nat → Int32} {tx rf : Nat → Int32} (hJ : IR σ a s P tl tx rf) (hs : s ≤ 5) (hW : WF a n) {k : Nat} (hk : k < n) : E KR_free [.ref 84, .int (nI k), .int (nI 0)] (HH σ δ) (some (.int (tellA a n k 0))) (HH σ δ) := by
  obtain rfl := hJ.row
  have h3 := hJ.sd
  have hn := hW.n8
  have h7 := hW.a7
  have h8 := hW.n8
  refine E.ofL [some (.ref 84), some (.int (nI k)), some (.int (nI 0))] rfl pn_RX9 rfl (fun sc => ?_)
  refine g_aload_n dX9_free_0 rfl ?_
  refine g_iload_n dX9_free_1 rfl ?_
  refine g_v1 (M' := KR_isItem) dX9_free_2 l_R_94 v_KR_isItem (c_KR_isItem h7 hn) rc_84 rfl rfl ⟨rfl, rfl⟩ ?_
  refine g_top (it1 hk hn) ?_
  refine n_if_eq (tgt := 29) (by omega) dX9_free_5 rfl (fun zc5 => absurd zc5 (by decide)) (fun _ => ?_)
  refine g_iload_n dX9_free_8 rfl ?_
  refine g_i2l dX9_free_9 ?_
  refine g_lconst (v := 0) dX9_free_10 rfl ?_
  refine g_ldcl dX9_free_11 c_R_131 ?_
  refine g_s3 (M' := KR_in) dX9_free_14 l_R_46 s_KR_in c_KR_in rfl rfl ⟨rfl, rfl⟩ ?_
  refine g_top (show _ = nI 1 by decide +kernel) ?_
  refine n_if_eq (tgt := 29) (by omega) dX9_free_17 rfl (fun zc17 => absurd zc17 (by decide)) (fun _ => ?_)
  refine g_aload_n dX9_free_20 rfl ?_
  refine g_iload_n dX9_free_21 rfl ?_
  refine g_iload_n dX9_free_22 rfl ?_
  refine g_v2 (M' := KR_freeNow) dX9_free_23 l_R_200 v_KR_freeNow (c_KR_freeNow0 hW hk) rc_84 rfl rfl ⟨rfl, rfl⟩ ?_
  refine g_goto (tgt := 35) dX9_free_26 rfl ?_
  exact e_iret dX9_free_35 rfl (by rfl) (by rfl)
set_option maxRecDepth 100000 in
theorem c_KP_free_ok2 {σ : SI} {δ : SD} {a : Nat → Int32} {n s o tl : Nat} {P : Nat → Nat → Int32} {tx rf : Nat → Int32} (hI : IC σ a n s o P tl tx rf) {k : Nat} (hk : k < n) : E KP_free [.ref 5, .int (nI k), .int (nI 2)] (HH σ δ) (some (.int (tellA a n k 2))) (HH σ δ) := by
  have hW := hI.hl.wf
  have hR := hI.hl.rb
  have hD := hI.hl.rd
  have h2 := hR.c
  have h8 := hW.n8
  have hB := LB_6
  refine E.ofL [some (.ref 5), some (.int (nI k)), some (.int (nI 2))] rfl pn_RX8 rfl (fun sc => ?_)
  refine g_aload_n dX8_free_0 rfl ?_
  refine q_getq dX8_free_1 f_P_12 ck_5 (by decide) ty_7_0 rf_5_0 ?_
  refine g_iload_n dX8_free_4 rfl ?_
  refine g_v1 (M' := KL_hasItem) dX8_free_5 l_P_78 v_KL_hasItem (c_KL_hasItem LB_6 h2 h8) (rcL LB_6) rfl rfl ⟨rfl, rfl⟩ ?_
  refine g_top (it1 hk h8) ?_
  refine n_if_eq (tgt := 24) (by omega) dX8_free_8 rfl (fun zc8 => absurd zc8 (by decide)) (fun _ => ?_)
  refine g_iload_n dX8_free_11 rfl ?_
  refine g_iconst dX8_free_12 ic_0 ?_
  refine g_iconst dX8_free_13 ic_3 ?_
  refine g_s3 (M' := KP_within) dX8_free_14 l_P_96 s_KP_within c_KP_within rfl rfl ⟨rfl, rfl⟩ ?_
  refine g_top (in1 (Nat.zero_le _) (by omega) (by decide)) ?_
  refine n_if_eq (tgt := 24) (by omega) dX8_free_17 rfl (fun zc17 => absurd zc17 (by decide)) (fun _ => ?_)
  refine g_iconst dX8_free_20 ic_1 ?_
  refine g_top bI_t.symm ?_
  refine g_goto (tgt := 25) dX8_free_21 rfl ?_
  refine g_s1 (M' := KP_goodIf) dX8_free_25 l_P_81 s_KP_goodIf c_KP_goodIf rfl rfl ⟨rfl, rfl⟩ ?_
  refine g_top (if_pos rfl) ?_
  refine g_istore_n dX8_free_28 rfl ?_
  refine g_aload_n dX8_free_29 rfl ?_
  refine g_iload_n dX8_free_30 rfl ?_
  refine g_v1 (M' := KP_mayAnswer) dX8_free_31 l_P_100 v_KP_mayAnswer c_KP_mayAnswer0 rc_5 rfl rfl ⟨rfl, rfl⟩ ?_
  refine b_if_ne (tgt := 39) dX8_free_34 rfl (fun zc34 => ?_) (fun zc34 => ?_)
  · refine g_iload_n dX8_free_39 rfl ?_
    refine g_iconst dX8_free_40 ic_1 ?_
    refine n_icmp_ne (tgt := 63) (by omega) (by omega) dX8_free_41 rfl (fun zc41 => ?_) (fun zc41 => ?_)
    · refine g_aload_n dX8_free_63 rfl ?_
      refine q_getq dX8_free_64 f_P_36 ck_5 (by decide) ty_7_3 rf_5_3 ?_
      refine g_aload_n dX8_free_67 rfl ?_
      refine q_getq dX8_free_68 f_P_12 ck_5 (by decide) ty_7_0 rf_5_0 ?_
      refine g_iload_n dX8_free_71 rfl ?_
      refine g_iload_n dX8_free_72 rfl ?_
      refine g_v3 (M' := KA_tell) dX8_free_73 l_P_148 v_KA_tell (c_KA_tell LB_6 hW hR hD hk (by decide)) rc_72 rfl rfl ⟨rfl, rfl⟩ ?_
      exact e_iret dX8_free_76 rfl (by rfl) (by rfl)
    · exact absurd zc41 (by decide)
  · exact absurd zc34 (by decide)
set_option maxRecDepth 100000 in
theorem c_KR_free_ok2 {σ : SI} {δ : SD} {a : Nat → Int32} {n s tl : Nat} {P : Nat → Nat → Int32} {tx rf : Nat → Int32} (hJ : IR σ a s P tl tx rf) (hs : s ≤ 5) (hW : WF a n) {k : Nat} (hk : k < n) : E KR_free [.ref 84, .int (nI k), .int (nI 2)] (HH σ δ) (some (.int (tellA a n k 2))) (HH σ δ) := by
  obtain rfl := hJ.row
  have h3 := hJ.sd
  have hn := hW.n8
  have h7 := hW.a7
  have h8 := hW.n8
  refine E.ofL [some (.ref 84), some (.int (nI k)), some (.int (nI 2))] rfl pn_RX9 rfl (fun sc => ?_)
  refine g_aload_n dX9_free_0 rfl ?_
  refine g_iload_n dX9_free_1 rfl ?_
  refine g_v1 (M' := KR_isItem) dX9_free_2 l_R_94 v_KR_isItem (c_KR_isItem h7 hn) rc_84 rfl rfl ⟨rfl, rfl⟩ ?_
  refine g_top (it1 hk hn) ?_
  refine n_if_eq (tgt := 29) (by omega) dX9_free_5 rfl (fun zc5 => absurd zc5 (by decide)) (fun _ => ?_)
  refine g_iload_n dX9_free_8 rfl ?_
  refine g_i2l dX9_free_9 ?_
  refine g_lconst (v := 0) dX9_free_10 rfl ?_
  refine g_ldcl dX9_free_11 c_R_131 ?_
  refine g_s3 (M' := KR_in) dX9_free_14 l_R_46 s_KR_in c_KR_in rfl rfl ⟨rfl, rfl⟩ ?_
  refine g_top (show _ = nI 1 by decide +kernel) ?_
  refine n_if_eq (tgt := 29) (by omega) dX9_free_17 rfl (fun zc17 => absurd zc17 (by decide)) (fun _ => ?_)
  refine g_aload_n dX9_free_20 rfl ?_
  refine g_iload_n dX9_free_21 rfl ?_
  refine g_iload_n dX9_free_22 rfl ?_
  refine g_v2 (M' := KR_freeNow) dX9_free_23 l_R_200 v_KR_freeNow (c_KR_freeNow2 hW hk) rc_84 rfl rfl ⟨rfl, rfl⟩ ?_
  refine g_goto (tgt := 35) dX9_free_26 rfl ?_
  exact e_iret dX9_free_35 rfl (by rfl) (by rfl)
set_option maxRecDepth 100000 in
theorem c_KP_free_ok3 {σ : SI} {δ : SD} {a : Nat → Int32} {n s o tl : Nat} {P : Nat → Nat → Int32} {tx rf : Nat → Int32} (hI : IC σ a n s o P tl tx rf) {k : Nat} (hk : k < n) : E KP_free [.ref 5, .int (nI k), .int (nI 3)] (HH σ δ) (some (.int (tellA a n k 3))) (HH σ δ) := by
  have hW := hI.hl.wf
  have hR := hI.hl.rb
  have hD := hI.hl.rd
  have h2 := hR.c
  have h8 := hW.n8
  have hB := LB_6
  refine E.ofL [some (.ref 5), some (.int (nI k)), some (.int (nI 3))] rfl pn_RX8 rfl (fun sc => ?_)
  refine g_aload_n dX8_free_0 rfl ?_
  refine q_getq dX8_free_1 f_P_12 ck_5 (by decide) ty_7_0 rf_5_0 ?_
  refine g_iload_n dX8_free_4 rfl ?_
  refine g_v1 (M' := KL_hasItem) dX8_free_5 l_P_78 v_KL_hasItem (c_KL_hasItem LB_6 h2 h8) (rcL LB_6) rfl rfl ⟨rfl, rfl⟩ ?_
  refine g_top (it1 hk h8) ?_
  refine n_if_eq (tgt := 24) (by omega) dX8_free_8 rfl (fun zc8 => absurd zc8 (by decide)) (fun _ => ?_)
  refine g_iload_n dX8_free_11 rfl ?_
  refine g_iconst dX8_free_12 ic_0 ?_
  refine g_iconst dX8_free_13 ic_3 ?_
  refine g_s3 (M' := KP_within) dX8_free_14 l_P_96 s_KP_within c_KP_within rfl rfl ⟨rfl, rfl⟩ ?_
  refine g_top (in1 (Nat.zero_le _) (by omega) (by decide)) ?_
  refine n_if_eq (tgt := 24) (by omega) dX8_free_17 rfl (fun zc17 => absurd zc17 (by decide)) (fun _ => ?_)
  refine g_iconst dX8_free_20 ic_1 ?_
  refine g_top bI_t.symm ?_
  refine g_goto (tgt := 25) dX8_free_21 rfl ?_
  refine g_s1 (M' := KP_goodIf) dX8_free_25 l_P_81 s_KP_goodIf c_KP_goodIf rfl rfl ⟨rfl, rfl⟩ ?_
  refine g_top (if_pos rfl) ?_
  refine g_istore_n dX8_free_28 rfl ?_
  refine g_aload_n dX8_free_29 rfl ?_
  refine g_iload_n dX8_free_30 rfl ?_
  refine g_v1 (M' := KP_mayAnswer) dX8_free_31 l_P_100 v_KP_mayAnswer c_KP_mayAnswer0 rc_5 rfl rfl ⟨rfl, rfl⟩ ?_
  refine b_if_ne (tgt := 39) dX8_free_34 rfl (fun zc34 => ?_) (fun zc34 => ?_)
  · refine g_iload_n dX8_free_39 rfl ?_
    refine g_iconst dX8_free_40 ic_1 ?_
    refine n_icmp_ne (tgt := 63) (by omega) (by omega) dX8_free_41 rfl (fun zc41 => ?_) (fun zc41 => ?_)
    · refine g_aload_n dX8_free_63 rfl ?_
      refine q_getq dX8_free_64 f_P_36 ck_5 (by decide) ty_7_3 rf_5_3 ?_
      refine g_aload_n dX8_free_67 rfl ?_
      refine q_getq dX8_free_68 f_P_12 ck_5 (by decide) ty_7_0 rf_5_0 ?_
      refine g_iload_n dX8_free_71 rfl ?_
      refine g_iload_n dX8_free_72 rfl ?_
      refine g_v3 (M' := KA_tell) dX8_free_73 l_P_148 v_KA_tell (c_KA_tell LB_6 hW hR hD hk (by decide)) rc_72 rfl rfl ⟨rfl, rfl⟩ ?_
      exact e_iret dX8_free_76 rfl (by rfl) (by rfl)
    · exact absurd zc41 (by decide)
  · exact absurd zc34 (by decide)
set_option maxRecDepth 100000 in
theorem c_KR_free_ok3 {σ : SI} {δ : SD} {a : Nat → Int32} {n s tl : Nat} {P : Nat → Nat → Int32} {tx rf : Nat → Int32} (hJ : IR σ a s P tl tx rf) (hs : s ≤ 5) (hW : WF a n) {k : Nat} (hk : k < n) : E KR_free [.ref 84, .int (nI k), .int (nI 3)] (HH σ δ) (some (.int (tellA a n k 3))) (HH σ δ) := by
  obtain rfl := hJ.row
  have h3 := hJ.sd
  have hn := hW.n8
  have h7 := hW.a7
  have h8 := hW.n8
  refine E.ofL [some (.ref 84), some (.int (nI k)), some (.int (nI 3))] rfl pn_RX9 rfl (fun sc => ?_)
  refine g_aload_n dX9_free_0 rfl ?_
  refine g_iload_n dX9_free_1 rfl ?_
  refine g_v1 (M' := KR_isItem) dX9_free_2 l_R_94 v_KR_isItem (c_KR_isItem h7 hn) rc_84 rfl rfl ⟨rfl, rfl⟩ ?_
  refine g_top (it1 hk hn) ?_
  refine n_if_eq (tgt := 29) (by omega) dX9_free_5 rfl (fun zc5 => absurd zc5 (by decide)) (fun _ => ?_)
  refine g_iload_n dX9_free_8 rfl ?_
  refine g_i2l dX9_free_9 ?_
  refine g_lconst (v := 0) dX9_free_10 rfl ?_
  refine g_ldcl dX9_free_11 c_R_131 ?_
  refine g_s3 (M' := KR_in) dX9_free_14 l_R_46 s_KR_in c_KR_in rfl rfl ⟨rfl, rfl⟩ ?_
  refine g_top (show _ = nI 1 by decide +kernel) ?_
  refine n_if_eq (tgt := 29) (by omega) dX9_free_17 rfl (fun zc17 => absurd zc17 (by decide)) (fun _ => ?_)
  refine g_aload_n dX9_free_20 rfl ?_
  refine g_iload_n dX9_free_21 rfl ?_
  refine g_iload_n dX9_free_22 rfl ?_
  refine g_v2 (M' := KR_freeNow) dX9_free_23 l_R_200 v_KR_freeNow (c_KR_freeNow3 hW hk) rc_84 rfl rfl ⟨rfl, rfl⟩ ?_
  refine g_goto (tgt := 35) dX9_free_26 rfl ?_
  exact e_iret dX9_free_35 rfl (by rfl) (by rfl)
set_option maxRecDepth 100000 in
theorem c_KP_free_no2 {σ : SI} {δ : SD} {a : Nat → Int32} {n s o tl : Nat} {P : Nat → Nat → Int32} {tx rf : Nat → Int32} (hI : IC σ a n s o P tl tx rf) {k what : Int32} (hk : ¬ (itB k n && inB what (nI 0) (nI 3)) = true) : E KP_free [.ref 5, .int k, .int what] (HH σ δ) (some (.int (-2))) (HH (rfC σ 0) δ) := by
  have hW := hI.hl.wf
  have hR := hI.hl.rb
  have hD := hI.hl.rd
  have h2 := hR.c
  have h8 := hW.n8
  have hB := LB_6
  refine E.ofL [some (.ref 5), some (.int k), some (.int what)] rfl pn_RX8 rfl (fun sc => ?_)
  refine g_aload_n dX8_free_0 rfl ?_
  refine q_getq dX8_free_1 f_P_12 ck_5 (by decide) ty_7_0 rf_5_0 ?_
  refine g_iload_n dX8_free_4 rfl ?_
  refine g_v1 (M' := KL_hasItem) dX8_free_5 l_P_78 v_KL_hasItem (c_KL_hasItem LB_6 h2 h8) (rcL LB_6) rfl rfl ⟨rfl, rfl⟩ ?_
  refine b_if_eq (tgt := 24) dX8_free_8 rfl (fun zc8 => ?_) (fun zc8 => ?_)
  · refine g_iconst dX8_free_24 ic_0 ?_
    refine g_top bI_f.symm ?_
    refine g_s1 (M' := KP_goodIf) dX8_free_25 l_P_81 s_KP_goodIf c_KP_goodIf rfl rfl ⟨rfl, rfl⟩ ?_
    refine g_top (if_neg (by decide)) ?_
    refine g_istore_n dX8_free_28 rfl ?_
    refine g_aload_n dX8_free_29 rfl ?_
    refine g_iload_n dX8_free_30 rfl ?_
    refine g_v1 (M' := KP_mayAnswer) dX8_free_31 l_P_100 v_KP_mayAnswer c_KP_mayAnswer2 rc_5 rfl rfl ⟨rfl, rfl⟩ ?_
    refine b_if_ne (tgt := 39) dX8_free_34 rfl (fun zc34 => ?_) (fun zc34 => ?_)
    · exact absurd zc34 (by decide)
    · refine g_iload_n dX8_free_37 rfl ?_
      exact e_iret dX8_free_38 rfl (by rfl) (by rfl)
  · refine g_iload_n dX8_free_11 rfl ?_
    refine g_iconst dX8_free_12 ic_0 ?_
    refine g_iconst dX8_free_13 ic_3 ?_
    refine g_s3 (M' := KP_within) dX8_free_14 l_P_96 s_KP_within c_KP_within rfl rfl ⟨rfl, rfl⟩ ?_
    refine b_if_eq (tgt := 24) dX8_free_17 rfl (fun zc17 => ?_) (fun zc17 => ?_)
    · refine g_iconst dX8_free_24 ic_0 ?_
      refine g_top bI_f.symm ?_
      refine g_s1 (M' := KP_goodIf) dX8_free_25 l_P_81 s_KP_goodIf c_KP_goodIf rfl rfl ⟨rfl, rfl⟩ ?_
      refine g_top (if_neg (by decide)) ?_
      refine g_istore_n dX8_free_28 rfl ?_
      refine g_aload_n dX8_free_29 rfl ?_
      refine g_iload_n dX8_free_30 rfl ?_
      refine g_v1 (M' := KP_mayAnswer) dX8_free_31 l_P_100 v_KP_mayAnswer c_KP_mayAnswer2 rc_5 rfl rfl ⟨rfl, rfl⟩ ?_
      refine b_if_ne (tgt := 39) dX8_free_34 rfl (fun zc34 => ?_) (fun zc34 => ?_)
      · exact absurd zc34 (by decide)
      · refine g_iload_n dX8_free_37 rfl ?_
        exact e_iret dX8_free_38 rfl (by rfl) (by rfl)
    · exact absurd (show (itB k n && inB what (nI 0) (nI 3)) = true by rw [zc8, zc17]; rfl) hk
set_option maxRecDepth 100000 in
theorem c_KR_free_no2 {σ : SI} {δ : SD} {a : Nat → Int32} {n s tl : Nat} {P : Nat → Nat → Int32} {tx rf : Nat → Int32} (hJ : IR σ a s P tl tx rf) (hs : s ≤ 5) (hW : WF a n) {k what : Int32} (hk : ¬ (itB k n && inB what (nI 0) (nI 3)) = true) : E KR_free [.ref 84, .int k, .int what] (HH σ δ) (some (.int (-2))) (HH (rfM σ 0) δ) := by
  obtain rfl := hJ.row
  have h3 := hJ.sd
  have hn := hW.n8
  have h7 := hW.a7
  have h8 := hW.n8
  refine E.ofL [some (.ref 84), some (.int k), some (.int what)] rfl pn_RX9 rfl (fun sc => ?_)
  refine g_aload_n dX9_free_0 rfl ?_
  refine g_iload_n dX9_free_1 rfl ?_
  refine g_v1 (M' := KR_isItem) dX9_free_2 l_R_94 v_KR_isItem (c_KR_isItem h7 hn) rc_84 rfl rfl ⟨rfl, rfl⟩ ?_
  refine b_if_eq (tgt := 29) dX9_free_5 rfl (fun zc5 => ?_) (fun zc5 => ?_)
  · refine g_aload_n dX9_free_29 rfl ?_
    refine g_bipush dX9_free_30 bp_m2 ?_
    refine g_v1 (M' := KR_refuses) dX9_free_32 l_R_101 v_KR_refuses c_KR_refuses0 rc_84 rfl rfl ⟨rfl, rfl⟩ ?_
    exact e_iret dX9_free_35 rfl (by rfl) (by rfl)
  · refine g_iload_n dX9_free_8 rfl ?_
    refine g_i2l dX9_free_9 ?_
    refine g_lconst (v := 0) dX9_free_10 rfl ?_
    refine g_ldcl dX9_free_11 c_R_131 ?_
    refine g_s3 (M' := KR_in) dX9_free_14 l_R_46 s_KR_in c_KR_in rfl rfl ⟨rfl, rfl⟩ ?_
    refine b_if_eq (tgt := 29) dX9_free_17 rfl (fun zc17 => ?_) (fun zc17 => ?_)
    · refine g_aload_n dX9_free_29 rfl ?_
      refine g_bipush dX9_free_30 bp_m2 ?_
      refine g_v1 (M' := KR_refuses) dX9_free_32 l_R_101 v_KR_refuses c_KR_refuses0 rc_84 rfl rfl ⟨rfl, rfl⟩ ?_
      exact e_iret dX9_free_35 rfl (by rfl) (by rfl)
    · simp only [w64_0, w64_3, inL_wide] at zc17; exact absurd (show (itB k n && inB what (nI 0) (nI 3)) = true by rw [zc5, zc17]; rfl) hk
