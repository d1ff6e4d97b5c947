/-! CONTRACTS: the greatest block -/
/-- how many white ones from a place on, in its row -/
def rnF (f : Nat → Bool) (p : Nat) : Nat := rnR f p (16 - p % 16)
abbrev Blk : Type := Nat × Int32 × Int32
/-- blocks with the corner p, of heights 1 to j: the best so far, the width of the last -/
def blJ (f : Nat → Bool) (p : Nat) (s : Blk) : Nat → Blk × Nat
  | 0 => (s, 16 - p % 16)
  | j + 1 => (if (blJ f p s j).1.1 < min (blJ f p s j).2 (rnF f (p + 16 * j)) * (j + 1) then (min (blJ f p s j).2 (rnF f (p + 16 * j)) * (j + 1), nI p, nI (min (blJ f p s j).2 (rnF f (p + 16 * j)))) else (blJ f p s j).1, min (blJ f p s j).2 (rnF f (p + 16 * j)))
/-- the greatest block of those with the first p corners -/
def blA (f : Nat → Bool) : Nat → Blk
  | 0 => (0, -1, -1)
  | p + 1 => (blJ f p (blA f p) (16 - p / 16)).1
def blk (σ : SI) (s : Blk) : SI := uI (uI (uI σ 76 3 (nI s.1)) 76 4 s.2.1) 76 5 s.2.2
def blR (σ : SI) (s : Blk) : SI := uI (uI (uI σ 84 8 (nI s.1)) 84 9 s.2.1) 84 10 s.2.2
section BL
variable {f : Nat → Bool} {σ : SI} {s t : Blk} {p q j m u v W Hh x y c k : Nat}
theorem blk_c (h : c ≠ 76) : blk σ s c = σ c := by unfold blk; rw [uI_ne h, uI_ne h, uI_ne h]
theorem blk_o (h3 : k ≠ 3) (h4 : k ≠ 4) (h5 : k ≠ 5) : blk σ s 76 k = σ 76 k := by unfold blk; rw [uI_oth (by omega), uI_oth (by omega), uI_oth (by omega)]
theorem blk_3 : blk σ s 76 3 = nI s.1 := by unfold blk; rw [uI_oth (by omega), uI_oth (by omega), uI_same]
theorem blR_c (h : c ≠ 84) : blR σ s c = σ c := by unfold blR; rw [uI_ne h, uI_ne h, uI_ne h]
theorem blR_o (h3 : k ≠ 8) (h4 : k ≠ 9) (h5 : k ≠ 10) : blR σ s 84 k = σ 84 k := by unfold blR; rw [uI_oth (by omega), uI_oth (by omega), uI_oth (by omega)]
theorem blR_8 : blR σ s 84 8 = nI s.1 := by unfold blR; rw [uI_oth (by omega), uI_oth (by omega), uI_same]
theorem blR_9 : blR σ s 84 9 = s.2.1 := by unfold blR; rw [uI_oth (by omega), uI_same]
theorem blR_10 : blR σ s 84 10 = s.2.2 := by unfold blR; rw [uI_same]
theorem sm_1 {c : Nat} {a b : Int32} {k1 k2 : Nat} {v : Int32} (h : k1 ≠ k2) : uI (uI σ c k1 a) c k2 v = uI (uI σ c k2 v) c k1 a := by
  funext x y
  unfold uI
  by_cases h1 : x = c ∧ y = k1
  · rw [if_neg (by omega), if_pos h1, if_pos h1]
  · by_cases h2 : x = c ∧ y = k2
    · rw [if_pos h2, if_neg h1, if_pos h2]
    · rw [if_neg h2, if_neg h1, if_neg h1, if_neg h2]
theorem tri_put {c k1 k2 k3 : Nat} {a1 a2 a3 b1 b2 b3 : Int32} (h12 : k1 ≠ k2) (h13 : k1 ≠ k3) (h23 : k2 ≠ k3) : uI (uI (uI (uI (uI (uI σ c k1 a1) c k2 a2) c k3 a3) c k1 b1) c k2 b2) c k3 b3 = uI (uI (uI σ c k1 b1) c k2 b2) c k3 b3 := by
  funext x y
  unfold uI
  by_cases h3 : x = c ∧ y = k3
  · simp only [if_pos h3]
  · by_cases h2 : x = c ∧ y = k2
    · simp only [if_neg h3, if_pos h2]
    · by_cases h1 : x = c ∧ y = k1
      · simp only [if_neg h3, if_neg h2, if_pos h1]
      · simp only [if_neg h3, if_neg h2, if_neg h1]
theorem blk_put {a : Nat} {b d : Int32} : uI (uI (uI (blk σ t) 76 3 (nI a)) 76 4 b) 76 5 d = blk σ (a, b, d) := tri_put (by decide) (by decide) (by decide)
theorem blR_put {a : Nat} {b d : Int32} : uI (uI (uI (blR σ t) 84 8 (nI a)) 84 9 b) 84 10 d = blR σ (a, b, d) := tri_put (by decide) (by decide) (by decide)
/-! runs -/
theorem rnR_le : ∀ m p, rnR f p m ≤ m
  | 0, _ => Nat.le_refl _
  | m + 1, p => by
    unfold rnR
    have := rnR_le m (p + 1)
    split <;> omega
theorem rnR_no (h : f p = false) : ∀ m, rnR f p m = 0
  | 0 => rfl
  | m + 1 => by unfold rnR; rw [h]; rfl
/-- the run is m long, and stops -/
theorem rnR_is : ∀ (m p n : Nat), m ≤ n → (∀ i, i < m → f (p + i) = true) → (m = n ∨ f (p + m) = false) → rnR f p n = m
  | 0, p, n, _, _, h => by
    rcases h with rfl | h
    · rfl
    · exact rnR_no h n
  | m + 1, p, n, hm, ha, h => by
    cases n with
    | zero => omega
    | succ n =>
      unfold rnR
      rw [show f p = true from ha 0 (by omega), if_pos rfl, rnR_is m (p + 1) n (by omega) (fun i hi => by rw [show p + 1 + i = p + (i + 1) by omega]; exact ha (i + 1) (by omega)) (by
        rcases h with h | h
        · exact Or.inl (by omega)
        · exact Or.inr (by rw [show p + 1 + m = p + (m + 1) by omega]; exact h))]
/-- cut at u -/
theorem rnR_min : ∀ (m p n u : Nat), u ≤ n → m ≤ u → (∀ i, i < m → f (p + i) = true) → (m = u ∨ f (p + m) = false) → min u (rnR f p n) = m
  | 0, p, n, u, _, _, _, h => by
    rcases h with h | h
    · omega
    · rw [rnR_no (show f p = false from h) n]; omega
  | m + 1, p, n, u, hu, hm, ha, h => by
    cases n with
    | zero => omega
    | succ n =>
      unfold rnR
      rw [show f p = true from ha 0 (by omega), if_pos rfl]
      have := rnR_min m (p + 1) n (u - 1) (by omega) (by omega) (fun i hi => by rw [show p + 1 + i = p + (i + 1) by omega]; exact ha (i + 1) (by omega)) (by
        rcases h with h | h
        · exact Or.inl (by omega)
        · exact Or.inr (by rw [show p + 1 + m = p + (m + 1) by omega]; exact h))
      omega
theorem rnR_more (hf : ∀ i, m ≤ i → i < m + v → f (p + i) = false) : ∀ (d : Nat), d ≤ v → rnR f p (m + d) = rnR f p m := by
  induction m generalizing p with
  | zero =>
    intro d hd
    cases d with
    | zero => rfl
    | succ d => rw [rnR_no (show f p = false from hf 0 (by omega) (by omega))]; rfl
  | succ m ih =>
    intro d hd
    rw [show m + 1 + d = (m + d) + 1 by omega]
    unfold rnR
    rw [ih (p := p + 1) (fun i h1 h2 => by rw [show p + 1 + i = p + (i + 1) by omega]; exact hf (i + 1) (by omega) (by omega)) d hd]
theorem rnF_W (hf : ∀ p, p < 256 → f p = true → p % 16 < W ∧ p / 16 < Hh) (hx : x < W) (hW : W ≤ 16) (hy : y < 16) : rnF f (16 * y + x) = rnR f (16 * y + x) (W - x) := by
  unfold rnF
  rw [show (16 * y + x) % 16 = x by omega, show 16 - x = (W - x) + (16 - W) by omega]
  refine rnR_more (v := 16 - W) (fun i h1 h2 => ?_) _ (Nat.le_refl _)
  cases e : f (16 * y + x + i) with
  | false => rfl
  | true => have := hf _ (by omega) e; omega
theorem rnF_le : rnF f p ≤ 16 - p % 16 := rnR_le _ _
theorem rnF_no (h : f p = false) : rnF f p = 0 := rnR_no h _
/-! blocks -/
theorem blJ_2 : (blJ f p s (j + 1)).2 = min (blJ f p s j).2 (rnF f (p + 16 * j)) := rfl
theorem blJ_1 : (blJ f p s (j + 1)).1 = if (blJ f p s j).1.1 < (blJ f p s (j + 1)).2 * (j + 1) then ((blJ f p s (j + 1)).2 * (j + 1), nI p, nI (blJ f p s (j + 1)).2) else (blJ f p s j).1 := rfl
theorem blJ_le : ∀ j, (blJ f p s j).2 ≤ 16 - p % 16
  | 0 => Nat.le_refl _
  | j + 1 => by rw [blJ_2]; have := blJ_le j; omega
theorem blJ_0 (h : (blJ f p s (j + 1)).2 = 0) : (blJ f p s (j + 1)).1 = (blJ f p s j).1 := by rw [blJ_1, h, Nat.zero_mul, if_neg (Nat.not_lt_zero _)]
theorem blJ_stop (h : (blJ f p s j).2 = 0) : ∀ d, (blJ f p s (j + d)).1 = (blJ f p s j).1 ∧ (blJ f p s (j + d)).2 = 0
  | 0 => ⟨rfl, h⟩
  | d + 1 => by
    have ih := blJ_stop h d
    have h2 : (blJ f p s (j + (d + 1))).2 = 0 := by
      show (blJ f p s ((j + d) + 1)).2 = 0
      rw [blJ_2, ih.2, Nat.zero_min]
    exact ⟨(blJ_0 (j := j + d) h2).trans ih.1, h2⟩
theorem blJ_out : ∀ d, (∀ i, j ≤ i → i < j + d → rnF f (p + 16 * i) = 0) → (blJ f p s (j + d)).1 = (blJ f p s j).1
  | 0, _ => rfl
  | d + 1, h => by
    have h2 : (blJ f p s (j + (d + 1))).2 = 0 := by
      show (blJ f p s ((j + d) + 1)).2 = 0
      rw [blJ_2, h (j + d) (by omega) (by omega), Nat.min_zero]
    exact (blJ_0 (j := j + d) h2).trans (blJ_out d (fun i h1 h3 => h i h1 (by omega)))
theorem blJ_max : ∀ j, j ≤ 16 → s.1 ≤ 256 → (blJ f p s j).1.1 ≤ 256
  | 0, _, h => h
  | j + 1, hj, h => by
    rw [blJ_1]
    have h1 := blJ_le (f := f) (p := p) (s := s) (j + 1)
    have h2 := blJ_max j (by omega) h
    have h3 : (blJ f p s (j + 1)).2 * (j + 1) ≤ 16 * 16 := Nat.mul_le_mul (by omega) hj
    split
    · exact h3
    · exact h2
theorem blA_max : ∀ p, p ≤ 256 → (blA f p).1 ≤ 256
  | 0, _ => Nat.zero_le _
  | p + 1, h => by
    unfold blA
    exact blJ_max _ (by omega) (blA_max p (by omega))
theorem blA_n (h : f p = false) (hp : p < 256) : blA f (p + 1) = blA f p := by
  show (blJ f p (blA f p) (16 - p / 16)).1 = _
  rw [show 16 - p / 16 = (15 - p / 16) + 1 by omega]
  have h1 : (blJ f p (blA f p) 1).2 = 0 := by
    rw [blJ_2, show p + 16 * 0 = p by omega, rnF_no h, Nat.min_zero]
  have h2 := (blJ_stop h1 (15 - p / 16)).1
  rw [show 1 + (15 - p / 16) = (15 - p / 16) + 1 by omega] at h2
  rw [h2]
  exact blJ_0 h1
theorem blA_skip (hq : p ≤ q) (hq2 : q ≤ 256) (h : ∀ i, p ≤ i → i < q → f i = false) : blA f q = blA f p := by
  induction q with
  | zero => rw [show p = 0 by omega]
  | succ q ih =>
    rcases Nat.lt_or_ge p (q + 1) with g | g
    · rw [blA_n (h q (by omega) (by omega)) (by omega), ih (by omega) (by omega) (fun i h1 h2 => h i h1 (by omega))]
    · rw [show p = q + 1 by omega]
/-- where the best one is -/
theorem blJ_pl : ∀ j, (blJ f p s j).1.2.1 = s.2.1 ∨ (blJ f p s j).1.2.1 = nI p
  | 0 => Or.inl rfl
  | j + 1 => by
    rw [blJ_1]
    split
    · exact Or.inr rfl
    · exact blJ_pl j
theorem blA_pl : ∀ p, (blA f p).2.1 = -1 ∨ ∃ q, q < p ∧ (blA f p).2.1 = nI q
  | 0 => Or.inl rfl
  | p + 1 => by
    unfold blA
    rcases blJ_pl (f := f) (p := p) (s := blA f p) (16 - p / 16) with h | h
    · rcases blA_pl p with g | ⟨q, g1, g2⟩
      · exact Or.inl (h.trans g)
      · exact Or.inr ⟨q, by omega, h.trans g2⟩
    · exact Or.inr ⟨p, by omega, h⟩
theorem blA_np (hp : p < 1000) : ¬ (blA f p).2.1 = nI p := by
  rcases blA_pl (f := f) p with g | ⟨q, g1, g2⟩
  · rw [g]; exact fun e => nI_m1 (by omega) e.symm
  · rw [g2]; exact fun e => by have := (nI_eq (by omega) (by omega)).mp e; omega
/-- at one corner a later block is no wider than the best -/
theorem blJ_wd (h : ¬ s.2.1 = nI p) : ∀ j, (blJ f p s j).1.2.1 = nI p → ∃ b, b ≤ 16 ∧ (blJ f p s j).1.2.2 = nI b ∧ (blJ f p s j).2 ≤ b
  | 0, g => absurd g h
  | j + 1, g => by
    rw [blJ_1] at g ⊢
    have h1 := blJ_le (f := f) (p := p) (s := s) (j + 1)
    by_cases q : (blJ f p s j).1.1 < (blJ f p s (j + 1)).2 * (j + 1)
    · rw [if_pos q]
      exact ⟨_, by omega, rfl, Nat.le_refl _⟩
    · rw [if_neg q] at g ⊢
      obtain ⟨b, b1, b2, b3⟩ := blJ_wd h j g
      exact ⟨b, b1, b2, by rw [blJ_2]; omega⟩
end BL
theorem f_out {f : Nat → Bool} {W Hh i : Nat} (hf : ∀ p, p < 256 → f p = true → p % 16 < W ∧ p / 16 < Hh) (hi : i < 256) (h : ¬ (i % 16 < W ∧ i / 16 < Hh)) : f i = false := by
  cases e : f i with
  | false => rfl
  | true => exact absurd (hf i hi e) h
theorem blA_at {f : Nat → Bool} {x y : Nat} (hx : x < 16) : (blJ f (16 * y + x) (blA f (16 * y + x)) (16 - y)).1 = blA f (16 * y + (x + 1)) := by
  show _ = (blJ f (16 * y + x) (blA f (16 * y + x)) (16 - (16 * y + x) / 16)).1
  rw [show (16 * y + x) / 16 = y by omega]
theorem bl_nw {t : Blk} {p m u v : Nat} (h : t.2.1 = nI p → ∃ b, b ≤ 16 ∧ t.2.2 = nI b ∧ v ≤ b) (hu : u = v) (hm : m ≤ u) (h2 : t.2.1 = nI p) : nI m ≤ t.2.2 := by
  obtain ⟨b, b1, b2, b3⟩ := h h2
  rw [b2]
  exact (nI_leI (by omega) (by omega)).mpr (by omega)
section BLW
variable {f : Nat → Bool} {W Hh x y j u u2 r : Nat} {s0 : Blk}
/-- the width as the class has it: the sheet's at first -/
def blU (f : Nat → Bool) (p : Nat) (s : Blk) (W j u : Nat) : Prop := u = (blJ f p s j).2 ∨ (j = 0 ∧ u = W)
theorem blU_0 : blU f (16 * y + x) s0 W 0 W := Or.inr ⟨rfl, rfl⟩
theorem blU_s (hf : ∀ p, p < 256 → f p = true → p % 16 < W ∧ p / 16 < Hh) (hx : x < W) (hW : W ≤ 16) (hy : y + j < 16) (hu : blU f (16 * y + x) s0 W j u) (hr : r = rnR f (16 * (y + j) + x) (W - x)) (hu2 : min u r = u2) : u2 = (blJ f (16 * y + x) s0 (j + 1)).2 := by
  have e : rnF f (16 * y + x + 16 * j) = r := by rw [show 16 * y + x + 16 * j = 16 * (y + j) + x by omega, rnF_W hf hx hW hy, hr]
  have l : r ≤ W - x := by rw [hr]; exact rnR_le _ _
  rw [blJ_2, e]
  rcases hu with rfl | ⟨rfl, rfl⟩
  · exact hu2.symm
  · show _ = min (16 - (16 * y + x) % 16) r
    rw [show (16 * y + x) % 16 = x by omega]
    omega
theorem blU_end (hf : ∀ p, p < 256 → f p = true → p % 16 < W ∧ p / 16 < Hh) (hx : x < 16) (hH : Hh ≤ 16) (hj : Hh ≤ y + j) (hj2 : j ≤ 16 - y) : (blJ f (16 * y + x) s0 (16 - y)).1 = (blJ f (16 * y + x) s0 j).1 := by
  have := blJ_out (f := f) (p := 16 * y + x) (s := s0) (j := j) (16 - y - j) (fun i h1 h2 => by
    refine rnF_no ?_
    cases e : f (16 * y + x + 16 * i) with
    | false => rfl
    | true => have := hf _ (by omega) e; omega)
  rwa [show j + (16 - y - j) = 16 - y by omega] at this
theorem blU_z (hu : blU f (16 * y + x) s0 W j u) (hW : 6 ≤ W) (h0 : u = 0) (hj2 : j ≤ 16 - y) : (blJ f (16 * y + x) s0 (16 - y)).1 = (blJ f (16 * y + x) s0 j).1 := by
  rcases hu with h | ⟨-, h⟩
  · have := (blJ_stop (h.symm.trans h0) (16 - y - j)).1
    rwa [show j + (16 - y - j) = 16 - y by omega] at this
  · omega
end BLW
set_option maxRecDepth 100000 in
theorem c_KW_tryBlocks {σ : SI} {δ : SD} {W Hh : Nat} (h0 : σ 76 0 = nI W) (h1 : σ 76 1 = nI Hh) (hw : 6 ≤ W ∧ W ≤ 16) (hh : 6 ≤ Hh ∧ Hh ≤ 16) {f : Nat → Bool} (hf : ∀ p, p < 256 → f p = true → p % 16 < W ∧ p / 16 < Hh) (hr : ∀ x y, x < W → y < Hh → σ 77 (16 * y + x) = nI (rnR f (16 * y + x) (W - x))) {x y : Nat} {s0 : Blk} (hx : x < W) (hy : y < Hh) (hs : s0.1 ≤ 256) : E KW_tryBlocks [.ref 76, .int (nI x), .int (nI y)] (HH (blk σ s0) δ) (none) (HH (blk σ (blJ f (16 * y + x) s0 (16 - y)).1) δ) := by
  refine E.ofL [some (.ref 76), some (.int (nI x)), some (.int (nI y))] rfl pn_RX7 rfl (fun sc => ?_)
  generalize hRz : (fun (zr : Option Value) (zk : XH) => zr = none ∧ zk = HH (blk σ (blJ f (16 * y + x) s0 (16 - y)).1) δ) = R
  refine g_aload_n dX7_tryBlocks_0 rfl ?_
  refine q_geti dX7_tryBlocks_1 f_W_33 ck_76 (by decide) ty_6_0 ?_
  refine g_top ((blk_o (by decide) (by decide) (by decide)).trans h0) ?_
  refine g_istore_n dX7_tryBlocks_4 rfl ?_
  refine g_iload_n dX7_tryBlocks_5 rfl ?_
  refine g_istore dX7_tryBlocks_6 rfl ?_
  have H8 : ∀ (N : Nat) (j u : Nat) (t : Blk), j + y ≤ Hh → blU f (16 * y + x) s0 W j u → t = (blJ f (16 * y + x) s0 j).1 → t.1 ≤ 256 → u ≤ 16 → Hh - (j + y) < N → G sc KW_tryBlocks 8 (aL [some (.ref 76), some (.int (nI x)), some (.int (nI y)), some (.int (nI u)), some (.int (nI (y + j)))]) [] (HH (blk σ t) δ) (0, 0) R := by
    intro N
    induction N with
    | zero => intro j u t h3 hu ht ht2 hu16 hN8; exact absurd hN8 (Nat.not_lt_zero _)
    | succ N ih8 =>
      intro j u t h3 hu ht ht2 hu16 hN8
      refine g_iload dX7_tryBlocks_8 rfl ?_
      refine g_aload_n dX7_tryBlocks_10 rfl ?_
      refine q_geti dX7_tryBlocks_11 f_W_37 ck_76 (by decide) ty_6_1 ?_
      refine g_top ((blk_o (by decide) (by decide) (by decide)).trans h1) ?_
      refine n_icmp_ge (tgt := 82) (by omega) (by omega) dX7_tryBlocks_14 rfl (fun zc14 => ?_) (fun zc14 => ?_)
      · exact g_vret (S := []) dX7_tryBlocks_82 rfl (by rw [← hRz]; exact ⟨rfl, by first | rw [ht, blU_end hf (by omega) hh.2 (by omega) (by omega)] | rw [ht, blU_z hu hw.1 (by omega) (by omega)]⟩) (Nat.zero_le _) (Nat.zero_le _)
      · refine g_iload_n dX7_tryBlocks_17 rfl ?_
        refine n_if_le (tgt := 82) (by omega) dX7_tryBlocks_18 rfl (fun zc18 => ?_) (fun zc18 => ?_)
        · exact g_vret (S := []) dX7_tryBlocks_82 rfl (by rw [← hRz]; exact ⟨rfl, by first | rw [ht, blU_end hf (by omega) hh.2 (by omega) (by omega)] | rw [ht, blU_z hu hw.1 (by omega) (by omega)]⟩) (Nat.zero_le _) (Nat.zero_le _)
        · obtain ⟨r, hre⟩ : ∃ r, rnR f (16 * (y + j) + x) (W - x) = r := ⟨_, rfl⟩
          have hrl : r ≤ W - x := by rw [← hre]; exact rnR_le _ _
          obtain ⟨u2, hu2⟩ : ∃ u2, min u r = u2 := ⟨_, rfl⟩
          have hst := blU_s hf hx hw.2 (by omega) hu hre.symm hu2
          have hmb : u2 * (j + 1) ≤ 16 * 16 := Nat.mul_le_mul (by omega) (by omega)
          refine g_iload_n dX7_tryBlocks_21 rfl ?_
          refine g_aload_n dX7_tryBlocks_22 rfl ?_
          refine q_getq dX7_tryBlocks_23 f_W_9 ck_76 (by decide) ty_6_8 rf_76_8 ?_
          refine g_iload_n dX7_tryBlocks_26 rfl ?_
          refine g_iload dX7_tryBlocks_27 rfl ?_
          refine g_s2N (M' := KP_placeOf) dX7_tryBlocks_29 l_W_105 s_KP_placeOf c_KP_placeOf rfl rfl ⟨rfl, rfl⟩ ?_
          refine q_iald dX7_tryBlocks_32 ck_77 (ixD_nI (by omega) (by decide)) ?_
          refine g_top (show _ = nI r by rw [blk_c (by decide), hr x (y + j) hx (by omega), hre]) ?_
          refine g_mmin dX7_tryBlocks_33 l_W_27 mw_min rfl ?_
          refine g_top ((mn_is (by omega) (by omega)).trans (congrArg nI hu2)) ?_
          refine g_istore_n dX7_tryBlocks_36 rfl ?_
          refine g_iload_n dX7_tryBlocks_37 rfl ?_
          refine g_iload dX7_tryBlocks_38 rfl ?_
          refine g_iload_n dX7_tryBlocks_40 rfl ?_
          refine n_isub dX7_tryBlocks_41 (by omega) ?_
          refine g_iconst dX7_tryBlocks_42 ic_1 ?_
          refine g_iadd dX7_tryBlocks_43 ?_
          refine g_top (show _ = nI (j + 1) by rw [nI_add, show y + j - y + 1 = j + 1 by omega]) ?_
          refine n_imul dX7_tryBlocks_44 ?_
          refine g_istore dX7_tryBlocks_45 rfl ?_
          refine g_iload dX7_tryBlocks_47 rfl ?_
          refine g_aload_n dX7_tryBlocks_49 rfl ?_
          refine q_geti dX7_tryBlocks_50 f_W_67 ck_76 (by decide) ty_6_3 ?_
          refine g_top blk_3 ?_
          refine n_icmp_le (tgt := 76) (by omega) (by omega) dX7_tryBlocks_53 rfl (fun zc53 => ?_) (fun zc53 => ?_)
          · refine n_iinc (b := 1) dX7_tryBlocks_76 rfl rfl rfl ?_
            refine g_goto (tgt := 8) dX7_tryBlocks_79 rfl ?_
            refine g_heap (congrArg (fun z => HH z δ) (show _ = blk σ (if t.1 < u2 * (j + 1) then (u2 * (j + 1), nI (16 * y + x), nI u2) else t) by first | rw [if_neg (by omega)] | (rw [if_pos (by omega)]; exact blk_put))) ?_
            exact g_can _ (by exact ⟨rfl, rfl, rfl, rfl, rfl, trivial⟩) (ih8 (j + 1) u2 _ (by omega) (Or.inl hst) (by rw [blJ_1, ← hst, ← ht]) (by split <;> first | assumption | omega) (by omega) (by omega))
          · refine g_aload_n dX7_tryBlocks_56 rfl ?_
            refine g_iload dX7_tryBlocks_57 rfl ?_
            refine q_puti dX7_tryBlocks_59 f_W_67 ck_76 (by decide) ty_6_3 fi_6_3 ?_
            refine g_aload_n dX7_tryBlocks_62 rfl ?_
            refine g_iload_n dX7_tryBlocks_63 rfl ?_
            refine g_iload_n dX7_tryBlocks_64 rfl ?_
            refine g_s2N (M' := KP_placeOf) dX7_tryBlocks_65 l_W_105 s_KP_placeOf c_KP_placeOf rfl rfl ⟨rfl, rfl⟩ ?_
            refine q_puti dX7_tryBlocks_68 f_W_70 ck_76 (by decide) ty_6_4 fi_6_4 ?_
            refine g_aload_n dX7_tryBlocks_71 rfl ?_
            refine g_iload_n dX7_tryBlocks_72 rfl ?_
            refine q_puti dX7_tryBlocks_73 f_W_73 ck_76 (by decide) ty_6_5 fi_6_5 ?_
            refine n_iinc (b := 1) dX7_tryBlocks_76 rfl rfl rfl ?_
            refine g_goto (tgt := 8) dX7_tryBlocks_79 rfl ?_
            refine g_heap (congrArg (fun z => HH z δ) (show _ = blk σ (if t.1 < u2 * (j + 1) then (u2 * (j + 1), nI (16 * y + x), nI u2) else t) by first | rw [if_neg (by omega)] | (rw [if_pos (by omega)]; exact blk_put))) ?_
            exact g_can _ (by exact ⟨rfl, rfl, rfl, rfl, rfl, trivial⟩) (ih8 (j + 1) u2 _ (by omega) (Or.inl hst) (by rw [blJ_1, ← hst, ← ht]) (by split <;> first | assumption | omega) (by omega) (by omega))
  exact g_can _ (by exact ⟨rfl, rfl, rfl, rfl, rfl, trivial⟩) (H8 _ 0 W s0 (by omega) blU_0 rfl hs (by omega) (Nat.lt_succ_self _))
set_option maxRecDepth 100000 in
theorem c_KW_findBlock {σ : SI} {δ : SD} {W Hh : Nat} (h0 : σ 76 0 = nI W) (h1 : σ 76 1 = nI Hh) (hw : 6 ≤ W ∧ W ≤ 16) (hh : 6 ≤ Hh ∧ Hh ≤ 16) {f : Nat → Bool} (hf : ∀ p, p < 256 → f p = true → p % 16 < W ∧ p / 16 < Hh) (hr : ∀ x y, x < W → y < Hh → σ 77 (16 * y + x) = nI (rnR f (16 * y + x) (W - x))) : E KW_findBlock [.ref 76] (HH σ δ) (none) (HH (blk σ (blA f 256)) δ) := by
  refine E.ofL [some (.ref 76)] rfl pn_RX7 rfl (fun sc => ?_)
  generalize hRz : (fun (zr : Option Value) (zk : XH) => zr = none ∧ zk = HH (blk σ (blA f 256)) δ) = R
  refine g_aload_n dX7_findBlock_0 rfl ?_
  refine g_iconst dX7_findBlock_1 ic_0 ?_
  refine q_puti dX7_findBlock_2 f_W_67 ck_76 (by decide) ty_6_3 fi_6_3 ?_
  refine g_aload_n dX7_findBlock_5 rfl ?_
  refine g_iconst dX7_findBlock_6 ic_m1 ?_
  refine q_puti dX7_findBlock_7 f_W_70 ck_76 (by decide) ty_6_4 fi_6_4 ?_
  refine g_aload_n dX7_findBlock_10 rfl ?_
  refine g_iconst dX7_findBlock_11 ic_m1 ?_
  refine q_puti dX7_findBlock_12 f_W_73 ck_76 (by decide) ty_6_5 fi_6_5 ?_
  refine g_iconst dX7_findBlock_15 ic_0 ?_
  refine g_istore_n dX7_findBlock_16 rfl ?_
  refine g_heap (show _ = HH (blk σ (0, -1, -1)) δ from rfl) ?_
  have H17 : ∀ (N : Nat) (y : Nat) (t : Blk), y ≤ Hh → t = blA f (16 * y) → Hh - y < N → G sc KW_findBlock 17 (aL [some (.ref 76), some (.int (nI y))]) [] (HH (blk σ t) δ) (0, 0) R := by
    intro N
    induction N with
    | zero => intro y t h3 ht hN17; exact absurd hN17 (Nat.not_lt_zero _)
    | succ N ih17 =>
      intro y t h3 ht hN17
      refine g_iload_n dX7_findBlock_17 rfl ?_
      refine g_aload_n dX7_findBlock_18 rfl ?_
      refine q_geti dX7_findBlock_19 f_W_37 ck_76 (by decide) ty_6_1 ?_
      refine g_top ((blk_o (by decide) (by decide) (by decide)).trans h1) ?_
      refine n_icmp_ge (tgt := 53) (by omega) (by omega) dX7_findBlock_22 rfl (fun zc22 => ?_) (fun zc22 => ?_)
      · exact g_vret (S := []) dX7_findBlock_53 rfl (by rw [← hRz]; exact ⟨rfl, by rw [ht, show y = Hh by omega, ← blA_skip (p := 16 * Hh) (q := 256) (by omega) (by omega) (fun i g1 g2 => f_out hf (by omega) (by omega))]⟩) (Nat.zero_le _) (Nat.zero_le _)
      · refine g_iconst dX7_findBlock_25 ic_0 ?_
        refine g_istore_n dX7_findBlock_26 rfl ?_
        have H27 : ∀ (N : Nat) (x : Nat) (t1 : Blk), x ≤ W → t1 = blA f (16 * y + x) → W - x < N → G sc KW_findBlock 27 (aL [some (.ref 76), some (.int (nI y)), some (.int (nI x))]) [] (HH (blk σ t1) δ) (0, 0) R := by
          intro N
          induction N with
          | zero => intro x t1 h5 ht1 hN27; exact absurd hN27 (Nat.not_lt_zero _)
          | succ N ih27 =>
            intro x t1 h5 ht1 hN27
            have ht2 : t1.1 ≤ 256 := by rw [ht1]; exact blA_max _ (by omega)
            refine g_iload_n dX7_findBlock_27 rfl ?_
            refine g_aload_n dX7_findBlock_28 rfl ?_
            refine q_geti dX7_findBlock_29 f_W_33 ck_76 (by decide) ty_6_0 ?_
            refine g_top ((blk_o (by decide) (by decide) (by decide)).trans h0) ?_
            refine n_icmp_ge (tgt := 47) (by omega) (by omega) dX7_findBlock_32 rfl (fun zc32 => ?_) (fun zc32 => ?_)
            · refine n_iinc (b := 1) dX7_findBlock_47 rfl rfl rfl ?_
              refine g_goto (tgt := 17) dX7_findBlock_50 rfl ?_
              exact g_can _ (by exact ⟨rfl, rfl, trivial⟩) (ih17 (y + 1) t1 (by omega) (by rw [ht1]; exact (blA_skip (by omega) (by omega) (fun i g1 g2 => f_out hf (by omega) (by omega))).symm) (by omega))
            · refine g_aload_n dX7_findBlock_35 rfl ?_
              refine g_iload_n dX7_findBlock_36 rfl ?_
              refine g_iload_n dX7_findBlock_37 rfl ?_
              refine g_v2n (M' := KW_tryBlocks) dX7_findBlock_38 l_W_108 v_KW_tryBlocks (c_KW_tryBlocks h0 h1 hw hh hf hr (by omega) (by omega) ht2) rc_76 rfl rfl ⟨rfl, rfl⟩ ?_
              refine n_iinc (b := 1) dX7_findBlock_41 rfl rfl rfl ?_
              refine g_goto (tgt := 27) dX7_findBlock_44 rfl ?_
              exact g_can _ (by exact ⟨rfl, rfl, rfl, trivial⟩) (ih27 (x + 1) _ (by omega) (by rw [ht1]; exact blA_at (by omega)) (by omega))
        exact g_can _ (by exact ⟨rfl, rfl, rfl, trivial⟩) (H27 _ 0 t (by omega) ht (Nat.lt_succ_self _))
  exact g_can _ (by exact ⟨rfl, rfl, trivial⟩) (H17 _ 0 (0, -1, -1) (by omega) rfl (Nat.lt_succ_self _))
set_option maxRecDepth 100000 in
theorem c_KR_findsBlock {σ : SI} {δ : SD} {f : Nat → Bool} (hw : ∀ p, p < 256 → σ 90 p = bI (f p)) : E KR_findsBlock [.ref 84] (HH σ δ) (none) (HH (blR σ (blA f 256)) δ) := by
  refine E.ofL [some (.ref 84)] rfl pn_RX9 rfl (fun sc => ?_)
  generalize hRz : (fun (zr : Option Value) (zk : XH) => zr = none ∧ zk = HH (blR σ (blA f 256)) δ) = R
  refine g_aload_n dX9_findsBlock_0 rfl ?_
  refine g_iconst dX9_findsBlock_1 ic_0 ?_
  refine q_puti dX9_findsBlock_2 f_R_230 ck_84 (by decide) ty_8_8 fi_8_8 ?_
  refine g_aload_n dX9_findsBlock_5 rfl ?_
  refine g_iconst dX9_findsBlock_6 ic_m1 ?_
  refine q_puti dX9_findsBlock_7 f_R_233 ck_84 (by decide) ty_8_9 fi_8_9 ?_
  refine g_aload_n dX9_findsBlock_10 rfl ?_
  refine g_iconst dX9_findsBlock_11 ic_m1 ?_
  refine q_puti dX9_findsBlock_12 f_R_236 ck_84 (by decide) ty_8_10 fi_8_10 ?_
  refine g_iconst dX9_findsBlock_15 ic_0 ?_
  refine g_istore_n dX9_findsBlock_16 rfl ?_
  refine g_heap (show _ = HH (blR σ (0, -1, -1)) δ from rfl) ?_
  have H17 : ∀ (N : Nat) (p : Nat) (t : Blk), p ≤ 256 → t = blA f p → 256 - p < N → G sc KR_findsBlock 17 (aL [some (.ref 84), some (.int (nI p))]) [] (HH (blR σ t) δ) (0, 0) R := by
    intro N
    induction N with
    | zero => intro p t h1 ht hN17; exact absurd hN17 (Nat.not_lt_zero _)
    | succ N ih17 =>
      intro p t h1 ht hN17
      have ht2 : t.1 ≤ 256 := by rw [ht]; exact blA_max _ h1
      have hnp : ¬ t.2.1 = nI p := by rw [ht]; exact blA_np (by omega)
      refine g_iload_n dX9_findsBlock_17 rfl ?_
      refine g_sipush dX9_findsBlock_18 sp_256 ?_
      refine n_icmp_ge (tgt := 165) (by omega) (by omega) dX9_findsBlock_21 rfl (fun zc21 => ?_) (fun zc21 => ?_)
      · exact g_vret (S := []) dX9_findsBlock_165 rfl (by rw [← hRz]; exact ⟨rfl, by rw [ht, show p = 256 by omega]⟩) (Nat.zero_le _) (Nat.zero_le _)
      · refine g_bipush dX9_findsBlock_24 bp_16 ?_
        refine g_iload_n dX9_findsBlock_26 rfl ?_
        refine g_bipush dX9_findsBlock_27 bp_16 ?_
        refine n_irem dX9_findsBlock_29 (by omega) (by omega) (by omega) ?_
        refine n_isub dX9_findsBlock_30 (by omega) ?_
        refine g_istore_n dX9_findsBlock_31 rfl ?_
        refine g_iload_n dX9_findsBlock_32 rfl ?_
        refine g_istore_n dX9_findsBlock_33 rfl ?_
        have H34 : ∀ (N : Nat) (j u : Nat) (t1 : Blk), j ≤ 16 - p / 16 → u = (blJ f p t j).2 → t1 = (blJ f p t j).1 → 16 - j < N → G sc KR_findsBlock 34 (aL [some (.ref 84), some (.int (nI p)), some (.int (nI u)), some (.int (nI (p + 16 * j)))]) [] (HH (blR σ t1) δ) (0, 0) R := by
          intro N
          induction N with
          | zero => intro j u t1 h3 hu ht1 hN34; exact absurd hN34 (Nat.not_lt_zero _)
          | succ N ih34 =>
            intro j u t1 h3 hu ht1 hN34
            have hu16 : u ≤ 16 - p % 16 := by rw [hu]; exact blJ_le j
            have ht3 : t1.1 ≤ 256 := by rw [ht1]; exact blJ_max j (by omega) ht2
            refine g_iload_n dX9_findsBlock_34 rfl ?_
            refine g_sipush dX9_findsBlock_35 sp_256 ?_
            refine n_icmp_ge (tgt := 159) (by omega) (by omega) dX9_findsBlock_38 rfl (fun zc38 => ?_) (fun zc38 => ?_)
            · refine n_iinc (b := 1) dX9_findsBlock_159 rfl rfl rfl ?_
              refine g_goto (tgt := 17) dX9_findsBlock_162 rfl ?_
              exact g_can _ (by exact ⟨rfl, rfl, trivial⟩) (ih17 (p + 1) t1 (by omega) (by rw [ht1, show j = 16 - p / 16 by omega, ht]; rfl) (by omega))
            · refine g_iconst dX9_findsBlock_41 ic_0 ?_
              refine g_istore dX9_findsBlock_42 rfl ?_
              have H44 : ∀ (N : Nat) (m : Nat), m ≤ u → (∀ i, i < m → f (p + 16 * j + i) = true) → u - m < N → G sc KR_findsBlock 44 (aL [some (.ref 84), some (.int (nI p)), some (.int (nI u)), some (.int (nI (p + 16 * j))), some (.int (nI m))]) [] (HH (blR σ t1) δ) (0, 0) R := by
                intro N
                induction N with
                | zero => intro m h7 ha hN44; exact absurd hN44 (Nat.not_lt_zero _)
                | succ N ih44 =>
                  intro m h7 ha hN44
                  refine g_iload dX9_findsBlock_44 rfl ?_
                  refine g_iload_n dX9_findsBlock_46 rfl ?_
                  refine n_icmp_ge (tgt := 68) (by omega) (by omega) dX9_findsBlock_47 rfl (fun zc47 => ?_) (fun zc47 => ?_)
                  · have hst : m = (blJ f p t (j + 1)).2 := by rw [blJ_2, ← hu]; exact (rnR_min m (p + 16 * j) _ u (by omega) h7 ha (by first | exact Or.inl (by omega) | exact Or.inr zc59)).symm
                    have hmb : m * (j + 1) ≤ 16 * 16 := Nat.mul_le_mul (by omega) (by omega)
                    refine g_iload dX9_findsBlock_68 rfl ?_
                    refine g_istore_n dX9_findsBlock_70 rfl ?_
                    refine g_iload_n dX9_findsBlock_71 rfl ?_
                    refine g_iload_n dX9_findsBlock_72 rfl ?_
                    refine n_isub dX9_findsBlock_73 (by omega) ?_
                    refine g_bipush dX9_findsBlock_74 bp_16 ?_
                    refine n_idiv dX9_findsBlock_76 (by omega) (by omega) (by omega) ?_
                    refine g_iconst dX9_findsBlock_77 ic_1 ?_
                    refine g_iadd dX9_findsBlock_78 ?_
                    refine g_top (show _ = nI (j + 1) by rw [nI_add, show (p + 16 * j - p) / 16 + 1 = j + 1 by omega]) ?_
                    refine g_istore dX9_findsBlock_79 rfl ?_
                    refine g_iload_n dX9_findsBlock_81 rfl ?_
                    refine g_iload dX9_findsBlock_82 rfl ?_
                    refine n_imul dX9_findsBlock_84 ?_
                    refine g_aload_n dX9_findsBlock_85 rfl ?_
                    refine q_geti dX9_findsBlock_86 f_R_230 ck_84 (by decide) ty_8_8 ?_
                    refine g_top blR_8 ?_
                    refine n_icmp_gt (tgt := 119) (by omega) (by omega) dX9_findsBlock_89 rfl (fun zc89 => ?_) (fun zc89 => ?_)
                    · refine g_iconst dX9_findsBlock_119 ic_1 ?_
                      refine g_goto (tgt := 124) dX9_findsBlock_120 rfl ?_
                      refine g_istore dX9_findsBlock_124 rfl ?_
                      refine g_iload_n dX9_findsBlock_126 rfl ?_
                      refine n_if_le (tgt := 153) (by omega) dX9_findsBlock_127 rfl (fun zc127 => ?_) (fun zc127 => ?_)
                      · refine n_iinc (b := 16) dX9_findsBlock_153 rfl rfl rfl ?_
                        refine g_goto (tgt := 34) dX9_findsBlock_156 rfl ?_
                        refine g_heap (congrArg (fun z => HH z δ) (show _ = blR σ (if t1.1 < m * (j + 1) then (m * (j + 1), nI p, nI m) else t1) by first | rw [if_neg (by omega)] | (rw [if_pos (by omega)]; exact blR_put) | exact absurd zc89 (by rw [show m = 0 by omega]; simp))) ?_
                        exact g_can _ (by exact ⟨rfl, rfl, rfl, (by rw [show p + 16 * (j + 1) = p + 16 * j + 16 by omega]; rfl), trivial⟩) (ih34 (j + 1) m _ (by omega) hst (by rw [blJ_1, ← hst, ← ht1]) (by omega))
                      · refine g_iload dX9_findsBlock_130 rfl ?_
                        refine n_if_eq (tgt := 153) (by omega) dX9_findsBlock_132 rfl (fun zc132 => absurd zc132 (by decide)) (fun _ => ?_)
                        refine g_aload_n dX9_findsBlock_135 rfl ?_
                        refine g_iload_n dX9_findsBlock_136 rfl ?_
                        refine g_iload dX9_findsBlock_137 rfl ?_
                        refine n_imul dX9_findsBlock_139 ?_
                        refine q_puti dX9_findsBlock_140 f_R_230 ck_84 (by decide) ty_8_8 fi_8_8 ?_
                        refine g_aload_n dX9_findsBlock_143 rfl ?_
                        refine g_iload_n dX9_findsBlock_144 rfl ?_
                        refine q_puti dX9_findsBlock_145 f_R_233 ck_84 (by decide) ty_8_9 fi_8_9 ?_
                        refine g_aload_n dX9_findsBlock_148 rfl ?_
                        refine g_iload_n dX9_findsBlock_149 rfl ?_
                        refine q_puti dX9_findsBlock_150 f_R_236 ck_84 (by decide) ty_8_10 fi_8_10 ?_
                        refine n_iinc (b := 16) dX9_findsBlock_153 rfl rfl rfl ?_
                        refine g_goto (tgt := 34) dX9_findsBlock_156 rfl ?_
                        refine g_heap (congrArg (fun z => HH z δ) (show _ = blR σ (if t1.1 < m * (j + 1) then (m * (j + 1), nI p, nI m) else t1) by first | rw [if_neg (by omega)] | (rw [if_pos (by omega)]; exact blR_put) | exact absurd zc89 (by rw [show m = 0 by omega]; simp))) ?_
                        exact g_can _ (by exact ⟨rfl, rfl, rfl, (by rw [show p + 16 * (j + 1) = p + 16 * j + 16 by omega]; rfl), trivial⟩) (ih34 (j + 1) m _ (by omega) hst (by rw [blJ_1, ← hst, ← ht1]) (by omega))
                    · refine g_iload_n dX9_findsBlock_92 rfl ?_
                      refine g_iload dX9_findsBlock_93 rfl ?_
                      refine n_imul dX9_findsBlock_95 ?_
                      refine g_aload_n dX9_findsBlock_96 rfl ?_
                      refine q_geti dX9_findsBlock_97 f_R_230 ck_84 (by decide) ty_8_8 ?_
                      refine g_top blR_8 ?_
                      refine n_icmp_ne (tgt := 123) (by omega) (by omega) dX9_findsBlock_100 rfl (fun zc100 => ?_) (fun zc100 => ?_)
                      · refine g_iconst dX9_findsBlock_123 ic_0 ?_
                        refine g_istore dX9_findsBlock_124 rfl ?_
                        refine g_iload_n dX9_findsBlock_126 rfl ?_
                        refine n_if_le (tgt := 153) (by omega) dX9_findsBlock_127 rfl (fun zc127 => ?_) (fun zc127 => ?_)
                        · refine n_iinc (b := 16) dX9_findsBlock_153 rfl rfl rfl ?_
                          refine g_goto (tgt := 34) dX9_findsBlock_156 rfl ?_
                          refine g_heap (congrArg (fun z => HH z δ) (show _ = blR σ (if t1.1 < m * (j + 1) then (m * (j + 1), nI p, nI m) else t1) by first | rw [if_neg (by omega)] | (rw [if_pos (by omega)]; exact blR_put) | exact absurd zc89 (by rw [show m = 0 by omega]; simp))) ?_
                          exact g_can _ (by exact ⟨rfl, rfl, rfl, (by rw [show p + 16 * (j + 1) = p + 16 * j + 16 by omega]; rfl), trivial⟩) (ih34 (j + 1) m _ (by omega) hst (by rw [blJ_1, ← hst, ← ht1]) (by omega))
                        · refine g_iload dX9_findsBlock_130 rfl ?_
                          refine n_if_eq (tgt := 153) (by omega) dX9_findsBlock_132 rfl (fun _ => ?_) (fun zc132 => absurd zc132 (by decide))
                          refine n_iinc (b := 16) dX9_findsBlock_153 rfl rfl rfl ?_
                          refine g_goto (tgt := 34) dX9_findsBlock_156 rfl ?_
                          refine g_heap (congrArg (fun z => HH z δ) (show _ = blR σ (if t1.1 < m * (j + 1) then (m * (j + 1), nI p, nI m) else t1) by first | rw [if_neg (by omega)] | (rw [if_pos (by omega)]; exact blR_put) | exact absurd zc89 (by rw [show m = 0 by omega]; simp))) ?_
                          exact g_can _ (by exact ⟨rfl, rfl, rfl, (by rw [show p + 16 * (j + 1) = p + 16 * j + 16 by omega]; rfl), trivial⟩) (ih34 (j + 1) m _ (by omega) hst (by rw [blJ_1, ← hst, ← ht1]) (by omega))
                      · refine g_iload_n dX9_findsBlock_103 rfl ?_
                        refine g_aload_n dX9_findsBlock_104 rfl ?_
                        refine q_geti dX9_findsBlock_105 f_R_233 ck_84 (by decide) ty_8_9 ?_
                        refine g_top blR_9 ?_
                        refine g_icmp_ne (tgt := 123) dX9_findsBlock_108 rfl (fun zc108 => ?_) (fun zc108 => ?_)
                        · refine g_iconst dX9_findsBlock_123 ic_0 ?_
                          refine g_istore dX9_findsBlock_124 rfl ?_
                          refine g_iload_n dX9_findsBlock_126 rfl ?_
                          refine n_if_le (tgt := 153) (by omega) dX9_findsBlock_127 rfl (fun zc127 => ?_) (fun zc127 => ?_)
                          · refine n_iinc (b := 16) dX9_findsBlock_153 rfl rfl rfl ?_
                            refine g_goto (tgt := 34) dX9_findsBlock_156 rfl ?_
                            refine g_heap (congrArg (fun z => HH z δ) (show _ = blR σ (if t1.1 < m * (j + 1) then (m * (j + 1), nI p, nI m) else t1) by first | rw [if_neg (by omega)] | (rw [if_pos (by omega)]; exact blR_put) | exact absurd zc89 (by rw [show m = 0 by omega]; simp))) ?_
                            exact g_can _ (by exact ⟨rfl, rfl, rfl, (by rw [show p + 16 * (j + 1) = p + 16 * j + 16 by omega]; rfl), trivial⟩) (ih34 (j + 1) m _ (by omega) hst (by rw [blJ_1, ← hst, ← ht1]) (by omega))
                          · refine g_iload dX9_findsBlock_130 rfl ?_
                            refine n_if_eq (tgt := 153) (by omega) dX9_findsBlock_132 rfl (fun _ => ?_) (fun zc132 => absurd zc132 (by decide))
                            refine n_iinc (b := 16) dX9_findsBlock_153 rfl rfl rfl ?_
                            refine g_goto (tgt := 34) dX9_findsBlock_156 rfl ?_
                            refine g_heap (congrArg (fun z => HH z δ) (show _ = blR σ (if t1.1 < m * (j + 1) then (m * (j + 1), nI p, nI m) else t1) by first | rw [if_neg (by omega)] | (rw [if_pos (by omega)]; exact blR_put) | exact absurd zc89 (by rw [show m = 0 by omega]; simp))) ?_
                            exact g_can _ (by exact ⟨rfl, rfl, rfl, (by rw [show p + 16 * (j + 1) = p + 16 * j + 16 by omega]; rfl), trivial⟩) (ih34 (j + 1) m _ (by omega) hst (by rw [blJ_1, ← hst, ← ht1]) (by omega))
                        · refine g_iload_n dX9_findsBlock_111 rfl ?_
                          refine g_aload_n dX9_findsBlock_112 rfl ?_
                          refine q_geti dX9_findsBlock_113 f_R_236 ck_84 (by decide) ty_8_10 ?_
                          refine g_top blR_10 ?_
                          refine g_icmp_le (tgt := 123) dX9_findsBlock_116 rfl (fun zc116 => ?_) (fun zc116 => ?_)
                          · refine g_iconst dX9_findsBlock_123 ic_0 ?_
                            refine g_istore dX9_findsBlock_124 rfl ?_
                            refine g_iload_n dX9_findsBlock_126 rfl ?_
                            refine n_if_le (tgt := 153) (by omega) dX9_findsBlock_127 rfl (fun zc127 => ?_) (fun zc127 => ?_)
                            · refine n_iinc (b := 16) dX9_findsBlock_153 rfl rfl rfl ?_
                              refine g_goto (tgt := 34) dX9_findsBlock_156 rfl ?_
                              refine g_heap (congrArg (fun z => HH z δ) (show _ = blR σ (if t1.1 < m * (j + 1) then (m * (j + 1), nI p, nI m) else t1) by first | rw [if_neg (by omega)] | (rw [if_pos (by omega)]; exact blR_put) | exact absurd zc89 (by rw [show m = 0 by omega]; simp))) ?_
                              exact g_can _ (by exact ⟨rfl, rfl, rfl, (by rw [show p + 16 * (j + 1) = p + 16 * j + 16 by omega]; rfl), trivial⟩) (ih34 (j + 1) m _ (by omega) hst (by rw [blJ_1, ← hst, ← ht1]) (by omega))
                            · refine g_iload dX9_findsBlock_130 rfl ?_
                              refine n_if_eq (tgt := 153) (by omega) dX9_findsBlock_132 rfl (fun _ => ?_) (fun zc132 => absurd zc132 (by decide))
                              refine n_iinc (b := 16) dX9_findsBlock_153 rfl rfl rfl ?_
                              refine g_goto (tgt := 34) dX9_findsBlock_156 rfl ?_
                              refine g_heap (congrArg (fun z => HH z δ) (show _ = blR σ (if t1.1 < m * (j + 1) then (m * (j + 1), nI p, nI m) else t1) by first | rw [if_neg (by omega)] | (rw [if_pos (by omega)]; exact blR_put) | exact absurd zc89 (by rw [show m = 0 by omega]; simp))) ?_
                              exact g_can _ (by exact ⟨rfl, rfl, rfl, (by rw [show p + 16 * (j + 1) = p + 16 * j + 16 by omega]; rfl), trivial⟩) (ih34 (j + 1) m _ (by omega) hst (by rw [blJ_1, ← hst, ← ht1]) (by omega))
                          · exact absurd (bl_nw (ht1 ▸ blJ_wd hnp j) hu (by omega) zc108.symm) zc116
                  · refine g_aload_n dX9_findsBlock_50 rfl ?_
                    refine q_getq dX9_findsBlock_51 f_R_25 ck_84 (by decide) ty_8_6 rf_84_6 ?_
                    refine g_iload_n dX9_findsBlock_54 rfl ?_
                    refine g_iload dX9_findsBlock_55 rfl ?_
                    refine n_iadd dX9_findsBlock_57 ?_
                    refine q_zald dX9_findsBlock_58 ck_90 (ixD_nI (by omega) (by decide)) ?_
                    refine g_top (show _ = bI (f (p + 16 * j + m)) by rw [blR_c (by decide)]; exact hw _ (by omega)) ?_
                    refine b_if_eq (tgt := 68) dX9_findsBlock_59 rfl (fun zc59 => ?_) (fun zc59 => ?_)
                    · have hst : m = (blJ f p t (j + 1)).2 := by rw [blJ_2, ← hu]; exact (rnR_min m (p + 16 * j) _ u (by omega) h7 ha (by first | exact Or.inl (by omega) | exact Or.inr zc59)).symm
                      have hmb : m * (j + 1) ≤ 16 * 16 := Nat.mul_le_mul (by omega) (by omega)
                      refine g_iload dX9_findsBlock_68 rfl ?_
                      refine g_istore_n dX9_findsBlock_70 rfl ?_
                      refine g_iload_n dX9_findsBlock_71 rfl ?_
                      refine g_iload_n dX9_findsBlock_72 rfl ?_
                      refine n_isub dX9_findsBlock_73 (by omega) ?_
                      refine g_bipush dX9_findsBlock_74 bp_16 ?_
                      refine n_idiv dX9_findsBlock_76 (by omega) (by omega) (by omega) ?_
                      refine g_iconst dX9_findsBlock_77 ic_1 ?_
                      refine g_iadd dX9_findsBlock_78 ?_
                      refine g_top (show _ = nI (j + 1) by rw [nI_add, show (p + 16 * j - p) / 16 + 1 = j + 1 by omega]) ?_
                      refine g_istore dX9_findsBlock_79 rfl ?_
                      refine g_iload_n dX9_findsBlock_81 rfl ?_
                      refine g_iload dX9_findsBlock_82 rfl ?_
                      refine n_imul dX9_findsBlock_84 ?_
                      refine g_aload_n dX9_findsBlock_85 rfl ?_
                      refine q_geti dX9_findsBlock_86 f_R_230 ck_84 (by decide) ty_8_8 ?_
                      refine g_top blR_8 ?_
                      refine n_icmp_gt (tgt := 119) (by omega) (by omega) dX9_findsBlock_89 rfl (fun zc89 => ?_) (fun zc89 => ?_)
                      · refine g_iconst dX9_findsBlock_119 ic_1 ?_
                        refine g_goto (tgt := 124) dX9_findsBlock_120 rfl ?_
                        refine g_istore dX9_findsBlock_124 rfl ?_
                        refine g_iload_n dX9_findsBlock_126 rfl ?_
                        refine n_if_le (tgt := 153) (by omega) dX9_findsBlock_127 rfl (fun zc127 => ?_) (fun zc127 => ?_)
                        · refine n_iinc (b := 16) dX9_findsBlock_153 rfl rfl rfl ?_
                          refine g_goto (tgt := 34) dX9_findsBlock_156 rfl ?_
                          refine g_heap (congrArg (fun z => HH z δ) (show _ = blR σ (if t1.1 < m * (j + 1) then (m * (j + 1), nI p, nI m) else t1) by first | rw [if_neg (by omega)] | (rw [if_pos (by omega)]; exact blR_put) | exact absurd zc89 (by rw [show m = 0 by omega]; simp))) ?_
                          exact g_can _ (by exact ⟨rfl, rfl, rfl, (by rw [show p + 16 * (j + 1) = p + 16 * j + 16 by omega]; rfl), trivial⟩) (ih34 (j + 1) m _ (by omega) hst (by rw [blJ_1, ← hst, ← ht1]) (by omega))
                        · refine g_iload dX9_findsBlock_130 rfl ?_
                          refine n_if_eq (tgt := 153) (by omega) dX9_findsBlock_132 rfl (fun zc132 => absurd zc132 (by decide)) (fun _ => ?_)
                          refine g_aload_n dX9_findsBlock_135 rfl ?_
                          refine g_iload_n dX9_findsBlock_136 rfl ?_
                          refine g_iload dX9_findsBlock_137 rfl ?_
                          refine n_imul dX9_findsBlock_139 ?_
                          refine q_puti dX9_findsBlock_140 f_R_230 ck_84 (by decide) ty_8_8 fi_8_8 ?_
                          refine g_aload_n dX9_findsBlock_143 rfl ?_
                          refine g_iload_n dX9_findsBlock_144 rfl ?_
                          refine q_puti dX9_findsBlock_145 f_R_233 ck_84 (by decide) ty_8_9 fi_8_9 ?_
                          refine g_aload_n dX9_findsBlock_148 rfl ?_
                          refine g_iload_n dX9_findsBlock_149 rfl ?_
                          refine q_puti dX9_findsBlock_150 f_R_236 ck_84 (by decide) ty_8_10 fi_8_10 ?_
                          refine n_iinc (b := 16) dX9_findsBlock_153 rfl rfl rfl ?_
                          refine g_goto (tgt := 34) dX9_findsBlock_156 rfl ?_
                          refine g_heap (congrArg (fun z => HH z δ) (show _ = blR σ (if t1.1 < m * (j + 1) then (m * (j + 1), nI p, nI m) else t1) by first | rw [if_neg (by omega)] | (rw [if_pos (by omega)]; exact blR_put) | exact absurd zc89 (by rw [show m = 0 by omega]; simp))) ?_
                          exact g_can _ (by exact ⟨rfl, rfl, rfl, (by rw [show p + 16 * (j + 1) = p + 16 * j + 16 by omega]; rfl), trivial⟩) (ih34 (j + 1) m _ (by omega) hst (by rw [blJ_1, ← hst, ← ht1]) (by omega))
                      · refine g_iload_n dX9_findsBlock_92 rfl ?_
                        refine g_iload dX9_findsBlock_93 rfl ?_
                        refine n_imul dX9_findsBlock_95 ?_
                        refine g_aload_n dX9_findsBlock_96 rfl ?_
                        refine q_geti dX9_findsBlock_97 f_R_230 ck_84 (by decide) ty_8_8 ?_
                        refine g_top blR_8 ?_
                        refine n_icmp_ne (tgt := 123) (by omega) (by omega) dX9_findsBlock_100 rfl (fun zc100 => ?_) (fun zc100 => ?_)
                        · refine g_iconst dX9_findsBlock_123 ic_0 ?_
                          refine g_istore dX9_findsBlock_124 rfl ?_
                          refine g_iload_n dX9_findsBlock_126 rfl ?_
                          refine n_if_le (tgt := 153) (by omega) dX9_findsBlock_127 rfl (fun zc127 => ?_) (fun zc127 => ?_)
                          · refine n_iinc (b := 16) dX9_findsBlock_153 rfl rfl rfl ?_
                            refine g_goto (tgt := 34) dX9_findsBlock_156 rfl ?_
                            refine g_heap (congrArg (fun z => HH z δ) (show _ = blR σ (if t1.1 < m * (j + 1) then (m * (j + 1), nI p, nI m) else t1) by first | rw [if_neg (by omega)] | (rw [if_pos (by omega)]; exact blR_put) | exact absurd zc89 (by rw [show m = 0 by omega]; simp))) ?_
                            exact g_can _ (by exact ⟨rfl, rfl, rfl, (by rw [show p + 16 * (j + 1) = p + 16 * j + 16 by omega]; rfl), trivial⟩) (ih34 (j + 1) m _ (by omega) hst (by rw [blJ_1, ← hst, ← ht1]) (by omega))
                          · refine g_iload dX9_findsBlock_130 rfl ?_
                            refine n_if_eq (tgt := 153) (by omega) dX9_findsBlock_132 rfl (fun _ => ?_) (fun zc132 => absurd zc132 (by decide))
                            refine n_iinc (b := 16) dX9_findsBlock_153 rfl rfl rfl ?_
                            refine g_goto (tgt := 34) dX9_findsBlock_156 rfl ?_
                            refine g_heap (congrArg (fun z => HH z δ) (show _ = blR σ (if t1.1 < m * (j + 1) then (m * (j + 1), nI p, nI m) else t1) by first | rw [if_neg (by omega)] | (rw [if_pos (by omega)]; exact blR_put) | exact absurd zc89 (by rw [show m = 0 by omega]; simp))) ?_
                            exact g_can _ (by exact ⟨rfl, rfl, rfl, (by rw [show p + 16 * (j + 1) = p + 16 * j + 16 by omega]; rfl), trivial⟩) (ih34 (j + 1) m _ (by omega) hst (by rw [blJ_1, ← hst, ← ht1]) (by omega))
                        · refine g_iload_n dX9_findsBlock_103 rfl ?_
                          refine g_aload_n dX9_findsBlock_104 rfl ?_
                          refine q_geti dX9_findsBlock_105 f_R_233 ck_84 (by decide) ty_8_9 ?_
                          refine g_top blR_9 ?_
                          refine g_icmp_ne (tgt := 123) dX9_findsBlock_108 rfl (fun zc108 => ?_) (fun zc108 => ?_)
                          · refine g_iconst dX9_findsBlock_123 ic_0 ?_
                            refine g_istore dX9_findsBlock_124 rfl ?_
                            refine g_iload_n dX9_findsBlock_126 rfl ?_
                            refine n_if_le (tgt := 153) (by omega) dX9_findsBlock_127 rfl (fun zc127 => ?_) (fun zc127 => ?_)
                            · refine n_iinc (b := 16) dX9_findsBlock_153 rfl rfl rfl ?_
                              refine g_goto (tgt := 34) dX9_findsBlock_156 rfl ?_
                              refine g_heap (congrArg (fun z => HH z δ) (show _ = blR σ (if t1.1 < m * (j + 1) then (m * (j + 1), nI p, nI m) else t1) by first | rw [if_neg (by omega)] | (rw [if_pos (by omega)]; exact blR_put) | exact absurd zc89 (by rw [show m = 0 by omega]; simp))) ?_
                              exact g_can _ (by exact ⟨rfl, rfl, rfl, (by rw [show p + 16 * (j + 1) = p + 16 * j + 16 by omega]; rfl), trivial⟩) (ih34 (j + 1) m _ (by omega) hst (by rw [blJ_1, ← hst, ← ht1]) (by omega))
                            · refine g_iload dX9_findsBlock_130 rfl ?_
                              refine n_if_eq (tgt := 153) (by omega) dX9_findsBlock_132 rfl (fun _ => ?_) (fun zc132 => absurd zc132 (by decide))
                              refine n_iinc (b := 16) dX9_findsBlock_153 rfl rfl rfl ?_
                              refine g_goto (tgt := 34) dX9_findsBlock_156 rfl ?_
                              refine g_heap (congrArg (fun z => HH z δ) (show _ = blR σ (if t1.1 < m * (j + 1) then (m * (j + 1), nI p, nI m) else t1) by first | rw [if_neg (by omega)] | (rw [if_pos (by omega)]; exact blR_put) | exact absurd zc89 (by rw [show m = 0 by omega]; simp))) ?_
                              exact g_can _ (by exact ⟨rfl, rfl, rfl, (by rw [show p + 16 * (j + 1) = p + 16 * j + 16 by omega]; rfl), trivial⟩) (ih34 (j + 1) m _ (by omega) hst (by rw [blJ_1, ← hst, ← ht1]) (by omega))
                          · refine g_iload_n dX9_findsBlock_111 rfl ?_
                            refine g_aload_n dX9_findsBlock_112 rfl ?_
                            refine q_geti dX9_findsBlock_113 f_R_236 ck_84 (by decide) ty_8_10 ?_
                            refine g_top blR_10 ?_
                            refine g_icmp_le (tgt := 123) dX9_findsBlock_116 rfl (fun zc116 => ?_) (fun zc116 => ?_)
                            · refine g_iconst dX9_findsBlock_123 ic_0 ?_
                              refine g_istore dX9_findsBlock_124 rfl ?_
                              refine g_iload_n dX9_findsBlock_126 rfl ?_
                              refine n_if_le (tgt := 153) (by omega) dX9_findsBlock_127 rfl (fun zc127 => ?_) (fun zc127 => ?_)
                              · refine n_iinc (b := 16) dX9_findsBlock_153 rfl rfl rfl ?_
                                refine g_goto (tgt := 34) dX9_findsBlock_156 rfl ?_
                                refine g_heap (congrArg (fun z => HH z δ) (show _ = blR σ (if t1.1 < m * (j + 1) then (m * (j + 1), nI p, nI m) else t1) by first | rw [if_neg (by omega)] | (rw [if_pos (by omega)]; exact blR_put) | exact absurd zc89 (by rw [show m = 0 by omega]; simp))) ?_
                                exact g_can _ (by exact ⟨rfl, rfl, rfl, (by rw [show p + 16 * (j + 1) = p + 16 * j + 16 by omega]; rfl), trivial⟩) (ih34 (j + 1) m _ (by omega) hst (by rw [blJ_1, ← hst, ← ht1]) (by omega))
                              · refine g_iload dX9_findsBlock_130 rfl ?_
                                refine n_if_eq (tgt := 153) (by omega) dX9_findsBlock_132 rfl (fun _ => ?_) (fun zc132 => absurd zc132 (by decide))
                                refine n_iinc (b := 16) dX9_findsBlock_153 rfl rfl rfl ?_
                                refine g_goto (tgt := 34) dX9_findsBlock_156 rfl ?_
                                refine g_heap (congrArg (fun z => HH z δ) (show _ = blR σ (if t1.1 < m * (j + 1) then (m * (j + 1), nI p, nI m) else t1) by first | rw [if_neg (by omega)] | (rw [if_pos (by omega)]; exact blR_put) | exact absurd zc89 (by rw [show m = 0 by omega]; simp))) ?_
                                exact g_can _ (by exact ⟨rfl, rfl, rfl, (by rw [show p + 16 * (j + 1) = p + 16 * j + 16 by omega]; rfl), trivial⟩) (ih34 (j + 1) m _ (by omega) hst (by rw [blJ_1, ← hst, ← ht1]) (by omega))
                            · exact absurd (bl_nw (ht1 ▸ blJ_wd hnp j) hu (by omega) zc108.symm) zc116
                    · refine n_iinc (b := 1) dX9_findsBlock_62 rfl rfl rfl ?_
                      refine g_goto (tgt := 44) dX9_findsBlock_65 rfl ?_
                      exact g_can _ (by exact ⟨rfl, rfl, rfl, rfl, rfl, trivial⟩) (ih44 (m + 1) (by omega) (lt_step ha zc59) (by omega))
              exact g_can _ (by exact ⟨rfl, rfl, rfl, rfl, rfl, trivial⟩) (H44 _ 0 (by omega) (fun i hi => absurd hi (Nat.not_lt_zero i)) (Nat.lt_succ_self _))
        exact g_can _ (by exact ⟨rfl, rfl, rfl, rfl, trivial⟩) (H34 _ 0 _ t (by omega) rfl rfl (Nat.lt_succ_self _))
  exact g_can _ (by exact ⟨rfl, rfl, trivial⟩) (H17 _ 0 (0, -1, -1) (by omega) rfl (Nat.lt_succ_self _))
