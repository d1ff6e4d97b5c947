/-! LAWS: heaps of white -/
/-! HEAPS OF WHITE: what hangs together, counted by the least of each -/
def adjP (p q : Nat) : Prop := (q = p + 1 ∧ p % 16 < 15) ∨ (p = q + 1 ∧ q % 16 < 15) ∨ q = p + 16 ∨ p = q + 16
theorem adj_sym {p q : Nat} (h : adjP p q) : adjP q p := by unfold adjP at *; omega
def cnR (f : Nat → Bool) : Nat → Nat → Nat → Prop
  | 0, p, q => p = q
  | m + 1, p, q => ∃ r, cnR f m p r ∧ (r = q ∨ (adjP r q ∧ f q = true))
def cnn (f : Nat → Bool) (p q : Nat) : Prop := ∃ m, cnR f m p q
section CN
variable {f : Nat → Bool} {p q r : Nat}
theorem cnn_refl : cnn f p p := ⟨0, rfl⟩
theorem cnn_step (h : cnn f p r) (ha : adjP r q) (hq : f q = true) : cnn f p q := by
  obtain ⟨m, hm⟩ := h
  exact ⟨m + 1, r, hm, Or.inr ⟨ha, hq⟩⟩
theorem cnR_ind {S : Nat → Prop} (h0 : S p) (hs : ∀ r q, S r → adjP r q → f q = true → S q) : ∀ m q, cnR f m p q → S q
  | 0, q, h => by rw [← (show p = q from h)]; exact h0
  | m + 1, q, h => by
    obtain ⟨r, h1, h2⟩ := h
    have ih := cnR_ind h0 hs m r h1
    rcases h2 with e | ⟨ha, hq⟩
    · rw [← e]; exact ih
    · exact hs r q ih ha hq
theorem cnn_ind {S : Nat → Prop} (h : cnn f p q) (h0 : S p) (hs : ∀ r q, S r → adjP r q → f q = true → S q) : S q := by
  obtain ⟨m, hm⟩ := h
  exact cnR_ind h0 hs m q hm
theorem cnn_f (h : cnn f p q) (hp : f p = true) : f q = true := cnn_ind (S := fun q => f q = true) h hp (fun _ _ _ _ e => e)
theorem cnn_trans (h1 : cnn f p q) (h2 : cnn f q r) : cnn f p r := cnn_ind (S := fun r => cnn f p r) h2 h1 (fun _ _ a b c => cnn_step a b c)
theorem cnn_sym (h : cnn f p q) (hp : f p = true) : cnn f q p :=
  (cnn_ind (S := fun q => cnn f q p ∧ f q = true) h ⟨cnn_refl, hp⟩ (fun _ _ a b c => ⟨cnn_trans (cnn_step cnn_refl (adj_sym b) a.2) a.1, c⟩)).1
/-- the least of its heap -/
def minC (f : Nat → Bool) (p : Nat) : Prop := f p = true ∧ ∀ q, cnn f p q → p ≤ q
noncomputable def minB (f : Nat → Bool) (p : Nat) : Bool := @decide (minC f p) (Classical.propDecidable _)
theorem minB_iff : minB f p = true ↔ minC f p := by
  unfold minB
  exact @decide_eq_true_iff (minC f p) (Classical.propDecidable _)
theorem minB_no (h : ¬ minC f p) : minB f p = false := by
  cases e : minB f p with
  | false => rfl
  | true => exact absurd (minB_iff.mp e) h
end CN
/-! the reference's numbers -/
section RN
variable {f : Nat → Bool} {hp : Nat → Nat} {p q n : Nat}
def lbK (f : Nat → Bool) (hp : Nat → Nat) : Prop := ∀ p, f p = true → cnn f p (hp p) ∧ hp p ≤ p
def lbX (f : Nat → Bool) (hp : Nat → Nat) : Prop := ∀ p, p < 256 → f p = true → ¬ hOf f hp p < hp p
theorem hS_or {b c : Bool} {v l : Nat} : hSt b c v l = l ∨ (b = true ∧ c = true ∧ hSt b c v l = v) := by
  unfold hSt
  split
  · rename_i h
    simp only [Bool.and_eq_true, decide_eq_true_eq] at h
    exact Or.inr ⟨h.1.1, h.1.2, rfl⟩
  · exact Or.inl rfl
theorem hS_v {b c : Bool} {v l : Nat} (hb : b = true) (hc : c = true) : hSt b c v l ≤ v := by
  unfold hSt
  rw [hb, hc]
  split
  · exact Nat.le_refl _
  · rename_i h
    simp at h
    omega
theorem hO_cn (hk : lbK f hp) (hf : f p = true) : cnn f p (hOf f hp p) := by
  have st : ∀ r, adjP p r → f r = true → cnn f p (hp r) := fun r ha hr => cnn_trans (cnn_step cnn_refl ha hr) (hk r hr).1
  unfold hOf
  rcases hS_or (b := decide (p < 240)) (c := f (p + 16)) (v := hp (p + 16)) (l := hSt (decide (16 ≤ p)) (f (p - 16)) (hp (p - 16)) (hSt (decide (p % 16 < 15)) (f (p + 1)) (hp (p + 1)) (hSt (decide (0 < p % 16)) (f (p - 1)) (hp (p - 1)) (hp p)))) with e | ⟨e1, e2, e⟩
  · rw [e]
    rcases hS_or (b := decide (16 ≤ p)) (c := f (p - 16)) (v := hp (p - 16)) (l := hSt (decide (p % 16 < 15)) (f (p + 1)) (hp (p + 1)) (hSt (decide (0 < p % 16)) (f (p - 1)) (hp (p - 1)) (hp p))) with e | ⟨e1, e2, e⟩
    · rw [e]
      rcases hS_or (b := decide (p % 16 < 15)) (c := f (p + 1)) (v := hp (p + 1)) (l := hSt (decide (0 < p % 16)) (f (p - 1)) (hp (p - 1)) (hp p)) with e | ⟨e1, e2, e⟩
      · rw [e]
        rcases hS_or (b := decide (0 < p % 16)) (c := f (p - 1)) (v := hp (p - 1)) (l := hp p) with e | ⟨e1, e2, e⟩
        · rw [e]; exact (hk p hf).1
        · rw [e]; rw [decide_eq_true_eq] at e1; exact st _ (by unfold adjP; omega) e2
      · rw [e]; rw [decide_eq_true_eq] at e1; exact st _ (by unfold adjP; omega) e2
    · rw [e]; rw [decide_eq_true_eq] at e1; exact st _ (by unfold adjP; omega) e2
  · rw [e]; rw [decide_eq_true_eq] at e1; exact st _ (by unfold adjP; omega) e2
/-- no cell beside one has a lesser number -/
theorem hO_nb (ha : adjP p q) (hq : f q = true) (hp6 : p < 256) (hq6 : q < 256) : hOf f hp p ≤ hp q := by
  unfold hOf
  unfold adjP at ha
  rcases ha with ⟨rfl, h⟩ | ⟨h0, h⟩ | h0 | h0
  · exact Nat.le_trans hS_le (Nat.le_trans hS_le (hS_v (decide_eq_true h) hq))
  · rw [show q = p - 1 by omega] at hq ⊢
    exact Nat.le_trans hS_le (Nat.le_trans hS_le (Nat.le_trans hS_le (hS_v (decide_eq_true (by omega)) hq)))
  · rw [h0] at hq ⊢
    exact hS_v (decide_eq_true (by omega)) hq
  · rw [show q = p - 16 by omega] at hq ⊢
    exact Nat.le_trans hS_le (hS_v (decide_eq_true (by omega)) hq)
theorem lb_min (hin : ∀ p, f p = true → p < 256) (hk : lbK f hp) (hx : lbX f hp) (hf : f p = true) : hp p = p ↔ minC f p := by
  have same : ∀ r q, f r = true → adjP r q → f q = true → hp q = hp r := fun r q hr ha hq => by
    have h1 := hx r (hin r hr) hr
    have h2 := hx q (hin q hq) hq
    have h3 := hO_nb (hp := hp) ha hq (hin r hr) (hin q hq)
    have h4 := hO_nb (hp := hp) (adj_sym ha) hr (hin q hq) (hin r hr)
    omega
  have all : ∀ q, cnn f p q → hp q = hp p := fun q hq => (cnn_ind (S := fun q => hp q = hp p ∧ f q = true) hq ⟨rfl, hf⟩ (fun r q a b c => ⟨(same r q a.2 b c).trans a.1, c⟩)).1
  constructor
  · intro h
    refine ⟨hf, fun q hq => ?_⟩
    have h1 := all q hq
    have h2 := (hk q (cnn_f hq hf)).2
    omega
  · intro h
    have h1 := h.2 _ (hk p hf).1
    have h2 := (hk p hf).2
    omega
theorem ps_K (hk : lbK f hp) : ∀ m, lbK f (psS f hp m).1
  | 0 => hk
  | m + 1 => by
    have ih := ps_K hk m
    unfold psS
    split
    · rename_i hc
      rw [Bool.and_eq_true, decide_eq_true_eq] at hc
      intro q hq
      show cnn f q (updN (psS f hp m).1 m (hOf f (psS f hp m).1 m) q) ∧ updN (psS f hp m).1 m (hOf f (psS f hp m).1 m) q ≤ q
      unfold updN
      by_cases e : q = m
      · rw [if_pos e, e]
        exact ⟨hO_cn ih hc.1, Nat.le_trans (Nat.le_of_lt hc.2) (ih m hc.1).2⟩
      · rw [if_neg e]; exact ih q hq
    · exact ih
theorem ps_F : ∀ m, (psS f hp m).2 = false → (psS f hp m).1 = hp ∧ ∀ p, p < m → f p = true → ¬ hOf f hp p < hp p
  | 0, _ => ⟨rfl, fun p h => absurd h (Nat.not_lt_zero p)⟩
  | m + 1, h => by
    unfold psS at h ⊢
    by_cases hc : (f m && decide (hOf f (psS f hp m).1 m < (psS f hp m).1 m)) = true
    · rw [if_pos hc] at h; exact absurd h (by show ¬ (true = false); decide)
    · rw [if_neg hc] at h ⊢
      obtain ⟨h1, h2⟩ := ps_F m h
      refine ⟨h1, fun p hp1 hf => ?_⟩
      rcases Nat.lt_or_ge p m with g | g
      · exact h2 p g hf
      · obtain rfl : p = m := by omega
        rw [h1, hf] at hc
        intro g2
        rw [decide_eq_true g2] at hc
        exact hc rfl
theorem sum_le {g h : Nat → Nat} (e : ∀ i, g i ≤ h i) : ∀ n, sumN g n ≤ sumN h n
  | 0 => Nat.le_refl _
  | n + 1 => by
    have := sum_le e n
    have := e n
    unfold sumN
    omega
theorem sum_lt {g h : Nat → Nat} (e : ∀ i, g i ≤ h i) {k : Nat} (hk : g k < h k) : ∀ n, k < n → sumN g n < sumN h n
  | 0, hn => absurd hn (Nat.not_lt_zero _)
  | n + 1, hn => by
    unfold sumN
    rcases Nat.lt_or_ge k n with q | q
    · have := sum_lt e hk n q
      have := e n
      omega
    · obtain rfl : k = n := by omega
      have := sum_le e k
      omega
theorem ps_le : ∀ m i, (psS f hp m).1 i ≤ hp i
  | 0, i => Nat.le_refl _
  | m + 1, i => by
    have ih := ps_le m i
    unfold psS
    split
    · rename_i hc
      rw [Bool.and_eq_true, decide_eq_true_eq] at hc
      show updN (psS f hp m).1 m (hOf f (psS f hp m).1 m) i ≤ hp i
      unfold updN
      by_cases e : i = m
      · rw [if_pos e]; rw [e] at ih ⊢; omega
      · rw [if_neg e]; exact ih
    · exact ih
theorem ps_lt : ∀ m, (psS f hp m).2 = true → ∃ k, k < m ∧ (psS f hp m).1 k < hp k
  | 0, h => absurd h (by show ¬ (false = true); decide)
  | m + 1, h => by
    unfold psS at h ⊢
    by_cases hc : (f m && decide (hOf f (psS f hp m).1 m < (psS f hp m).1 m)) = true
    · rw [if_pos hc]
      rw [Bool.and_eq_true, decide_eq_true_eq] at hc
      have := ps_le (f := f) (hp := hp) m m
      refine ⟨m, by omega, ?_⟩
      show updN (psS f hp m).1 m (hOf f (psS f hp m).1 m) m < hp m
      unfold updN
      rw [if_pos rfl]
      omega
    · rw [if_neg hc] at h ⊢
      obtain ⟨k, h1, h2⟩ := ps_lt m h
      exact ⟨k, by omega, h2⟩
/-- again and again, until nothing changes -/
def itS (f : Nat → Bool) (n : Nat) : Nat → (Nat → Nat) → Nat → Nat
  | 0, hp => hp
  | m + 1, hp => if (psS f hp n).2 then itS f n m (psS f hp n).1 else (psS f hp n).1
theorem it_end : ∀ m hp, lbK f hp → sumN hp n < m → lbK f (itS f n m hp) ∧ ∀ p, p < n → f p = true → ¬ hOf f (itS f n m hp) p < itS f n m hp p
  | 0, hp, _, h => absurd h (Nat.not_lt_zero _)
  | m + 1, hp, hk, h => by
    unfold itS
    cases e : (psS f hp n).2 with
    | true =>
      rw [if_pos rfl]
      obtain ⟨k, h1, h2⟩ := ps_lt n e
      have := sum_lt (ps_le (f := f) (hp := hp) n) h2 n h1
      exact it_end m _ (ps_K hk n) (by omega)
    | false =>
      rw [if_neg (by decide)]
      obtain ⟨h1, h2⟩ := ps_F n e
      rw [h1]
      exact ⟨hk, h2⟩
theorem lbK_id : lbK f (fun i => i) := fun _ _ => ⟨cnn_refl, Nat.le_refl _⟩
/-- what the walk wants -/
theorem it_I {FIN : Nat → Nat} {m : Nat} (h : lbK f hp ∧ sumN hp n < m ∧ itS f n m hp = FIN) : ∃ m1, m = m1 + 1 ∧ ((psS f hp n).2 = true → lbK f (psS f hp n).1 ∧ sumN (psS f hp n).1 n < m1 ∧ itS f n m1 (psS f hp n).1 = FIN) ∧ ((psS f hp n).2 = false → (psS f hp n).1 = FIN) := by
  obtain ⟨h1, h2, h3⟩ := h
  cases m with
  | zero => exact absurd h2 (Nat.not_lt_zero _)
  | succ m =>
    refine ⟨m, rfl, fun e => ?_, fun e => ?_⟩
    · obtain ⟨k, g1, g2⟩ := ps_lt n e
      have := sum_lt (ps_le (f := f) (hp := hp) n) g2 n g1
      refine ⟨ps_K h1 n, by omega, ?_⟩
      unfold itS at h3
      rwa [if_pos e] at h3
    · unfold itS at h3
      rwa [if_neg (by rw [e]; decide)] at h3
end RN
theorem c_KR_heaps_min {σ : SI} {δ : SD} {f : Nat → Bool} (hw : ∀ p, p < 256 → σ 90 p = bI (f p)) (hin : ∀ p, f p = true → p < 256) : ∃ FIN : Nat → Nat, E KR_heaps [.ref 84] (HH σ δ) (some (.int (nI (cntN (minB f) 256)))) (HH (fill σ 91 (fun i => nI (FIN i)) 256) δ) := by
  obtain ⟨n, hn⟩ : ∃ n, n = 256 := ⟨_, rfl⟩
  obtain ⟨m0, hm0⟩ : ∃ m0, sumN (fun i => i) n < m0 := ⟨_, Nat.lt_succ_self _⟩
  obtain ⟨FIN, hF⟩ : ∃ FIN, itS f n m0 (fun i => i) = FIN := ⟨_, rfl⟩
  obtain ⟨k1, k2⟩ := it_end (f := f) (n := n) m0 (fun i => i) lbK_id hm0
  rw [hF] at k1 k2
  have hc : cntN (fun p => f p && decide (FIN p = p)) 256 = cntN (minB f) 256 := by
    rw [← hn]
    refine cntN_cong (fun p hp => ?_)
    rw [Bool.eq_iff_iff, minB_iff, Bool.and_eq_true, decide_eq_true_eq]
    constructor
    · rintro ⟨h1, h2⟩
      exact (lb_min hin k1 (by intro p hp; rw [← hn] at hp; exact k2 p hp) h1).mp h2
    · intro h
      exact ⟨h.1, (lb_min hin k1 (by intro p hp; rw [← hn] at hp; exact k2 p hp) h.1).mpr h⟩
  refine ⟨FIN, ?_⟩
  rw [← hc]
  refine c_KR_heaps (I := fun m hp => lbK f hp ∧ sumN hp n < m ∧ itS f n m hp = FIN) (m0 := m0) hw ⟨lbK_id, hm0, hF⟩ (fun m hp h => ?_)
  rw [← hn]
  exact it_I h
/-! the class's queue -/
section BQ
variable {f v0 v : Nat → Bool} {p q r n c0 nx W Hh : Nat} {s : Bs}
theorem cnt_add (hv : v p = false) : ∀ n, cntN (fun q => v q || decide (q = p)) n = cntN v n + (if p < n then 1 else 0)
  | 0 => rfl
  | n + 1 => by
    show cntN (fun q => v q || decide (q = p)) n + (if (v n || decide (n = p)) = true then 1 else 0) = cntN v n + (if v n = true then 1 else 0) + _
    rw [cnt_add hv n]
    by_cases e : n = p
    · subst e
      rw [hv, decide_eq_true rfl, if_neg (Nat.lt_irrefl n), if_pos (show n < n + 1 by omega)]
      rfl
    · rw [decide_eq_false e, Bool.or_false]
      by_cases g : p < n
      · rw [if_pos g, if_pos (show p < n + 1 by omega)]; omega
      · rw [if_neg g, if_neg (show ¬ p < n + 1 by omega)]; omega
theorem cnt_lt (hv : v p = false) : ∀ n, p < n → cntN v n < n
  | 0, h => absurd h (Nat.not_lt_zero _)
  | n + 1, h => by
    unfold cntN
    rcases Nat.lt_or_ge p n with g | g
    · have := cnt_lt hv n g
      split <;> omega
    · obtain rfl : p = n := by omega
      rw [hv]
      have := cntN_le (p := v) p
      simp
      omega
/-- while the heap of p is gone through: v0 was there before, the queue begins at c0, is done up to nx -/
def bqI (f v0 : Nat → Bool) (p c0 nx n : Nat) (s : Bs) : Prop :=
  (∀ q, v0 q = true → s.1 q = true) ∧ (∀ q, s.1 q = true → v0 q = true ∨ ∃ i, c0 ≤ i ∧ i < s.2.2 ∧ s.2.1 i = q) ∧ (∀ i, c0 ≤ i → i < s.2.2 → cnn f p (s.2.1 i) ∧ f (s.2.1 i) = true ∧ s.1 (s.2.1 i) = true) ∧
  (∀ i, c0 ≤ i → i < nx → ∀ r, adjP (s.2.1 i) r → f r = true → s.1 r = true) ∧ s.2.2 = cntN s.1 n ∧ c0 ≤ nx ∧ nx ≤ s.2.2
/-- one more cell, of that heap -/
theorem bq_rc (hin : ∀ p, f p = true → p < 256) (h : bqI f v0 p c0 nx 256 s) (hr : f r = true → cnn f p r) : bqI f v0 p c0 nx 256 (rc1 f s r) ∧ (f r = true → (rc1 f s r).1 r = true) ∧ (∀ q, s.1 q = true → (rc1 f s r).1 q = true) ∧ (∀ i, i < s.2.2 → (rc1 f s r).2.1 i = s.2.1 i) ∧ s.2.2 ≤ (rc1 f s r).2.2 := by
  cases e : (f r && !s.1 r) with
  | false =>
    rw [rc1_n (Or.inl e)]
    refine ⟨h, fun hf => ?_, fun _ g => g, fun _ _ => rfl, Nat.le_refl _⟩
    rw [hf, Bool.true_and] at e
    simpa using e
  | true =>
    have e2 := e
    rw [Bool.and_eq_true] at e2
    obtain ⟨hf, hv⟩ := e2
    have hv2 : s.1 r = false := by simpa using hv
    obtain ⟨h1, h2, h3, h4, h5, h6, h7⟩ := h
    have hc : s.2.2 < 256 := by rw [h5]; exact cnt_lt hv2 256 (hin r hf)
    rw [rc1_y e hc]
    refine ⟨⟨fun q hq => ?_, fun q hq => ?_, fun i hi hi2 => ?_, fun i hi hi2 t ha ht => ?_, ?_, h6, ?_⟩, fun _ => ?_, fun q hq => ?_, fun i hi => ?_, ?_⟩
    · show (s.1 q || decide (q = r)) = true
      rw [h1 q hq]; rfl
    · have hq2 : (s.1 q || decide (q = r)) = true := hq
      rw [Bool.or_eq_true, decide_eq_true_eq] at hq2
      by_cases g : s.1 q = true
      · rcases h2 q g with g2 | ⟨i, i1, i2, i3⟩
        · exact Or.inl g2
        · refine Or.inr ⟨i, i1, ?_, ?_⟩
          · show i < s.2.2 + 1
            omega
          · show (if i = s.2.2 then r else s.2.1 i) = q
            rw [if_neg (by omega)]; exact i3
      · refine Or.inr ⟨s.2.2, by omega, ?_, ?_⟩
        · show s.2.2 < s.2.2 + 1
          omega
        · show (if s.2.2 = s.2.2 then r else s.2.1 s.2.2) = q
          rw [if_pos rfl]
          exact (hq2.resolve_left g).symm
    · have hi3 : i < s.2.2 + 1 := hi2
      show cnn f p (if i = s.2.2 then r else s.2.1 i) ∧ f (if i = s.2.2 then r else s.2.1 i) = true ∧ (s.1 (if i = s.2.2 then r else s.2.1 i) || decide ((if i = s.2.2 then r else s.2.1 i) = r)) = true
      by_cases g : i = s.2.2
      · rw [if_pos g]
        exact ⟨hr hf, hf, by rw [decide_eq_true rfl, Bool.or_true]⟩
      · rw [if_neg g]
        obtain ⟨g1, g2, g3⟩ := h3 i hi (by omega)
        exact ⟨g1, g2, by rw [g3]; rfl⟩
    · have ha2 : adjP (if i = s.2.2 then r else s.2.1 i) t := ha
      rw [if_neg (by omega)] at ha2
      show (s.1 t || decide (t = r)) = true
      rw [h4 i hi hi2 t ha2 ht]; rfl
    · show s.2.2 + 1 = cntN (fun q => s.1 q || decide (q = r)) 256
      rw [cnt_add hv2 256, if_pos (hin r hf), h5]
    · show nx ≤ s.2.2 + 1
      omega
    · show (s.1 r || decide (r = r)) = true
      rw [decide_eq_true rfl, Bool.or_true]
    · show (s.1 q || decide (q = r)) = true
      rw [hq]; rfl
    · show (if i = s.2.2 then r else s.2.1 i) = _
      rw [if_neg (by omega)]
    · show s.2.2 ≤ s.2.2 + 1
      omega
theorem rcZ_in {i j : Nat} (hi : i < W) (hj : j < Hh) (hW : W ≤ 16) (hH : Hh ≤ 16) : rcZ f W Hh s (nI i) (nI j) = rc1 f s (16 * j + i) := by
  unfold rcZ
  rw [inB_nI (by omega) (by omega) (by omega), inB_nI (by omega) (by omega) (by omega), decide_eq_true (Nat.zero_le i), decide_eq_true (Nat.zero_le j), decide_eq_true (show i ≤ W - 1 by omega), decide_eq_true (show j ≤ Hh - 1 by omega), nI_clamp (by omega), nI_clamp (by omega)]
  rfl
theorem rcZ_x {x y : Int32} (hx : inB x (nI 0) (nI (W - 1)) = false ∨ inB y (nI 0) (nI (Hh - 1)) = false) : rcZ f W Hh s x y = s := by
  unfold rcZ
  rcases hx with h | h
  · rw [h]; rfl
  · rw [h, Bool.and_false]; rfl
theorem in_m1 {w : Nat} (hw : w < 1000) : inB (nI 0 - nI 1) (nI 0) (nI w) = false := by
  unfold inB
  rw [decide_eq_false, Bool.false_and]
  decide
theorem in_big {w i : Nat} (hw : w < i) (hi : i < 1000) : inB (nI i) (nI 0) (nI w) = false := by
  rw [inB_nI (by omega) (by omega) (by omega), decide_eq_false (show ¬ i ≤ w by omega), Bool.and_false]
/-- the four cells beside q: each that is white is taken -/
theorem sp4_rc (hW : W ≤ 16) (hH : Hh ≤ 16) (hW1 : 1 ≤ W) (hH1 : 1 ≤ Hh) (hq : q % 16 < W ∧ q / 16 < Hh) : ∃ b1 b2 b3 b4 : Bool, sp4 f W Hh s q = (fun s => if b4 then rc1 f s (q + 16) else s) ((fun s => if b3 then rc1 f s (q - 16) else s) ((fun s => if b2 then rc1 f s (q + 1) else s) ((fun s => if b1 then rc1 f s (q - 1) else s) s))) ∧
    (b1 = true ↔ 1 ≤ q % 16) ∧ (b2 = true ↔ q % 16 + 1 < W) ∧ (b3 = true ↔ 1 ≤ q / 16) ∧ (b4 = true ↔ q / 16 + 1 < Hh) := by
  refine ⟨decide (1 ≤ q % 16), decide (q % 16 + 1 < W), decide (1 ≤ q / 16), decide (q / 16 + 1 < Hh), ?_, decide_eq_true_iff, decide_eq_true_iff, decide_eq_true_iff, decide_eq_true_iff⟩
  have e1 : ∀ s, rcZ f W Hh s (nI (q % 16) - nI 1) (nI (q / 16)) = if decide (1 ≤ q % 16) = true then rc1 f s (q - 1) else s := fun s => by
    by_cases g : 1 ≤ q % 16
    · rw [if_pos (decide_eq_true g), pk_sub g, rcZ_in (by omega) hq.2 hW hH, show 16 * (q / 16) + (q % 16 - 1) = q - 1 by omega]
    · rw [if_neg (by rw [decide_eq_false g]; decide), show q % 16 = 0 by omega, rcZ_x (Or.inl (in_m1 (by omega)))]
  have e2 : ∀ s, rcZ f W Hh s (nI (q % 16 + 1)) (nI (q / 16)) = if decide (q % 16 + 1 < W) = true then rc1 f s (q + 1) else s := fun s => by
    by_cases g : q % 16 + 1 < W
    · rw [if_pos (decide_eq_true g), rcZ_in g hq.2 hW hH, show 16 * (q / 16) + (q % 16 + 1) = q + 1 by omega]
    · rw [if_neg (by rw [decide_eq_false g]; decide), rcZ_x (Or.inl (in_big (by omega) (by omega)))]
  have e3 : ∀ s, rcZ f W Hh s (nI (q % 16)) (nI (q / 16) - nI 1) = if decide (1 ≤ q / 16) = true then rc1 f s (q - 16) else s := fun s => by
    by_cases g : 1 ≤ q / 16
    · rw [if_pos (decide_eq_true g), pk_sub g, rcZ_in hq.1 (by omega) hW hH, show 16 * (q / 16 - 1) + q % 16 = q - 16 by omega]
    · rw [if_neg (by rw [decide_eq_false g]; decide), show q / 16 = 0 by omega, rcZ_x (Or.inr (in_m1 (by omega)))]
  have e4 : ∀ s, rcZ f W Hh s (nI (q % 16)) (nI (q / 16 + 1)) = if decide (q / 16 + 1 < Hh) = true then rc1 f s (q + 16) else s := fun s => by
    by_cases g : q / 16 + 1 < Hh
    · rw [if_pos (decide_eq_true g), rcZ_in hq.1 g hW hH, show 16 * (q / 16 + 1) + q % 16 = q + 16 by omega]
    · rw [if_neg (by rw [decide_eq_false g]; decide), rcZ_x (Or.inr (in_big (by omega) (by omega)))]
  unfold sp4
  rw [e1, e2, e3, e4]
theorem bq_op (hin : ∀ p, f p = true → p < 256) (b : Bool) (h : bqI f v0 p c0 nx 256 s) (hr : b = true → f r = true → cnn f p r) : bqI f v0 p c0 nx 256 (if b then rc1 f s r else s) ∧ (b = true → f r = true → (if b then rc1 f s r else s).1 r = true) ∧ (∀ q, s.1 q = true → (if b then rc1 f s r else s).1 q = true) ∧ (∀ i, i < s.2.2 → (if b then rc1 f s r else s).2.1 i = s.2.1 i) ∧ s.2.2 ≤ (if b then rc1 f s r else s).2.2 := by
  cases b with
  | false => exact ⟨h, fun e => absurd e (by decide), fun _ g => g, fun _ _ => rfl, Nat.le_refl _⟩
  | true =>
    obtain ⟨g1, g2, g3, g4, g5⟩ := bq_rc hin h (hr rfl)
    exact ⟨g1, fun _ => g2, g3, g4, g5⟩
theorem bq_4 (hfs : ∀ p, f p = true → p % 16 < W ∧ p / 16 < Hh) (hW : W ≤ 16) (hH : Hh ≤ 16) (h : bqI f v0 p c0 nx 256 s) (hn : nx < s.2.2) : bqI f v0 p c0 (nx + 1) 256 (sp4 f W Hh s (s.2.1 nx)) := by
  have hin : ∀ p, f p = true → p < 256 := fun p hp => by have := hfs p hp; omega
  obtain ⟨hc, hfq, hvq⟩ := h.2.2.1 nx h.2.2.2.2.2.1 hn
  obtain ⟨q, hq⟩ : ∃ q, s.2.1 nx = q := ⟨_, rfl⟩
  rw [hq] at hc hfq hvq ⊢
  have hqs := hfs q hfq
  obtain ⟨b1, b2, b3, b4, e, i1, i2, i3, i4⟩ := sp4_rc (f := f) (s := s) hW hH (by omega) (by omega) hqs
  rw [e]
  have st : ∀ r, adjP q r → f r = true → cnn f p r := fun r ha hr => cnn_step hc ha hr
  obtain ⟨a1, a2, a3, a4, a5⟩ := bq_op (r := q - 1) hin b1 h (fun hb hr => st _ (by have := i1.mp hb; unfold adjP; omega) hr)
  dsimp only
  generalize (if b1 = true then rc1 f s (q - 1) else s) = s1 at *
  obtain ⟨c1, c2, c3, c4, c5⟩ := bq_op (r := q + 1) hin b2 a1 (fun hb hr => st _ (by have := i2.mp hb; unfold adjP; omega) hr)
  generalize (if b2 = true then rc1 f s1 (q + 1) else s1) = s2 at *
  obtain ⟨d1, d2, d3, d4, d5⟩ := bq_op (r := q - 16) hin b3 c1 (fun hb hr => st _ (by have := i3.mp hb; unfold adjP; omega) hr)
  generalize (if b3 = true then rc1 f s2 (q - 16) else s2) = s3 at *
  obtain ⟨g1, g2, g3, g4, g5⟩ := bq_op (r := q + 16) hin b4 d1 (fun hb hr => st _ (by unfold adjP; omega) hr)
  generalize (if b4 = true then rc1 f s3 (q + 16) else s3) = s4 at *
  obtain ⟨h1, h2, h3, h4, h5, h6, h7⟩ := g1
  refine ⟨h1, h2, h3, fun i hi hi2 r ha hr => ?_, h5, by omega, by omega⟩
  rcases Nat.lt_or_ge i nx with w | w
  · exact h4 i hi w r ha hr
  · obtain rfl : i = nx := by omega
    rw [g4 i (by omega), d4 i (by omega), c4 i (by omega), a4 i (by omega), hq] at ha
    have hrs := hfs r hr
    unfold adjP at ha
    rcases ha with ⟨rfl, w1⟩ | ⟨w0, w1⟩ | rfl | w0
    · exact g3 _ (d3 _ (c2 (i2.mpr (by omega)) hr))
    · obtain rfl : r = q - 1 := by omega
      exact g3 _ (d3 _ (c3 _ (a2 (i1.mpr (by omega)) hr)))
    · exact g2 (i4.mpr (by omega)) hr
    · obtain rfl : r = q - 16 := by omega
      exact g3 _ (d2 (i3.mpr (by omega)) hr)
theorem bq_sp (hfs : ∀ p, f p = true → p % 16 < W ∧ p / 16 < Hh) (hW : W ≤ 16) (hH : Hh ≤ 16) : ∀ m nx s, bqI f v0 p c0 nx 256 s → 256 ≤ nx + m → ∃ n1, bqI f v0 p c0 n1 256 (spS f W Hh m nx s) ∧ (spS f W Hh m nx s).2.2 ≤ n1
  | 0, nx, s, h, hm => by
    have h5 := h.2.2.2.2.1
    have := cntN_le (p := s.1) 256
    refine ⟨nx, h, ?_⟩
    show s.2.2 ≤ nx
    omega
  | m + 1, nx, s, h, hm => by
    unfold spS
    by_cases g : nx < s.2.2
    · rw [if_pos g]
      exact bq_sp hfs hW hH m (nx + 1) _ (bq_4 hfs hW hH h g) (by omega)
    · rw [if_neg g]
      exact ⟨nx, h, by omega⟩
theorem rc1_mono {x : Nat} (h : s.1 p = true) : (rc1 f s x).1 p = true := by
  unfold rc1
  split
  · show (s.1 p || decide (p = x)) = true
    rw [h]; rfl
  · exact h
theorem rcZ_mono {x y : Int32} (h : s.1 p = true) : (rcZ f W Hh s x y).1 p = true := by
  unfold rcZ
  split
  · exact rc1_mono h
  · exact h
theorem sp_mono (h : s.1 p = true) : ∀ m nx, (spS f W Hh m nx s).1 p = true := fun m => by
  induction m generalizing s with
  | zero => exact fun _ => h
  | succ m ih =>
    intro nx
    unfold spS
    split
    · exact ih (rcZ_mono (rcZ_mono (rcZ_mono (rcZ_mono h)))) _
    · exact h
/-- after the cells before p -/
def cpI (f : Nat → Bool) (p : Nat) (s : Bs) (k : Nat) : Prop :=
  (∀ q, s.1 q = true → f q = true) ∧ (∀ q r, s.1 q = true → adjP q r → f r = true → s.1 r = true) ∧ (∀ q, q < p → f q = true → s.1 q = true) ∧ (∀ q, s.1 q = true → ∃ r, r < p ∧ f r = true ∧ cnn f r q) ∧ s.2.2 = cntN s.1 256 ∧ k = cntN (minB f) p
theorem cp_all (hfs : ∀ p, f p = true → p % 16 < W ∧ p / 16 < Hh) (hW : W ≤ 16) (hH : Hh ≤ 16) : ∀ p, cpI f p (cpA f W Hh p).1 (cpA f W Hh p).2
  | 0 => by
    refine ⟨fun q h => absurd h (by show ¬ (false = true); decide), fun q r h => absurd h (by show ¬ (false = true); decide), fun q h => absurd h (Nat.not_lt_zero q), fun q h => absurd h (by show ¬ (false = true); decide), ?_, rfl⟩
    show 0 = cntN (fun _ => false) 256
    generalize 256 = n
    induction n with
    | zero => rfl
    | succ n ih => unfold cntN; rw [← ih]; rfl
  | p + 1 => by
    have hin : ∀ p, f p = true → p < 256 := fun p hp => by have := hfs p hp; omega
    have ih := cp_all hfs hW hH p
    cases hf : f p with
    | false =>
      rw [cpA_f hf]
      obtain ⟨h1, h2, h3, h4, h5, h6⟩ := ih
      refine ⟨h1, h2, fun q hq hfq => ?_, fun q hq => ?_, h5, ?_⟩
      · rcases Nat.lt_or_ge q p with g | g
        · exact h3 q g hfq
        · obtain rfl : q = p := by omega
          rw [hf] at hfq; exact absurd hfq (by decide)
      · obtain ⟨r, r1, r2, r3⟩ := h4 q hq
        exact ⟨r, by omega, r2, r3⟩
      · unfold cntN
        rw [minB_no (fun g => absurd (hf.symm.trans g.1) (by decide)), h6]
        rfl
    | true =>
      unfold cpA
      obtain ⟨s, hs⟩ : ∃ s, (cpA f W Hh p).1 = s := ⟨_, rfl⟩
      obtain ⟨k, hk⟩ : ∃ k, (cpA f W Hh p).2 = k := ⟨_, rfl⟩
      rw [hs, hk] at ih ⊢
      obtain ⟨h1, h2, h3, h4, h5, h6⟩ := ih
      have cl : ∀ q r, s.1 q = true → cnn f q r → s.1 r = true := fun q r hq hc => cnn_ind (S := fun r => s.1 r = true) hc hq (fun a b c d e => h2 a b c d e)
      cases hv : s.1 p with
      | true =>
        rw [rc1_n (Or.inl (by rw [hf, hv]; rfl)), if_neg (Nat.lt_irrefl _)]
        refine ⟨h1, h2, fun q hq hfq => ?_, fun q hq => ?_, h5, ?_⟩
        · rcases Nat.lt_or_ge q p with g | g
          · exact h3 q g hfq
          · obtain rfl : q = p := by omega
            exact hv
        · obtain ⟨r, r1, r2, r3⟩ := h4 q hq
          exact ⟨r, by omega, r2, r3⟩
        · show k = cntN (minB f) p + (if minB f p = true then 1 else 0)
          obtain ⟨r, r1, r2, r3⟩ := h4 p hv
          rw [minB_no (fun g => by have := g.2 r (cnn_sym r3 r2); omega), h6]
          rfl
      | false =>
        have hc : s.2.2 < 256 := by rw [h5]; exact cnt_lt hv 256 (hin p hf)
        have e : (f p && !s.1 p) = true := by rw [hf, hv]; rfl
        have b0 : bqI f s.1 p s.2.2 s.2.2 256 (rc1 f s p) := by
          have := bq_rc (f := f) (v0 := s.1) (p := p) (c0 := s.2.2) (nx := s.2.2) (s := s) (r := p) hin ⟨fun _ h => h, fun _ h => Or.inl h, fun i a b => by omega, fun i a b => by omega, h5, Nat.le_refl _, Nat.le_refl _⟩ (fun _ => cnn_refl)
          exact this.1
        have v1 : (rc1 f s p).1 p = true := by
          rw [rc1_y e hc]
          show (s.1 p || decide (p = p)) = true
          rw [decide_eq_true rfl, Bool.or_true]
        rw [if_pos (by rw [rc1_y e hc]; exact Nat.lt_succ_self _)]
        obtain ⟨n1, g, gn⟩ := bq_sp hfs hW hH (256 - s.2.2) s.2.2 _ b0 (by omega)
        have v2 : (spS f W Hh (256 - s.2.2) s.2.2 (rc1 f s p)).1 p = true := sp_mono v1 _ _
        generalize spS f W Hh (256 - s.2.2) s.2.2 (rc1 f s p) = t at *
        obtain ⟨t1, t2, t3, t4, t5, t6, t7⟩ := g
        have tc : ∀ q, t.1 q = true → s.1 q = true ∨ cnn f p q := fun q hq => by
          rcases t2 q hq with w | ⟨i, i1, i2, i3⟩
          · exact Or.inl w
          · rw [← i3]; exact Or.inr (t3 i i1 i2).1
        refine ⟨fun q hq => ?_, fun q r hq ha hr => ?_, fun q hq hfq => ?_, fun q hq => ?_, t5, ?_⟩
        · rcases tc q hq with w | w
          · exact h1 q w
          · exact cnn_f w hf
        · rcases t2 q hq with w | ⟨i, i1, i2, i3⟩
          · exact t1 r (h2 q r w ha hr)
          · exact t4 i i1 (by omega) r (by rw [i3]; exact ha) hr
        · rcases Nat.lt_or_ge q p with w | w
          · exact t1 q (h3 q w hfq)
          · obtain rfl : q = p := by omega
            exact v2
        · rcases tc q hq with w | w
          · obtain ⟨r, r1, r2, r3⟩ := h4 q w
            exact ⟨r, by omega, r2, r3⟩
          · exact ⟨p, by omega, hf, w⟩
        · show k + 1 = cntN (minB f) p + (if minB f p = true then 1 else 0)
          rw [minB_iff.mpr ⟨hf, fun q hq => ?_⟩, h6]
          · rfl
          · rcases Nat.lt_or_ge q p with w | w
            · have := cl q p (h3 q w (cnn_f hq hf)) (cnn_sym hq hf)
              rw [hv] at this
              exact absurd this (by decide)
            · exact w
end BQ

