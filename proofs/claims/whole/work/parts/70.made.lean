/-! MADE: how the class and the reference stand at first -/
def mdR : Nat → Nat → Nat := mkMR (uR (mkPR (uR (fun _ _ => 0) 5 (fun _ => 0))) 84 (fun _ => 0))
def mdS : SI := mkMS (uR (mkPS (uR (fun _ _ => 0) 5 (fun _ => 0))) 84 (fun _ => 0))
def mdD : SD := mkMD (uR (mkPD (uR (fun _ _ => 0) 5 (fun _ => 0))) 84 (fun _ => 0))
set_option maxHeartbeats 200000 in
theorem mdR_ok : ∀ i, i < 89 → ∀ k, k < 16 → rfF (i + 5) k = mdR (i + 5) k := by decide +kernel
set_option maxHeartbeats 200000 in
theorem mdR_ring : rfF 25 = mdR 25 := by
  funext k
  match k with
  | 0 => rfl
  | 1 => rfl
  | 2 => rfl
  | 3 => rfl
  | 4 => rfl
  | k + 5 => rfl
set_option maxHeartbeats 200000 in
theorem sh_16 : ∀ i, i < 89 → ((shF.getD i (0, 0)).1 < 9 → (shF.getD i (0, 0)).2 ≤ 16) ∧ ((shF.getD i (0, 0)).1 = 12 → i = 20) := by decide +kernel
set_option maxHeartbeats 200000 in
theorem sh_all : shF.take 89 = shF := by decide +kernel

set_option maxHeartbeats 200000 in
theorem xHp_ref {x : XX} {h h' : XH} {H : Heap} (e1 : h'.1 = h.1) (e3 : h'.2.2 = h.2.2) (he : ∀ i q, h.1[i]? = some q → (q.1 < 9 → ∀ k, k < q.2 → h'.2.1 (i + 5) k = h.2.1 (i + 5) k) ∧ (q.1 = 12 → h'.2.1 (i + 5) = h.2.1 (i + 5))) (hh : xHp x h H) : xHp x h' H := by
  have key : xWs x h' = xWs x h := by
    refine List.ext_getElem? fun i => ?_
    by_cases hi : i < h.1.length
    · have hq : h.1[i]? = some h.1[i] := List.getElem?_eq_getElem hi
      have hq' : h'.1[i]? = some h.1[i] := by rw [e1]; exact hq
      rw [xWs_get hq', xWs_get hq]
      obtain ⟨a, b⟩ := he i _ hq
      generalize h.1[i] = q at a b ⊢
      have e : xEn x h' (i + 5) q = xEn x h (i + 5) q := by
        unfold xEn
        by_cases h9 : q.1 < 9
        · rw [if_pos h9, if_pos h9]
          have : (List.range q.2).map (fun k => xFv x h' (i + 5) q.1 k) = (List.range q.2).map (fun k => xFv x h (i + 5) q.1 k) := List.map_congr_left fun k hk => by
            unfold xFv
            rw [a h9 k (List.mem_range.mp hk), e3]
          rw [this]
        · rw [if_neg h9, if_neg h9]
          by_cases h12 : q.1 = 12
          · rw [if_pos h12, if_pos h12, b h12]
          · rw [if_neg h12, if_neg h12, e3]
      rw [e]
    · rw [List.getElem?_eq_none (by rw [xWs_len, e1]; omega), List.getElem?_eq_none (by rw [xWs_len]; omega)]
  exact ⟨by rw [e1]; exact hh.1, by rw [key]; exact hh.2⟩
set_option maxHeartbeats 200000 in
theorem g_ref {sc : XS} {M : MM} {pc : Nat} {L : XL} {S : List Value} {h h' : XH} {w : Nat × Nat} {R : Option Value → XH → Prop} (e1 : h'.1 = h.1) (e3 : h'.2.2 = h.2.2) (he : ∀ i q, h.1[i]? = some q → (q.1 < 9 → ∀ k, k < q.2 → h'.2.1 (i + 5) k = h.2.1 (i + 5) k) ∧ (q.1 = 12 → h'.2.1 (i + 5) = h.2.1 (i + 5))) (k : G sc M pc L S h' w R) : G sc M pc L S h w R := fun x p l e s mI args below meth cd Q H locs ls F X hH hS hz hL => k x p l e s mI args below meth cd Q H locs ls F X (xHp_ref e1 e3 he hH) hS hz hL
set_option maxHeartbeats 200000 in
theorem g_w {sc : XS} {M : MM} {pc : Nat} {L : XL} {S : List Value} {h : XH} {w w' : Nat × Nat} {R : Option Value → XH → Prop} (e : w = w') (k : G sc M pc L S h w' R) : G sc M pc L S h w R := e ▸ k
set_option maxHeartbeats 200000 in
theorem g_made {sc : XS} {M : MM} {pc : Nat} {L : XL} {S : List Value} {w : Nat × Nat} {R : Option Value → XH → Prop} (k : G sc M pc L S (HH mdS mdD) w R) : G sc M pc L S (HP 89 mdR mdS mdD) w R := by
  refine g_ref (h' := HH mdS mdD) sh_all.symm rfl (fun i q hq => ?_) k
  have hq : shF[i]? = some q := by
    have := hq
    show shF[i]? = some q
    rw [← sh_all]
    exact this
  have hi := sh_out q i hq
  have hs := sh_16 i hi
  have hg : shF.getD i (0, 0) = q := by
    rw [List.getD_eq_getElem?_getD, hq]
    rfl
  rw [hg] at hs
  refine ⟨fun h9 k hk => mdR_ok i hi k (Nat.lt_of_lt_of_le hk (hs.1 h9)), fun h12 => ?_⟩
  rw [hs.2 h12]
  exact mdR_ring
set_option maxHeartbeats 200000 in
theorem mdS_0 : ∀ j, j < 155 → 7 < j → mdS 85 j = 0 := by decide +kernel
set_option maxHeartbeats 200000 in
theorem mdS_rf : ∀ j, j < 3 → mdS 5 (7 + j) = 0 ∧ mdS 88 j = 0 := by decide +kernel
set_option maxHeartbeats 200000 in
theorem mdS_kb : ∀ s, s < 3 → ¬ kbN (mdS 85) s = 1 := by decide +kernel
set_option maxHeartbeats 200000 in
theorem mdS_wf : WF (mdS 85) 0 :=
  ⟨by decide, by decide +kernel, ⟨12, by decide, by decide, by decide +kernel⟩, ⟨12, by decide, by decide, by decide +kernel⟩, ⟨1, by decide, by decide, by decide +kernel⟩, ⟨0, by decide, by decide, by decide +kernel⟩, ⟨40, by decide, by decide, by decide +kernel⟩, ⟨15, by decide, by decide, by decide +kernel⟩, ⟨0, by decide, by decide, by decide +kernel⟩,
    fun k hk => absurd hk (Nat.not_lt_zero k), fun s hs => ⟨Or.inl (mdS_0 _ (by omega) (by omega)), fun k hk => Or.inr ⟨⟨0, by decide, by decide, mdS_0 _ (by omega) (by omega)⟩, ⟨0, by decide, by decide, mdS_0 _ (by omega) (by omega)⟩⟩⟩⟩
set_option maxHeartbeats 200000 in
theorem mdS_set : ∀ i, i < 5 → mdS (6 + 3) i = mdS 85 (2 + i) := by decide +kernel
set_option maxHeartbeats 200000 in
theorem mdS_hl : HL mdS 6 (mdS 85) 0 :=
  ⟨mdS_wf, ⟨by decide +kernel, by decide +kernel, by decide +kernel, mdS_set, fun k hk => absurd hk (Nat.not_lt_zero k), fun k hk => absurd hk (Nat.not_lt_zero k), fun k hk => absurd hk (Nat.not_lt_zero k)⟩,
    ⟨fun k hk => absurd hk (Nat.not_lt_zero k), fun k hk => absurd hk (Nat.not_lt_zero k), by decide +kernel⟩, ⟨by decide +kernel, fun s hs h => absurd h (mdS_kb s hs)⟩⟩
set_option maxHeartbeats 200000 in
theorem inv_made : InvT mdS :=
  ⟨mdS 85, 0, 0, 0, fun _ _ => 0, 0, fun _ => 0, fun _ => 0,
    ⟨mdS_hl, by decide, by decide, by decide +kernel, by decide +kernel, fun i hi => absurd hi (Nat.not_lt_zero i), fun j hj => (mdS_rf j hj).1, by decide, by decide +kernel, fun i hi => absurd hi (Nat.not_lt_zero i)⟩,
    ⟨rfl, by decide +kernel, fun i hi => absurd hi (Nat.not_lt_zero i), fun j hj => (mdS_rf j hj).2, by decide +kernel, fun i hi => absurd hi (Nat.not_lt_zero i)⟩⟩
