/-! CONTRACTS: packing -/
/-! ITEMS laid one after the other: (number, x, y), the latest first -/
abbrev Ops : Type := List (Nat × Int32 × Int32)
def runS (σ : SI) (B : Nat) : Ops → SI
  | [] => σ
  | q :: L => sLay (runS σ B L) B q.1 q.2.1 q.2.2
def runA (a : Nat → Int32) : Ops → Nat → Int32
  | [] => a
  | q :: L => aLay (runA a L) q.1 q.2.1 q.2.2
def runM (σ : SI) : Ops → SI
  | [] => σ
  | q :: L => mLay (runM σ L) q.1 q.2.1 q.2.2
def okL (n : Nat) (L : Ops) : Prop := ∀ q, q ∈ L → q.1 < n ∧ plc q.2.1 q.2.2
def putL (v : Int32) (k : Nat) (L : Ops) : Ops := if v = -1 then L else (k, nI (v.toNatClampNeg % 16), nI (v.toNatClampNeg / 16)) :: L
section RUN
variable {σ : SI} {B n k : Nat} {a : Nat → Int32} {x y : Int32}
theorem okL_0 : okL n [] := fun q h => absurd h List.not_mem_nil
theorem okL_c {L : Ops} (h : okL n L) (hk : k < n) (hp : plc x y) : okL n ((k, x, y) :: L) := fun q hq => by
  rcases List.mem_cons.mp hq with e | e
  · rw [e]; exact ⟨hk, hp⟩
  · exact h q e
theorem okL_h {q : Nat × Int32 × Int32} {L : Ops} (h : okL n (q :: L)) : q.1 < n ∧ plc q.2.1 q.2.2 := h q (List.mem_cons.mpr (Or.inl rfl))
theorem okL_t {q : Nat × Int32 × Int32} {L : Ops} (h : okL n (q :: L)) : okL n L := fun r hr => h r (List.mem_cons.mpr (Or.inr hr))
theorem plc_no : plc (-1) (-1) := Or.inl ⟨rfl, rfl⟩
theorem plc_p {p : Nat} (hp : p < 256) : plc (nI (p % 16)) (nI (p / 16)) := Or.inr ⟨⟨p % 16, by omega, by omega, rfl⟩, ⟨p / 16, by omega, by omega, rfl⟩⟩
theorem HL_run (h : HL σ B a n) : ∀ {L : Ops}, okL n L → HL (runS σ B L) B (runA a L) n
  | [], _ => h
  | _ :: _, ho => HL_lay (HL_run h (okL_t ho)) (okL_h ho).1 (okL_h ho).2
theorem WF_run (h : WF a n) : ∀ {L : Ops}, okL n L → WF (runA a L) n
  | [], _ => h
  | _ :: _, ho => WF_lay (WF_run h (okL_t ho)) (okL_h ho).1 (okL_h ho).2
theorem runM_row : ∀ {L : Ops}, runM σ L 85 = runA (σ 85) L
  | [] => rfl
  | q :: L => by unfold runM runA; rw [mLay_row, runM_row]
theorem WF_runM (h : WF (σ 85) n) {L : Ops} (ho : okL n L) : WF (runM σ L 85) n := by rw [runM_row]; exact WF_run h ho
theorem runS_ne {c : Nat} (h5 : c ≠ B + 5) (h6 : c ≠ B + 6) : ∀ {L : Ops}, runS σ B L c = σ c
  | [] => rfl
  | q :: L => by unfold runS; rw [slay_ne h5 h6, runS_ne h5 h6]
theorem runM_ne {c : Nat} (h : c ≠ 85) : ∀ {L : Ops}, runM σ L c = σ c
  | [] => rfl
  | q :: L => by unfold runM; rw [mlay_ne h, runM_ne h]
end RUN
/-- all taken off -/
def offL : Nat → Ops
  | 0 => []
  | k + 1 => (k, -1, -1) :: offL k
/-- of a rank, the first k -/
def pkR (a : Nat → Int32) (n r : Nat) (L : Ops) : Nat → Ops
  | 0 => L
  | k + 1 => if its (runA a (pkR a n r L k)) k 1 = nI r then putL (findI (fitP (runA a (pkR a n r L k)) n k) 256) k (pkR a n r L k) else pkR a n r L k
def pkL (a : Nat → Int32) (n : Nat) : Nat → Ops
  | 0 => offL n
  | r + 1 => pkR a n (r + 1) (pkL a n r) n
section PK
variable {a : Nat → Int32} {n r k p : Nat} {L : Ops}
theorem pkL_s (h : 1 ≤ r) : pkR a n r (pkL a n (r - 1)) n = pkL a n (r + 1 - 1) := by
  rw [show r + 1 - 1 = (r - 1) + 1 by omega]
  show _ = pkR a n (r - 1 + 1) (pkL a n (r - 1)) n
  rw [show r - 1 + 1 = r by omega]
theorem pkR_n (h : ¬ its (runA a (pkR a n r L k)) k 1 = nI r) : pkR a n r L (k + 1) = pkR a n r L k := if_neg h
theorem pkR_y (h : its (runA a (pkR a n r L k)) k 1 = nI r) : pkR a n r L (k + 1) = putL (findI (fitP (runA a (pkR a n r L k)) n k) 256) k (pkR a n r L k) := if_pos h
theorem putL_0 {v : Int32} (h : v = -1) : putL v k L = L := if_pos h
theorem putL_1 {v : Int32} (h : v = nI p) (hp : p < 256) : putL v k L = (k, nI (p % 16), nI (p / 16)) :: L := by
  unfold putL
  rw [h, if_neg (nI_m1 (by omega)), nI_clamp (by omega)]
theorem pkR_y0 (h : its (runA a (pkR a n r L k)) k 1 = nI r) (h2 : findI (fitP (runA a (pkR a n r L k)) n k) 256 = -1) : pkR a n r L (k + 1) = pkR a n r L k := (pkR_y h).trans (putL_0 h2)
theorem pkR_y1 (h : its (runA a (pkR a n r L k)) k 1 = nI r) (h2 : findI (fitP (runA a (pkR a n r L k)) n k) 256 = nI p) (hp : p < 256) : pkR a n r L (k + 1) = (k, nI (p % 16), nI (p / 16)) :: pkR a n r L k := (pkR_y h).trans (putL_1 h2 hp)
end PK
/-- a place by its number, or none -/
def plI (f : Nat → Bool) (v : Int32) : Prop := v = -1 ∨ ∃ p, p < 256 ∧ f p = true ∧ v = nI p
theorem plI_get {f : Nat → Bool} {v : Int32} (h : plI f v) (h2 : ¬ v = -1) : ∃ p, p < 256 ∧ f p = true ∧ v = nI p := by
  rcases h with e | e
  · exact absurd e h2
  · exact e
theorem plI_find {f : Nat → Bool} : plI f (findI f 256) := by
  by_cases h : findI f 256 = -1
  · exact Or.inl h
  · obtain ⟨p, h1, h2, h3⟩ := findI_some h
    exact Or.inr ⟨p, h1, h2, h3⟩
theorem okL_pl {n k : Nat} {L : Ops} {f : Nat → Bool} {v : Int32} (h : okL n L) (hk : k < n) (hv : plI f v) : okL n (putL v k L) := by
  rcases hv with e | ⟨p, hp, -, e⟩
  · rw [putL_0 e]; exact h
  · rw [putL_1 e hp]; exact okL_c h hk (plc_p hp)
theorem pkR_ok {a : Nat → Int32} {n r : Nat} {L : Ops} (hl : okL n L) : ∀ {k : Nat}, k ≤ n → okL n (pkR a n r L k)
  | 0, _ => hl
  | k + 1, hk => by
    unfold pkR
    split
    · have hv := plI_find (f := fitP (runA a (pkR a n r L k)) n k)
      generalize findI (fitP (runA a (pkR a n r L k)) n k) 256 = v at hv ⊢
      exact okL_pl (pkR_ok hl (by omega)) (by omega) hv
    · exact pkR_ok hl (by omega)
theorem offL_ok {n : Nat} : ∀ {k : Nat}, k ≤ n → okL n (offL k)
  | 0, _ => okL_0
  | k + 1, hk => okL_c (offL_ok (by omega)) (by omega) plc_no
theorem pkL_ok {a : Nat → Int32} {n : Nat} : ∀ {r : Nat}, okL n (pkL a n r)
  | 0 => offL_ok (Nat.le_refl n)
  | r + 1 => pkR_ok pkL_ok (Nat.le_refl n)
set_option maxRecDepth 100000 in
theorem c_KA_putAt_no {σ : SI} {δ : SD} {B n : Nat} {a : Nat → Int32} (hB : LB B) (hW : WF a n) (hR : RB σ B a n) {k : Nat} (hk : k < n) : E KA_putAt [.ref B, .int (nI k), .int (-1)] (HH σ δ) (none) (HH σ δ) := by
  have h8 := hW.n8
  have h2 := hR.c
  refine E.ofL [some (.ref B), some (.int (nI k)), some (.int (-1))] rfl pn_RX2 rfl (fun sc => ?_)
  refine g_iload_n dX2_putAt_0 rfl ?_
  refine g_iconst dX2_putAt_1 ic_m1 ?_
  refine g_icmp_eq (tgt := 18) dX2_putAt_2 rfl (fun zc2 => ?_) (fun zc2 => ?_)
  · exact e_vret dX2_putAt_18 rfl (by rfl)
  · exact absurd rfl zc2
set_option maxRecDepth 100000 in
theorem c_KA_putAt_yes {σ : SI} {δ : SD} {B n : Nat} {a : Nat → Int32} (hB : LB B) (hW : WF a n) (hR : RB σ B a n) {k p : Nat} (hk : k < n) (hp : p < 256) : E KA_putAt [.ref B, .int (nI k), .int (nI p)] (HH σ δ) (none) (HH (sLay σ B k (nI (p % 16)) (nI (p / 16))) δ) := by
  have h8 := hW.n8
  have h2 := hR.c
  refine E.ofL [some (.ref B), some (.int (nI k)), some (.int (nI p))] rfl pn_RX2 rfl (fun sc => ?_)
  refine g_iload_n dX2_putAt_0 rfl ?_
  refine g_iconst dX2_putAt_1 ic_m1 ?_
  refine g_icmp_eq (tgt := 18) dX2_putAt_2 rfl (fun zc2 => ?_) (fun zc2 => ?_)
  · exact absurd zc2 (nI_m1 (by omega))
  · refine g_aload_n dX2_putAt_5 rfl ?_
    refine g_iload_n dX2_putAt_6 rfl ?_
    refine g_iload_n dX2_putAt_7 rfl ?_
    refine g_bipush dX2_putAt_8 bp_16 ?_
    refine n_irem dX2_putAt_10 (by omega) (by omega) (by omega) ?_
    refine g_iload_n dX2_putAt_11 rfl ?_
    refine g_bipush dX2_putAt_12 bp_16 ?_
    refine n_idiv dX2_putAt_14 (by omega) (by omega) (by omega) ?_
    refine g_v3n (M' := KL_put) dX2_putAt_15 l_A_51 v_KL_put (c_KL_put hB hW hR (by omega)) (rcL hB) rfl rfl ⟨rfl, rfl⟩ ?_
    exact e_vret dX2_putAt_18 rfl (by rfl)

theorem c_KA_putAt {σ : SI} {δ : SD} {B n k : Nat} {a : Nat → Int32} {L : Ops} {v : Int32} {f : Nat → Bool} (hB : LB B) (hL : HL (runS σ B L) B (runA a L) n) (hk : k < n) (hv : plI f v) : E KA_putAt [.ref B, .int (nI k), .int v] (HH (runS σ B L) δ) none (HH (runS σ B (putL v k L)) δ) := by
  unfold putL
  rcases hv with rfl | ⟨p, hp, -, rfl⟩
  · rw [if_pos rfl]
    exact c_KA_putAt_no hB hL.wf hL.rb hk
  · rw [if_neg (nI_m1 (by omega)), nI_clamp (by omega)]
    exact c_KA_putAt_yes hB hL.wf hL.rb hk hp
theorem c_KL_put_run {σ : SI} {δ : SD} {B n k : Nat} {a : Nat → Int32} {L : Ops} {x y : Int32} (hB : LB B) (hL : HL (runS σ B L) B (runA a L) n) (hk : k < n) : E KL_put [.ref B, .int (nI k), .int x, .int y] (HH (runS σ B L) δ) none (HH (runS σ B ((k, x, y) :: L)) δ) := c_KL_put hB hL.wf hL.rb hk
theorem c_KR_layNow_run {σ : SI} {δ : SD} {k : Nat} {L : Ops} {x y : Int32} (hk : k < 8) : E KR_layNow [.ref 84, .int (nI k), .int x, .int y] (HH (runM σ L) δ) (some (.int (if liesA (runM σ L 85) k then nI 1 else nI 0))) (HH (runM σ ((k, x, y) :: L)) δ) := c_KR_layNow hk
theorem c_KR_offNow_run {σ : SI} {δ : SD} {n k : Nat} {L : Ops} (hW : WF (runM σ L 85) n) (hk : k < n) : E KR_offNow [.ref 84, .int (nI k)] (HH (runM σ L) δ) (some (.int (nI (cntN (liesA (aLay (runM σ L 85) k (-1) (-1))) n)))) (HH (runM σ ((k, -1, -1) :: L)) δ) := c_KR_offNow hW hk

set_option maxRecDepth 100000 in
theorem c_KA_pack {σ : SI} {δ : SD} {B n : Nat} {a : Nat → Int32} (hB : LB B) (hL : HL σ B a n) : E KA_pack [.ref 72, .ref B] (HH σ δ) (some (.int (nI (cntN (liesA (runA a (pkL a n 6))) n)))) (HH (runS σ B (pkL a n 6)) δ) := by
  have h8 := hL.wf.n8
  refine E.ofL [some (.ref 72), some (.ref B)] rfl pn_RX2 rfl (fun sc => ?_)
  generalize hRz : (fun (zr : Option Value) (zk : XH) => zr = some (.int (nI (cntN (liesA (runA a (pkL a n 6))) n))) ∧ zk = HH (runS σ B (pkL a n 6)) δ) = R
  refine g_iconst dX2_pack_0 ic_0 ?_
  refine g_istore_n dX2_pack_1 rfl ?_
  have H2 : ∀ (N : Nat) (k : Nat) (L : List (Nat × Int32 × Int32)), k ≤ n → L = offL k → n - k < N → G sc KA_pack 2 (aL [some (.ref 72), some (.ref B), some (.int (nI k))]) [] (HH (runS σ B L) δ) (0, 0) R := by
    intro N
    induction N with
    | zero => intro k L h1 hb hN2; exact absurd hN2 (Nat.not_lt_zero _)
    | succ N ih2 =>
      intro k L h1 hb hN2
      have hl : okL n L := by rw [hb]; exact offL_ok h1
      refine g_iload_n dX2_pack_2 rfl ?_
      refine g_aload_n dX2_pack_3 rfl ?_
      refine q_geti dX2_pack_4 f_A_55 (ckL_0 hB) (by decide) ty_0_2 ?_
      refine g_top (HL_run hL hl).rb.c ?_
      refine n_icmp_ge (tgt := 23) (by omega) (by omega) dX2_pack_7 rfl (fun zc7 => ?_) (fun zc7 => ?_)
      · refine g_iconst dX2_pack_23 ic_1 ?_
        refine g_istore_n dX2_pack_24 rfl ?_
        have H25 : ∀ (N : Nat) (r : Nat) (L2 : List (Nat × Int32 × Int32)), 1 ≤ r → r ≤ 7 → L2 = pkL a n (r - 1) → 7 - r < N → G sc KA_pack 25 (aL [some (.ref 72), some (.ref B), some (.int (nI r))]) [] (HH (runS σ B L2) δ) (0, 0) R := by
          intro N
          induction N with
          | zero => intro r L2 h3 h4 hb2 hN25; exact absurd hN25 (Nat.not_lt_zero _)
          | succ N ih25 =>
            intro r L2 h3 h4 hb2 hN25
            have hl2 : okL n L2 := by rw [hb2]; exact pkL_ok
            refine g_iload_n dX2_pack_25 rfl ?_
            refine g_bipush dX2_pack_26 bp_6 ?_
            refine n_icmp_gt (tgt := 74) (by omega) (by omega) dX2_pack_28 rfl (fun zc28 => ?_) (fun zc28 => ?_)
            · obtain rfl : L2 = pkL a n 6 := by rw [hb2, show r - 1 = 6 by omega]
              refine g_aload_n dX2_pack_74 rfl ?_
              refine g_v0 (M' := KL_lying) dX2_pack_75 l_A_69 v_KL_lying (c_KL_lying hB (HL_run hL hl2).wf (HL_run hL hl2).rb) (rcL hB) rfl rfl ⟨rfl, rfl⟩ ?_
              exact g_iret (S := []) dX2_pack_78 rfl (by rw [← hRz]; exact ⟨congrArg (fun zz => some (Value.int zz)) (show _ = _ by rfl), by rfl⟩) (Nat.zero_le _) (Nat.zero_le _)
            · refine g_iconst dX2_pack_31 ic_0 ?_
              refine g_istore_n dX2_pack_32 rfl ?_
              have H33 : ∀ (N : Nat) (k : Nat) (L1 : List (Nat × Int32 × Int32)), k ≤ n → L1 = pkR a n r L2 k → n - k < N → G sc KA_pack 33 (aL [some (.ref 72), some (.ref B), some (.int (nI r)), some (.int (nI k))]) [] (HH (runS σ B L1) δ) (0, 0) R := by
                intro N
                induction N with
                | zero => intro k L1 h5 hb1 hN33; exact absurd hN33 (Nat.not_lt_zero _)
                | succ N ih33 =>
                  intro k L1 h5 hb1 hN33
                  have hl1 : okL n L1 := by rw [hb1]; exact pkR_ok hl2 h5
                  refine g_iload_n dX2_pack_33 rfl ?_
                  refine g_aload_n dX2_pack_34 rfl ?_
                  refine q_geti dX2_pack_35 f_A_55 (ckL_0 hB) (by decide) ty_0_2 ?_
                  refine g_top (HL_run hL hl1).rb.c ?_
                  refine n_icmp_ge (tgt := 68) (by omega) (by omega) dX2_pack_38 rfl (fun zc38 => ?_) (fun zc38 => ?_)
                  · refine n_iinc (b := 1) dX2_pack_68 rfl rfl rfl ?_
                    refine g_goto (tgt := 25) dX2_pack_71 rfl ?_
                    exact g_can _ (by exact ⟨rfl, rfl, rfl, trivial⟩) (ih25 (r + 1) _ (by omega) (by omega) (by rw [hb1, show k = n by omega, hb2]; exact pkL_s h3) (by omega))
                  · refine g_aload_n dX2_pack_41 rfl ?_
                    refine g_iload_n dX2_pack_42 rfl ?_
                    refine g_iconst dX2_pack_43 ic_1 ?_
                    refine g_v2 (M' := KL_trait) dX2_pack_44 l_A_58 v_KL_trait (c_KL_trait hB (HL_run hL hl1).wf (HL_run hL hl1).rb (by omega) (by decide)) (rcL hB) rfl rfl ⟨rfl, rfl⟩ ?_
                    refine g_iload_n dX2_pack_47 rfl ?_
                    refine g_icmp_ne (tgt := 62) dX2_pack_48 rfl (fun zc48 => ?_) (fun zc48 => ?_)
                    · refine n_iinc (b := 1) dX2_pack_62 rfl rfl rfl ?_
                      refine g_goto (tgt := 33) dX2_pack_65 rfl ?_
                      exact g_can _ (by exact ⟨rfl, rfl, rfl, rfl, trivial⟩) (ih33 (k + 1) _ (by omega) (by rw [hb1]; rw [hb1] at zc48; first | (have zq := pkR_n zc48; exact zq.symm) | (rw [hb1] at hz; have zq := pkR_y zc48; rw [hz] at zq; exact zq.symm)) (by omega))
                    · refine g_aload_n dX2_pack_51 rfl ?_
                      refine g_iload_n dX2_pack_52 rfl ?_
                      refine g_aload_n dX2_pack_53 rfl ?_
                      refine g_aload_n dX2_pack_54 rfl ?_
                      refine g_iload_n dX2_pack_55 rfl ?_
                      refine g_v2 (M' := KA_first) dX2_pack_56 l_A_61 v_KA_first (c_KA_first hB (HL_run hL hl1).wf (HL_run hL hl1).rb (HL_run hL hl1).rd (by omega)) rc_72 rfl rfl ⟨rfl, rfl⟩ ?_
                      have hv := plI_find (f := fitP (runA a L1) n k)
                      generalize hz : findI (fitP (runA a L1) n k) 256 = v at hv ⊢
                      refine g_s3n (M' := KA_putAt) dX2_pack_59 l_A_65 s_KA_putAt (c_KA_putAt hB (HL_run hL hl1) (by omega) hv) rfl rfl ⟨rfl, rfl⟩ ?_
                      refine n_iinc (b := 1) dX2_pack_62 rfl rfl rfl ?_
                      refine g_goto (tgt := 33) dX2_pack_65 rfl ?_
                      exact g_can _ (by exact ⟨rfl, rfl, rfl, rfl, trivial⟩) (ih33 (k + 1) _ (by omega) (by rw [hb1]; rw [hb1] at zc48; first | (have zq := pkR_n zc48; exact zq.symm) | (rw [hb1] at hz; have zq := pkR_y zc48; rw [hz] at zq; exact zq.symm)) (by omega))
              exact g_can _ (by exact ⟨rfl, rfl, rfl, rfl, trivial⟩) (H33 _ 0 L2 (by omega) rfl (Nat.lt_succ_self _))
        exact g_can _ (by exact ⟨rfl, rfl, rfl, trivial⟩) (H25 _ 1 L (by omega) (by omega) (by rw [hb, show k = n by omega]; rfl) (Nat.lt_succ_self _))
      · refine g_aload_n dX2_pack_10 rfl ?_
        refine g_iload_n dX2_pack_11 rfl ?_
        refine g_iconst dX2_pack_12 ic_m1 ?_
        refine g_iconst dX2_pack_13 ic_m1 ?_
        refine g_v3n (M' := KL_put) dX2_pack_14 l_A_51 v_KL_put (c_KL_put_run hB (HL_run hL hl) (by omega)) (rcL hB) rfl rfl ⟨rfl, rfl⟩ ?_
        refine n_iinc (b := 1) dX2_pack_17 rfl rfl rfl ?_
        refine g_goto (tgt := 2) dX2_pack_20 rfl ?_
        exact g_can _ (by exact ⟨rfl, rfl, rfl, trivial⟩) (ih2 (k + 1) _ (by omega) (by rw [hb]; rfl) (by omega))
  exact g_can _ (by exact ⟨rfl, rfl, rfl, trivial⟩) (H2 _ 0 [] (by omega) rfl (Nat.lt_succ_self _))
set_option maxRecDepth 100000 in
theorem c_KR_packNow {σ : SI} {δ : SD} {n : Nat} (hW : WF (σ 85) n) : E KR_packNow [.ref 84] (HH σ δ) (some (.int (nI (cntN (liesA (runA (σ 85) (pkL (σ 85) n 6))) n)))) (HH (runM σ (pkL (σ 85) n 6)) δ) := by
  have h8 := hW.n8
  refine E.ofL [some (.ref 84)] rfl pn_RX9 rfl (fun sc => ?_)
  generalize hRz : (fun (zr : Option Value) (zk : XH) => zr = some (.int (nI (cntN (liesA (runA (σ 85) (pkL (σ 85) n 6))) n))) ∧ zk = HH (runM σ (pkL (σ 85) n 6)) δ) = R
  refine g_iconst dX9_packNow_0 ic_0 ?_
  refine g_istore_n dX9_packNow_1 rfl ?_
  have H2 : ∀ (N : Nat) (k : Nat) (L : List (Nat × Int32 × Int32)), k ≤ n → L = offL k → n - k < N → G sc KR_packNow 2 (aL [some (.ref 84), some (.int (nI k))]) [] (HH (runM σ L) δ) (0, 0) R := by
    intro N
    induction N with
    | zero => intro k L h1 hb hN2; exact absurd hN2 (Nat.not_lt_zero _)
    | succ N ih2 =>
      intro k L h1 hb hN2
      have hl : okL n L := by rw [hb]; exact offL_ok h1
      refine g_iload_n dX9_packNow_2 rfl ?_
      refine g_aload_n dX9_packNow_3 rfl ?_
      refine g_v0 (M' := KR_many) dX9_packNow_4 l_R_42 v_KR_many c_KR_many rc_84 rfl rfl ⟨rfl, rfl⟩ ?_
      refine g_top (WF_runM hW hl).a7 ?_
      refine n_icmp_ge (tgt := 22) (by omega) (by omega) dX9_packNow_7 rfl (fun zc7 => ?_) (fun zc7 => ?_)
      · refine g_iconst dX9_packNow_22 ic_1 ?_
        refine g_istore_n dX9_packNow_23 rfl ?_
        have H24 : ∀ (N : Nat) (r : Nat) (L2 : List (Nat × Int32 × Int32)), 1 ≤ r → r ≤ 7 → L2 = pkL (σ 85) n (r - 1) → 7 - r < N → G sc KR_packNow 24 (aL [some (.ref 84), some (.int (nI r))]) [] (HH (runM σ L2) δ) (0, 0) R := by
          intro N
          induction N with
          | zero => intro r L2 h3 h4 hb2 hN24; exact absurd hN24 (Nat.not_lt_zero _)
          | succ N ih24 =>
            intro r L2 h3 h4 hb2 hN24
            have hl2 : okL n L2 := by rw [hb2]; exact pkL_ok
            refine g_iload_n dX9_packNow_24 rfl ?_
            refine g_bipush dX9_packNow_25 bp_6 ?_
            refine n_icmp_gt (tgt := 92) (by omega) (by omega) dX9_packNow_27 rfl (fun zc27 => ?_) (fun zc27 => ?_)
            · obtain rfl : L2 = pkL (σ 85) n 6 := by rw [hb2, show r - 1 = 6 by omega]
              refine g_aload_n dX9_packNow_92 rfl ?_
              refine g_v0 (M' := KR_liesMany) dX9_packNow_93 l_R_175 v_KR_liesMany (c_KR_liesMany (WF_runM hW hl2)) rc_84 rfl rfl ⟨rfl, rfl⟩ ?_
              exact g_iret (S := []) dX9_packNow_96 rfl (by rw [← hRz]; exact ⟨congrArg (fun zz => some (Value.int zz)) (show _ = _ by rw [runM_row]), by rfl⟩) (Nat.zero_le _) (Nat.zero_le _)
            · refine g_iconst dX9_packNow_30 ic_0 ?_
              refine g_istore_n dX9_packNow_31 rfl ?_
              have H32 : ∀ (N : Nat) (k : Nat) (L1 : List (Nat × Int32 × Int32)), k ≤ n → L1 = pkR (σ 85) n r L2 k → n - k < N → G sc KR_packNow 32 (aL [some (.ref 84), some (.int (nI r)), some (.int (nI k))]) [] (HH (runM σ L1) δ) (0, 0) R := by
                intro N
                induction N with
                | zero => intro k L1 h5 hb1 hN32; exact absurd hN32 (Nat.not_lt_zero _)
                | succ N ih32 =>
                  intro k L1 h5 hb1 hN32
                  have hl1 : okL n L1 := by rw [hb1]; exact pkR_ok hl2 h5
                  refine g_iload_n dX9_packNow_32 rfl ?_
                  refine g_aload_n dX9_packNow_33 rfl ?_
                  refine g_v0 (M' := KR_many) dX9_packNow_34 l_R_42 v_KR_many c_KR_many rc_84 rfl rfl ⟨rfl, rfl⟩ ?_
                  refine g_top (WF_runM hW hl1).a7 ?_
                  refine n_icmp_ge (tgt := 86) (by omega) (by omega) dX9_packNow_37 rfl (fun zc37 => ?_) (fun zc37 => ?_)
                  · refine n_iinc (b := 1) dX9_packNow_86 rfl rfl rfl ?_
                    refine g_goto (tgt := 24) dX9_packNow_89 rfl ?_
                    exact g_can _ (by exact ⟨rfl, rfl, trivial⟩) (ih24 (r + 1) _ (by omega) (by omega) (by rw [hb1, show k = n by omega, hb2]; exact pkL_s h3) (by omega))
                  · refine g_aload_n dX9_packNow_40 rfl ?_
                    refine g_iload_n dX9_packNow_41 rfl ?_
                    refine g_iconst dX9_packNow_42 ic_1 ?_
                    refine g_v2 (M' := KR_its) dX9_packNow_43 l_R_50 v_KR_its (c_KR_its (by omega) (by omega)) rc_84 rfl rfl ⟨rfl, rfl⟩ ?_
                    refine g_iload_n dX9_packNow_46 rfl ?_
                    refine g_icmp_ne (tgt := 58) dX9_packNow_47 rfl (fun zc47 => ?_) (fun zc47 => ?_)
                    · refine g_iconst dX9_packNow_58 ic_m1 ?_
                      refine g_top rfl ?_
                      refine g_istore_n dX9_packNow_59 rfl ?_
                      refine g_iload_n dX9_packNow_60 rfl ?_
                      refine g_iconst dX9_packNow_61 ic_m1 ?_
                      refine g_icmp_eq (tgt := 80) dX9_packNow_62 rfl (fun zc62 => ?_) (fun zc62 => ?_)
                      · refine n_iinc (b := 1) dX9_packNow_80 rfl rfl rfl ?_
                        refine g_goto (tgt := 32) dX9_packNow_83 rfl ?_
                        exact g_can _ (by exact ⟨rfl, rfl, rfl, trivial⟩) (ih32 (k + 1) _ (by omega) (by rw [hb1]; rw [runM_row, hb1] at zc47; first | (have zq := pkR_n zc47; exact zq.symm) | (rw [runM_row, hb1, zc62] at hz; have zq := pkR_y0 zc47 hz; exact zq.symm) | (rw [runM_row, hb1, ep] at hz; have zq := pkR_y1 zc47 hz hp; exact zq.symm)) (by omega))
                      · exact absurd rfl zc62
                    · refine g_aload_n dX9_packNow_50 rfl ?_
                      refine g_iload_n dX9_packNow_51 rfl ?_
                      refine g_v1 (M' := KR_firstPlace) dX9_packNow_52 l_R_188 v_KR_firstPlace (c_KR_firstPlace (WF_runM hW hl1) (by omega)) rc_84 rfl rfl ⟨rfl, rfl⟩ ?_
                      have hv := plI_find (f := fitP (runM σ L1 85) n k)
                      generalize hz : findI (fitP (runM σ L1 85) n k) 256 = v at hv ⊢
                      refine g_goto (tgt := 59) dX9_packNow_55 rfl ?_
                      refine g_istore_n dX9_packNow_59 rfl ?_
                      refine g_iload_n dX9_packNow_60 rfl ?_
                      refine g_iconst dX9_packNow_61 ic_m1 ?_
                      refine g_icmp_eq (tgt := 80) dX9_packNow_62 rfl (fun zc62 => ?_) (fun zc62 => ?_)
                      · refine n_iinc (b := 1) dX9_packNow_80 rfl rfl rfl ?_
                        refine g_goto (tgt := 32) dX9_packNow_83 rfl ?_
                        exact g_can _ (by exact ⟨rfl, rfl, rfl, trivial⟩) (ih32 (k + 1) _ (by omega) (by rw [hb1]; rw [runM_row, hb1] at zc47; first | (have zq := pkR_n zc47; exact zq.symm) | (rw [runM_row, hb1, zc62] at hz; have zq := pkR_y0 zc47 hz; exact zq.symm) | (rw [runM_row, hb1, ep] at hz; have zq := pkR_y1 zc47 hz hp; exact zq.symm)) (by omega))
                      · obtain ⟨p, hp, hfp, ep⟩ := plI_get hv zc62
                        refine g_aload_n dX9_packNow_65 rfl ?_
                        refine g_iload_n dX9_packNow_66 rfl ?_
                        refine g_iload_n dX9_packNow_67 rfl ?_
                        refine g_top ep ?_
                        refine g_bipush dX9_packNow_68 bp_16 ?_
                        refine n_irem dX9_packNow_70 (by omega) (by omega) (by omega) ?_
                        refine g_iload_n dX9_packNow_71 rfl ?_
                        refine g_top ep ?_
                        refine g_bipush dX9_packNow_72 bp_16 ?_
                        refine n_idiv dX9_packNow_74 (by omega) (by omega) (by omega) ?_
                        refine g_v3 (M' := KR_layNow) dX9_packNow_75 l_R_172 v_KR_layNow (c_KR_layNow_run (by omega)) rc_84 rfl rfl ⟨rfl, rfl⟩ ?_
                        refine g_istore dX9_packNow_78 rfl ?_
                        refine n_iinc (b := 1) dX9_packNow_80 rfl rfl rfl ?_
                        refine g_goto (tgt := 32) dX9_packNow_83 rfl ?_
                        exact g_can _ (by exact ⟨rfl, rfl, rfl, trivial⟩) (ih32 (k + 1) _ (by omega) (by rw [hb1]; rw [runM_row, hb1] at zc47; first | (have zq := pkR_n zc47; exact zq.symm) | (rw [runM_row, hb1, zc62] at hz; have zq := pkR_y0 zc47 hz; exact zq.symm) | (rw [runM_row, hb1, ep] at hz; have zq := pkR_y1 zc47 hz hp; exact zq.symm)) (by omega))
              exact g_can _ (by exact ⟨rfl, rfl, rfl, trivial⟩) (H32 _ 0 L2 (by omega) rfl (Nat.lt_succ_self _))
        exact g_can _ (by exact ⟨rfl, rfl, trivial⟩) (H24 _ 1 L (by omega) (by omega) (by rw [hb, show k = n by omega]; rfl) (Nat.lt_succ_self _))
      · refine g_aload_n dX9_packNow_10 rfl ?_
        refine g_iload_n dX9_packNow_11 rfl ?_
        refine g_v1 (M' := KR_offNow) dX9_packNow_12 l_R_181 v_KR_offNow (c_KR_offNow_run (WF_runM hW hl) (by omega)) rc_84 rfl rfl ⟨rfl, rfl⟩ ?_
        refine g_istore_n dX9_packNow_15 rfl ?_
        refine n_iinc (b := 1) dX9_packNow_16 rfl rfl rfl ?_
        refine g_goto (tgt := 2) dX9_packNow_19 rfl ?_
        exact g_can _ (by exact ⟨rfl, rfl, trivial⟩) (ih2 (k + 1) _ (by omega) (by rw [hb]; rfl) (by omega))
  exact g_can _ (by exact ⟨rfl, rfl, trivial⟩) (H2 _ 0 [] (by omega) rfl (Nat.lt_succ_self _))
