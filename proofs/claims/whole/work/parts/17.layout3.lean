/-! CONTRACTS of a layout: what changes it -/
def sLay (σ : SI) (B k : Nat) (x y : Int32) : SI := uI (uI σ (B + 5) k x) (B + 6) k y
def aLay (a : Nat → Int32) (k : Nat) (x y : Int32) : Nat → Int32 := upd (upd a (8 + 6 * k + 4) x) (8 + 6 * k + 5) y
def sItem (σ : SI) (B n : Nat) (so r c b : Int32) : SI := uI (uI (uI (uI (uI (uI (uI σ (B + 4) (4 * n + 0) so) (B + 4) (4 * n + 1) r) (B + 4) (4 * n + 2) c) (B + 4) (4 * n + 3) b) (B + 5) n (-1)) (B + 6) n (-1)) B 2 (nI (n + 1))
def aItem (a : Nat → Int32) (n : Nat) (so r c b : Int32) : Nat → Int32 := upd (upd (upd (upd (upd (upd (upd a (8 + 6 * n + 0) so) (8 + 6 * n + 1) r) (8 + 6 * n + 2) c) (8 + 6 * n + 3) b) (8 + 6 * n + 4) (-1)) (8 + 6 * n + 5) (-1)) 7 (nI (n + 1))
/-- the row without item k: those behind it are one nearer -/
def aDrop (a : Nat → Int32) (n k : Nat) : Nat → Int32 := fun j => if j = 7 then nI (n - 1) else if 8 + 6 * k ≤ j ∧ j < 8 + 6 * (n - 1) then a (j + 6) else a j
def sDrop (σ : SI) (B n k : Nat) : SI := uI (uR (uR (uR σ (B + 4) (va_cpy (σ (B + 4)) (σ (B + 4)) (4 * (k + 1)) (4 * k) (4 * (n - 1 - k)))) (B + 5) (va_cpy (σ (B + 5)) (σ (B + 5)) (k + 1) k (n - 1 - k))) (B + 6) (va_cpy (σ (B + 6)) (σ (B + 6)) (k + 1) k (n - 1 - k))) B 2 (nI (n - 1))
theorem nI_arg {j : Nat} (h : j < 1000) : ¬ nI j < 0 ∧ (nI j).toNatClampNeg = j := ⟨nI_pos (by omega), nI_clamp (by omega)⟩
theorem upd_s {f : Nat → Int32} {k : Nat} {v : Int32} : upd f k v k = v := pk_us
theorem upd_n {f : Nat → Int32} {k j : Nat} {v : Int32} (h : j ≠ k) : upd f k v j = f j := pk_un h
section RBu
variable {σ : SI} {B n : Nat} {a : Nat → Int32}
theorem RB_size {w h : Int32} (hR : RB σ B a n) : RB (uI (uI σ B 0 w) B 1 h) B (upd (upd a 0 w) 1 h) n := by
  refine ⟨?_, ?_, ?_, fun i hi => ?_, fun k hk j hj => ?_, fun k hk => ?_, fun k hk => ?_⟩
  · rw [uI_oth (by omega), uI_same, upd_n (by decide), upd_s]
  · rw [uI_same, upd_s]
  · rw [uI_oth (by omega), uI_oth (by omega)]; exact hR.c
  · rw [uI_oth (by omega), uI_oth (by omega), upd_n (by omega), upd_n (by omega)]; exact hR.s i hi
  · unfold its; rw [uI_oth (by omega), uI_oth (by omega), upd_n (by omega), upd_n (by omega)]; exact hR.t hk hj
  · unfold its; rw [uI_oth (by omega), uI_oth (by omega), upd_n (by omega), upd_n (by omega)]; exact hR.x hk
  · unfold its; rw [uI_oth (by omega), uI_oth (by omega), upd_n (by omega), upd_n (by omega)]; exact hR.y hk
theorem RB_set {j : Nat} {v : Int32} (hR : RB σ B a n) (hj : j < 5) : RB (uI σ (B + 3) j v) B (upd a (2 + j) v) n := by
  refine ⟨?_, ?_, ?_, fun i hi => ?_, fun k hk j hj => ?_, fun k hk => ?_, fun k hk => ?_⟩
  · rw [uI_oth (by omega), upd_n (by omega)]; exact hR.w
  · rw [uI_oth (by omega), upd_n (by omega)]; exact hR.h
  · rw [uI_oth (by omega)]; exact hR.c
  · by_cases e : i = j
    · subst e; rw [uI_same, upd_s]
    · rw [uI_oth (by omega), upd_n (by omega)]; exact hR.s i hi
  · unfold its; rw [uI_oth (by omega), upd_n (by omega)]; exact hR.t hk hj
  · unfold its; rw [uI_oth (by omega), upd_n (by omega)]; exact hR.x hk
  · unfold its; rw [uI_oth (by omega), upd_n (by omega)]; exact hR.y hk
theorem RB_trait {k0 j0 : Nat} {v : Int32} (hR : RB σ B a n) (hk0 : k0 < n) (hj0 : j0 < 4) : RB (uI σ (B + 4) (4 * k0 + j0) v) B (upd a (8 + 6 * k0 + j0) v) n := by
  refine ⟨?_, ?_, ?_, fun i hi => ?_, fun k hk j hj => ?_, fun k hk => ?_, fun k hk => ?_⟩
  · rw [uI_oth (by omega), upd_n (by omega)]; exact hR.w
  · rw [uI_oth (by omega), upd_n (by omega)]; exact hR.h
  · rw [uI_oth (by omega)]; exact hR.c
  · rw [uI_oth (by omega), upd_n (by omega)]; exact hR.s i hi
  · unfold its
    by_cases e : k = k0 ∧ j = j0
    · rw [e.1, e.2, uI_same, upd_s]
    · rw [uI_oth (by omega), upd_n (by omega)]; exact hR.t hk hj
  · unfold its; rw [uI_oth (by omega), upd_n (by omega)]; exact hR.x hk
  · unfold its; rw [uI_oth (by omega), upd_n (by omega)]; exact hR.y hk
theorem RB_lay {k0 : Nat} {x y : Int32} (hR : RB σ B a n) (hk0 : k0 < n) : RB (sLay σ B k0 x y) B (aLay a k0 x y) n := by
  unfold sLay aLay
  refine ⟨?_, ?_, ?_, fun i hi => ?_, fun k hk j hj => ?_, fun k hk => ?_, fun k hk => ?_⟩
  · rw [uI_oth (by omega), uI_oth (by omega), upd_n (by omega), upd_n (by omega)]; exact hR.w
  · rw [uI_oth (by omega), uI_oth (by omega), upd_n (by omega), upd_n (by omega)]; exact hR.h
  · rw [uI_oth (by omega), uI_oth (by omega)]; exact hR.c
  · rw [uI_oth (by omega), uI_oth (by omega), upd_n (by omega), upd_n (by omega)]; exact hR.s i hi
  · unfold its; rw [uI_oth (by omega), uI_oth (by omega), upd_n (by omega), upd_n (by omega)]; exact hR.t hk hj
  · unfold its
    by_cases e : k = k0
    · subst e; rw [uI_oth (by omega), uI_same, upd_n (by omega), upd_s]
    · rw [uI_oth (by omega), uI_oth (by omega), upd_n (by omega), upd_n (by omega)]; exact hR.x hk
  · unfold its
    by_cases e : k = k0
    · subst e; rw [uI_same, upd_s]
    · rw [uI_oth (by omega), uI_oth (by omega), upd_n (by omega), upd_n (by omega)]; exact hR.y hk
theorem RB_item {so r c b : Int32} (hR : RB σ B a n) (hn : n < 8) : RB (sItem σ B n so r c b) B (aItem a n so r c b) (n + 1) := by
  unfold sItem aItem
  refine ⟨?_, ?_, ?_, fun i hi => ?_, fun k hk j hj => ?_, fun k hk => ?_, fun k hk => ?_⟩
  · repeat rw [uI_oth (by omega)]
    repeat rw [upd_n (by omega)]
    exact hR.w
  · repeat rw [uI_oth (by omega)]
    repeat rw [upd_n (by omega)]
    exact hR.h
  · rw [uI_same]
  · repeat rw [uI_oth (by omega)]
    repeat rw [upd_n (by omega)]
    exact hR.s i hi
  · unfold its
    by_cases e : k = n
    · subst e
      rw [uI_oth (by omega), uI_oth (by omega), uI_oth (by omega), upd_n (by omega), upd_n (by omega), upd_n (by omega)]
      rcases (show j = 0 ∨ j = 1 ∨ j = 2 ∨ j = 3 by omega) with rfl | rfl | rfl | rfl
      · rw [uI_oth (by omega), uI_oth (by omega), uI_oth (by omega), uI_same, upd_n (by omega), upd_n (by omega), upd_n (by omega), upd_s]
      · rw [uI_oth (by omega), uI_oth (by omega), uI_same, upd_n (by omega), upd_n (by omega), upd_s]
      · rw [uI_oth (by omega), uI_same, upd_n (by omega), upd_s]
      · rw [uI_same, upd_s]
    · repeat rw [uI_oth (by omega)]
      repeat rw [upd_n (by omega)]
      exact hR.t (by omega) hj
  · unfold its
    by_cases e : k = n
    · subst e
      rw [uI_oth (by omega), uI_oth (by omega), uI_same, upd_n (by omega), upd_n (by omega), upd_s]
    · repeat rw [uI_oth (by omega)]
      repeat rw [upd_n (by omega)]
      exact hR.x (by omega)
  · unfold its
    by_cases e : k = n
    · subst e
      rw [uI_oth (by omega), uI_same, upd_n (by omega), upd_s]
    · repeat rw [uI_oth (by omega)]
      repeat rw [upd_n (by omega)]
      exact hR.y (by omega)
theorem RB_drop {k0 : Nat} (hR : RB σ B a n) (hk0 : k0 < n) : RB (sDrop σ B n k0) B (aDrop a n k0) (n - 1) := by
  unfold sDrop
  refine ⟨?_, ?_, ?_, fun i hi => ?_, fun k hk j hj => ?_, fun k hk => ?_, fun k hk => ?_⟩
  · rw [uI_oth (by omega), uR_ne (by omega), uR_ne (by omega), uR_ne (by omega)]
    unfold aDrop; rw [if_neg (by decide), if_neg (by omega)]; exact hR.w
  · rw [uI_oth (by omega), uR_ne (by omega), uR_ne (by omega), uR_ne (by omega)]
    unfold aDrop; rw [if_neg (by decide), if_neg (by omega)]; exact hR.h
  · rw [uI_same]
  · rw [uI_oth (by omega), uR_ne (by omega), uR_ne (by omega), uR_ne (by omega)]
    unfold aDrop; rw [if_neg (by omega), if_neg (by omega)]; exact hR.s i hi
  · rw [uI_oth (by omega), uR_ne (by omega), uR_ne (by omega), uR_eq]
    unfold its aDrop
    rw [if_neg (by omega)]
    by_cases e : k0 ≤ k
    · rw [pk_cpy_in (by omega) (by omega), if_pos (by omega), show 4 * (k0 + 1) + (4 * k + j - 4 * k0) = 4 * (k + 1) + j by omega, hR.t (by omega) hj]
      unfold its
      congr 1
      try omega
    · rw [pk_cpy_out (Or.inl (by omega)), if_neg (by omega)]; exact hR.t (by omega) hj
  · rw [uI_oth (by omega), uR_ne (by omega), uR_eq]
    unfold its aDrop
    rw [if_neg (by omega)]
    by_cases e : k0 ≤ k
    · rw [pk_cpy_in (by omega) (by omega), if_pos (by omega), show k0 + 1 + (k - k0) = k + 1 by omega, hR.x (by omega)]
      unfold its
      congr 1
      try omega
    · rw [pk_cpy_out (Or.inl (by omega)), if_neg (by omega)]; exact hR.x (by omega)
  · rw [uI_oth (by omega), uR_eq]
    unfold its aDrop
    rw [if_neg (by omega)]
    by_cases e : k0 ≤ k
    · rw [pk_cpy_in (by omega) (by omega), if_pos (by omega), show k0 + 1 + (k - k0) = k + 1 by omega, hR.y (by omega)]
      unfold its
      congr 1
      try omega
    · rw [pk_cpy_out (Or.inl (by omega)), if_neg (by omega)]; exact hR.y (by omega)
end RBu
set_option maxRecDepth 100000 in
theorem c_KL_resize {σ : SI} {δ : SD} {B n : Nat} {a : Nat → Int32} (hB : LB B) (hR : RB σ B a n) {w h : Int32} (hW1 : WF (upd (upd a 0 w) 1 h) n) : E KL_resize [.ref B, .int w, .int h] (HH σ δ) (some (.int (nI 100 * a 0 + a 1))) (HH (mea (uI (uI σ B 0 w) B 1 h) B (upd (upd a 0 w) 1 h) n) δ) := by
  have hR1 : RB (uI (uI σ B 0 w) B 1 h) B (upd (upd a 0 w) 1 h) n := RB_size hR
  refine E.ofL [some (.ref B), some (.int w), some (.int h)] rfl pn_RX1 rfl (fun sc => ?_)
  refine g_bipush dX1_resize_0 bp_100 ?_
  refine g_aload_n dX1_resize_2 rfl ?_
  refine q_geti dX1_resize_3 f_L_9 (ckL_0 hB) (by decide) ty_0_0 ?_
  refine g_top hR.w ?_
  refine g_imul dX1_resize_6 ?_
  refine g_aload_n dX1_resize_7 rfl ?_
  refine q_geti dX1_resize_8 f_L_15 (ckL_0 hB) (by decide) ty_0_1 ?_
  refine g_top hR.h ?_
  refine g_iadd dX1_resize_11 ?_
  refine g_istore_n dX1_resize_12 rfl ?_
  refine g_aload_n dX1_resize_13 rfl ?_
  refine g_iload_n dX1_resize_14 rfl ?_
  refine q_puti dX1_resize_15 f_L_9 (ckL_0 hB) (by decide) ty_0_0 fi_0_0 ?_
  refine g_aload_n dX1_resize_18 rfl ?_
  refine g_iload_n dX1_resize_19 rfl ?_
  refine q_puti dX1_resize_20 f_L_15 (ckL_0 hB) (by decide) ty_0_1 fi_0_1 ?_
  refine g_aload_n dX1_resize_23 rfl ?_
  refine g_v0n (M' := KL_measure) dX1_resize_24 l_L_72 v_KL_measure (c_KL_measure hB hW1 hR1) (rcL hB) rfl rfl ⟨rfl, rfl⟩ ?_
  refine g_iload_n dX1_resize_27 rfl ?_
  exact e_iret dX1_resize_28 rfl (by rfl) (by rfl)
set_option maxRecDepth 100000 in
theorem c_KL_putSetting {σ : SI} {δ : SD} {B n : Nat} {a : Nat → Int32} (hB : LB B) (hR : RB σ B a n) {j : Nat} {v : Int32} (hj : j < 5) (hW1 : WF (upd a (2 + j) v) n) : E KL_putSetting [.ref B, .int (nI j), .int v] (HH σ δ) (some (.int (a (2 + j)))) (HH (mea (uI σ (B + 3) j v) B (upd a (2 + j) v) n) δ) := by
  have hR1 : RB (uI σ (B + 3) j v) B (upd a (2 + j) v) n := RB_set hR hj
  refine E.ofL [some (.ref B), some (.int (nI j)), some (.int v)] rfl pn_RX1 rfl (fun sc => ?_)
  refine g_iload_n dX1_putSetting_0 rfl ?_
  refine g_iconst dX1_putSetting_1 ic_0 ?_
  refine g_iconst dX1_putSetting_2 ic_4 ?_
  refine g_s3N (M' := KP_within) dX1_putSetting_3 l_L_60 s_KP_within c_KP_within rfl rfl ⟨rfl, rfl⟩ ?_
  refine g_top (in1 (Nat.zero_le _) (by omega) (by decide)) ?_
  refine n_if_ne (tgt := 12) (by omega) dX1_putSetting_6 rfl (fun _ => ?_) (fun zc6 => absurd zc6 (by decide))
  refine g_aload_n dX1_putSetting_12 rfl ?_
  refine q_getq dX1_putSetting_13 f_L_25 (ckL_0 hB) (by decide) ty_0_4 (rfL_4 hB) ?_
  refine g_iload_n dX1_putSetting_16 rfl ?_
  refine q_iald dX1_putSetting_17 (ckL_3 hB) (ixD_nI (by omega) (by decide)) ?_
  refine g_top (hR.s j hj) ?_
  refine g_istore_n dX1_putSetting_18 rfl ?_
  refine g_aload_n dX1_putSetting_19 rfl ?_
  refine q_getq dX1_putSetting_20 f_L_25 (ckL_0 hB) (by decide) ty_0_4 (rfL_4 hB) ?_
  refine g_iload_n dX1_putSetting_23 rfl ?_
  refine g_iload_n dX1_putSetting_24 rfl ?_
  refine q_iast dX1_putSetting_25 (ckL_3 hB) (ixD_nI (by omega) (by decide)) ?_
  refine g_aload_n dX1_putSetting_26 rfl ?_
  refine g_v0n (M' := KL_measure) dX1_putSetting_27 l_L_72 v_KL_measure (c_KL_measure hB hW1 hR1) (rcL hB) rfl rfl ⟨rfl, rfl⟩ ?_
  refine g_iload_n dX1_putSetting_30 rfl ?_
  exact e_iret dX1_putSetting_31 rfl (by rfl) (by rfl)
set_option maxRecDepth 100000 in
theorem c_KL_addItem {σ : SI} {δ : SD} {B n : Nat} {a : Nat → Int32} (hB : LB B) (hR : RB σ B a n) (hn : n < 8) {so r c b : Int32} (hW1 : WF (aItem a n so r c b) (n + 1)) : E KL_addItem [.ref B, .int so, .int r, .int c, .int b] (HH σ δ) (some (.int (nI n))) (HH (mea (sItem σ B n so r c b) B (aItem a n so r c b) (n + 1)) δ) := by
  have hR1 : RB (sItem σ B n so r c b) B (aItem a n so r c b) (n + 1) := RB_item hR hn
  refine E.ofL [some (.ref B), some (.int so), some (.int r), some (.int c), some (.int b)] rfl pn_RX1 rfl (fun sc => ?_)
  refine g_aload_n dX1_addItem_0 rfl ?_
  refine q_geti dX1_addItem_1 f_L_44 (ckL_0 hB) (by decide) ty_0_2 ?_
  refine g_top hR.c ?_
  refine g_istore dX1_addItem_4 rfl ?_
  refine g_iload dX1_addItem_6 rfl ?_
  refine n_if_lt (tgt := 18) (by omega) dX1_addItem_8 rfl (fun zc8 => ?_) (fun zc8 => ?_)
  · exact zc8.elim
  · refine g_iload dX1_addItem_11 rfl ?_
    refine g_bipush dX1_addItem_13 bp_8 ?_
    refine n_icmp_lt (tgt := 21) (by omega) (by omega) dX1_addItem_15 rfl (fun zc15 => ?_) (fun zc15 => ?_)
    · refine g_aload_n dX1_addItem_21 rfl ?_
      refine q_getq dX1_addItem_22 f_L_29 (ckL_0 hB) (by decide) ty_0_5 (rfL_5 hB) ?_
      refine g_iconst dX1_addItem_25 ic_4 ?_
      refine g_iload dX1_addItem_26 rfl ?_
      refine n_imul dX1_addItem_28 ?_
      refine g_iconst dX1_addItem_29 ic_0 ?_
      refine n_iadd dX1_addItem_30 ?_
      refine g_iload_n dX1_addItem_31 rfl ?_
      refine q_iast dX1_addItem_32 (ckL_4 hB) (ixD_nI (by omega) (by decide)) ?_
      refine g_aload_n dX1_addItem_33 rfl ?_
      refine q_getq dX1_addItem_34 f_L_29 (ckL_0 hB) (by decide) ty_0_5 (rfL_5 hB) ?_
      refine g_iconst dX1_addItem_37 ic_4 ?_
      refine g_iload dX1_addItem_38 rfl ?_
      refine n_imul dX1_addItem_40 ?_
      refine g_iconst dX1_addItem_41 ic_1 ?_
      refine n_iadd dX1_addItem_42 ?_
      refine g_iload_n dX1_addItem_43 rfl ?_
      refine q_iast dX1_addItem_44 (ckL_4 hB) (ixD_nI (by omega) (by decide)) ?_
      refine g_aload_n dX1_addItem_45 rfl ?_
      refine q_getq dX1_addItem_46 f_L_29 (ckL_0 hB) (by decide) ty_0_5 (rfL_5 hB) ?_
      refine g_iconst dX1_addItem_49 ic_4 ?_
      refine g_iload dX1_addItem_50 rfl ?_
      refine n_imul dX1_addItem_52 ?_
      refine g_iconst dX1_addItem_53 ic_2 ?_
      refine n_iadd dX1_addItem_54 ?_
      refine g_iload_n dX1_addItem_55 rfl ?_
      refine q_iast dX1_addItem_56 (ckL_4 hB) (ixD_nI (by omega) (by decide)) ?_
      refine g_aload_n dX1_addItem_57 rfl ?_
      refine q_getq dX1_addItem_58 f_L_29 (ckL_0 hB) (by decide) ty_0_5 (rfL_5 hB) ?_
      refine g_iconst dX1_addItem_61 ic_4 ?_
      refine g_iload dX1_addItem_62 rfl ?_
      refine n_imul dX1_addItem_64 ?_
      refine g_iconst dX1_addItem_65 ic_3 ?_
      refine n_iadd dX1_addItem_66 ?_
      refine g_iload dX1_addItem_67 rfl ?_
      refine q_iast dX1_addItem_69 (ckL_4 hB) (ixD_nI (by omega) (by decide)) ?_
      refine g_aload_n dX1_addItem_70 rfl ?_
      refine q_getq dX1_addItem_71 f_L_32 (ckL_0 hB) (by decide) ty_0_6 (rfL_6 hB) ?_
      refine g_iload dX1_addItem_74 rfl ?_
      refine g_iconst dX1_addItem_76 ic_m1 ?_
      refine q_iast dX1_addItem_77 (ckL_5 hB) (ixD_nI (by omega) (by decide)) ?_
      refine g_aload_n dX1_addItem_78 rfl ?_
      refine q_getq dX1_addItem_79 f_L_35 (ckL_0 hB) (by decide) ty_0_7 (rfL_7 hB) ?_
      refine g_iload dX1_addItem_82 rfl ?_
      refine g_iconst dX1_addItem_84 ic_m1 ?_
      refine q_iast dX1_addItem_85 (ckL_6 hB) (ixD_nI (by omega) (by decide)) ?_
      refine g_aload_n dX1_addItem_86 rfl ?_
      refine g_iload dX1_addItem_87 rfl ?_
      refine g_iconst dX1_addItem_89 ic_1 ?_
      refine n_iadd dX1_addItem_90 ?_
      refine q_puti dX1_addItem_91 f_L_44 (ckL_0 hB) (by decide) ty_0_2 fi_0_2 ?_
      refine g_aload_n dX1_addItem_94 rfl ?_
      refine g_v0n (M' := KL_measure) dX1_addItem_95 l_L_72 v_KL_measure (c_KL_measure hB hW1 hR1) (rcL hB) rfl rfl ⟨rfl, rfl⟩ ?_
      refine g_iload dX1_addItem_98 rfl ?_
      exact e_iret dX1_addItem_100 rfl (by rfl) (by rfl)
    · exact absurd zc15 (by omega)
set_option maxRecDepth 100000 in
theorem c_KL_putTrait {σ : SI} {δ : SD} {B n : Nat} {a : Nat → Int32} (hB : LB B) (hR : RB σ B a n) (h8 : n ≤ 8) {k j : Nat} {v : Int32} (hk : k < n) (hj : j < 4) (hW1 : WF (upd a (8 + 6 * k + j) v) n) : E KL_putTrait [.ref B, .int (nI k), .int (nI j), .int v] (HH σ δ) (some (.int (its a k j))) (HH (mea (uI σ (B + 4) (4 * k + j) v) B (upd a (8 + 6 * k + j) v) n) δ) := by
  have h2 := hR.c
  have hR1 : RB (uI σ (B + 4) (4 * k + j) v) B (upd a (8 + 6 * k + j) v) n := RB_trait hR hk hj
  refine E.ofL [some (.ref B), some (.int (nI k)), some (.int (nI j)), some (.int v)] rfl pn_RX1 rfl (fun sc => ?_)
  refine g_aload_n dX1_putTrait_0 rfl ?_
  refine g_iload_n dX1_putTrait_1 rfl ?_
  refine g_v1 (M' := KL_hasItem) dX1_putTrait_2 l_L_64 v_KL_hasItem (c_KL_hasItem hB h2 h8) (rcL hB) rfl rfl ⟨rfl, rfl⟩ ?_
  refine g_top (it1 hk h8) ?_
  refine n_if_eq (tgt := 17) (by omega) dX1_putTrait_5 rfl (fun zc5 => absurd zc5 (by decide)) (fun _ => ?_)
  refine g_iload_n dX1_putTrait_8 rfl ?_
  refine g_iconst dX1_putTrait_9 ic_0 ?_
  refine g_iconst dX1_putTrait_10 ic_3 ?_
  refine g_s3N (M' := KP_within) dX1_putTrait_11 l_L_60 s_KP_within c_KP_within rfl rfl ⟨rfl, rfl⟩ ?_
  refine g_top (in1 (Nat.zero_le _) (by omega) (by decide)) ?_
  refine n_if_ne (tgt := 20) (by omega) dX1_putTrait_14 rfl (fun _ => ?_) (fun zc14 => absurd zc14 (by decide))
  refine g_aload_n dX1_putTrait_20 rfl ?_
  refine q_getq dX1_putTrait_21 f_L_29 (ckL_0 hB) (by decide) ty_0_5 (rfL_5 hB) ?_
  refine g_iconst dX1_putTrait_24 ic_4 ?_
  refine g_iload_n dX1_putTrait_25 rfl ?_
  refine n_imul dX1_putTrait_26 ?_
  refine g_iload_n dX1_putTrait_27 rfl ?_
  refine n_iadd dX1_putTrait_28 ?_
  refine q_iald dX1_putTrait_29 (ckL_4 hB) (ixD_nI (by omega) (by decide)) ?_
  refine g_top (hR.t hk hj) ?_
  refine g_istore dX1_putTrait_30 rfl ?_
  refine g_aload_n dX1_putTrait_32 rfl ?_
  refine q_getq dX1_putTrait_33 f_L_29 (ckL_0 hB) (by decide) ty_0_5 (rfL_5 hB) ?_
  refine g_iconst dX1_putTrait_36 ic_4 ?_
  refine g_iload_n dX1_putTrait_37 rfl ?_
  refine n_imul dX1_putTrait_38 ?_
  refine g_iload_n dX1_putTrait_39 rfl ?_
  refine n_iadd dX1_putTrait_40 ?_
  refine g_iload_n dX1_putTrait_41 rfl ?_
  refine q_iast dX1_putTrait_42 (ckL_4 hB) (ixD_nI (by omega) (by decide)) ?_
  refine g_aload_n dX1_putTrait_43 rfl ?_
  refine g_v0n (M' := KL_measure) dX1_putTrait_44 l_L_72 v_KL_measure (c_KL_measure hB hW1 hR1) (rcL hB) rfl rfl ⟨rfl, rfl⟩ ?_
  refine g_iload dX1_putTrait_47 rfl ?_
  exact e_iret dX1_putTrait_49 rfl (by rfl) (by rfl)
set_option maxRecDepth 100000 in
theorem c_KL_removeItem {σ : SI} {δ : SD} {B n : Nat} {a : Nat → Int32} (hB : LB B) (hR : RB σ B a n) (h8 : n ≤ 8) {k : Nat} (hk : k < n) (hW1 : WF (aDrop a n k) (n - 1)) : E KL_removeItem [.ref B, .int (nI k)] (HH σ δ) (some (.int (nI (n - 1)))) (HH (mea (sDrop σ B n k) B (aDrop a n k) (n - 1)) δ) := by
  have h2 := hR.c
  have hR1 : RB (sDrop σ B n k) B (aDrop a n k) (n - 1) := RB_drop hR hk
  refine E.ofL [some (.ref B), some (.int (nI k))] rfl pn_RX1 rfl (fun sc => ?_)
  refine g_aload_n dX1_removeItem_0 rfl ?_
  refine g_iload_n dX1_removeItem_1 rfl ?_
  refine g_v1 (M' := KL_hasItem) dX1_removeItem_2 l_L_64 v_KL_hasItem (c_KL_hasItem hB h2 h8) (rcL hB) rfl rfl ⟨rfl, rfl⟩ ?_
  refine g_top (it1 hk h8) ?_
  refine n_if_ne (tgt := 11) (by omega) dX1_removeItem_5 rfl (fun _ => ?_) (fun zc5 => absurd zc5 (by decide))
  refine g_aload_n dX1_removeItem_11 rfl ?_
  refine q_geti dX1_removeItem_12 f_L_44 (ckL_0 hB) (by decide) ty_0_2 ?_
  refine g_top h2 ?_
  refine g_iconst dX1_removeItem_15 ic_1 ?_
  refine n_isub dX1_removeItem_16 (by omega) ?_
  refine g_iload_n dX1_removeItem_17 rfl ?_
  refine n_isub dX1_removeItem_18 (by omega) ?_
  refine g_istore_n dX1_removeItem_19 rfl ?_
  refine g_aload_n dX1_removeItem_20 rfl ?_
  refine q_getq dX1_removeItem_21 f_L_29 (ckL_0 hB) (by decide) ty_0_5 (rfL_5 hB) ?_
  refine g_iconst dX1_removeItem_24 ic_4 ?_
  refine g_iload_n dX1_removeItem_25 rfl ?_
  refine g_iconst dX1_removeItem_26 ic_1 ?_
  refine n_iadd dX1_removeItem_27 ?_
  refine n_imul dX1_removeItem_28 ?_
  refine g_aload_n dX1_removeItem_29 rfl ?_
  refine q_getq dX1_removeItem_30 f_L_29 (ckL_0 hB) (by decide) ty_0_5 (rfL_5 hB) ?_
  refine g_iconst dX1_removeItem_33 ic_4 ?_
  refine g_iload_n dX1_removeItem_34 rfl ?_
  refine n_imul dX1_removeItem_35 ?_
  refine g_iconst dX1_removeItem_36 ic_4 ?_
  refine g_iload_n dX1_removeItem_37 rfl ?_
  refine n_imul dX1_removeItem_38 ?_
  refine q_copy dX1_removeItem_39 l_L_54 (ckL_4 hB) (ckL_4 hB) (j0 := 4 * (k + 1)) (j1 := 4 * k) (k := 4 * (n - 1 - k)) (nI_arg (by omega)) (nI_arg (by omega)) (nI_arg (by omega)) (by omega) (by omega) rfl ?_
  refine g_aload_n dX1_removeItem_42 rfl ?_
  refine q_getq dX1_removeItem_43 f_L_32 (ckL_0 hB) (by decide) ty_0_6 (rfL_6 hB) ?_
  refine g_iload_n dX1_removeItem_46 rfl ?_
  refine g_iconst dX1_removeItem_47 ic_1 ?_
  refine n_iadd dX1_removeItem_48 ?_
  refine g_aload_n dX1_removeItem_49 rfl ?_
  refine q_getq dX1_removeItem_50 f_L_32 (ckL_0 hB) (by decide) ty_0_6 (rfL_6 hB) ?_
  refine g_iload_n dX1_removeItem_53 rfl ?_
  refine g_iload_n dX1_removeItem_54 rfl ?_
  refine q_copy dX1_removeItem_55 l_L_54 (ckL_5 hB) (ckL_5 hB) (j0 := k + 1) (j1 := k) (k := n - 1 - k) (nI_arg (by omega)) (nI_arg (by omega)) (nI_arg (by omega)) (by omega) (by omega) rfl ?_
  refine g_heap (h' := HH (uR (uR σ (B + 4) (va_cpy (σ (B + 4)) (σ (B + 4)) (4 * (k + 1)) (4 * k) (4 * (n - 1 - k)))) (B + 5) (va_cpy (σ (B + 5)) (σ (B + 5)) (k + 1) k (n - 1 - k))) δ) (by rw [uR_ne (by omega)]) ?_
  refine g_aload_n dX1_removeItem_58 rfl ?_
  refine q_getq dX1_removeItem_59 f_L_35 (ckL_0 hB) (by decide) ty_0_7 (rfL_7 hB) ?_
  refine g_iload_n dX1_removeItem_62 rfl ?_
  refine g_iconst dX1_removeItem_63 ic_1 ?_
  refine n_iadd dX1_removeItem_64 ?_
  refine g_aload_n dX1_removeItem_65 rfl ?_
  refine q_getq dX1_removeItem_66 f_L_35 (ckL_0 hB) (by decide) ty_0_7 (rfL_7 hB) ?_
  refine g_iload_n dX1_removeItem_69 rfl ?_
  refine g_iload_n dX1_removeItem_70 rfl ?_
  refine q_copy dX1_removeItem_71 l_L_54 (ckL_6 hB) (ckL_6 hB) (j0 := k + 1) (j1 := k) (k := n - 1 - k) (nI_arg (by omega)) (nI_arg (by omega)) (nI_arg (by omega)) (by omega) (by omega) rfl ?_
  refine g_heap (h' := HH (uR (uR (uR σ (B + 4) (va_cpy (σ (B + 4)) (σ (B + 4)) (4 * (k + 1)) (4 * k) (4 * (n - 1 - k)))) (B + 5) (va_cpy (σ (B + 5)) (σ (B + 5)) (k + 1) k (n - 1 - k))) (B + 6) (va_cpy (σ (B + 6)) (σ (B + 6)) (k + 1) k (n - 1 - k))) δ) (by rw [uR_ne (by omega), uR_ne (by omega)]) ?_
  refine g_aload_n dX1_removeItem_74 rfl ?_
  refine g_dup dX1_removeItem_75 rfl ?_
  refine q_geti dX1_removeItem_76 f_L_44 (ckL_0 hB) (by decide) ty_0_2 ?_
  refine g_top (show _ = nI n by rw [uR_ne (by omega), uR_ne (by omega), uR_ne (by omega)]; exact h2) ?_
  refine g_iconst dX1_removeItem_79 ic_1 ?_
  refine n_isub dX1_removeItem_80 (by omega) ?_
  refine q_puti dX1_removeItem_81 f_L_44 (ckL_0 hB) (by decide) ty_0_2 fi_0_2 ?_
  refine g_aload_n dX1_removeItem_84 rfl ?_
  refine g_v0n (M' := KL_measure) dX1_removeItem_85 l_L_72 v_KL_measure (c_KL_measure hB hW1 hR1) (rcL hB) rfl rfl ⟨rfl, rfl⟩ ?_
  refine g_aload_n dX1_removeItem_88 rfl ?_
  refine q_geti dX1_removeItem_89 f_L_44 (ckL_0 hB) (by decide) ty_0_2 ?_
  refine g_top (show mea (sDrop σ B n k) B (aDrop a n k) (n - 1) B 2 = nI (n - 1) from (mea_RB hR1).c) ?_
  exact e_iret dX1_removeItem_92 rfl (by rfl) (by rfl)
set_option maxRecDepth 100000 in
theorem c_KL_lay {σ : SI} {δ : SD} {B n : Nat} {a : Nat → Int32} (hB : LB B) (hW : WF a n) (hR : RB σ B a n) {k : Nat} (hk : k < n) {x y : Int32} : E KL_lay [.ref B, .int (nI k), .int x, .int y] (HH σ δ) (some (.int (if liesA a k then nI 1 else nI 0))) (HH (sLay σ B k x y) δ) := by
  have h8 := hW.n8
  have h2 := hR.c
  refine E.ofL [some (.ref B), some (.int (nI k)), some (.int x), some (.int y)] rfl pn_RX1 rfl (fun sc => ?_)
  refine g_aload_n dX1_lay_0 rfl ?_
  refine g_iload_n dX1_lay_1 rfl ?_
  refine g_v1 (M' := KL_lies) dX1_lay_2 l_L_123 v_KL_lies (c_KL_lies hB hW hR (by omega)) (rcL hB) rfl rfl ⟨rfl, rfl⟩ ?_
  refine b_if_eq (tgt := 12) dX1_lay_5 rfl (fun zc5 => ?_) (fun zc5 => ?_)
  · refine g_iconst dX1_lay_12 ic_0 ?_
    refine g_istore dX1_lay_13 rfl ?_
    refine g_aload_n dX1_lay_15 rfl ?_
    refine g_iload_n dX1_lay_16 rfl ?_
    refine g_iload_n dX1_lay_17 rfl ?_
    refine g_iload_n dX1_lay_18 rfl ?_
    refine g_v3n (M' := KL_put) dX1_lay_19 l_L_145 v_KL_put (c_KL_put hB hW hR (by omega)) (rcL hB) rfl rfl ⟨rfl, rfl⟩ ?_
    refine g_iload dX1_lay_22 rfl ?_
    exact e_iret dX1_lay_24 rfl (by rw [zc5]; rfl) (by rfl)
  · refine g_iconst dX1_lay_8 ic_1 ?_
    refine g_goto (tgt := 13) dX1_lay_9 rfl ?_
    refine g_istore dX1_lay_13 rfl ?_
    refine g_aload_n dX1_lay_15 rfl ?_
    refine g_iload_n dX1_lay_16 rfl ?_
    refine g_iload_n dX1_lay_17 rfl ?_
    refine g_iload_n dX1_lay_18 rfl ?_
    refine g_v3n (M' := KL_put) dX1_lay_19 l_L_145 v_KL_put (c_KL_put hB hW hR (by omega)) (rcL hB) rfl rfl ⟨rfl, rfl⟩ ?_
    refine g_iload dX1_lay_22 rfl ?_
    exact e_iret dX1_lay_24 rfl (by rw [zc5]; rfl) (by rfl)
