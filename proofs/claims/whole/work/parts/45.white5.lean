/-! CONTRACTS: heaps of white, the reference -/
def updN (f : Nat → Nat) (k v : Nat) : Nat → Nat := fun q => if q = k then v else f q
def hSt (b c : Bool) (v l : Nat) : Nat := if b && c && decide (v < l) then v else l
theorem hS_1 {b c : Bool} {v l : Nat} (h : b = false) : l = hSt b c v l := by unfold hSt; rw [h]; rfl
theorem hS_2 {b c : Bool} {v l : Nat} (h : c = false) : l = hSt b c v l := by unfold hSt; rw [h, Bool.and_false]; rfl
theorem hS_3 {b c : Bool} {v l : Nat} (h : ¬ v < l) : l = hSt b c v l := by unfold hSt; rw [decide_eq_false h, Bool.and_false]; rfl
theorem hS_4 {b c : Bool} {v l : Nat} (h : b = true) (h2 : c = true) (h3 : v < l) : v = hSt b c v l := by unfold hSt; rw [h, h2, decide_eq_true h3]; rfl
/-- the least number beside a cell, or its own -/
def hOf (f : Nat → Bool) (hp : Nat → Nat) (p : Nat) : Nat := hSt (decide (p < 240)) (f (p + 16)) (hp (p + 16)) (hSt (decide (16 ≤ p)) (f (p - 16)) (hp (p - 16)) (hSt (decide (p % 16 < 15)) (f (p + 1)) (hp (p + 1)) (hSt (decide (0 < p % 16)) (f (p - 1)) (hp (p - 1)) (hp p))))
/-- once through all cells; whether something changed -/
def psS (f : Nat → Bool) (hp : Nat → Nat) : Nat → (Nat → Nat) × Bool
  | 0 => (hp, false)
  | p + 1 => if f p && decide (hOf f (psS f hp p).1 p < (psS f hp p).1 p) then (updN (psS f hp p).1 p (hOf f (psS f hp p).1 p), true) else psS f hp p
section HP
variable {f : Nat → Bool} {hp h1 : Nat → Nat} {p k : Nat} {b1 : Bool} {σ : SI}
theorem hS_le {b c : Bool} {v l : Nat} : hSt b c v l ≤ l := by
  unfold hSt
  split
  · rename_i h
    simp only [Bool.and_eq_true, decide_eq_true_eq] at h
    omega
  · exact Nat.le_refl _
theorem hO_le : hOf f hp p ≤ hp p := Nat.le_trans hS_le (Nat.le_trans hS_le (Nat.le_trans hS_le hS_le))
theorem psS_n1 (h : (h1, b1) = psS f hp p) (hf : f p = false) : (h1, b1) = psS f hp (p + 1) := by
  unfold psS
  rw [hf]
  exact h
theorem psS_n2 (h : (h1, b1) = psS f hp p) (hn : ¬ hOf f h1 p < h1 p) : (h1, b1) = psS f hp (p + 1) := by
  unfold psS
  rw [← h, if_neg]
  rw [decide_eq_false hn, Bool.and_false]
  decide
theorem psS_y (h : (h1, b1) = psS f hp p) (hf : f p = true) (hn : hOf f h1 p < h1 p) : (updN h1 p (hOf f h1 p), true) = psS f hp (p + 1) := by
  unfold psS
  rw [← h, if_pos]
  rw [decide_eq_true hn, hf]
  rfl
theorem hO_bd (hb : ∀ p, p < 256 → h1 p < 256) (hn : hOf f h1 p < h1 p) (hp6 : p < 256) : ∀ q, q < 256 → updN h1 p (hOf f h1 p) q < 256 := fun q hq => by
  unfold updN
  have := hb p hp6
  split
  · omega
  · exact hb q hq
theorem fill_upd (h : p < 256) : uI (fill σ 91 (fun i => nI (h1 i)) 256) 91 p (nI k) = fill σ 91 (fun i => nI (updN h1 p k i)) 256 := by
  funext x y
  show (if x = 91 ∧ y = p then nI k else if x = 91 ∧ y < 256 then nI (h1 y) else σ x y) = (if x = 91 ∧ y < 256 then nI (if y = p then k else h1 y) else σ x y)
  by_cases hx : x = 91 ∧ y = p
  · rw [if_pos hx, if_pos ⟨hx.1, by omega⟩, if_pos hx.2]
  · rw [if_neg hx]
    by_cases h2 : x = 91 ∧ y < 256
    · rw [if_pos h2, if_pos h2, if_neg (fun q => hx ⟨h2.1, q⟩)]
    · rw [if_neg h2, if_neg h2]
theorem cw_y {c : Nat} (h : f p = true) (h2 : hp p = p) : c + 1 = c + (if (f p && decide (hp p = p)) = true then 1 else 0) := by rw [h, decide_eq_true h2]; rfl
theorem cw_n1 {c : Nat} (h : f p = false) : c + 0 = c + (if (f p && decide (hp p = p)) = true then 1 else 0) := by rw [h]; rfl
theorem cw_n2 {c : Nat} (h2 : ¬ hp p = p) : c + 0 = c + (if (f p && decide (hp p = p)) = true then 1 else 0) := by rw [decide_eq_false h2, Bool.and_false]; rfl
end HP
set_option maxRecDepth 100000 in
theorem c_KR_heapOf {σ : SI} {δ : SD} {f : Nat → Bool} (hw : ∀ p, p < 256 → σ 90 p = bI (f p)) {hp : Nat → Nat} (hh : ∀ p, p < 256 → σ 91 p = nI (hp p)) (hb : ∀ p, p < 256 → hp p < 256) {p : Nat} (hp6 : p < 256) : E KR_heapOf [.ref 84, .int (nI p)] (HH σ δ) (some (.int (nI (hOf f hp p)))) (HH σ δ) := by
  have hb0 := hb p hp6
  refine E.ofL [some (.ref 84), some (.int (nI p))] rfl pn_RX9 rfl (fun sc => ?_)
  generalize hRz : (fun (zr : Option Value) (zk : XH) => zr = some (.int (nI (hOf f hp p))) ∧ zk = HH σ δ) = R
  have J139 : ∀ (l0 l1 l : Nat), l0 = hSt (decide (0 < p % 16)) (f (p - 1)) (hp (p - 1)) (hp p) → l1 = hSt (decide (p % 16 < 15)) (f (p + 1)) (hp (p + 1)) l0 → l = hSt (decide (16 ≤ p)) (f (p - 16)) (hp (p - 16)) l1 → l < 256 → G sc KR_heapOf 139 (aL [some (.ref 84), some (.int (nI p)), some (.int (nI l)), some (.int (nI (p % 16)))]) [] (HH σ δ) (0, 0) R := by
    intro l0 l1 l hl0 hl1 hl hl2
    refine g_iload_n dX9_heapOf_139 rfl ?_
    refine g_sipush dX9_heapOf_140 sp_240 ?_
    refine n_icmp_ge (tgt := 183) (by omega) (by omega) dX9_heapOf_143 rfl (fun zc143 => ?_) (fun zc143 => ?_)
    · refine g_iload_n dX9_heapOf_183 rfl ?_
      exact g_iret (S := []) dX9_heapOf_184 rfl (by rw [← hRz]; exact ⟨congrArg (fun zz => some (Value.int zz)) (show _ = _ by (refine congrArg nI ?_; unfold hOf; rw [← hl0, ← hl1, ← hl]; first | exact hS_1 (decide_eq_false (by omega)) | exact hS_2 zc155 | exact hS_3 (by omega) | exact hS_4 (decide_eq_true (by omega)) zc155 (by omega))), by rfl⟩) (Nat.zero_le _) (Nat.zero_le _)
    · have hb1 := hb (p + 16) (by omega)
      refine g_aload_n dX9_heapOf_146 rfl ?_
      refine q_getq dX9_heapOf_147 f_R_25 ck_84 (by decide) ty_8_6 rf_84_6 ?_
      refine g_iload_n dX9_heapOf_150 rfl ?_
      refine g_bipush dX9_heapOf_151 bp_16 ?_
      refine n_iadd dX9_heapOf_153 ?_
      refine q_zald dX9_heapOf_154 ck_90 (ixD_nI (by omega) (by decide)) ?_
      refine g_top (hw (p + 16) (by omega)) ?_
      refine b_if_eq (tgt := 183) dX9_heapOf_155 rfl (fun zc155 => ?_) (fun zc155 => ?_)
      · refine g_iload_n dX9_heapOf_183 rfl ?_
        exact g_iret (S := []) dX9_heapOf_184 rfl (by rw [← hRz]; exact ⟨congrArg (fun zz => some (Value.int zz)) (show _ = _ by (refine congrArg nI ?_; unfold hOf; rw [← hl0, ← hl1, ← hl]; first | exact hS_1 (decide_eq_false (by omega)) | exact hS_2 zc155 | exact hS_3 (by omega) | exact hS_4 (decide_eq_true (by omega)) zc155 (by omega))), by rfl⟩) (Nat.zero_le _) (Nat.zero_le _)
      · refine g_aload_n dX9_heapOf_158 rfl ?_
        refine q_getq dX9_heapOf_159 f_R_29 ck_84 (by decide) ty_8_7 rf_84_7 ?_
        refine g_iload_n dX9_heapOf_162 rfl ?_
        refine g_bipush dX9_heapOf_163 bp_16 ?_
        refine n_iadd dX9_heapOf_165 ?_
        refine q_iald dX9_heapOf_166 ck_91 (ixD_nI (by omega) (by decide)) ?_
        refine g_top (hh (p + 16) (by omega)) ?_
        refine g_iload_n dX9_heapOf_167 rfl ?_
        refine n_icmp_ge (tgt := 183) (by omega) (by omega) dX9_heapOf_168 rfl (fun zc168 => ?_) (fun zc168 => ?_)
        · refine g_iload_n dX9_heapOf_183 rfl ?_
          exact g_iret (S := []) dX9_heapOf_184 rfl (by rw [← hRz]; exact ⟨congrArg (fun zz => some (Value.int zz)) (show _ = _ by (refine congrArg nI ?_; unfold hOf; rw [← hl0, ← hl1, ← hl]; first | exact hS_1 (decide_eq_false (by omega)) | exact hS_2 zc155 | exact hS_3 (by omega) | exact hS_4 (decide_eq_true (by omega)) zc155 (by omega))), by rfl⟩) (Nat.zero_le _) (Nat.zero_le _)
        · refine g_aload_n dX9_heapOf_171 rfl ?_
          refine q_getq dX9_heapOf_172 f_R_29 ck_84 (by decide) ty_8_7 rf_84_7 ?_
          refine g_iload_n dX9_heapOf_175 rfl ?_
          refine g_bipush dX9_heapOf_176 bp_16 ?_
          refine n_iadd dX9_heapOf_178 ?_
          refine q_iald dX9_heapOf_179 ck_91 (ixD_nI (by omega) (by decide)) ?_
          refine g_top (hh (p + 16) (by omega)) ?_
          refine g_goto (tgt := 184) dX9_heapOf_180 rfl ?_
          exact g_iret (S := []) dX9_heapOf_184 rfl (by rw [← hRz]; exact ⟨congrArg (fun zz => some (Value.int zz)) (show _ = _ by (refine congrArg nI ?_; unfold hOf; rw [← hl0, ← hl1, ← hl]; first | exact hS_1 (decide_eq_false (by omega)) | exact hS_2 zc155 | exact hS_3 (by omega) | exact hS_4 (decide_eq_true (by omega)) zc155 (by omega))), by rfl⟩) (Nat.zero_le _) (Nat.zero_le _)
  have J94 : ∀ (l0 l : Nat), l0 = hSt (decide (0 < p % 16)) (f (p - 1)) (hp (p - 1)) (hp p) → l = hSt (decide (p % 16 < 15)) (f (p + 1)) (hp (p + 1)) l0 → l < 256 → G sc KR_heapOf 94 (aL [some (.ref 84), some (.int (nI p)), some (.int (nI l)), some (.int (nI (p % 16)))]) [] (HH σ δ) (0, 0) R := by
    intro l0 l hl0 hl hl2
    refine g_iload_n dX9_heapOf_94 rfl ?_
    refine g_bipush dX9_heapOf_95 bp_16 ?_
    refine n_icmp_lt (tgt := 137) (by omega) (by omega) dX9_heapOf_97 rfl (fun zc97 => ?_) (fun zc97 => ?_)
    · refine g_iload_n dX9_heapOf_137 rfl ?_
      refine g_istore_n dX9_heapOf_138 rfl ?_
      exact g_can _ (by exact ⟨rfl, rfl, rfl, rfl, trivial⟩) (J139 l0 l _ hl0 hl (by first | exact hS_1 (decide_eq_false (by omega)) | exact hS_2 zc109 | exact hS_3 (by omega) | exact hS_4 (decide_eq_true (by omega)) zc109 (by omega)) (by omega))
    · have hb1 := hb (p - 16) (by omega)
      refine g_aload_n dX9_heapOf_100 rfl ?_
      refine q_getq dX9_heapOf_101 f_R_25 ck_84 (by decide) ty_8_6 rf_84_6 ?_
      refine g_iload_n dX9_heapOf_104 rfl ?_
      refine g_bipush dX9_heapOf_105 bp_16 ?_
      refine n_isub dX9_heapOf_107 (by omega) ?_
      refine q_zald dX9_heapOf_108 ck_90 (ixD_nI (by omega) (by decide)) ?_
      refine g_top (hw (p - 16) (by omega)) ?_
      refine b_if_eq (tgt := 137) dX9_heapOf_109 rfl (fun zc109 => ?_) (fun zc109 => ?_)
      · refine g_iload_n dX9_heapOf_137 rfl ?_
        refine g_istore_n dX9_heapOf_138 rfl ?_
        exact g_can _ (by exact ⟨rfl, rfl, rfl, rfl, trivial⟩) (J139 l0 l _ hl0 hl (by first | exact hS_1 (decide_eq_false (by omega)) | exact hS_2 zc109 | exact hS_3 (by omega) | exact hS_4 (decide_eq_true (by omega)) zc109 (by omega)) (by omega))
      · refine g_aload_n dX9_heapOf_112 rfl ?_
        refine q_getq dX9_heapOf_113 f_R_29 ck_84 (by decide) ty_8_7 rf_84_7 ?_
        refine g_iload_n dX9_heapOf_116 rfl ?_
        refine g_bipush dX9_heapOf_117 bp_16 ?_
        refine n_isub dX9_heapOf_119 (by omega) ?_
        refine q_iald dX9_heapOf_120 ck_91 (ixD_nI (by omega) (by decide)) ?_
        refine g_top (hh (p - 16) (by omega)) ?_
        refine g_iload_n dX9_heapOf_121 rfl ?_
        refine n_icmp_ge (tgt := 137) (by omega) (by omega) dX9_heapOf_122 rfl (fun zc122 => ?_) (fun zc122 => ?_)
        · refine g_iload_n dX9_heapOf_137 rfl ?_
          refine g_istore_n dX9_heapOf_138 rfl ?_
          exact g_can _ (by exact ⟨rfl, rfl, rfl, rfl, trivial⟩) (J139 l0 l _ hl0 hl (by first | exact hS_1 (decide_eq_false (by omega)) | exact hS_2 zc109 | exact hS_3 (by omega) | exact hS_4 (decide_eq_true (by omega)) zc109 (by omega)) (by omega))
        · refine g_aload_n dX9_heapOf_125 rfl ?_
          refine q_getq dX9_heapOf_126 f_R_29 ck_84 (by decide) ty_8_7 rf_84_7 ?_
          refine g_iload_n dX9_heapOf_129 rfl ?_
          refine g_bipush dX9_heapOf_130 bp_16 ?_
          refine n_isub dX9_heapOf_132 (by omega) ?_
          refine q_iald dX9_heapOf_133 ck_91 (ixD_nI (by omega) (by decide)) ?_
          refine g_top (hh (p - 16) (by omega)) ?_
          refine g_goto (tgt := 138) dX9_heapOf_134 rfl ?_
          refine g_istore_n dX9_heapOf_138 rfl ?_
          exact g_can _ (by exact ⟨rfl, rfl, rfl, rfl, trivial⟩) (J139 l0 l _ hl0 hl (by first | exact hS_1 (decide_eq_false (by omega)) | exact hS_2 zc109 | exact hS_3 (by omega) | exact hS_4 (decide_eq_true (by omega)) zc109 (by omega)) (by omega))
  have J52 : ∀ (l : Nat), l = hSt (decide (0 < p % 16)) (f (p - 1)) (hp (p - 1)) (hp p) → l < 256 → G sc KR_heapOf 52 (aL [some (.ref 84), some (.int (nI p)), some (.int (nI l)), some (.int (nI (p % 16)))]) [] (HH σ δ) (0, 0) R := by
    intro l hl hl2
    refine g_iload_n dX9_heapOf_52 rfl ?_
    refine g_bipush dX9_heapOf_53 bp_15 ?_
    refine n_icmp_ge (tgt := 92) (by omega) (by omega) dX9_heapOf_55 rfl (fun zc55 => ?_) (fun zc55 => ?_)
    · refine g_iload_n dX9_heapOf_92 rfl ?_
      refine g_istore_n dX9_heapOf_93 rfl ?_
      exact g_can _ (by exact ⟨rfl, rfl, rfl, rfl, trivial⟩) (J94 l _ hl (by first | exact hS_1 (decide_eq_false (by omega)) | exact hS_2 zc66 | exact hS_3 (by omega) | exact hS_4 (decide_eq_true (by omega)) zc66 (by omega)) (by omega))
    · have hb1 := hb (p + 1) (by omega)
      refine g_aload_n dX9_heapOf_58 rfl ?_
      refine q_getq dX9_heapOf_59 f_R_25 ck_84 (by decide) ty_8_6 rf_84_6 ?_
      refine g_iload_n dX9_heapOf_62 rfl ?_
      refine g_iconst dX9_heapOf_63 ic_1 ?_
      refine n_iadd dX9_heapOf_64 ?_
      refine q_zald dX9_heapOf_65 ck_90 (ixD_nI (by omega) (by decide)) ?_
      refine g_top (hw (p + 1) (by omega)) ?_
      refine b_if_eq (tgt := 92) dX9_heapOf_66 rfl (fun zc66 => ?_) (fun zc66 => ?_)
      · refine g_iload_n dX9_heapOf_92 rfl ?_
        refine g_istore_n dX9_heapOf_93 rfl ?_
        exact g_can _ (by exact ⟨rfl, rfl, rfl, rfl, trivial⟩) (J94 l _ hl (by first | exact hS_1 (decide_eq_false (by omega)) | exact hS_2 zc66 | exact hS_3 (by omega) | exact hS_4 (decide_eq_true (by omega)) zc66 (by omega)) (by omega))
      · refine g_aload_n dX9_heapOf_69 rfl ?_
        refine q_getq dX9_heapOf_70 f_R_29 ck_84 (by decide) ty_8_7 rf_84_7 ?_
        refine g_iload_n dX9_heapOf_73 rfl ?_
        refine g_iconst dX9_heapOf_74 ic_1 ?_
        refine n_iadd dX9_heapOf_75 ?_
        refine q_iald dX9_heapOf_76 ck_91 (ixD_nI (by omega) (by decide)) ?_
        refine g_top (hh (p + 1) (by omega)) ?_
        refine g_iload_n dX9_heapOf_77 rfl ?_
        refine n_icmp_ge (tgt := 92) (by omega) (by omega) dX9_heapOf_78 rfl (fun zc78 => ?_) (fun zc78 => ?_)
        · refine g_iload_n dX9_heapOf_92 rfl ?_
          refine g_istore_n dX9_heapOf_93 rfl ?_
          exact g_can _ (by exact ⟨rfl, rfl, rfl, rfl, trivial⟩) (J94 l _ hl (by first | exact hS_1 (decide_eq_false (by omega)) | exact hS_2 zc66 | exact hS_3 (by omega) | exact hS_4 (decide_eq_true (by omega)) zc66 (by omega)) (by omega))
        · refine g_aload_n dX9_heapOf_81 rfl ?_
          refine q_getq dX9_heapOf_82 f_R_29 ck_84 (by decide) ty_8_7 rf_84_7 ?_
          refine g_iload_n dX9_heapOf_85 rfl ?_
          refine g_iconst dX9_heapOf_86 ic_1 ?_
          refine n_iadd dX9_heapOf_87 ?_
          refine q_iald dX9_heapOf_88 ck_91 (ixD_nI (by omega) (by decide)) ?_
          refine g_top (hh (p + 1) (by omega)) ?_
          refine g_goto (tgt := 93) dX9_heapOf_89 rfl ?_
          refine g_istore_n dX9_heapOf_93 rfl ?_
          exact g_can _ (by exact ⟨rfl, rfl, rfl, rfl, trivial⟩) (J94 l _ hl (by first | exact hS_1 (decide_eq_false (by omega)) | exact hS_2 zc66 | exact hS_3 (by omega) | exact hS_4 (decide_eq_true (by omega)) zc66 (by omega)) (by omega))
  refine g_aload_n dX9_heapOf_0 rfl ?_
  refine q_getq dX9_heapOf_1 f_R_29 ck_84 (by decide) ty_8_7 rf_84_7 ?_
  refine g_iload_n dX9_heapOf_4 rfl ?_
  refine q_iald dX9_heapOf_5 ck_91 (ixD_nI (by omega) (by decide)) ?_
  refine g_top (hh (p) (by omega)) ?_
  refine g_istore_n dX9_heapOf_6 rfl ?_
  refine g_iload_n dX9_heapOf_7 rfl ?_
  refine g_bipush dX9_heapOf_8 bp_16 ?_
  refine n_irem dX9_heapOf_10 (by omega) (by omega) (by omega) ?_
  refine g_istore_n dX9_heapOf_11 rfl ?_
  refine g_iload_n dX9_heapOf_12 rfl ?_
  refine n_if_le (tgt := 50) (by omega) dX9_heapOf_13 rfl (fun zc13 => ?_) (fun zc13 => ?_)
  · refine g_iload_n dX9_heapOf_50 rfl ?_
    refine g_istore_n dX9_heapOf_51 rfl ?_
    exact g_can _ (by exact ⟨rfl, rfl, rfl, rfl, trivial⟩) (J52 _ (by first | exact hS_1 (decide_eq_false (by omega)) | exact hS_2 zc24 | exact hS_3 (by omega) | exact hS_4 (decide_eq_true (by omega)) zc24 (by omega)) (by omega))
  · have hb1 := hb (p - 1) (by omega)
    refine g_aload_n dX9_heapOf_16 rfl ?_
    refine q_getq dX9_heapOf_17 f_R_25 ck_84 (by decide) ty_8_6 rf_84_6 ?_
    refine g_iload_n dX9_heapOf_20 rfl ?_
    refine g_iconst dX9_heapOf_21 ic_1 ?_
    refine n_isub dX9_heapOf_22 (by omega) ?_
    refine q_zald dX9_heapOf_23 ck_90 (ixD_nI (by omega) (by decide)) ?_
    refine g_top (hw (p - 1) (by omega)) ?_
    refine b_if_eq (tgt := 50) dX9_heapOf_24 rfl (fun zc24 => ?_) (fun zc24 => ?_)
    · refine g_iload_n dX9_heapOf_50 rfl ?_
      refine g_istore_n dX9_heapOf_51 rfl ?_
      exact g_can _ (by exact ⟨rfl, rfl, rfl, rfl, trivial⟩) (J52 _ (by first | exact hS_1 (decide_eq_false (by omega)) | exact hS_2 zc24 | exact hS_3 (by omega) | exact hS_4 (decide_eq_true (by omega)) zc24 (by omega)) (by omega))
    · refine g_aload_n dX9_heapOf_27 rfl ?_
      refine q_getq dX9_heapOf_28 f_R_29 ck_84 (by decide) ty_8_7 rf_84_7 ?_
      refine g_iload_n dX9_heapOf_31 rfl ?_
      refine g_iconst dX9_heapOf_32 ic_1 ?_
      refine n_isub dX9_heapOf_33 (by omega) ?_
      refine q_iald dX9_heapOf_34 ck_91 (ixD_nI (by omega) (by decide)) ?_
      refine g_top (hh (p - 1) (by omega)) ?_
      refine g_iload_n dX9_heapOf_35 rfl ?_
      refine n_icmp_ge (tgt := 50) (by omega) (by omega) dX9_heapOf_36 rfl (fun zc36 => ?_) (fun zc36 => ?_)
      · refine g_iload_n dX9_heapOf_50 rfl ?_
        refine g_istore_n dX9_heapOf_51 rfl ?_
        exact g_can _ (by exact ⟨rfl, rfl, rfl, rfl, trivial⟩) (J52 _ (by first | exact hS_1 (decide_eq_false (by omega)) | exact hS_2 zc24 | exact hS_3 (by omega) | exact hS_4 (decide_eq_true (by omega)) zc24 (by omega)) (by omega))
      · refine g_aload_n dX9_heapOf_39 rfl ?_
        refine q_getq dX9_heapOf_40 f_R_29 ck_84 (by decide) ty_8_7 rf_84_7 ?_
        refine g_iload_n dX9_heapOf_43 rfl ?_
        refine g_iconst dX9_heapOf_44 ic_1 ?_
        refine n_isub dX9_heapOf_45 (by omega) ?_
        refine q_iald dX9_heapOf_46 ck_91 (ixD_nI (by omega) (by decide)) ?_
        refine g_top (hh (p - 1) (by omega)) ?_
        refine g_goto (tgt := 51) dX9_heapOf_47 rfl ?_
        refine g_istore_n dX9_heapOf_51 rfl ?_
        exact g_can _ (by exact ⟨rfl, rfl, rfl, rfl, trivial⟩) (J52 _ (by first | exact hS_1 (decide_eq_false (by omega)) | exact hS_2 zc24 | exact hS_3 (by omega) | exact hS_4 (decide_eq_true (by omega)) zc24 (by omega)) (by omega))
set_option maxRecDepth 100000 in
theorem c_KR_heaps {σ : SI} {δ : SD} {f : Nat → Bool} (hw : ∀ p, p < 256 → σ 90 p = bI (f p)) {FIN : Nat → Nat} {I : Nat → (Nat → Nat) → Prop} {m0 : Nat} (hI0 : I m0 (fun i => i)) (hI1 : ∀ m hp, I m hp → ∃ m1, m = m1 + 1 ∧ ((psS f hp 256).2 = true → I m1 (psS f hp 256).1) ∧ ((psS f hp 256).2 = false → (psS f hp 256).1 = FIN)) : E KR_heaps [.ref 84] (HH σ δ) (some (.int (nI (cntN (fun p => f p && decide (FIN p = p)) 256)))) (HH (fill σ 91 (fun i => nI (FIN i)) 256) δ) := by
  refine E.ofL [some (.ref 84)] rfl pn_RX9 rfl (fun sc => ?_)
  generalize hRz : (fun (zr : Option Value) (zk : XH) => zr = some (.int (nI (cntN (fun p => f p && decide (FIN p = p)) 256))) ∧ zk = HH (fill σ 91 (fun i => nI (FIN i)) 256) δ) = R
  refine g_iconst dX9_heaps_0 ic_1 ?_
  refine g_istore_n dX9_heaps_1 rfl ?_
  refine g_iconst dX9_heaps_2 ic_0 ?_
  refine g_istore_n dX9_heaps_3 rfl ?_
  refine g_heap (show HH σ δ = HH (fill σ 91 (fun i => nI i) 0) δ by rw [fill_0]) ?_
  have H4 : ∀ (N : Nat) (p : Nat), p ≤ 256 → 256 - p < N → G sc KR_heaps 4 (aL [some (.ref 84), some (.int (nI 1)), some (.int (nI p))]) [] (HH (fill σ 91 (fun i => nI i) p) δ) (0, 0) R := by
    intro N
    induction N with
    | zero => intro p g1 hN4; exact absurd hN4 (Nat.not_lt_zero _)
    | succ N ih4 =>
      intro p g1 hN4
      refine g_iload_n dX9_heaps_4 rfl ?_
      refine g_sipush dX9_heaps_5 sp_256 ?_
      refine n_icmp_ge (tgt := 24) (by omega) (by omega) dX9_heaps_8 rfl (fun zc8 => ?_) (fun zc8 => ?_)
      · refine g_heap (show _ = HH (fill σ 91 (fun i => nI i) 256) δ by rw [show p = 256 by omega]) ?_
        have H24 : ∀ (N : Nat) (m : Nat) (hp : Nat → Nat) (b : Bool), (∀ p, p < 256 → hp p < 256) → (b = true → I m hp) → (b = false → hp = FIN) → m < N → G sc KR_heaps 24 (aL [some (.ref 84), some (.int (bI b))]) [] (HH (fill σ 91 (fun i => nI (hp i)) 256) δ) (0, 0) R := by
          intro N
          induction N with
          | zero => intro m hp b hbd0 hbt hbf hN24; exact absurd hN24 (Nat.not_lt_zero _)
          | succ N ih24 =>
            intro m hp b hbd0 hbt hbf hN24
            refine g_iload_n dX9_heaps_24 rfl ?_
            refine b_if_eq (tgt := 84) dX9_heaps_25 rfl (fun zc25 => ?_) (fun zc25 => ?_)
            · have efin := hbf zc25
              rw [efin] at hbd0
              refine g_heap (show HH (fill σ 91 (fun i => nI (hp i)) 256) δ = HH (fill σ 91 (fun i => nI (FIN i)) 256) δ by rw [efin]) ?_
              refine g_iconst dX9_heaps_84 ic_0 ?_
              refine g_istore_n dX9_heaps_85 rfl ?_
              refine g_iconst dX9_heaps_86 ic_0 ?_
              refine g_istore_n dX9_heaps_87 rfl ?_
              have H88 : ∀ (N : Nat) (p c : Nat), p ≤ 256 → c = cntN (fun p => f p && decide (FIN p = p)) p → 256 - p < N → G sc KR_heaps 88 (aL [some (.ref 84), some (.int (bI b)), some (.int (nI c)), some (.int (nI p))]) [] (HH (fill σ 91 (fun i => nI (FIN i)) 256) δ) (0, 0) R := by
                intro N
                induction N with
                | zero => intro p c g1 hc hN88; exact absurd hN88 (Nat.not_lt_zero _)
                | succ N ih88 =>
                  intro p c g1 hc hN88
                  refine g_iload_n dX9_heaps_88 rfl ?_
                  refine g_sipush dX9_heaps_89 sp_256 ?_
                  refine n_icmp_ge (tgt := 128) (by omega) (by omega) dX9_heaps_92 rfl (fun zc92 => ?_) (fun zc92 => ?_)
                  · refine g_iload_n dX9_heaps_128 rfl ?_
                    exact g_iret (S := []) dX9_heaps_129 rfl (by rw [← hRz]; exact ⟨congrArg (fun zz => some (Value.int zz)) (show _ = _ by rw [hc, show p = 256 by omega]), by rfl⟩) (Nat.zero_le _) (Nat.zero_le _)
                  · have hfp := hbd0 p (by omega)
                    refine g_iload_n dX9_heaps_95 rfl ?_
                    refine g_aload_n dX9_heaps_96 rfl ?_
                    refine q_getq dX9_heaps_97 f_R_25 ck_84 (by decide) ty_8_6 rf_84_6 ?_
                    refine g_iload_n dX9_heaps_100 rfl ?_
                    refine q_zald dX9_heaps_101 ck_90 (ixD_nI (by omega) (by decide)) ?_
                    refine g_top (show _ = bI (f p) by rw [fill_row (by decide)]; exact hw p (by omega)) ?_
                    refine b_if_eq (tgt := 119) dX9_heaps_102 rfl (fun zc102 => ?_) (fun zc102 => ?_)
                    · refine g_iconst dX9_heaps_119 ic_0 ?_
                      refine n_iadd dX9_heaps_120 ?_
                      refine g_istore_n dX9_heaps_121 rfl ?_
                      refine n_iinc (b := 1) dX9_heaps_122 rfl rfl rfl ?_
                      refine g_goto (tgt := 88) dX9_heaps_125 rfl ?_
                      exact g_can _ (by exact ⟨rfl, rfl, rfl, rfl, trivial⟩) (ih88 (p + 1) _ (by omega) (by rw [hc, cntN]; first | exact cw_y zc102 zc112 | exact cw_n1 zc102 | exact cw_n2 zc112) (by omega))
                    · refine g_aload_n dX9_heaps_105 rfl ?_
                      refine q_getq dX9_heaps_106 f_R_29 ck_84 (by decide) ty_8_7 rf_84_7 ?_
                      refine g_iload_n dX9_heaps_109 rfl ?_
                      refine q_iald dX9_heaps_110 ck_91 (ixD_nI (by omega) (by decide)) ?_
                      refine g_top (fill_in (show p < 256 by omega)) ?_
                      refine g_iload_n dX9_heaps_111 rfl ?_
                      refine n_icmp_ne (tgt := 119) (by omega) (by omega) dX9_heaps_112 rfl (fun zc112 => ?_) (fun zc112 => ?_)
                      · refine g_iconst dX9_heaps_119 ic_0 ?_
                        refine n_iadd dX9_heaps_120 ?_
                        refine g_istore_n dX9_heaps_121 rfl ?_
                        refine n_iinc (b := 1) dX9_heaps_122 rfl rfl rfl ?_
                        refine g_goto (tgt := 88) dX9_heaps_125 rfl ?_
                        exact g_can _ (by exact ⟨rfl, rfl, rfl, rfl, trivial⟩) (ih88 (p + 1) _ (by omega) (by rw [hc, cntN]; first | exact cw_y zc102 zc112 | exact cw_n1 zc102 | exact cw_n2 zc112) (by omega))
                      · refine g_iconst dX9_heaps_115 ic_1 ?_
                        refine g_goto (tgt := 120) dX9_heaps_116 rfl ?_
                        refine n_iadd dX9_heaps_120 ?_
                        refine g_istore_n dX9_heaps_121 rfl ?_
                        refine n_iinc (b := 1) dX9_heaps_122 rfl rfl rfl ?_
                        refine g_goto (tgt := 88) dX9_heaps_125 rfl ?_
                        exact g_can _ (by exact ⟨rfl, rfl, rfl, rfl, trivial⟩) (ih88 (p + 1) _ (by omega) (by rw [hc, cntN]; first | exact cw_y zc102 zc112 | exact cw_n1 zc102 | exact cw_n2 zc112) (by omega))
              exact g_can _ (by exact ⟨rfl, rfl, rfl, rfl, trivial⟩) (H88 _ 0 0 (by omega) rfl (Nat.lt_succ_self _))
            · refine g_iconst dX9_heaps_28 ic_0 ?_
              refine g_istore_n dX9_heaps_29 rfl ?_
              refine g_iconst dX9_heaps_30 ic_0 ?_
              refine g_istore_n dX9_heaps_31 rfl ?_
              have H32 : ∀ (N : Nat) (p : Nat) (h1 : Nat → Nat) (b1 : Bool), p ≤ 256 → (∀ p, p < 256 → h1 p < 256) → (h1, b1) = psS f hp p → 256 - p < N → G sc KR_heaps 32 (aL [some (.ref 84), some (.int (bI b1)), some (.int (nI p))]) [] (HH (fill σ 91 (fun i => nI (h1 i)) 256) δ) (0, 0) R := by
                intro N
                induction N with
                | zero => intro p h1 b1 g1 hbd hps hN32; exact absurd hN32 (Nat.not_lt_zero _)
                | succ N ih32 =>
                  intro p h1 b1 g1 hbd hps hN32
                  refine g_iload_n dX9_heaps_32 rfl ?_
                  refine g_sipush dX9_heaps_33 sp_256 ?_
                  refine n_icmp_ge (tgt := 81) (by omega) (by omega) dX9_heaps_36 rfl (fun zc36 => ?_) (fun zc36 => ?_)
                  · rw [show p = 256 by omega] at hps
                    obtain ⟨m1, rfl, g3, g4⟩ := hI1 m hp (hbt zc25)
                    rw [← hps] at g3 g4
                    refine g_goto (tgt := 24) dX9_heaps_81 rfl ?_
                    exact g_can _ (by exact ⟨rfl, rfl, trivial⟩) (ih24 m1 h1 b1 hbd g3 g4 (by omega))
                  · have hbp := hbd p (by omega)
                    have hop := hO_le (f := f) (hp := h1) (p := p)
                    refine g_aload_n dX9_heaps_39 rfl ?_
                    refine q_getq dX9_heaps_40 f_R_25 ck_84 (by decide) ty_8_6 rf_84_6 ?_
                    refine g_iload_n dX9_heaps_43 rfl ?_
                    refine q_zald dX9_heaps_44 ck_90 (ixD_nI (by omega) (by decide)) ?_
                    refine g_top (show _ = bI (f p) by rw [fill_row (by decide)]; exact hw p (by omega)) ?_
                    refine b_if_eq (tgt := 75) dX9_heaps_45 rfl (fun zc45 => ?_) (fun zc45 => ?_)
                    · refine n_iinc (b := 1) dX9_heaps_75 rfl rfl rfl ?_
                      refine g_goto (tgt := 32) dX9_heaps_78 rfl ?_
                      exact g_can _ (by exact ⟨rfl, rfl, rfl, trivial⟩) (ih32 (p + 1) h1 b1 (by omega) hbd (by first | exact psS_n1 hps zc45 | exact psS_n2 hps (by omega)) (by omega))
                    · refine g_aload_n dX9_heaps_48 rfl ?_
                      refine g_iload_n dX9_heaps_49 rfl ?_
                      refine g_v1 (M' := KR_heapOf) dX9_heaps_50 l_R_239 v_KR_heapOf (c_KR_heapOf (f := f) (hp := h1) (fun p hp => by rw [fill_row (by decide)]; exact hw p hp) (fun p hp => fill_in hp) hbd (by omega)) rc_84 rfl rfl ⟨rfl, rfl⟩ ?_
                      refine g_aload_n dX9_heaps_53 rfl ?_
                      refine q_getq dX9_heaps_54 f_R_29 ck_84 (by decide) ty_8_7 rf_84_7 ?_
                      refine g_iload_n dX9_heaps_57 rfl ?_
                      refine q_iald dX9_heaps_58 ck_91 (ixD_nI (by omega) (by decide)) ?_
                      refine g_top (fill_in (show p < 256 by omega)) ?_
                      refine n_icmp_ge (tgt := 75) (by omega) (by omega) dX9_heaps_59 rfl (fun zc59 => ?_) (fun zc59 => ?_)
                      · refine n_iinc (b := 1) dX9_heaps_75 rfl rfl rfl ?_
                        refine g_goto (tgt := 32) dX9_heaps_78 rfl ?_
                        exact g_can _ (by exact ⟨rfl, rfl, rfl, trivial⟩) (ih32 (p + 1) h1 b1 (by omega) hbd (by first | exact psS_n1 hps zc45 | exact psS_n2 hps (by omega)) (by omega))
                      · refine g_aload_n dX9_heaps_62 rfl ?_
                        refine q_getq dX9_heaps_63 f_R_29 ck_84 (by decide) ty_8_7 rf_84_7 ?_
                        refine g_iload_n dX9_heaps_66 rfl ?_
                        refine g_aload_n dX9_heaps_67 rfl ?_
                        refine g_iload_n dX9_heaps_68 rfl ?_
                        refine g_v1 (M' := KR_heapOf) dX9_heaps_69 l_R_239 v_KR_heapOf (c_KR_heapOf (f := f) (hp := h1) (fun p hp => by rw [fill_row (by decide)]; exact hw p hp) (fun p hp => fill_in hp) hbd (by omega)) rc_84 rfl rfl ⟨rfl, rfl⟩ ?_
                        refine q_iast dX9_heaps_72 ck_91 (ixD_nI (by omega) (by decide)) ?_
                        refine g_heap (congrArg (fun z => HH z δ) (show _ = fill σ 91 (fun i => nI ((updN h1 p (hOf f h1 p)) i)) 256 from fill_upd (by omega))) ?_
                        refine g_iconst dX9_heaps_73 ic_1 ?_
                        refine g_istore_n dX9_heaps_74 rfl ?_
                        refine n_iinc (b := 1) dX9_heaps_75 rfl rfl rfl ?_
                        refine g_goto (tgt := 32) dX9_heaps_78 rfl ?_
                        exact g_can _ (by exact ⟨rfl, rfl, rfl, trivial⟩) (ih32 (p + 1) _ true (by omega) (hO_bd hbd (by omega) (by omega)) (psS_y hps zc45 (by omega)) (by omega))
              exact g_can _ (by exact ⟨rfl, rfl, rfl, trivial⟩) (H32 _ 0 hp false (by omega) hbd0 rfl (Nat.lt_succ_self _))
        exact g_can _ (by exact ⟨rfl, rfl, trivial⟩) (H24 _ m0 (fun i => i) true (fun p hp => hp) (fun _ => hI0) (fun h => absurd h (by decide)) (Nat.lt_succ_self _))
      · refine g_aload_n dX9_heaps_11 rfl ?_
        refine q_getq dX9_heaps_12 f_R_29 ck_84 (by decide) ty_8_7 rf_84_7 ?_
        refine g_iload_n dX9_heaps_15 rfl ?_
        refine g_iload_n dX9_heaps_16 rfl ?_
        refine q_iast dX9_heaps_17 ck_91 (ixD_nI (by omega) (by decide)) ?_
        refine n_iinc (b := 1) dX9_heaps_18 rfl rfl rfl ?_
        refine g_goto (tgt := 4) dX9_heaps_21 rfl ?_
        refine g_heap (congrArg (fun z => HH z δ) (fill_succ σ 91 (fun i => nI i) p)) ?_
        exact g_can _ (by exact ⟨rfl, rfl, rfl, trivial⟩) (ih4 (p + 1) (by omega) (by omega))
  exact g_can _ (by exact ⟨rfl, rfl, rfl, trivial⟩) (H4 _ 0 (by omega) (Nat.lt_succ_self _))
