/-! THE DIGEST -/
def dgI (f : Nat → Int32) (h : Int64) : Nat → Int64
  | 0 => h
  | i + 1 => 31 * dgI f h i + (f i).toInt64
def dgC (f : Nat → Int64) (h : Int64) : Nat → Int64
  | 0 => h
  | i + 1 => 31 * dgC f h i + f i
set_option maxRecDepth 100000 in
set_option maxHeartbeats 200000 in
theorem c_KP_digest {σ σ1 σ2 : SI} {δ : SD} {n : Nat} (hn : σ 6 2 = nI n) (n8 : n ≤ 8) {vT vI vS : Nat → Int32} {w0 w1 w4 vY : Int32} {vC : Nat → Int64} {h1 h2 h3 h4 rr : Int64} (q1 : dgI vT 2281 14 = h1) (q2 : dgI vI h1 (10 * n) = h2) (q3 : dgI vS h2 6 = h3) (q4 : 31 * (31 * (31 * h3 + w0.toInt64) + w1.toInt64) + w4.toInt64 = h4) (q5 : 31 * dgC vC h4 3 + vY.toInt64 = rr) {ε : Nat → SD} (hT : ∀ j, j < 14 → E KP_told [.ref 5, .int (nI j)] (HH σ δ) (some (.int (vT j))) (HH σ δ)) (hK : ∀ k, k < n → ∀ w, w < 10 → E KL_tellOfItem [.ref 6, .int (nI k), .int (nI w)] (HH σ δ) (some (.int (vI (10 * k + w)))) (HH σ δ)) (hS : ∀ r, r < 6 → E KP_side [.ref 5, .int (nI (r + 1))] (HH σ δ) (some (.int (vS r))) (HH σ δ)) (hLk : E KW_look [.ref 76, .ref 6] (HH σ δ) none (HH σ1 δ)) (c2 : σ1 76 2 = w0) (c3 : σ1 76 3 = w1) (c6 : σ1 76 6 = w4) (h0 : ε 0 = δ) (hC : ∀ j, j < 3 → E KP_centre [.ref 5, .int (nI j)] (HH σ1 (ε j)) (some (.long (vC j))) (HH σ1 (ε (j + 1)))) (hY : E KP_stays [.ref 5] (HH σ1 (ε 3)) (some (.int vY)) (HH σ2 (ε 3))) : E KP_digest [.ref 5] (HH σ δ) (some (.long rr)) (HH σ2 (ε 3)) := by
  refine E.ofL [some (.ref 5)] rfl pn_RX8 rfl (fun sc => ?_)
  generalize hRz : (fun (zr : Option Value) (zk : XH) => zr = some (.long rr) ∧ zk = HH σ2 (ε 3)) = R
  refine g_ldcl dX8_digest_0 c_P_274 ?_
  refine g_lstore_n dX8_digest_3 rfl ?_
  refine g_iconst dX8_digest_4 ic_0 ?_
  refine g_istore_n dX8_digest_5 rfl ?_
  have H6 : ∀ (N : Nat) (j : Nat), j ≤ 14 → 14 - j < N → G sc KP_digest 6 (aL [some (.ref 5), some (.long (dgI vT 2281 j)), none, some (.int (nI j))]) [] (HH σ δ) (0, 0) R := by
    intro N
    induction N with
    | zero => intro j j1 hN6; exact absurd hN6 (Nat.not_lt_zero _)
    | succ N ih6 =>
      intro j j1 hN6
      refine g_iload_n dX8_digest_6 rfl ?_
      refine g_bipush dX8_digest_7 bp_13 ?_
      refine n_icmp_gt (tgt := 31) (by omega) (by omega) dX8_digest_9 rfl (fun zc9 => ?_) (fun zc9 => ?_)
      · obtain rfl : j = 14 := by omega
        refine g_can [some (.ref 5), some (.long h1)] (by exact ⟨rfl, congrArg (fun z => some (Value.long z)) q1, trivial⟩) ?_
        refine g_iconst dX8_digest_31 ic_0 ?_
        refine g_istore_n dX8_digest_32 rfl ?_
        have H33 : ∀ (N : Nat) (k : Nat), k ≤ n → n - k < N → G sc KP_digest 33 (aL [some (.ref 5), some (.long (dgI vI h1 (10 * k))), none, some (.int (nI k))]) [] (HH σ δ) (0, 0) R := by
          intro N
          induction N with
          | zero => intro k k1 hN33; exact absurd hN33 (Nat.not_lt_zero _)
          | succ N ih33 =>
            intro k k1 hN33
            refine g_iload_n dX8_digest_33 rfl ?_
            refine g_aload_n dX8_digest_34 rfl ?_
            refine q_getq dX8_digest_35 f_P_12 ck_5 (by decide) ty_7_0 rf_5_0 ?_
            refine q_geti dX8_digest_38 f_P_267 ck_6 (by decide) ty_0_2 ?_
            refine g_top hn ?_
            refine n_icmp_ge (tgt := 84) (by omega) (by omega) dX8_digest_41 rfl (fun zc41 => ?_) (fun zc41 => ?_)
            · obtain rfl : k = n := by omega
              refine g_can [some (.ref 5), some (.long h2)] (by exact ⟨rfl, congrArg (fun z => some (Value.long z)) q2, trivial⟩) ?_
              refine g_iconst dX8_digest_84 ic_1 ?_
              refine g_istore_n dX8_digest_85 rfl ?_
              have H86 : ∀ (N : Nat) (r : Nat), r ≤ 6 → 6 - r < N → G sc KP_digest 86 (aL [some (.ref 5), some (.long (dgI vS h2 r)), none, some (.int (nI (r + 1)))]) [] (HH σ δ) (0, 0) R := by
                intro N
                induction N with
                | zero => intro r r1 hN86; exact absurd hN86 (Nat.not_lt_zero _)
                | succ N ih86 =>
                  intro r r1 hN86
                  refine g_iload_n dX8_digest_86 rfl ?_
                  refine g_bipush dX8_digest_87 bp_6 ?_
                  refine n_icmp_gt (tgt := 111) (by omega) (by omega) dX8_digest_89 rfl (fun zc89 => ?_) (fun zc89 => ?_)
                  · obtain rfl : r = 6 := by omega
                    refine g_can [some (.ref 5), some (.long h3)] (by exact ⟨rfl, congrArg (fun z => some (Value.long z)) q3, trivial⟩) ?_
                    refine g_aload_n dX8_digest_111 rfl ?_
                    refine q_getq dX8_digest_112 f_P_43 ck_5 (by decide) ty_7_5 rf_5_5 ?_
                    refine g_aload_n dX8_digest_115 rfl ?_
                    refine q_getq dX8_digest_116 f_P_12 ck_5 (by decide) ty_7_0 rf_5_0 ?_
                    refine g_v1n (M' := KW_look) dX8_digest_119 l_P_176 v_KW_look hLk rc_76 HH_len rfl ⟨rfl, rfl⟩ ?_
                    refine g_ldcl dX8_digest_122 c_P_276 ?_
                    refine g_lload_n dX8_digest_125 rfl ?_
                    refine g_lmul dX8_digest_126 ?_
                    refine g_aload_n dX8_digest_127 rfl ?_
                    refine q_getq dX8_digest_128 f_P_43 ck_5 (by decide) ty_7_5 rf_5_5 ?_
                    refine g_iconst dX8_digest_131 ic_0 ?_
                    refine g_v1 (M' := KW_tell) dX8_digest_132 l_P_179 v_KW_tell (c_KW_tell0 c2) rc_76 rfl rfl ⟨rfl, rfl⟩ ?_
                    refine g_i2l dX8_digest_135 ?_
                    refine g_ladd dX8_digest_136 ?_
                    refine g_lstore_n dX8_digest_137 rfl ?_
                    refine g_ldcl dX8_digest_138 c_P_276 ?_
                    refine g_lload_n dX8_digest_141 rfl ?_
                    refine g_lmul dX8_digest_142 ?_
                    refine g_aload_n dX8_digest_143 rfl ?_
                    refine q_getq dX8_digest_144 f_P_43 ck_5 (by decide) ty_7_5 rf_5_5 ?_
                    refine g_iconst dX8_digest_147 ic_1 ?_
                    refine g_v1 (M' := KW_tell) dX8_digest_148 l_P_179 v_KW_tell (c_KW_tell1 c3) rc_76 rfl rfl ⟨rfl, rfl⟩ ?_
                    refine g_i2l dX8_digest_151 ?_
                    refine g_ladd dX8_digest_152 ?_
                    refine g_lstore_n dX8_digest_153 rfl ?_
                    refine g_ldcl dX8_digest_154 c_P_276 ?_
                    refine g_lload_n dX8_digest_157 rfl ?_
                    refine g_lmul dX8_digest_158 ?_
                    refine g_aload_n dX8_digest_159 rfl ?_
                    refine q_getq dX8_digest_160 f_P_43 ck_5 (by decide) ty_7_5 rf_5_5 ?_
                    refine g_iconst dX8_digest_163 ic_4 ?_
                    refine g_v1 (M' := KW_tell) dX8_digest_164 l_P_179 v_KW_tell (c_KW_tell4 c6) rc_76 rfl rfl ⟨rfl, rfl⟩ ?_
                    refine g_i2l dX8_digest_167 ?_
                    refine g_ladd dX8_digest_168 ?_
                    refine g_lstore_n dX8_digest_169 rfl ?_
                    refine g_can [some (.ref 5), some (.long h4)] (by exact ⟨rfl, congrArg (fun z => some (Value.long z)) q4, trivial⟩) ?_
                    refine g_iconst dX8_digest_170 ic_0 ?_
                    refine g_istore_n dX8_digest_171 rfl ?_
                    refine g_heap (congrArg (HH σ1) h0.symm) ?_
                    have H172 : ∀ (N : Nat) (j : Nat), j ≤ 3 → 3 - j < N → G sc KP_digest 172 (aL [some (.ref 5), some (.long (dgC vC h4 j)), none, some (.int (nI j))]) [] (HH σ1 (ε j)) (0, 0) R := by
                      intro N
                      induction N with
                      | zero => intro j j1 hN172; exact absurd hN172 (Nat.not_lt_zero _)
                      | succ N ih172 =>
                        intro j j1 hN172
                        refine g_iload_n dX8_digest_172 rfl ?_
                        refine g_iconst dX8_digest_173 ic_2 ?_
                        refine n_icmp_gt (tgt := 195) (by omega) (by omega) dX8_digest_174 rfl (fun zc174 => ?_) (fun zc174 => ?_)
                        · obtain rfl : j = 3 := by omega
                          refine g_ldcl dX8_digest_195 c_P_276 ?_
                          refine g_lload_n dX8_digest_198 rfl ?_
                          refine g_lmul dX8_digest_199 ?_
                          refine g_aload_n dX8_digest_200 rfl ?_
                          refine g_v0 (M' := KP_stays) dX8_digest_201 l_P_288 v_KP_stays hY rc_5 HH_len rfl ⟨rfl, rfl⟩ ?_
                          refine g_i2l dX8_digest_204 ?_
                          refine g_ladd dX8_digest_205 ?_
                          exact g_lret (S := []) dX8_digest_206 rfl (by rw [← hRz]; exact ⟨congrArg (fun zz => some (Value.long zz)) (show _ = _ by exact q5), by rfl⟩) (Nat.zero_le _) (Nat.zero_le _)
                        · refine g_ldcl dX8_digest_177 c_P_276 ?_
                          refine g_lload_n dX8_digest_180 rfl ?_
                          refine g_lmul dX8_digest_181 ?_
                          refine g_aload_n dX8_digest_182 rfl ?_
                          refine g_iload_n dX8_digest_183 rfl ?_
                          refine g_v1 (M' := KP_centre) dX8_digest_184 l_P_284 v_KP_centre (hC j (by omega)) rc_5 HH_len rfl ⟨rfl, rfl⟩ ?_
                          refine g_ladd dX8_digest_187 ?_
                          refine g_lstore_n dX8_digest_188 rfl ?_
                          refine n_iinc (b := 1) dX8_digest_189 rfl rfl rfl ?_
                          refine g_goto (tgt := 172) dX8_digest_192 rfl ?_
                          exact g_can _ (by exact ⟨rfl, rfl, rfl, trivial⟩) (ih172 (j + 1) (by omega) (by omega))
                    exact g_can _ (by exact ⟨rfl, rfl, rfl, trivial⟩) (H172 _ 0 (by omega) (Nat.lt_succ_self _))
                  · refine g_ldcl dX8_digest_92 c_P_276 ?_
                    refine g_lload_n dX8_digest_95 rfl ?_
                    refine g_lmul dX8_digest_96 ?_
                    refine g_aload_n dX8_digest_97 rfl ?_
                    refine g_iload_n dX8_digest_98 rfl ?_
                    refine g_v1 (M' := KP_side) dX8_digest_99 l_P_281 v_KP_side (hS r (by omega)) rc_5 rfl rfl ⟨rfl, rfl⟩ ?_
                    refine g_i2l dX8_digest_102 ?_
                    refine g_ladd dX8_digest_103 ?_
                    refine g_lstore_n dX8_digest_104 rfl ?_
                    refine n_iinc (b := 1) dX8_digest_105 rfl rfl rfl ?_
                    refine g_goto (tgt := 86) dX8_digest_108 rfl ?_
                    exact g_can _ (by exact ⟨rfl, rfl, rfl, trivial⟩) (ih86 (r + 1) (by omega) (by omega))
              exact g_can _ (by exact ⟨rfl, rfl, rfl, trivial⟩) (H86 _ 0 (by omega) (Nat.lt_succ_self _))
            · refine g_iconst dX8_digest_44 ic_0 ?_
              refine g_istore dX8_digest_45 rfl ?_
              have H47 : ∀ (N : Nat) (w : Nat), w ≤ 10 → 10 - w < N → G sc KP_digest 47 (aL [some (.ref 5), some (.long (dgI vI h1 (10 * k + w))), none, some (.int (nI k)), some (.int (nI w))]) [] (HH σ δ) (0, 0) R := by
                intro N
                induction N with
                | zero => intro w z1 hN47; exact absurd hN47 (Nat.not_lt_zero _)
                | succ N ih47 =>
                  intro w z1 hN47
                  refine g_iload dX8_digest_47 rfl ?_
                  refine g_bipush dX8_digest_49 bp_9 ?_
                  refine n_icmp_gt (tgt := 78) (by omega) (by omega) dX8_digest_51 rfl (fun zc51 => ?_) (fun zc51 => ?_)
                  · refine n_iinc (b := 1) dX8_digest_78 rfl rfl rfl ?_
                    refine g_goto (tgt := 33) dX8_digest_81 rfl ?_
                    exact g_can _ (by exact ⟨rfl, (congrArg (fun z => some (Value.long (dgI vI h1 z))) (by omega)), rfl, trivial⟩) (ih33 (k + 1) (by omega) (by omega))
                  · refine g_ldcl dX8_digest_54 c_P_276 ?_
                    refine g_lload_n dX8_digest_57 rfl ?_
                    refine g_lmul dX8_digest_58 ?_
                    refine g_aload_n dX8_digest_59 rfl ?_
                    refine q_getq dX8_digest_60 f_P_12 ck_5 (by decide) ty_7_0 rf_5_0 ?_
                    refine g_iload_n dX8_digest_63 rfl ?_
                    refine g_iload dX8_digest_64 rfl ?_
                    refine g_v2 (M' := KL_tellOfItem) dX8_digest_66 l_P_103 v_KL_tellOfItem (hK k (by omega) w (by omega)) (rcL LB_6) rfl rfl ⟨rfl, rfl⟩ ?_
                    refine g_i2l dX8_digest_69 ?_
                    refine g_ladd dX8_digest_70 ?_
                    refine g_lstore_n dX8_digest_71 rfl ?_
                    refine n_iinc (b := 1) dX8_digest_72 rfl rfl rfl ?_
                    refine g_goto (tgt := 47) dX8_digest_75 rfl ?_
                    exact g_can _ (by exact ⟨rfl, rfl, rfl, rfl, trivial⟩) (ih47 (w + 1) (by omega) (by omega))
              exact g_can _ (by exact ⟨rfl, rfl, rfl, rfl, trivial⟩) (H47 _ 0 (by omega) (Nat.lt_succ_self _))
        exact g_can _ (by exact ⟨rfl, rfl, rfl, trivial⟩) (H33 _ 0 (by omega) (Nat.lt_succ_self _))
      · refine g_ldcl dX8_digest_12 c_P_276 ?_
        refine g_lload_n dX8_digest_15 rfl ?_
        refine g_lmul dX8_digest_16 ?_
        refine g_aload_n dX8_digest_17 rfl ?_
        refine g_iload_n dX8_digest_18 rfl ?_
        refine g_v1 (M' := KP_told) dX8_digest_19 l_P_278 v_KP_told (hT j (by omega)) rc_5 rfl rfl ⟨rfl, rfl⟩ ?_
        refine g_i2l dX8_digest_22 ?_
        refine g_ladd dX8_digest_23 ?_
        refine g_lstore_n dX8_digest_24 rfl ?_
        refine n_iinc (b := 1) dX8_digest_25 rfl rfl rfl ?_
        refine g_goto (tgt := 6) dX8_digest_28 rfl ?_
        exact g_can _ (by exact ⟨rfl, rfl, rfl, trivial⟩) (ih6 (j + 1) (by omega) (by omega))
  exact g_can _ (by exact ⟨rfl, rfl, rfl, trivial⟩) (H6 _ 0 (by omega) (Nat.lt_succ_self _))
set_option maxRecDepth 100000 in
set_option maxHeartbeats 200000 in
theorem c_KR_digest {σ τ1 τ2 τ3 : SI} {δ : SD} {n : Nat} (h7 : σ 85 7 = nI n) (n8 : n ≤ 8) {vT vI vS : Nat → Int32} {w0 w1 w4 vY : Int32} {vC : Nat → Int64} {h1 h2 h3 h4 rr : Int64} (q1 : dgI vT 2281 14 = h1) (q2 : dgI vI h1 (10 * n) = h2) (q3 : dgI vS h2 6 = h3) (q4 : 31 * (31 * (31 * h3 + w0.toInt64) + w1.toInt64) + w4.toInt64 = h4) (q5 : 31 * dgC vC h4 3 + vY.toInt64 = rr) (hT : ∀ j, j < 14 → E KR_toldOf [.ref 84, .int (nI j)] (HH σ δ) (some (.int (vT j))) (HH σ δ)) (hK : ∀ k, k < n → ∀ w, w < 10 → E KR_ofNow [.ref 84, .int (nI k), .int (nI w)] (HH σ δ) (some (.int (vI (10 * k + w)))) (HH σ δ)) (hS : ∀ r, r < 6 → E KR_sideBits [.ref 84, .int (nI (r + 1))] (HH σ δ) (some (.int (vS r))) (HH σ δ)) (hW0 : E KR_whiteNow [.ref 84, .int (nI 0)] (HH σ δ) (some (.int w0)) (HH τ1 δ)) (hW1 : E KR_whiteNow [.ref 84, .int (nI 1)] (HH τ1 δ) (some (.int w1)) (HH τ2 δ)) (hW4 : E KR_whiteNow [.ref 84, .int (nI 4)] (HH τ2 δ) (some (.int w4)) (HH τ3 δ)) (hC : ∀ j, j < 3 → E KR_centreBits [.ref 84, .int (nI j)] (HH τ3 δ) (some (.long (vC j))) (HH τ3 δ)) (hY : E KR_staying [.ref 84] (HH τ3 δ) (some (.int vY)) (HH τ3 δ)) : E KR_digest [.ref 84] (HH σ δ) (some (.long rr)) (HH τ3 δ) := by
  refine E.ofL [some (.ref 84)] rfl pn_RX9 rfl (fun sc => ?_)
  generalize hRz : (fun (zr : Option Value) (zk : XH) => zr = some (.long rr) ∧ zk = HH τ3 δ) = R
  refine g_ldcl dX9_digest_0 c_R_353 ?_
  refine g_lstore_n dX9_digest_3 rfl ?_
  refine g_iconst dX9_digest_4 ic_0 ?_
  refine g_istore_n dX9_digest_5 rfl ?_
  have H6 : ∀ (N : Nat) (j : Nat), j ≤ 14 → 14 - j < N → G sc KR_digest 6 (aL [some (.ref 84), some (.long (dgI vT 2281 j)), none, some (.int (nI j))]) [] (HH σ δ) (0, 0) R := by
    intro N
    induction N with
    | zero => intro j j1 hN6; exact absurd hN6 (Nat.not_lt_zero _)
    | succ N ih6 =>
      intro j j1 hN6
      refine g_iload_n dX9_digest_6 rfl ?_
      refine g_bipush dX9_digest_7 bp_14 ?_
      refine n_icmp_ge (tgt := 31) (by omega) (by omega) dX9_digest_9 rfl (fun zc9 => ?_) (fun zc9 => ?_)
      · obtain rfl : j = 14 := by omega
        refine g_can [some (.ref 84), some (.long h1)] (by exact ⟨rfl, congrArg (fun z => some (Value.long z)) q1, trivial⟩) ?_
        refine g_iconst dX9_digest_31 ic_0 ?_
        refine g_istore_n dX9_digest_32 rfl ?_
        have H33 : ∀ (N : Nat) (i : Nat), i ≤ 10 * n → 10 * n - i < N → G sc KR_digest 33 (aL [some (.ref 84), some (.long (dgI vI h1 i)), none, some (.int (nI i))]) [] (HH σ δ) (0, 0) R := by
          intro N
          induction N with
          | zero => intro i i1 hN33; exact absurd hN33 (Nat.not_lt_zero _)
          | succ N ih33 =>
            intro i i1 hN33
            refine g_iload_n dX9_digest_33 rfl ?_
            refine g_bipush dX9_digest_34 bp_10 ?_
            refine g_aload_n dX9_digest_36 rfl ?_
            refine g_v0 (M' := KR_many) dX9_digest_37 l_R_42 v_KR_many c_KR_many rc_84 rfl rfl ⟨rfl, rfl⟩ ?_
            refine g_top h7 ?_
            refine n_imul dX9_digest_40 ?_
            refine n_icmp_ge (tgt := 70) (by omega) (by omega) dX9_digest_41 rfl (fun zc41 => ?_) (fun zc41 => ?_)
            · obtain rfl : i = 10 * n := by omega
              refine g_can [some (.ref 84), some (.long h2)] (by exact ⟨rfl, congrArg (fun z => some (Value.long z)) q2, trivial⟩) ?_
              refine g_iconst dX9_digest_70 ic_1 ?_
              refine g_istore_n dX9_digest_71 rfl ?_
              have H72 : ∀ (N : Nat) (r : Nat), r ≤ 6 → 6 - r < N → G sc KR_digest 72 (aL [some (.ref 84), some (.long (dgI vS h2 r)), none, some (.int (nI (r + 1)))]) [] (HH σ δ) (0, 0) R := by
                intro N
                induction N with
                | zero => intro r r1 hN72; exact absurd hN72 (Nat.not_lt_zero _)
                | succ N ih72 =>
                  intro r r1 hN72
                  refine g_iload_n dX9_digest_72 rfl ?_
                  refine g_bipush dX9_digest_73 bp_6 ?_
                  refine n_icmp_gt (tgt := 97) (by omega) (by omega) dX9_digest_75 rfl (fun zc75 => ?_) (fun zc75 => ?_)
                  · obtain rfl : r = 6 := by omega
                    refine g_can [some (.ref 84), some (.long h3)] (by exact ⟨rfl, congrArg (fun z => some (Value.long z)) q3, trivial⟩) ?_
                    refine g_ldcl dX9_digest_97 c_R_355 ?_
                    refine g_ldcl dX9_digest_100 c_R_355 ?_
                    refine g_ldcl dX9_digest_103 c_R_355 ?_
                    refine g_lload_n dX9_digest_106 rfl ?_
                    refine g_lmul dX9_digest_107 ?_
                    refine g_aload_n dX9_digest_108 rfl ?_
                    refine g_iconst dX9_digest_109 ic_0 ?_
                    refine g_v1 (M' := KR_whiteNow) dX9_digest_110 l_R_253 v_KR_whiteNow hW0 rc_84 HH_len rfl ⟨rfl, rfl⟩ ?_
                    refine g_i2l dX9_digest_113 ?_
                    refine g_ladd dX9_digest_114 ?_
                    refine g_lmul dX9_digest_115 ?_
                    refine g_aload_n dX9_digest_116 rfl ?_
                    refine g_iconst dX9_digest_117 ic_1 ?_
                    refine g_v1 (M' := KR_whiteNow) dX9_digest_118 l_R_253 v_KR_whiteNow hW1 rc_84 HH_len rfl ⟨rfl, rfl⟩ ?_
                    refine g_i2l dX9_digest_121 ?_
                    refine g_ladd dX9_digest_122 ?_
                    refine g_lmul dX9_digest_123 ?_
                    refine g_aload_n dX9_digest_124 rfl ?_
                    refine g_iconst dX9_digest_125 ic_4 ?_
                    refine g_v1 (M' := KR_whiteNow) dX9_digest_126 l_R_253 v_KR_whiteNow hW4 rc_84 HH_len rfl ⟨rfl, rfl⟩ ?_
                    refine g_i2l dX9_digest_129 ?_
                    refine g_ladd dX9_digest_130 ?_
                    refine g_lstore_n dX9_digest_131 rfl ?_
                    refine g_can [some (.ref 84), some (.long h4)] (by exact ⟨rfl, congrArg (fun z => some (Value.long z)) q4, trivial⟩) ?_
                    refine g_iconst dX9_digest_132 ic_0 ?_
                    refine g_istore_n dX9_digest_133 rfl ?_
                    have H134 : ∀ (N : Nat) (j : Nat), j ≤ 3 → 3 - j < N → G sc KR_digest 134 (aL [some (.ref 84), some (.long (dgC vC h4 j)), none, some (.int (nI j))]) [] (HH τ3 δ) (0, 0) R := by
                      intro N
                      induction N with
                      | zero => intro j j1 hN134; exact absurd hN134 (Nat.not_lt_zero _)
                      | succ N ih134 =>
                        intro j j1 hN134
                        refine g_iload_n dX9_digest_134 rfl ?_
                        refine g_iconst dX9_digest_135 ic_3 ?_
                        refine n_icmp_ge (tgt := 157) (by omega) (by omega) dX9_digest_136 rfl (fun zc136 => ?_) (fun zc136 => ?_)
                        · obtain rfl : j = 3 := by omega
                          refine g_ldcl dX9_digest_157 c_R_355 ?_
                          refine g_lload_n dX9_digest_160 rfl ?_
                          refine g_lmul dX9_digest_161 ?_
                          refine g_aload_n dX9_digest_162 rfl ?_
                          refine g_v0 (M' := KR_staying) dX9_digest_163 l_R_212 v_KR_staying hY rc_84 HH_len rfl ⟨rfl, rfl⟩ ?_
                          refine g_i2l dX9_digest_166 ?_
                          refine g_ladd dX9_digest_167 ?_
                          exact g_lret (S := []) dX9_digest_168 rfl (by rw [← hRz]; exact ⟨congrArg (fun zz => some (Value.long zz)) (show _ = _ by exact q5), by rfl⟩) (Nat.zero_le _) (Nat.zero_le _)
                        · refine g_ldcl dX9_digest_139 c_R_355 ?_
                          refine g_lload_n dX9_digest_142 rfl ?_
                          refine g_lmul dX9_digest_143 ?_
                          refine g_aload_n dX9_digest_144 rfl ?_
                          refine g_iload_n dX9_digest_145 rfl ?_
                          refine g_v1 (M' := KR_centreBits) dX9_digest_146 l_R_274 v_KR_centreBits (hC j (by omega)) rc_84 HH_len rfl ⟨rfl, rfl⟩ ?_
                          refine g_ladd dX9_digest_149 ?_
                          refine g_lstore_n dX9_digest_150 rfl ?_
                          refine n_iinc (b := 1) dX9_digest_151 rfl rfl rfl ?_
                          refine g_goto (tgt := 134) dX9_digest_154 rfl ?_
                          exact g_can _ (by exact ⟨rfl, rfl, rfl, trivial⟩) (ih134 (j + 1) (by omega) (by omega))
                    exact g_can _ (by exact ⟨rfl, rfl, rfl, trivial⟩) (H134 _ 0 (by omega) (Nat.lt_succ_self _))
                  · refine g_ldcl dX9_digest_78 c_R_355 ?_
                    refine g_lload_n dX9_digest_81 rfl ?_
                    refine g_lmul dX9_digest_82 ?_
                    refine g_aload_n dX9_digest_83 rfl ?_
                    refine g_iload_n dX9_digest_84 rfl ?_
                    refine g_v1 (M' := KR_sideBits) dX9_digest_85 l_R_165 v_KR_sideBits (hS r (by omega)) rc_84 rfl rfl ⟨rfl, rfl⟩ ?_
                    refine g_i2l dX9_digest_88 ?_
                    refine g_ladd dX9_digest_89 ?_
                    refine g_lstore_n dX9_digest_90 rfl ?_
                    refine n_iinc (b := 1) dX9_digest_91 rfl rfl rfl ?_
                    refine g_goto (tgt := 72) dX9_digest_94 rfl ?_
                    exact g_can _ (by exact ⟨rfl, rfl, rfl, trivial⟩) (ih72 (r + 1) (by omega) (by omega))
              exact g_can _ (by exact ⟨rfl, rfl, rfl, trivial⟩) (H72 _ 0 (by omega) (Nat.lt_succ_self _))
            · refine g_ldcl dX9_digest_44 c_R_355 ?_
              refine g_lload_n dX9_digest_47 rfl ?_
              refine g_lmul dX9_digest_48 ?_
              refine g_aload_n dX9_digest_49 rfl ?_
              refine g_iload_n dX9_digest_50 rfl ?_
              refine g_bipush dX9_digest_51 bp_10 ?_
              refine n_idiv dX9_digest_53 (by omega) (by omega) (by omega) ?_
              refine g_iload_n dX9_digest_54 rfl ?_
              refine g_bipush dX9_digest_55 bp_10 ?_
              refine n_irem dX9_digest_57 (by omega) (by omega) (by omega) ?_
              refine g_v2 (M' := KR_ofNow) dX9_digest_58 l_R_157 v_KR_ofNow (hK (i / 10) (by omega) (i % 10) (by omega)) rc_84 rfl rfl ⟨rfl, rfl⟩ ?_
              refine g_top (congrArg vI (Nat.div_add_mod i 10)) ?_
              refine g_i2l dX9_digest_61 ?_
              refine g_ladd dX9_digest_62 ?_
              refine g_lstore_n dX9_digest_63 rfl ?_
              refine n_iinc (b := 1) dX9_digest_64 rfl rfl rfl ?_
              refine g_goto (tgt := 33) dX9_digest_67 rfl ?_
              exact g_can _ (by exact ⟨rfl, rfl, rfl, trivial⟩) (ih33 (i + 1) (by omega) (by omega))
        exact g_can _ (by exact ⟨rfl, rfl, rfl, trivial⟩) (H33 _ 0 (by omega) (Nat.lt_succ_self _))
      · refine g_ldcl dX9_digest_12 c_R_355 ?_
        refine g_lload_n dX9_digest_15 rfl ?_
        refine g_lmul dX9_digest_16 ?_
        refine g_aload_n dX9_digest_17 rfl ?_
        refine g_iload_n dX9_digest_18 rfl ?_
        refine g_v1 (M' := KR_toldOf) dX9_digest_19 l_R_350 v_KR_toldOf (hT j (by omega)) rc_84 rfl rfl ⟨rfl, rfl⟩ ?_
        refine g_i2l dX9_digest_22 ?_
        refine g_ladd dX9_digest_23 ?_
        refine g_lstore_n dX9_digest_24 rfl ?_
        refine n_iinc (b := 1) dX9_digest_25 rfl rfl rfl ?_
        refine g_goto (tgt := 6) dX9_digest_28 rfl ?_
        exact g_can _ (by exact ⟨rfl, rfl, rfl, trivial⟩) (ih6 (j + 1) (by omega) (by omega))
  exact g_can _ (by exact ⟨rfl, rfl, rfl, trivial⟩) (H6 _ 0 (by omega) (Nat.lt_succ_self _))
/-- what told tells -/
def tdV (a : Nat → Int32) (n s tl : Nat) (rf : Nat → Int32) (j : Nat) : Int32 := if j < 3 then rf j else if j = 3 then nI tl else if j = 4 then nI n else if j < 12 then a (j - 5) else if j = 12 then bsA a else nI s
def ceV (a : Nat → Int32) (w sx sy : Nat) : Nat → Int64
  | 0 => (cnD w sx (a 0).toNatClampNeg).toInt64
  | 1 => (cnD w sy (a 1).toNatClampNeg).toInt64
  | _ => (blD w sx sy (a 0).toNatClampNeg (a 1).toNatClampNeg).toInt64
def dSn (δ : SD) (w sx sy : Nat) : Nat → SD
  | 0 => δ
  | j + 1 => dS (dSn δ w sx sy j) w sx sy
def ofZ (a : Nat → Int32) (n i : Nat) : Int32 := ofA a n (i / 10) (i % 10)
set_option maxHeartbeats 200000 in
theorem ofZ_at {a : Nat → Int32} {n k w : Nat} (hw : w < 10) : ofZ a n (10 * k + w) = ofA a n k w := by
  unfold ofZ
  rw [show (10 * k + w) / 10 = k by omega, show (10 * k + w) % 10 = w by omega]
section DG
variable {σ : SI} {δ : SD} {a : Nat → Int32} {n s o tl : Nat} {P : Nat → Nat → Int32} {tx rf : Nat → Int32}
set_option maxHeartbeats 200000 in
theorem dg_told (hI : IC σ a n s o P tl tx rf) : ∀ j, j < 14 → E KP_told [.ref 5, .int (nI j)] (HH σ δ) (some (.int (tdV a n s tl rf j))) (HH σ δ) := fun j hj => by
  rcases (show j = 0 ∨ j = 1 ∨ j = 2 ∨ j = 3 ∨ j = 4 ∨ j = 5 ∨ j = 6 ∨ j = 7 ∨ j = 8 ∨ j = 9 ∨ j = 10 ∨ j = 11 ∨ j = 12 ∨ j = 13 by omega) with rfl | rfl | rfl | rfl | rfl | rfl | rfl | rfl | rfl | rfl | rfl | rfl | rfl | rfl
  · have zq := c_KP_told_ok0 (δ := δ) hI
    exact zq
  · have zq := c_KP_told_ok1 (δ := δ) hI
    exact zq
  · have zq := c_KP_told_ok2 (δ := δ) hI
    exact zq
  · have zq := c_KP_told_ok3 (δ := δ) hI
    exact zq
  · have zq := c_KP_told_ok4 (δ := δ) hI
    exact zq
  · have zq := c_KP_told_ok5 (δ := δ) hI
    exact zq
  · have zq := c_KP_told_ok6 (δ := δ) hI
    exact zq
  · have zq := c_KP_told_ok7 (δ := δ) hI
    exact zq
  · have zq := c_KP_told_ok8 (δ := δ) hI
    exact zq
  · have zq := c_KP_told_ok9 (δ := δ) hI
    exact zq
  · have zq := c_KP_told_ok10 (δ := δ) hI
    exact zq
  · have zq := c_KP_told_ok11 (δ := δ) hI
    exact zq
  · have zq := c_KP_told_ok12 (δ := δ) hI
    exact zq
  · have zq := c_KP_told_ok13 (δ := δ) hI
    exact zq
set_option maxHeartbeats 200000 in
theorem dg_toldR (hJ : IR σ a s P tl tx rf) (hs : s ≤ 5) (hW : WF a n) : ∀ j, j < 14 → E KR_toldOf [.ref 84, .int (nI j)] (HH σ δ) (some (.int (tdV a n s tl rf j))) (HH σ δ) := fun j hj => by
  rcases (show j = 0 ∨ j = 1 ∨ j = 2 ∨ j = 3 ∨ j = 4 ∨ j = 5 ∨ j = 6 ∨ j = 7 ∨ j = 8 ∨ j = 9 ∨ j = 10 ∨ j = 11 ∨ j = 12 ∨ j = 13 by omega) with rfl | rfl | rfl | rfl | rfl | rfl | rfl | rfl | rfl | rfl | rfl | rfl | rfl | rfl
  · have zq := c_KR_toldOf0 (δ := δ) hJ hs hW
    exact zq
  · have zq := c_KR_toldOf1 (δ := δ) hJ hs hW
    exact zq
  · have zq := c_KR_toldOf2 (δ := δ) hJ hs hW
    exact zq
  · have zq := c_KR_toldOf3 (δ := δ) hJ hs hW
    exact zq
  · have zq := c_KR_toldOf4 (δ := δ) hJ hs hW
    exact zq
  · have zq := c_KR_toldOf5 (δ := δ) hJ hs hW
    exact zq
  · have zq := c_KR_toldOf6 (δ := δ) hJ hs hW
    exact zq
  · have zq := c_KR_toldOf7 (δ := δ) hJ hs hW
    exact zq
  · have zq := c_KR_toldOf8 (δ := δ) hJ hs hW
    exact zq
  · have zq := c_KR_toldOf9 (δ := δ) hJ hs hW
    exact zq
  · have zq := c_KR_toldOf10 (δ := δ) hJ hs hW
    exact zq
  · have zq := c_KR_toldOf11 (δ := δ) hJ hs hW
    exact zq
  · have zq := c_KR_toldOf12 (δ := δ) hJ hs hW
    exact zq
  · have zq := c_KR_toldOf13 (δ := δ) hJ hs hW
    exact zq
set_option maxHeartbeats 200000 in
theorem dg_it (hL : HL σ 6 a n) : ∀ k, k < n → ∀ w, w < 10 → E KL_tellOfItem [.ref 6, .int (nI k), .int (nI w)] (HH σ δ) (some (.int (ofZ a n (10 * k + w)))) (HH σ δ) := fun k hk w hw => by
  rw [ofZ_at hw]
  rcases (show w = 0 ∨ w = 1 ∨ w = 2 ∨ w = 3 ∨ w = 4 ∨ w = 5 ∨ w = 6 ∨ w = 7 ∨ w = 8 ∨ w = 9 by omega) with rfl | rfl | rfl | rfl | rfl | rfl | rfl | rfl | rfl | rfl
  · exact c_KL_tellOfItem0 LB_6 hL.wf hL.rb hL.rd hk
  · exact c_KL_tellOfItem1 LB_6 hL.wf hL.rb hL.rd hk
  · exact c_KL_tellOfItem2 LB_6 hL.wf hL.rb hL.rd hk
  · exact c_KL_tellOfItem3 LB_6 hL.wf hL.rb hL.rd hk
  · exact c_KL_tellOfItem4 LB_6 hL.wf hL.rb hL.rd hk
  · exact c_KL_tellOfItem5 LB_6 hL.wf hL.rb hL.rd hk
  · exact c_KL_tellOfItem6 LB_6 hL.wf hL.rb hL.rd hk
  · exact c_KL_tellOfItem7 LB_6 hL.wf hL.rb hL.rd hk
  · exact c_KL_tellOfItem8 LB_6 hL.wf hL.rb hL.rd hk
  · exact c_KL_tellOfItem9 LB_6 hL.wf hL.rb hL.rd hk
set_option maxHeartbeats 200000 in
theorem dg_itR (hr : σ 85 = a) (hW : WF a n) : ∀ k, k < n → ∀ w, w < 10 → E KR_ofNow [.ref 84, .int (nI k), .int (nI w)] (HH σ δ) (some (.int (ofZ a n (10 * k + w)))) (HH σ δ) := fun k hk w hw => by
  subst hr
  rw [ofZ_at hw]
  rcases (show w = 0 ∨ w = 1 ∨ w = 2 ∨ w = 3 ∨ w = 4 ∨ w = 5 ∨ w = 6 ∨ w = 7 ∨ w = 8 ∨ w = 9 by omega) with rfl | rfl | rfl | rfl | rfl | rfl | rfl | rfl | rfl | rfl
  · exact c_KR_ofNow0 hW hk
  · exact c_KR_ofNow1 hW hk
  · exact c_KR_ofNow2 hW hk
  · exact c_KR_ofNow3 hW hk
  · exact c_KR_ofNow4 hW hk
  · exact c_KR_ofNow5 hW hk
  · exact c_KR_ofNow6 hW hk
  · exact c_KR_ofNow7 hW hk
  · exact c_KR_ofNow8 hW hk
  · exact c_KR_ofNow9 hW hk
set_option maxHeartbeats 200000 in
theorem dg_cen (hI : IC σ a n s o P tl tx rf) {w0 sx0 sy0 : Nat} (hw0 : swN (liesA a) (wgN a) n = w0) (hsx : swN (liesA a) (fun j => wgN a j * (2 * xN' a j + wN a j)) n = sx0) (hsy : swN (liesA a) (fun j => wgN a j * (2 * yN' a j + hN' a j)) n = sy0) : ∀ j, j < 3 → E KP_centre [.ref 5, .int (nI j)] (HH σ (dSn δ w0 sx0 sy0 j)) (some (.long (ceV a w0 sx0 sy0 j))) (HH σ (dSn δ w0 sx0 sy0 (j + 1))) := fun j hj => by
  rcases (show j = 0 ∨ j = 1 ∨ j = 2 by omega) with rfl | rfl | rfl
  · exact c_KP_centre_ok0 hI hw0 hsx hsy
  · exact c_KP_centre_ok1 hI hw0 hsx hsy
  · exact c_KP_centre_ok2 hI hw0 hsx hsy
set_option maxHeartbeats 200000 in
theorem dg_cenR (hr : σ 85 = a) (hW : WF a n) {w0 sx0 sy0 : Nat} (hw0 : swN (liesA a) (wgN a) n = w0) (hsx : swN (liesA a) (fun j => wgN a j * (2 * xN' a j + wN a j)) n = sx0) (hsy : swN (liesA a) (fun j => wgN a j * (2 * yN' a j + hN' a j)) n = sy0) : ∀ j, j < 3 → E KR_centreBits [.ref 84, .int (nI j)] (HH σ δ) (some (.long (ceV a w0 sx0 sy0 j))) (HH σ δ) := fun j hj => by
  subst hr
  rcases (show j = 0 ∨ j = 1 ∨ j = 2 by omega) with rfl | rfl | rfl
  · have zq := c_KR_centreBits0 (δ := δ) hW rfl rfl
    rw [hw0, hsx] at zq
    exact zq
  · have zq := c_KR_centreBits1 (δ := δ) hW rfl rfl
    rw [hw0, hsy] at zq
    exact zq
  · have zq := c_KR_centreBits2 (δ := δ) hW rfl rfl
    rw [hw0, hsx, hsy] at zq
    exact zq
end DG
set_option maxHeartbeats 200000 in
theorem step_digest {σ : SI} {δ : SD} (hT : InvT σ) : Step KP_digest KR_digest [] σ δ := by
  obtain ⟨a, n, s, o, P, tl, tx, rf, hI, hJ⟩ := hT
  have hW := hI.hl.wf
  have n8 := hW.n8
  have hwd := hW.wid
  have hhg := hW.hei
  obtain ⟨k, hk256⟩ : ∃ k, k = 256 := ⟨_, rfl⟩
  have hcp := cp_same hW rfl rfl hk256
  obtain ⟨σ1, hσ1⟩ : ∃ z, lkS σ a n (a 0).toNatClampNeg (a 1).toNatClampNeg = z := ⟨_, rfl⟩
  have c2 : σ1 76 2 = nI (cntN (whP a n) k) := by rw [← hσ1, hk256]; exact lk_2
  have c3 : σ1 76 3 = nI (blA (whP a n) k).1 := by rw [← hσ1, hk256]; exact lk_3
  have c6 : σ1 76 6 = nI (cntN (minB (whP a n)) k) := by rw [← hcp, ← hσ1, hk256]; exact lk_6
  have hcl := cntN_le (p := whP a n) k
  obtain ⟨c, hc⟩ : ∃ c, cntN (whP a n) k = c := ⟨_, rfl⟩
  obtain ⟨s0, hs0⟩ : ∃ s, blA (whP a n) k = s := ⟨_, rfl⟩
  obtain ⟨m, hm⟩ : ∃ m, cntN (minB (whP a n)) k = m := ⟨_, rfl⟩
  rw [hs0] at c3
  rw [hm] at c6
  rw [hc] at c2 hcl
  rw [hk256] at hc hs0 hm hcl
  have hLk := c_KW_look (δ := δ) LB_6 hI.hl rfl rfl
  rw [hσ1] at hLk
  have l1 : ∀ x, x < 76 ∨ 79 < x → σ1 x = σ x := fun x hx => by rw [← hσ1]; exact lk_c hx
  have hI1 : IC σ1 a n s o P tl tx rf := hI.othr (fun x h1 h2 => l1 x (by omega)) (by rw [l1 80 (by omega)])
  obtain ⟨wz, hwz⟩ : ∃ z, swN (liesA a) (wgN a) n = z := ⟨_, rfl⟩
  obtain ⟨sx, hsx⟩ : ∃ z, swN (liesA a) (fun j => wgN a j * (2 * xN' a j + wN a j)) n = z := ⟨_, rfl⟩
  obtain ⟨sy, hsy⟩ : ∃ z, swN (liesA a) (fun j => wgN a j * (2 * yN' a j + hN' a j)) n = z := ⟨_, rfl⟩
  have hC := dg_cen (δ := δ) hI1 hwz hsx hsy
  obtain ⟨ε, hε⟩ : ∃ z, dSn δ wz sx sy = z := ⟨_, rfl⟩
  have hε0 : ε 0 = δ := by rw [← hε]; rfl
  rw [hε] at hC
  have hY := c_KP_stays (δ := ε 3) hI1
  obtain ⟨y, hy⟩ : ∃ z, (stS a n 256).1 = z := ⟨_, rfl⟩
  rw [hy] at hY
  obtain ⟨σ2, hσ2⟩ : ∃ z, fill σ1 73 (fun i => nI (bitsN (clP a n i) 8)) 8 = z := ⟨_, rfl⟩
  rw [hσ2] at hY
  obtain ⟨h1, q1⟩ : ∃ z, dgI (tdV a n s tl rf) 2281 14 = z := ⟨_, rfl⟩
  obtain ⟨h2, q2⟩ : ∃ z, dgI (ofZ a n) h1 (10 * n) = z := ⟨_, rfl⟩
  obtain ⟨h3, q3⟩ : ∃ z, dgI (fun r => (sideA a (r + 1)).toInt32) h2 6 = z := ⟨_, rfl⟩
  obtain ⟨h4, q4⟩ : ∃ z, 31 * (31 * (31 * h3 + (nI c).toInt64) + (nI s0.1).toInt64) + (nI m).toInt64 = z := ⟨_, rfl⟩
  obtain ⟨rr, q5⟩ : ∃ z, 31 * dgC (ceV a wz sx sy) h4 3 + (nI y).toInt64 = z := ⟨_, rfl⟩
  have e1 := c_KP_digest (δ := δ) hI.hl.rb.c n8 q1 q2 q3 q4 q5 (dg_told hI) (dg_it hI.hl) (fun r hr => c_KP_side_ok hI (by omega) (by omega) (by rw [inB_nI (by omega) (by omega) (by omega), decide_eq_true (by omega), decide_eq_true (by omega)]; rfl)) hLk c2 c3 c6 hε0 hC hY
  have l2 : ∀ x, x ≠ 73 → x < 76 ∨ 79 < x → σ2 x = σ x := fun x h1 h2 => by rw [← hσ2, fill_row h1, l1 x h2]
  have hI2 : IC σ2 a n s o P tl tx rf := hI1.othr (fun x h1 h2 => by rw [← hσ2]; exact fill_row (by omega)) (by rw [← hσ2, fill_row (by decide)])
  have hJ2 : IR σ2 a s P tl tx rf := hJ.cong (fun x hx => l2 x (by omega) (by omega))
  have hr2 := hJ2.row
  -- the reference's white
  obtain ⟨τ1, hτ1⟩ : ∃ z, fill σ2 90 (fun i => bI (whP a n i)) 256 = z := ⟨_, rfl⟩
  have w0 := c_KR_whiteNow0 (σ := σ2) (δ := ε 3) (n := n) (by rw [hr2]; exact hW) (c := c) (by rw [hr2]; exact hc) hcl
  rw [hr2, hτ1] at w0
  have t1 : ∀ x, x ≠ 90 → τ1 x = σ2 x := fun x hx => by rw [← hτ1]; exact fill_row hx
  have hr3 : τ1 85 = a := (t1 85 (by decide)).trans hr2
  obtain ⟨τ2, hτ2⟩ : ∃ z, blR (fill τ1 90 (fun i => bI (whP a n i)) 256) s0 = z := ⟨_, rfl⟩
  have w1 := c_KR_whiteNow1 (σ := τ1) (δ := ε 3) (n := n) (by rw [hr3]; exact hW) (c := c) (by rw [hr3]; exact hc) hcl (s0 := s0) (by rw [hr3]; exact hs0)
  rw [hr3, hτ2] at w1
  have t2 : ∀ x, x ≠ 90 → x ≠ 84 → τ2 x = τ1 x := fun x hx h8 => by rw [← hτ2, blR_c h8]; exact fill_row hx
  have t84 : ∀ x, x ≠ 8 → x ≠ 9 → x ≠ 10 → τ2 84 x = τ1 84 x := fun x h8 h9 h10 => by rw [← hτ2, blR_o h8 h9 h10, fill_row (by decide)]
  have hr4 : τ2 85 = a := (t2 85 (by decide) (by decide)).trans hr3
  have hin : ∀ p, whP a n p = true → p < 256 := fun p hp => by have := wh_in hp; omega
  obtain ⟨FIN, hF⟩ := c_KR_heaps_min (σ := fill τ2 90 (fun i => bI (whP a n i)) 256) (δ := ε 3) (f := whP a n) (fun p hp => fill_in hp) hin
  rw [hm] at hF
  obtain ⟨τ3, hτ3⟩ : ∃ z, fill (fill τ2 90 (fun i => bI (whP a n i)) 256) 91 (fun i => nI (FIN i)) 256 = z := ⟨_, rfl⟩
  have w4 := c_KR_whiteNow4 (σ := τ2) (δ := ε 3) (n := n) (by rw [hr4]; exact hW) (c := c) (by rw [hr4]; exact hc) hcl (FIN := FIN) (m := m) (by rw [hr4]; exact hF)
  rw [hr4, hτ3] at w4
  have t3 : ∀ x, x ≠ 90 → x ≠ 91 → τ3 x = τ2 x := fun x h0 h1 => by rw [← hτ3, fill_row h1, fill_row h0]
  have hr5 : τ3 85 = a := (t3 85 (by decide) (by decide)).trans hr4
  have hy3 := c_KR_staying (σ := τ3) (δ := ε 3) (n := n) (by rw [hr5]; exact hW)
  rw [hr5, hy] at hy3
  have e2 := c_KR_digest (δ := ε 3) (by rw [hr2]; exact hW.a7) n8 q1 q2 q3 q4 q5 (dg_toldR hJ2 hI.s5 hW) (dg_itR hr2 hW) (fun r hr => by have zq := c_KR_sideBits (σ := σ2) (δ := ε 3) (n := n) (r := r + 1) (by rw [hr2]; exact hW) (by omega) (by omega); rw [hr2] at zq; exact zq) w0 w1 w4 (dg_cenR hr5 hW hwz hsx hsy) hy3
  exact Step.of e1 e2 hI2 (hJ2.othr (fun x hx => by rw [t3 x (by omega) (by omega), t2 x (by omega) (by omega), t1 x (by omega)]) (by rw [t3 84 (by decide) (by decide), t84 3 (by decide) (by decide) (by decide), t1 84 (by decide)]) (by rw [t3 84 (by decide) (by decide), t84 12 (by decide) (by decide) (by decide), t1 84 (by decide)])) (fun x hx => by rw [t3 x (by omega) (by omega), t2 x (by omega) (by omega), t1 x (by omega)])
