/-! THE TEXT: the reference's order -/
theorem nb_no {z : Int32} (h1 : ¬ z = nI 105) (h2 : ¬ z = nI 119) (h3 : ¬ z = nI 109) (h4 : ¬ z = nI 103) (h5 : ¬ z = nI 98) (h6 : ¬ z = nI 114) (h7 : ¬ z = nI 99) (h8 : ¬ z = nI 112) (h9 : ¬ z = nI 111) (h10 : ¬ z = nI 97) : decide (¬ nbI z = -1) = false := by
  have : nbI z = -1 := by
    unfold nbI
    rw [if_neg h10, if_neg h1, if_neg h9, if_neg h8, if_neg h2, if_neg (fun g => g.elim h5 (fun g => g.elim h7 (fun g => g.elim h4 (fun g => g.elim h3 h6))))]
  rw [this]
  decide
theorem or_x {tc : Nat → Nat} {tl s m : Nat} (h : (onP tc tl s m).2 = false) : orF tc tl s m = onP tc tl s m := if_neg (by rw [h]; decide)
theorem nb_ltR {σ : SI} {tc : Nat → Nat} {tl s m : Nat} (hT : TXR σ tc tl) (hm : nbI (hrV tc tl s) = nI m) (hm4 : m ≤ 4 := by assumption) : s + 1 ≤ 120 := by
  have htl := hT.2.1
  by_cases g : s < tl
  · omega
  · rw [hr_n g, show nbI (-1) = -1 by decide +kernel] at hm
    exact absurd hm.symm (nI_m1 (by omega))
set_option maxRecDepth 100000 in
set_option maxHeartbeats 200000 in
theorem c_KR_nO_97 {σ : SI} {δ : SD} : E KR_numbersOf [.int (nI 97)] (HH σ δ) (some (.int (nI 0))) (HH σ δ) := by
  refine E.ofL [some (.int (nI 97))] rfl pn_RX9 rfl (fun sc => ?_)
  refine g_iload_n dX9_numbersOf_0 rfl ?_
  refine g_lsw (tgt := 50) dX9_numbersOf_1 (by decide +kernel) (by decide +kernel) ?_
  refine g_iconst dX9_numbersOf_50 ic_0 ?_
  exact e_iret dX9_numbersOf_51 rfl (by rfl) (by rfl)
set_option maxRecDepth 100000 in
set_option maxHeartbeats 200000 in
theorem c_KR_nO_98 {σ : SI} {δ : SD} : E KR_numbersOf [.int (nI 98)] (HH σ δ) (some (.int (nI 1))) (HH σ δ) := by
  refine E.ofL [some (.int (nI 98))] rfl pn_RX9 rfl (fun sc => ?_)
  refine g_iload_n dX9_numbersOf_0 rfl ?_
  refine g_lsw (tgt := 52) dX9_numbersOf_1 (by decide +kernel) (by decide +kernel) ?_
  refine g_iconst dX9_numbersOf_52 ic_1 ?_
  exact e_iret dX9_numbersOf_53 rfl (by rfl) (by rfl)
set_option maxRecDepth 100000 in
set_option maxHeartbeats 200000 in
theorem c_KR_nO_99 {σ : SI} {δ : SD} : E KR_numbersOf [.int (nI 99)] (HH σ δ) (some (.int (nI 1))) (HH σ δ) := by
  refine E.ofL [some (.int (nI 99))] rfl pn_RX9 rfl (fun sc => ?_)
  refine g_iload_n dX9_numbersOf_0 rfl ?_
  refine g_lsw (tgt := 52) dX9_numbersOf_1 (by decide +kernel) (by decide +kernel) ?_
  refine g_iconst dX9_numbersOf_52 ic_1 ?_
  exact e_iret dX9_numbersOf_53 rfl (by rfl) (by rfl)
set_option maxRecDepth 100000 in
set_option maxHeartbeats 200000 in
theorem c_KR_nO_103 {σ : SI} {δ : SD} : E KR_numbersOf [.int (nI 103)] (HH σ δ) (some (.int (nI 1))) (HH σ δ) := by
  refine E.ofL [some (.int (nI 103))] rfl pn_RX9 rfl (fun sc => ?_)
  refine g_iload_n dX9_numbersOf_0 rfl ?_
  refine g_lsw (tgt := 52) dX9_numbersOf_1 (by decide +kernel) (by decide +kernel) ?_
  refine g_iconst dX9_numbersOf_52 ic_1 ?_
  exact e_iret dX9_numbersOf_53 rfl (by rfl) (by rfl)
set_option maxRecDepth 100000 in
set_option maxHeartbeats 200000 in
theorem c_KR_nO_105 {σ : SI} {δ : SD} : E KR_numbersOf [.int (nI 105)] (HH σ δ) (some (.int (nI 4))) (HH σ δ) := by
  refine E.ofL [some (.int (nI 105))] rfl pn_RX9 rfl (fun sc => ?_)
  refine g_iload_n dX9_numbersOf_0 rfl ?_
  refine g_lsw (tgt := 44) dX9_numbersOf_1 (by decide +kernel) (by decide +kernel) ?_
  refine g_iconst dX9_numbersOf_44 ic_4 ?_
  exact e_iret dX9_numbersOf_45 rfl (by rfl) (by rfl)
set_option maxRecDepth 100000 in
set_option maxHeartbeats 200000 in
theorem c_KR_nO_109 {σ : SI} {δ : SD} : E KR_numbersOf [.int (nI 109)] (HH σ δ) (some (.int (nI 1))) (HH σ δ) := by
  refine E.ofL [some (.int (nI 109))] rfl pn_RX9 rfl (fun sc => ?_)
  refine g_iload_n dX9_numbersOf_0 rfl ?_
  refine g_lsw (tgt := 52) dX9_numbersOf_1 (by decide +kernel) (by decide +kernel) ?_
  refine g_iconst dX9_numbersOf_52 ic_1 ?_
  exact e_iret dX9_numbersOf_53 rfl (by rfl) (by rfl)
set_option maxRecDepth 100000 in
set_option maxHeartbeats 200000 in
theorem c_KR_nO_111 {σ : SI} {δ : SD} : E KR_numbersOf [.int (nI 111)] (HH σ δ) (some (.int (nI 1))) (HH σ δ) := by
  refine E.ofL [some (.int (nI 111))] rfl pn_RX9 rfl (fun sc => ?_)
  refine g_iload_n dX9_numbersOf_0 rfl ?_
  refine g_lsw (tgt := 52) dX9_numbersOf_1 (by decide +kernel) (by decide +kernel) ?_
  refine g_iconst dX9_numbersOf_52 ic_1 ?_
  exact e_iret dX9_numbersOf_53 rfl (by rfl) (by rfl)
set_option maxRecDepth 100000 in
set_option maxHeartbeats 200000 in
theorem c_KR_nO_112 {σ : SI} {δ : SD} : E KR_numbersOf [.int (nI 112)] (HH σ δ) (some (.int (nI 3))) (HH σ δ) := by
  refine E.ofL [some (.int (nI 112))] rfl pn_RX9 rfl (fun sc => ?_)
  refine g_iload_n dX9_numbersOf_0 rfl ?_
  refine g_lsw (tgt := 46) dX9_numbersOf_1 (by decide +kernel) (by decide +kernel) ?_
  refine g_iconst dX9_numbersOf_46 ic_3 ?_
  exact e_iret dX9_numbersOf_47 rfl (by rfl) (by rfl)
set_option maxRecDepth 100000 in
set_option maxHeartbeats 200000 in
theorem c_KR_nO_114 {σ : SI} {δ : SD} : E KR_numbersOf [.int (nI 114)] (HH σ δ) (some (.int (nI 1))) (HH σ δ) := by
  refine E.ofL [some (.int (nI 114))] rfl pn_RX9 rfl (fun sc => ?_)
  refine g_iload_n dX9_numbersOf_0 rfl ?_
  refine g_lsw (tgt := 52) dX9_numbersOf_1 (by decide +kernel) (by decide +kernel) ?_
  refine g_iconst dX9_numbersOf_52 ic_1 ?_
  exact e_iret dX9_numbersOf_53 rfl (by rfl) (by rfl)
set_option maxRecDepth 100000 in
set_option maxHeartbeats 200000 in
theorem c_KR_nO_119 {σ : SI} {δ : SD} : E KR_numbersOf [.int (nI 119)] (HH σ δ) (some (.int (nI 2))) (HH σ δ) := by
  refine E.ofL [some (.int (nI 119))] rfl pn_RX9 rfl (fun sc => ?_)
  refine g_iload_n dX9_numbersOf_0 rfl ?_
  refine g_lsw (tgt := 48) dX9_numbersOf_1 (by decide +kernel) (by decide +kernel) ?_
  refine g_iconst dX9_numbersOf_48 ic_2 ?_
  exact e_iret dX9_numbersOf_49 rfl (by rfl) (by rfl)
set_option maxRecDepth 100000 in
set_option maxHeartbeats 200000 in
theorem c_KR_isOrder {σ : SI} {δ : SD} {z : Int32} : E KR_isOrder [.int z] (HH σ δ) (some (.int (bI (decide (¬ nbI z = -1))))) (HH σ δ) := by
  refine E.ofL [some (.int z)] rfl pn_RX9 rfl (fun sc => ?_)
  refine g_iload_n dX9_isOrder_0 rfl ?_
  refine g_bipush dX9_isOrder_1 bp_105 ?_
  refine g_icmp_eq (tgt := 60) dX9_isOrder_3 rfl (fun zc3 => ?_) (fun zc3 => ?_)
  · refine g_iconst dX9_isOrder_60 ic_1 ?_
    refine g_goto (tgt := 65) dX9_isOrder_61 rfl ?_
    exact e_z1 dX9_isOrder_65 rfl (by first | (rw [zc3]; decide +kernel) | (rw [zc9]; decide +kernel) | (rw [zc15]; decide +kernel) | (rw [zc21]; decide +kernel) | (rw [zc27]; decide +kernel) | (rw [zc33]; decide +kernel) | (rw [zc39]; decide +kernel) | (rw [zc45]; decide +kernel) | (rw [zc51]; decide +kernel) | (rw [zc57]; decide +kernel) | exact nb_no zc3 zc9 zc15 zc21 zc27 zc33 zc39 zc45 zc51 zc57) (by rfl)
  · refine g_iload_n dX9_isOrder_6 rfl ?_
    refine g_bipush dX9_isOrder_7 bp_119 ?_
    refine g_icmp_eq (tgt := 60) dX9_isOrder_9 rfl (fun zc9 => ?_) (fun zc9 => ?_)
    · refine g_iconst dX9_isOrder_60 ic_1 ?_
      refine g_goto (tgt := 65) dX9_isOrder_61 rfl ?_
      exact e_z1 dX9_isOrder_65 rfl (by first | (rw [zc3]; decide +kernel) | (rw [zc9]; decide +kernel) | (rw [zc15]; decide +kernel) | (rw [zc21]; decide +kernel) | (rw [zc27]; decide +kernel) | (rw [zc33]; decide +kernel) | (rw [zc39]; decide +kernel) | (rw [zc45]; decide +kernel) | (rw [zc51]; decide +kernel) | (rw [zc57]; decide +kernel) | exact nb_no zc3 zc9 zc15 zc21 zc27 zc33 zc39 zc45 zc51 zc57) (by rfl)
    · refine g_iload_n dX9_isOrder_12 rfl ?_
      refine g_bipush dX9_isOrder_13 bp_109 ?_
      refine g_icmp_eq (tgt := 60) dX9_isOrder_15 rfl (fun zc15 => ?_) (fun zc15 => ?_)
      · refine g_iconst dX9_isOrder_60 ic_1 ?_
        refine g_goto (tgt := 65) dX9_isOrder_61 rfl ?_
        exact e_z1 dX9_isOrder_65 rfl (by first | (rw [zc3]; decide +kernel) | (rw [zc9]; decide +kernel) | (rw [zc15]; decide +kernel) | (rw [zc21]; decide +kernel) | (rw [zc27]; decide +kernel) | (rw [zc33]; decide +kernel) | (rw [zc39]; decide +kernel) | (rw [zc45]; decide +kernel) | (rw [zc51]; decide +kernel) | (rw [zc57]; decide +kernel) | exact nb_no zc3 zc9 zc15 zc21 zc27 zc33 zc39 zc45 zc51 zc57) (by rfl)
      · refine g_iload_n dX9_isOrder_18 rfl ?_
        refine g_bipush dX9_isOrder_19 bp_103 ?_
        refine g_icmp_eq (tgt := 60) dX9_isOrder_21 rfl (fun zc21 => ?_) (fun zc21 => ?_)
        · refine g_iconst dX9_isOrder_60 ic_1 ?_
          refine g_goto (tgt := 65) dX9_isOrder_61 rfl ?_
          exact e_z1 dX9_isOrder_65 rfl (by first | (rw [zc3]; decide +kernel) | (rw [zc9]; decide +kernel) | (rw [zc15]; decide +kernel) | (rw [zc21]; decide +kernel) | (rw [zc27]; decide +kernel) | (rw [zc33]; decide +kernel) | (rw [zc39]; decide +kernel) | (rw [zc45]; decide +kernel) | (rw [zc51]; decide +kernel) | (rw [zc57]; decide +kernel) | exact nb_no zc3 zc9 zc15 zc21 zc27 zc33 zc39 zc45 zc51 zc57) (by rfl)
        · refine g_iload_n dX9_isOrder_24 rfl ?_
          refine g_bipush dX9_isOrder_25 bp_98 ?_
          refine g_icmp_eq (tgt := 60) dX9_isOrder_27 rfl (fun zc27 => ?_) (fun zc27 => ?_)
          · refine g_iconst dX9_isOrder_60 ic_1 ?_
            refine g_goto (tgt := 65) dX9_isOrder_61 rfl ?_
            exact e_z1 dX9_isOrder_65 rfl (by first | (rw [zc3]; decide +kernel) | (rw [zc9]; decide +kernel) | (rw [zc15]; decide +kernel) | (rw [zc21]; decide +kernel) | (rw [zc27]; decide +kernel) | (rw [zc33]; decide +kernel) | (rw [zc39]; decide +kernel) | (rw [zc45]; decide +kernel) | (rw [zc51]; decide +kernel) | (rw [zc57]; decide +kernel) | exact nb_no zc3 zc9 zc15 zc21 zc27 zc33 zc39 zc45 zc51 zc57) (by rfl)
          · refine g_iload_n dX9_isOrder_30 rfl ?_
            refine g_bipush dX9_isOrder_31 bp_114 ?_
            refine g_icmp_eq (tgt := 60) dX9_isOrder_33 rfl (fun zc33 => ?_) (fun zc33 => ?_)
            · refine g_iconst dX9_isOrder_60 ic_1 ?_
              refine g_goto (tgt := 65) dX9_isOrder_61 rfl ?_
              exact e_z1 dX9_isOrder_65 rfl (by first | (rw [zc3]; decide +kernel) | (rw [zc9]; decide +kernel) | (rw [zc15]; decide +kernel) | (rw [zc21]; decide +kernel) | (rw [zc27]; decide +kernel) | (rw [zc33]; decide +kernel) | (rw [zc39]; decide +kernel) | (rw [zc45]; decide +kernel) | (rw [zc51]; decide +kernel) | (rw [zc57]; decide +kernel) | exact nb_no zc3 zc9 zc15 zc21 zc27 zc33 zc39 zc45 zc51 zc57) (by rfl)
            · refine g_iload_n dX9_isOrder_36 rfl ?_
              refine g_bipush dX9_isOrder_37 bp_99 ?_
              refine g_icmp_eq (tgt := 60) dX9_isOrder_39 rfl (fun zc39 => ?_) (fun zc39 => ?_)
              · refine g_iconst dX9_isOrder_60 ic_1 ?_
                refine g_goto (tgt := 65) dX9_isOrder_61 rfl ?_
                exact e_z1 dX9_isOrder_65 rfl (by first | (rw [zc3]; decide +kernel) | (rw [zc9]; decide +kernel) | (rw [zc15]; decide +kernel) | (rw [zc21]; decide +kernel) | (rw [zc27]; decide +kernel) | (rw [zc33]; decide +kernel) | (rw [zc39]; decide +kernel) | (rw [zc45]; decide +kernel) | (rw [zc51]; decide +kernel) | (rw [zc57]; decide +kernel) | exact nb_no zc3 zc9 zc15 zc21 zc27 zc33 zc39 zc45 zc51 zc57) (by rfl)
              · refine g_iload_n dX9_isOrder_42 rfl ?_
                refine g_bipush dX9_isOrder_43 bp_112 ?_
                refine g_icmp_eq (tgt := 60) dX9_isOrder_45 rfl (fun zc45 => ?_) (fun zc45 => ?_)
                · refine g_iconst dX9_isOrder_60 ic_1 ?_
                  refine g_goto (tgt := 65) dX9_isOrder_61 rfl ?_
                  exact e_z1 dX9_isOrder_65 rfl (by first | (rw [zc3]; decide +kernel) | (rw [zc9]; decide +kernel) | (rw [zc15]; decide +kernel) | (rw [zc21]; decide +kernel) | (rw [zc27]; decide +kernel) | (rw [zc33]; decide +kernel) | (rw [zc39]; decide +kernel) | (rw [zc45]; decide +kernel) | (rw [zc51]; decide +kernel) | (rw [zc57]; decide +kernel) | exact nb_no zc3 zc9 zc15 zc21 zc27 zc33 zc39 zc45 zc51 zc57) (by rfl)
                · refine g_iload_n dX9_isOrder_48 rfl ?_
                  refine g_bipush dX9_isOrder_49 bp_111 ?_
                  refine g_icmp_eq (tgt := 60) dX9_isOrder_51 rfl (fun zc51 => ?_) (fun zc51 => ?_)
                  · refine g_iconst dX9_isOrder_60 ic_1 ?_
                    refine g_goto (tgt := 65) dX9_isOrder_61 rfl ?_
                    exact e_z1 dX9_isOrder_65 rfl (by first | (rw [zc3]; decide +kernel) | (rw [zc9]; decide +kernel) | (rw [zc15]; decide +kernel) | (rw [zc21]; decide +kernel) | (rw [zc27]; decide +kernel) | (rw [zc33]; decide +kernel) | (rw [zc39]; decide +kernel) | (rw [zc45]; decide +kernel) | (rw [zc51]; decide +kernel) | (rw [zc57]; decide +kernel) | exact nb_no zc3 zc9 zc15 zc21 zc27 zc33 zc39 zc45 zc51 zc57) (by rfl)
                  · refine g_iload_n dX9_isOrder_54 rfl ?_
                    refine g_bipush dX9_isOrder_55 bp_97 ?_
                    refine g_icmp_ne (tgt := 64) dX9_isOrder_57 rfl (fun zc57 => ?_) (fun zc57 => ?_)
                    · refine g_iconst dX9_isOrder_64 ic_0 ?_
                      exact e_z0 dX9_isOrder_65 rfl (by first | (rw [zc3]; decide +kernel) | (rw [zc9]; decide +kernel) | (rw [zc15]; decide +kernel) | (rw [zc21]; decide +kernel) | (rw [zc27]; decide +kernel) | (rw [zc33]; decide +kernel) | (rw [zc39]; decide +kernel) | (rw [zc45]; decide +kernel) | (rw [zc51]; decide +kernel) | (rw [zc57]; decide +kernel) | exact nb_no zc3 zc9 zc15 zc21 zc27 zc33 zc39 zc45 zc51 zc57) (by rfl)
                    · refine g_iconst dX9_isOrder_60 ic_1 ?_
                      refine g_goto (tgt := 65) dX9_isOrder_61 rfl ?_
                      exact e_z1 dX9_isOrder_65 rfl (by first | (rw [zc3]; decide +kernel) | (rw [zc9]; decide +kernel) | (rw [zc15]; decide +kernel) | (rw [zc21]; decide +kernel) | (rw [zc27]; decide +kernel) | (rw [zc33]; decide +kernel) | (rw [zc39]; decide +kernel) | (rw [zc45]; decide +kernel) | (rw [zc51]; decide +kernel) | (rw [zc57]; decide +kernel) | exact nb_no zc3 zc9 zc15 zc21 zc27 zc33 zc39 zc45 zc51 zc57) (by rfl)
theorem c_KR_nO {σ : SI} {δ : SD} {c : Nat} (hc : c < 128) (h : ¬ nbI (nI c) = -1) : E KR_numbersOf [.int (nI c)] (HH σ δ) (some (.int (nbI (nI c)))) (HH σ δ) := by
  cases hl : letB c with
  | false => exact absurd (let_no c hc hl).1 h
  | true =>
    rcases let_is c hc hl with rfl | rfl | rfl | rfl | rfl | rfl | rfl | rfl | rfl | rfl
    · rw [show nbI (nI 97) = nI 0 by decide +kernel]; exact c_KR_nO_97
    · rw [show nbI (nI 98) = nI 1 by decide +kernel]; exact c_KR_nO_98
    · rw [show nbI (nI 99) = nI 1 by decide +kernel]; exact c_KR_nO_99
    · rw [show nbI (nI 103) = nI 1 by decide +kernel]; exact c_KR_nO_103
    · rw [show nbI (nI 105) = nI 4 by decide +kernel]; exact c_KR_nO_105
    · rw [show nbI (nI 109) = nI 1 by decide +kernel]; exact c_KR_nO_109
    · rw [show nbI (nI 111) = nI 1 by decide +kernel]; exact c_KR_nO_111
    · rw [show nbI (nI 112) = nI 3 by decide +kernel]; exact c_KR_nO_112
    · rw [show nbI (nI 114) = nI 1 by decide +kernel]; exact c_KR_nO_114
    · rw [show nbI (nI 119) = nI 2 by decide +kernel]; exact c_KR_nO_119
theorem c_KR_nOh {σ : SI} {δ : SD} {tc : Nat → Nat} {tl s : Nat} (hT : ∀ i, i < tl → tc i < 128) (h : ¬ nbI (hrV tc tl s) = -1) : E KR_numbersOf [.int (hrV tc tl s)] (HH σ δ) (some (.int (nbI (hrV tc tl s)))) (HH σ δ) := by
  by_cases g : s < tl
  · rw [hr_y g] at h ⊢
    exact c_KR_nO (hT s g) h
  · rw [hr_n g] at h
    exact absurd (show nbI (-1) = -1 by decide +kernel) h
set_option maxRecDepth 100000 in
set_option maxHeartbeats 200000 in
theorem c_KR_readsOrder0_no {σ : SI} {δ : SD} {tc : Nat → Nat} {tl : Nat} (hT : TXR σ tc tl) {p : Nat} {Mr : Nat → Int32} {s : Nat} (hp : p ≤ 120) (hsz : skP tc tl p = s) (hz : nbI (hrV tc tl s) = -1) : E KR_readsOrder [.ref 84, .int (nI 0)] (HH (rS σ (p) (Mr)) δ) (some (.int (bI false))) (HH (rS σ (s) (Mr)) δ) := by
  refine E.ofL [some (.ref 84), some (.int (nI 0))] rfl pn_RX9 rfl (fun sc => ?_)
  refine g_aload_n dX9_readsOrder_0 rfl ?_
  refine g_v0 (M' := KR_here) dX9_readsOrder_1 l_R_311 v_KR_here (by have zq := c_KR_here (σ := σ) (δ := δ) (Mr := Mr) hT hp; rw [hsz] at zq; exact zq) rc_84 HH_len rfl ⟨rfl, rfl⟩ ?_
  refine g_istore_n dX9_readsOrder_4 rfl ?_
  refine g_iload_n dX9_readsOrder_5 rfl ?_
  refine g_s1 (M' := KR_isOrder) dX9_readsOrder_6 l_R_320 s_KR_isOrder c_KR_isOrder rfl rfl ⟨rfl, rfl⟩ ?_
  refine b_if_ne (tgt := 14) dX9_readsOrder_9 rfl (fun zc9 => ?_) (fun zc9 => ?_)
  · exact absurd zc9 (by rw [hz]; decide)
  · refine g_iconst dX9_readsOrder_12 ic_0 ?_
    exact e_z0 dX9_readsOrder_13 rfl (by rfl) (by rfl)
set_option maxRecDepth 100000 in
set_option maxHeartbeats 200000 in
theorem c_KR_readsOrder0_ok {σ : SI} {δ : SD} {tc : Nat → Nat} {tl : Nat} (hT : TXR σ tc tl) {p : Nat} {Mr : Nat → Int32} {s : Nat} (hp : p ≤ 120) (hsz : skP tc tl p = s) {m : Nat} (hm : nbI (hrV tc tl s) = nI m) (hm4 : m ≤ 4) : E KR_readsOrder [.ref 84, .int (nI 0)] (HH (rS σ (p) (Mr)) δ) (some (.int (bI (orF tc tl s m).2))) (HH (rS σ ((orF tc tl s m).1) (rnM tc tl Mr s m)) δ) := by
  have htl := hT.2.1
  have hn : ¬ nbI (hrV tc tl s) = -1 := by rw [hm]; exact nI_m1 (by omega)
  have hs1 := nb_ltR hT hm
  have hb := on_leR hT hs1 m
  have hk := skP_leR hT hb
  refine E.ofL [some (.ref 84), some (.int (nI 0))] rfl pn_RX9 rfl (fun sc => ?_)
  generalize hRz : (fun (zr : Option Value) (zk : XH) => zr = some (.int (bI (orF tc tl s m).2)) ∧ zk = HH (rS σ ((orF tc tl s m).1) (rnM tc tl Mr s m)) δ) = R
  refine g_aload_n dX9_readsOrder_0 rfl ?_
  refine g_v0 (M' := KR_here) dX9_readsOrder_1 l_R_311 v_KR_here (by have zq := c_KR_here (σ := σ) (δ := δ) (Mr := Mr) hT hp; rw [hsz] at zq; exact zq) rc_84 HH_len rfl ⟨rfl, rfl⟩ ?_
  refine g_istore_n dX9_readsOrder_4 rfl ?_
  refine g_iload_n dX9_readsOrder_5 rfl ?_
  refine g_s1 (M' := KR_isOrder) dX9_readsOrder_6 l_R_320 s_KR_isOrder c_KR_isOrder rfl rfl ⟨rfl, rfl⟩ ?_
  refine b_if_ne (tgt := 14) dX9_readsOrder_9 rfl (fun zc9 => ?_) (fun zc9 => ?_)
  · refine g_aload_n dX9_readsOrder_14 rfl ?_
    refine g_dup dX9_readsOrder_15 rfl ?_
    refine q_geti dX9_readsOrder_16 f_R_304 ck_84 (by decide) ty_8_13 ?_
    refine g_top rS_p ?_
    refine g_iconst dX9_readsOrder_19 ic_1 ?_
    refine n_iadd dX9_readsOrder_20 ?_
    refine q_puti dX9_readsOrder_21 f_R_304 ck_84 (by decide) ty_8_13 fi_8_13 ?_
    refine g_heap (congrArg (fun z => HH z δ) rS_put) ?_
    refine g_aload_n dX9_readsOrder_24 rfl ?_
    refine g_iload_n dX9_readsOrder_25 rfl ?_
    refine g_s1 (M' := KR_numbersOf) dX9_readsOrder_26 l_R_323 s_KR_numbersOf (c_KR_nOh (fun i hi => (hT.2.2 i hi).2) hn) rfl rfl ⟨rfl, rfl⟩ ?_
    refine g_top hm ?_
    refine g_v1 (M' := KR_takesAll) dX9_readsOrder_29 l_R_326 v_KR_takesAll (c_KR_takesAll hT hs1 hm4) rc_84 HH_len rfl ⟨rfl, rfl⟩ ?_
    refine b_if_eq (tgt := 44) dX9_readsOrder_32 rfl (fun zc32 => ?_) (fun zc32 => ?_)
    · refine g_iconst dX9_readsOrder_44 ic_0 ?_
      exact g_zret (S := []) dX9_readsOrder_45 rfl (Or.inl rfl) (by rw [← hRz]; exact ⟨by first | exact congrArg (fun b => some (Value.int (bI b))) (congrArg Prod.snd (or_y zc32 zc41)).symm | exact congrArg (fun b => some (Value.int (bI b))) (congrArg Prod.snd (or_n zc32 zc41)).symm | exact congrArg (fun b => some (Value.int (bI b))) ((congrArg Prod.snd (or_x zc32)).trans zc32).symm, by first | rw [or_y zc32 zc41] | rw [or_n zc32 zc41] | rw [or_x zc32]⟩) (Nat.zero_le _) (Nat.zero_le _)
    · refine g_aload_n dX9_readsOrder_35 rfl ?_
      refine g_v0 (M' := KR_here) dX9_readsOrder_36 l_R_311 v_KR_here (c_KR_here hT hb) rc_84 HH_len rfl ⟨rfl, rfl⟩ ?_
      refine g_bipush dX9_readsOrder_39 bp_59 ?_
      refine g_icmp_eq (tgt := 46) dX9_readsOrder_41 rfl (fun zc41 => ?_) (fun zc41 => ?_)
      · refine g_aload_n dX9_readsOrder_46 rfl ?_
        refine g_dup dX9_readsOrder_47 rfl ?_
        refine q_geti dX9_readsOrder_48 f_R_304 ck_84 (by decide) ty_8_13 ?_
        refine g_top rS_p ?_
        refine g_iconst dX9_readsOrder_51 ic_1 ?_
        refine n_iadd dX9_readsOrder_52 ?_
        refine q_puti dX9_readsOrder_53 f_R_304 ck_84 (by decide) ty_8_13 fi_8_13 ?_
        refine g_heap (congrArg (fun z => HH z δ) rS_put) ?_
        refine g_iload_n dX9_readsOrder_56 rfl ?_
        refine n_if_eq (tgt := 86) (by omega) dX9_readsOrder_57 rfl (fun _ => ?_) (fun zc57 => absurd zc57 (by decide))
        refine g_iconst dX9_readsOrder_86 ic_1 ?_
        exact g_zret (S := []) dX9_readsOrder_87 rfl (Or.inr rfl) (by rw [← hRz]; exact ⟨by first | exact congrArg (fun b => some (Value.int (bI b))) (congrArg Prod.snd (or_y zc32 zc41)).symm | exact congrArg (fun b => some (Value.int (bI b))) (congrArg Prod.snd (or_n zc32 zc41)).symm | exact congrArg (fun b => some (Value.int (bI b))) ((congrArg Prod.snd (or_x zc32)).trans zc32).symm, by first | rw [or_y zc32 zc41] | rw [or_n zc32 zc41] | rw [or_x zc32]⟩) (Nat.zero_le _) (Nat.zero_le _)
      · refine g_iconst dX9_readsOrder_44 ic_0 ?_
        exact g_zret (S := []) dX9_readsOrder_45 rfl (Or.inl rfl) (by rw [← hRz]; exact ⟨by first | exact congrArg (fun b => some (Value.int (bI b))) (congrArg Prod.snd (or_y zc32 zc41)).symm | exact congrArg (fun b => some (Value.int (bI b))) (congrArg Prod.snd (or_n zc32 zc41)).symm | exact congrArg (fun b => some (Value.int (bI b))) ((congrArg Prod.snd (or_x zc32)).trans zc32).symm, by first | rw [or_y zc32 zc41] | rw [or_n zc32 zc41] | rw [or_x zc32]⟩) (Nat.zero_le _) (Nat.zero_le _)
  · exact absurd zc9 (by rw [decide_eq_true hn]; decide)
