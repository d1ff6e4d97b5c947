/-! THE TEXT: an order -/
set_option maxRecDepth 100000 in
set_option maxHeartbeats 200000 in
theorem c_KT_settingOf_98 {σ : SI} {δ : SD} : E KT_settingOf [.int (nI 98)] (HH σ δ) (some (.int (nI 2))) (HH σ δ) := by
  refine E.ofL [some (.int (nI 98))] rfl pn_RX6 rfl (fun sc => ?_)
  refine g_iload_n dX6_settingOf_0 rfl ?_
  refine g_lsw (tgt := 56) dX6_settingOf_1 (by decide +kernel) (by decide +kernel) ?_
  refine g_iconst dX6_settingOf_56 ic_2 ?_
  exact e_iret dX6_settingOf_57 rfl (by rfl) (by rfl)
set_option maxRecDepth 100000 in
set_option maxHeartbeats 200000 in
theorem c_KT_nb_98 {σ : SI} {δ : SD} : E KT_numbersBehind [.int (nI 98)] (HH σ δ) (some (.int (nI 1))) (HH σ δ) := by
  refine E.ofL [some (.int (nI 98))] rfl pn_RX6 rfl (fun sc => ?_)
  refine g_iload_n dX6_numbersBehind_0 rfl ?_
  refine g_lsw (tgt := 62) dX6_numbersBehind_1 (by decide +kernel) (by decide +kernel) ?_
  refine g_iload_n dX6_numbersBehind_62 rfl ?_
  refine g_s1 (M' := KT_settingOf) dX6_numbersBehind_63 l_T_29 s_KT_settingOf c_KT_settingOf_98 rfl rfl ⟨rfl, rfl⟩ ?_
  refine g_iconst dX6_numbersBehind_66 ic_m1 ?_
  refine g_icmp_ne (tgt := 74) dX6_numbersBehind_67 rfl (fun zc67 => ?_) (fun zc67 => ?_)
  · refine g_iconst dX6_numbersBehind_74 ic_1 ?_
    exact e_iret dX6_numbersBehind_75 rfl (by rfl) (by rfl)
  · exact absurd zc67 (by decide)
set_option maxRecDepth 100000 in
set_option maxHeartbeats 200000 in
theorem c_KT_settingOf_99 {σ : SI} {δ : SD} : E KT_settingOf [.int (nI 99)] (HH σ δ) (some (.int (nI 4))) (HH σ δ) := by
  refine E.ofL [some (.int (nI 99))] rfl pn_RX6 rfl (fun sc => ?_)
  refine g_iload_n dX6_settingOf_0 rfl ?_
  refine g_lsw (tgt := 60) dX6_settingOf_1 (by decide +kernel) (by decide +kernel) ?_
  refine g_iconst dX6_settingOf_60 ic_4 ?_
  exact e_iret dX6_settingOf_61 rfl (by rfl) (by rfl)
set_option maxRecDepth 100000 in
set_option maxHeartbeats 200000 in
theorem c_KT_nb_99 {σ : SI} {δ : SD} : E KT_numbersBehind [.int (nI 99)] (HH σ δ) (some (.int (nI 1))) (HH σ δ) := by
  refine E.ofL [some (.int (nI 99))] rfl pn_RX6 rfl (fun sc => ?_)
  refine g_iload_n dX6_numbersBehind_0 rfl ?_
  refine g_lsw (tgt := 62) dX6_numbersBehind_1 (by decide +kernel) (by decide +kernel) ?_
  refine g_iload_n dX6_numbersBehind_62 rfl ?_
  refine g_s1 (M' := KT_settingOf) dX6_numbersBehind_63 l_T_29 s_KT_settingOf c_KT_settingOf_99 rfl rfl ⟨rfl, rfl⟩ ?_
  refine g_iconst dX6_numbersBehind_66 ic_m1 ?_
  refine g_icmp_ne (tgt := 74) dX6_numbersBehind_67 rfl (fun zc67 => ?_) (fun zc67 => ?_)
  · refine g_iconst dX6_numbersBehind_74 ic_1 ?_
    exact e_iret dX6_numbersBehind_75 rfl (by rfl) (by rfl)
  · exact absurd zc67 (by decide)
set_option maxRecDepth 100000 in
set_option maxHeartbeats 200000 in
theorem c_KT_settingOf_103 {σ : SI} {δ : SD} : E KT_settingOf [.int (nI 103)] (HH σ δ) (some (.int (nI 1))) (HH σ δ) := by
  refine E.ofL [some (.int (nI 103))] rfl pn_RX6 rfl (fun sc => ?_)
  refine g_iload_n dX6_settingOf_0 rfl ?_
  refine g_lsw (tgt := 54) dX6_settingOf_1 (by decide +kernel) (by decide +kernel) ?_
  refine g_iconst dX6_settingOf_54 ic_1 ?_
  exact e_iret dX6_settingOf_55 rfl (by rfl) (by rfl)
set_option maxRecDepth 100000 in
set_option maxHeartbeats 200000 in
theorem c_KT_nb_103 {σ : SI} {δ : SD} : E KT_numbersBehind [.int (nI 103)] (HH σ δ) (some (.int (nI 1))) (HH σ δ) := by
  refine E.ofL [some (.int (nI 103))] rfl pn_RX6 rfl (fun sc => ?_)
  refine g_iload_n dX6_numbersBehind_0 rfl ?_
  refine g_lsw (tgt := 62) dX6_numbersBehind_1 (by decide +kernel) (by decide +kernel) ?_
  refine g_iload_n dX6_numbersBehind_62 rfl ?_
  refine g_s1 (M' := KT_settingOf) dX6_numbersBehind_63 l_T_29 s_KT_settingOf c_KT_settingOf_103 rfl rfl ⟨rfl, rfl⟩ ?_
  refine g_iconst dX6_numbersBehind_66 ic_m1 ?_
  refine g_icmp_ne (tgt := 74) dX6_numbersBehind_67 rfl (fun zc67 => ?_) (fun zc67 => ?_)
  · refine g_iconst dX6_numbersBehind_74 ic_1 ?_
    exact e_iret dX6_numbersBehind_75 rfl (by rfl) (by rfl)
  · exact absurd zc67 (by decide)
set_option maxRecDepth 100000 in
set_option maxHeartbeats 200000 in
theorem c_KT_settingOf_109 {σ : SI} {δ : SD} : E KT_settingOf [.int (nI 109)] (HH σ δ) (some (.int (nI 0))) (HH σ δ) := by
  refine E.ofL [some (.int (nI 109))] rfl pn_RX6 rfl (fun sc => ?_)
  refine g_iload_n dX6_settingOf_0 rfl ?_
  refine g_lsw (tgt := 52) dX6_settingOf_1 (by decide +kernel) (by decide +kernel) ?_
  refine g_iconst dX6_settingOf_52 ic_0 ?_
  exact e_iret dX6_settingOf_53 rfl (by rfl) (by rfl)
set_option maxRecDepth 100000 in
set_option maxHeartbeats 200000 in
theorem c_KT_nb_109 {σ : SI} {δ : SD} : E KT_numbersBehind [.int (nI 109)] (HH σ δ) (some (.int (nI 1))) (HH σ δ) := by
  refine E.ofL [some (.int (nI 109))] rfl pn_RX6 rfl (fun sc => ?_)
  refine g_iload_n dX6_numbersBehind_0 rfl ?_
  refine g_lsw (tgt := 62) dX6_numbersBehind_1 (by decide +kernel) (by decide +kernel) ?_
  refine g_iload_n dX6_numbersBehind_62 rfl ?_
  refine g_s1 (M' := KT_settingOf) dX6_numbersBehind_63 l_T_29 s_KT_settingOf c_KT_settingOf_109 rfl rfl ⟨rfl, rfl⟩ ?_
  refine g_iconst dX6_numbersBehind_66 ic_m1 ?_
  refine g_icmp_ne (tgt := 74) dX6_numbersBehind_67 rfl (fun zc67 => ?_) (fun zc67 => ?_)
  · refine g_iconst dX6_numbersBehind_74 ic_1 ?_
    exact e_iret dX6_numbersBehind_75 rfl (by rfl) (by rfl)
  · exact absurd zc67 (by decide)
set_option maxRecDepth 100000 in
set_option maxHeartbeats 200000 in
theorem c_KT_settingOf_114 {σ : SI} {δ : SD} : E KT_settingOf [.int (nI 114)] (HH σ δ) (some (.int (nI 3))) (HH σ δ) := by
  refine E.ofL [some (.int (nI 114))] rfl pn_RX6 rfl (fun sc => ?_)
  refine g_iload_n dX6_settingOf_0 rfl ?_
  refine g_lsw (tgt := 58) dX6_settingOf_1 (by decide +kernel) (by decide +kernel) ?_
  refine g_iconst dX6_settingOf_58 ic_3 ?_
  exact e_iret dX6_settingOf_59 rfl (by rfl) (by rfl)
set_option maxRecDepth 100000 in
set_option maxHeartbeats 200000 in
theorem c_KT_nb_114 {σ : SI} {δ : SD} : E KT_numbersBehind [.int (nI 114)] (HH σ δ) (some (.int (nI 1))) (HH σ δ) := by
  refine E.ofL [some (.int (nI 114))] rfl pn_RX6 rfl (fun sc => ?_)
  refine g_iload_n dX6_numbersBehind_0 rfl ?_
  refine g_lsw (tgt := 62) dX6_numbersBehind_1 (by decide +kernel) (by decide +kernel) ?_
  refine g_iload_n dX6_numbersBehind_62 rfl ?_
  refine g_s1 (M' := KT_settingOf) dX6_numbersBehind_63 l_T_29 s_KT_settingOf c_KT_settingOf_114 rfl rfl ⟨rfl, rfl⟩ ?_
  refine g_iconst dX6_numbersBehind_66 ic_m1 ?_
  refine g_icmp_ne (tgt := 74) dX6_numbersBehind_67 rfl (fun zc67 => ?_) (fun zc67 => ?_)
  · refine g_iconst dX6_numbersBehind_74 ic_1 ?_
    exact e_iret dX6_numbersBehind_75 rfl (by rfl) (by rfl)
  · exact absurd zc67 (by decide)
set_option maxRecDepth 100000 in
set_option maxHeartbeats 200000 in
theorem c_KT_settingOf_no {σ : SI} {δ : SD} {z : Int32} (hz : ((1 : Nat) : Int) + Op.lookupswitch.offset (#[(98, 55), (99, 59), (103, 53), (109, 51), (114, 57)] : Array (Int × Int)).toList 61 z.toInt = ((62 : Nat) : Int)) : E KT_settingOf [.int z] (HH σ δ) (some (.int (-1))) (HH σ δ) := by
  refine E.ofL [some (.int z)] rfl pn_RX6 rfl (fun sc => ?_)
  refine g_iload_n dX6_settingOf_0 rfl ?_
  refine g_lsw (tgt := 62) dX6_settingOf_1 (by decide +kernel) hz ?_
  refine g_iconst dX6_settingOf_62 ic_m1 ?_
  exact e_iret dX6_settingOf_63 rfl (by rfl) (by rfl)
set_option maxRecDepth 100000 in
set_option maxHeartbeats 200000 in
theorem c_KT_nb_97 {σ : SI} {δ : SD} : E KT_numbersBehind [.int (nI 97)] (HH σ δ) (some (.int (nI 0))) (HH σ δ) := by
  refine E.ofL [some (.int (nI 97))] rfl pn_RX6 rfl (fun sc => ?_)
  refine g_iload_n dX6_numbersBehind_0 rfl ?_
  refine g_lsw (tgt := 60) dX6_numbersBehind_1 (by decide +kernel) (by decide +kernel) ?_
  refine g_iconst dX6_numbersBehind_60 ic_0 ?_
  exact e_iret dX6_numbersBehind_61 rfl (by rfl) (by rfl)
set_option maxRecDepth 100000 in
set_option maxHeartbeats 200000 in
theorem c_KT_nb_105 {σ : SI} {δ : SD} : E KT_numbersBehind [.int (nI 105)] (HH σ δ) (some (.int (nI 4))) (HH σ δ) := by
  refine E.ofL [some (.int (nI 105))] rfl pn_RX6 rfl (fun sc => ?_)
  refine g_iload_n dX6_numbersBehind_0 rfl ?_
  refine g_lsw (tgt := 52) dX6_numbersBehind_1 (by decide +kernel) (by decide +kernel) ?_
  refine g_iconst dX6_numbersBehind_52 ic_4 ?_
  exact e_iret dX6_numbersBehind_53 rfl (by rfl) (by rfl)
set_option maxRecDepth 100000 in
set_option maxHeartbeats 200000 in
theorem c_KT_nb_111 {σ : SI} {δ : SD} : E KT_numbersBehind [.int (nI 111)] (HH σ δ) (some (.int (nI 1))) (HH σ δ) := by
  refine E.ofL [some (.int (nI 111))] rfl pn_RX6 rfl (fun sc => ?_)
  refine g_iload_n dX6_numbersBehind_0 rfl ?_
  refine g_lsw (tgt := 58) dX6_numbersBehind_1 (by decide +kernel) (by decide +kernel) ?_
  refine g_iconst dX6_numbersBehind_58 ic_1 ?_
  exact e_iret dX6_numbersBehind_59 rfl (by rfl) (by rfl)
set_option maxRecDepth 100000 in
set_option maxHeartbeats 200000 in
theorem c_KT_nb_112 {σ : SI} {δ : SD} : E KT_numbersBehind [.int (nI 112)] (HH σ δ) (some (.int (nI 3))) (HH σ δ) := by
  refine E.ofL [some (.int (nI 112))] rfl pn_RX6 rfl (fun sc => ?_)
  refine g_iload_n dX6_numbersBehind_0 rfl ?_
  refine g_lsw (tgt := 54) dX6_numbersBehind_1 (by decide +kernel) (by decide +kernel) ?_
  refine g_iconst dX6_numbersBehind_54 ic_3 ?_
  exact e_iret dX6_numbersBehind_55 rfl (by rfl) (by rfl)
set_option maxRecDepth 100000 in
set_option maxHeartbeats 200000 in
theorem c_KT_nb_119 {σ : SI} {δ : SD} : E KT_numbersBehind [.int (nI 119)] (HH σ δ) (some (.int (nI 2))) (HH σ δ) := by
  refine E.ofL [some (.int (nI 119))] rfl pn_RX6 rfl (fun sc => ?_)
  refine g_iload_n dX6_numbersBehind_0 rfl ?_
  refine g_lsw (tgt := 56) dX6_numbersBehind_1 (by decide +kernel) (by decide +kernel) ?_
  refine g_iconst dX6_numbersBehind_56 ic_2 ?_
  exact e_iret dX6_numbersBehind_57 rfl (by rfl) (by rfl)
set_option maxRecDepth 100000 in
set_option maxHeartbeats 200000 in
theorem c_KT_nb_no {σ : SI} {δ : SD} {z : Int32} (hz1 : ((1 : Nat) : Int) + Op.lookupswitch.offset (#[(97, 59), (105, 51), (111, 57), (112, 53), (119, 55)] : Array (Int × Int)).toList 61 z.toInt = ((62 : Nat) : Int)) (hz : ((1 : Nat) : Int) + Op.lookupswitch.offset (#[(98, 55), (99, 59), (103, 53), (109, 51), (114, 57)] : Array (Int × Int)).toList 61 z.toInt = ((62 : Nat) : Int)) : E KT_numbersBehind [.int z] (HH σ δ) (some (.int (-1))) (HH σ δ) := by
  refine E.ofL [some (.int z)] rfl pn_RX6 rfl (fun sc => ?_)
  refine g_iload_n dX6_numbersBehind_0 rfl ?_
  refine g_lsw (tgt := 62) dX6_numbersBehind_1 (by decide +kernel) hz1 ?_
  refine g_iload_n dX6_numbersBehind_62 rfl ?_
  refine g_s1 (M' := KT_settingOf) dX6_numbersBehind_63 l_T_29 s_KT_settingOf (c_KT_settingOf_no hz) rfl rfl ⟨rfl, rfl⟩ ?_
  refine g_iconst dX6_numbersBehind_66 ic_m1 ?_
  refine g_icmp_ne (tgt := 74) dX6_numbersBehind_67 rfl (fun zc67 => ?_) (fun zc67 => ?_)
  · exact absurd rfl zc67
  · refine g_iconst dX6_numbersBehind_70 ic_m1 ?_
    refine g_goto (tgt := 75) dX6_numbersBehind_71 rfl ?_
    exact e_iret dX6_numbersBehind_75 rfl (by rfl) (by rfl)
/-- how many numbers stand behind a letter; -1: it is none -/
def nbI (z : Int32) : Int32 := if z = nI 97 then nI 0 else if z = nI 105 then nI 4 else if z = nI 111 then nI 1 else if z = nI 112 then nI 3 else if z = nI 119 then nI 2 else if z = nI 98 ∨ z = nI 99 ∨ z = nI 103 ∨ z = nI 109 ∨ z = nI 114 then nI 1 else -1
def letB (c : Nat) : Bool := [97, 98, 99, 103, 105, 109, 111, 112, 114, 119].contains c
theorem let_no : ∀ c, c < 128 → letB c = false → nbI (nI c) = -1 ∧ (((1 : Nat) : Int) + Op.lookupswitch.offset (#[(97, 59), (105, 51), (111, 57), (112, 53), (119, 55)] : Array (Int × Int)).toList 61 (nI c).toInt = ((62 : Nat) : Int)) ∧ (((1 : Nat) : Int) + Op.lookupswitch.offset (#[(98, 55), (99, 59), (103, 53), (109, 51), (114, 57)] : Array (Int × Int)).toList 61 (nI c).toInt = ((62 : Nat) : Int)) := by decide +kernel
theorem let_is : ∀ c, c < 128 → letB c = true → c = 97 ∨ c = 98 ∨ c = 99 ∨ c = 103 ∨ c = 105 ∨ c = 109 ∨ c = 111 ∨ c = 112 ∨ c = 114 ∨ c = 119 := by decide +kernel
theorem c_KT_nb {σ : SI} {δ : SD} {z : Int32} (hz : z = -1 ∨ ∃ c, c < 128 ∧ z = nI c) : E KT_numbersBehind [.int z] (HH σ δ) (some (.int (nbI z))) (HH σ δ) := by
  rcases hz with rfl | ⟨c, hc, rfl⟩
  · rw [show nbI (-1) = -1 by decide +kernel]
    exact c_KT_nb_no (by decide +kernel) (by decide +kernel)
  · cases h : letB c with
    | false =>
      obtain ⟨e, h1, h2⟩ := let_no c hc h
      rw [e]
      exact c_KT_nb_no h1 h2
    | true =>
      rcases let_is c hc h with rfl | rfl | rfl | rfl | rfl | rfl | rfl | rfl | rfl | rfl
      · rw [show nbI (nI 97) = nI 0 by decide +kernel]; exact c_KT_nb_97
      · rw [show nbI (nI 98) = nI 1 by decide +kernel]; exact c_KT_nb_98
      · rw [show nbI (nI 99) = nI 1 by decide +kernel]; exact c_KT_nb_99
      · rw [show nbI (nI 103) = nI 1 by decide +kernel]; exact c_KT_nb_103
      · rw [show nbI (nI 105) = nI 4 by decide +kernel]; exact c_KT_nb_105
      · rw [show nbI (nI 109) = nI 1 by decide +kernel]; exact c_KT_nb_109
      · rw [show nbI (nI 111) = nI 1 by decide +kernel]; exact c_KT_nb_111
      · rw [show nbI (nI 112) = nI 3 by decide +kernel]; exact c_KT_nb_112
      · rw [show nbI (nI 114) = nI 1 by decide +kernel]; exact c_KT_nb_114
      · rw [show nbI (nI 119) = nI 2 by decide +kernel]; exact c_KT_nb_119
/-- the place after j numbers of the order at p, and whether all were numbers -/
def onP (tc : Nat → Nat) (tl p : Nat) : Nat → Nat × Bool
  | 0 => (p + 1, true)
  | j + 1 => if (onP tc tl p j).2 = true then (nmE tc tl (skP tc tl (onP tc tl p j).1), nmK tc tl (skP tc tl (onP tc tl p j).1)) else onP tc tl p j
def onN (tc : Nat → Nat) (tl : Nat) (Nr : Nat → Int32) (k p : Nat) : Nat → Nat → Int32
  | 0 => Nr
  | j + 1 => if (onP tc tl p j).2 = true then (if dgB tc tl (skP tc tl (onP tc tl p j).1) = true then upd (onN tc tl Nr k p j) (k * 4 + j) (nI (nmV tc tl (skP tc tl (onP tc tl p j).1))) else onN tc tl Nr k p j) else onN tc tl Nr k p j
def orF (tc : Nat → Nat) (tl p m : Nat) : Nat × Bool := if (onP tc tl p m).2 = true then (if hrV tc tl (skP tc tl (onP tc tl p m).1) = nI 59 then (skP tc tl (onP tc tl p m).1 + 1, true) else (skP tc tl (onP tc tl p m).1, false)) else onP tc tl p m
section OR
variable {tc : Nat → Nat} {tl p m j k : Nat} {σ : SI} {Nr : Nat → Int32}
theorem on_s (h : (onP tc tl p j).2 = true) : onP tc tl p (j + 1) = (nmE tc tl (skP tc tl (onP tc tl p j).1), nmK tc tl (skP tc tl (onP tc tl p j).1)) := if_pos h
theorem onN_s (h : (onP tc tl p j).2 = true) : onN tc tl Nr k p (j + 1) = if dgB tc tl (skP tc tl (onP tc tl p j).1) = true then upd (onN tc tl Nr k p j) (k * 4 + j) (nI (nmV tc tl (skP tc tl (onP tc tl p j).1))) else onN tc tl Nr k p j := if_pos h
theorem on_st (h : (onP tc tl p j).2 = false) : ∀ i, onP tc tl p (j + i) = onP tc tl p j ∧ onN tc tl Nr k p (j + i) = onN tc tl Nr k p j
  | 0 => ⟨rfl, rfl⟩
  | i + 1 => by
    obtain ⟨e1, e2⟩ := on_st h i
    have h2 : ¬ (onP tc tl p (j + i)).2 = true := by rw [e1, h]; decide
    exact ⟨(if_neg h2).trans e1, (if_neg h2).trans e2⟩
theorem or_y (h : (onP tc tl p m).2 = true) (h2 : hrV tc tl (skP tc tl (onP tc tl p m).1) = nI 59) : orF tc tl p m = (skP tc tl (onP tc tl p m).1 + 1, true) := (if_pos h).trans (if_pos h2)
theorem or_n (h : (onP tc tl p m).2 = true) (h2 : ¬ hrV tc tl (skP tc tl (onP tc tl p m).1) = nI 59) : orF tc tl p m = (skP tc tl (onP tc tl p m).1, false) := (if_pos h).trans (if_neg h2)
theorem or_bad (h : (onP tc tl p j).2 = true) (h2 : nmK tc tl (skP tc tl (onP tc tl p j).1) = false) (hj : j < m) : orF tc tl p m = (nmE tc tl (skP tc tl (onP tc tl p j).1), false) ∧ onN tc tl Nr k p m = if dgB tc tl (skP tc tl (onP tc tl p j).1) = true then upd (onN tc tl Nr k p j) (k * 4 + j) (nI (nmV tc tl (skP tc tl (onP tc tl p j).1))) else onN tc tl Nr k p j := by
  have e := on_s h
  rw [h2] at e
  have hf : (onP tc tl p (j + 1)).2 = false := by rw [e]
  obtain ⟨e1, e2⟩ := on_st (Nr := Nr) (k := k) hf (m - (j + 1))
  rw [show j + 1 + (m - (j + 1)) = m by omega] at e1 e2
  refine ⟨?_, e2.trans (onN_s h)⟩
  unfold orF
  rw [e1, if_neg (by rw [hf]; decide), e]
theorem hr_cs (hT : TX σ tc tl) : hrV tc tl p = -1 ∨ ∃ c, c < 128 ∧ hrV tc tl p = nI c := by
  by_cases g : p < tl
  · exact Or.inr ⟨tc p, (hT.2.2 p g).2, hr_y g⟩
  · exact Or.inl (hr_n g)
theorem skI_le (hT : TX σ tc tl) (hp : p ≤ 120) : ∀ i, skI tc tl p i ≤ 120
  | 0 => hp
  | i + 1 => by
    have ih := skI_le hT hp i
    have htl := hT.2.1
    by_cases h : hrV tc tl (skI tc tl p i) = nI 32
    · rw [sk_y h]
      by_cases g : skI tc tl p i < tl
      · omega
      · rw [hr_n g] at h; exact absurd h (by decide)
    · rw [sk_n h]; exact ih
theorem skP_le (hT : TX σ tc tl) (hp : p ≤ 120) : skP tc tl p ≤ 120 := skI_le hT hp 120
theorem nmE_le (hT : TX σ tc tl) (hp : p ≤ 120) : nmE tc tl p ≤ 120 := by
  have htl := hT.2.1
  cases h : dgB tc tl p with
  | false => rw [nm_e0 h]; exact hp
  | true =>
    have h1 := dg_t hT h
    cases h2 : dgB tc tl (p + 1) with
    | false => rw [nm_e1 h h2]; omega
    | true => have h3 := dg_t hT h2; rw [nm_e2 h h2]; omega
theorem on_le (hT : TX σ tc tl) (hp : p + 1 ≤ 120) : ∀ j, (onP tc tl p j).1 ≤ 120
  | 0 => hp
  | j + 1 => by
    have ih := on_le hT hp j
    unfold onP
    split
    · exact nmE_le hT (skP_le hT ih)
    · exact ih
theorem nb_lt (hT : TX σ tc tl) (hm : nbI (hrV tc tl p) = nI m) (hm4 : m ≤ 4 := by assumption) : p + 1 ≤ 120 := by
  have htl := hT.2.1
  by_cases g : p < tl
  · omega
  · rw [hr_n g, show nbI (-1) = -1 by decide +kernel] at hm
    exact absurd hm.symm (nI_m1 (by omega))
end OR
set_option maxRecDepth 100000 in
set_option maxHeartbeats 200000 in
theorem c_KT_findOrder_no {σ : SI} {δ : SD} {tc : Nat → Nat} {tl : Nat} (hT : TX σ tc tl) {p o : Nat} {Lr Nr : Nat → Int32} {k : Nat} (hk : k < 60) (hp : p ≤ 120) (hz : nbI (hrV tc tl p) = -1) : E KT_findOrder [.ref 80, .int (nI k)] (HH (tS σ (p) (o) (Lr) (Nr)) δ) (some (.int (bI false))) (HH (tS σ (p) (o) (Lr) (Nr)) δ) := by
  refine E.ofL [some (.ref 80), some (.int (nI k))] rfl pn_RX6 rfl (fun sc => ?_)
  refine g_aload_n dX6_findOrder_0 rfl ?_
  refine g_v0 (M' := KT_here) dX6_findOrder_1 l_T_46 v_KT_here (c_KT_here hT (by omega)) rc_80 rfl rfl ⟨rfl, rfl⟩ ?_
  refine g_istore_n dX6_findOrder_4 rfl ?_
  refine g_iload_n dX6_findOrder_5 rfl ?_
  refine g_s1 (M' := KT_numbersBehind) dX6_findOrder_6 l_T_50 s_KT_numbersBehind (c_KT_nb (hr_cs hT)) rfl rfl ⟨rfl, rfl⟩ ?_
  refine g_top hz ?_
  refine g_istore_n dX6_findOrder_9 rfl ?_
  refine g_iload_n dX6_findOrder_10 rfl ?_
  refine g_iconst dX6_findOrder_11 ic_m1 ?_
  refine g_icmp_eq (tgt := 25) dX6_findOrder_12 rfl (fun zc12 => ?_) (fun zc12 => ?_)
  · refine g_iconst dX6_findOrder_25 ic_0 ?_
    exact e_z0 dX6_findOrder_26 rfl (by rfl) (by rfl)
  · exact absurd rfl zc12
set_option maxRecDepth 100000 in
set_option maxHeartbeats 200000 in
theorem c_KT_findOrder_ok {σ : SI} {δ : SD} {tc : Nat → Nat} {tl : Nat} (hT : TX σ tc tl) {p o : Nat} {Lr Nr : Nat → Int32} {k : Nat} (hk : k < 60) (hp : p ≤ 120) {m : Nat} (hm : nbI (hrV tc tl p) = nI m) (hm4 : m ≤ 4) : E KT_findOrder [.ref 80, .int (nI k)] (HH (tS σ (p) (o) (Lr) (Nr)) δ) (some (.int (bI (orF tc tl p m).2))) (HH (tS σ ((orF tc tl p m).1) (o) (upd Lr k (hrV tc tl p)) (onN tc tl Nr k p m)) δ) := by
  have htl := hT.2.1
  have hp1 := nb_lt hT hm
  refine E.ofL [some (.ref 80), some (.int (nI k))] rfl pn_RX6 rfl (fun sc => ?_)
  generalize hRz : (fun (zr : Option Value) (zk : XH) => zr = some (.int (bI (orF tc tl p m).2)) ∧ zk = HH (tS σ ((orF tc tl p m).1) (o) (upd Lr k (hrV tc tl p)) (onN tc tl Nr k p m)) δ) = R
  refine g_aload_n dX6_findOrder_0 rfl ?_
  refine g_v0 (M' := KT_here) dX6_findOrder_1 l_T_46 v_KT_here (c_KT_here hT (by omega)) rc_80 rfl rfl ⟨rfl, rfl⟩ ?_
  refine g_istore_n dX6_findOrder_4 rfl ?_
  refine g_iload_n dX6_findOrder_5 rfl ?_
  refine g_s1 (M' := KT_numbersBehind) dX6_findOrder_6 l_T_50 s_KT_numbersBehind (c_KT_nb (hr_cs hT)) rfl rfl ⟨rfl, rfl⟩ ?_
  refine g_top hm ?_
  refine g_istore_n dX6_findOrder_9 rfl ?_
  refine g_iload_n dX6_findOrder_10 rfl ?_
  refine g_iconst dX6_findOrder_11 ic_m1 ?_
  refine g_icmp_eq (tgt := 25) dX6_findOrder_12 rfl (fun zc12 => ?_) (fun zc12 => ?_)
  · exact absurd zc12 (nI_m1 (by omega))
  · refine g_iload_n dX6_findOrder_15 rfl ?_
    refine g_iconst dX6_findOrder_16 ic_0 ?_
    refine g_bipush dX6_findOrder_17 bp_59 ?_
    refine g_s3N (M' := KP_within) dX6_findOrder_19 l_T_21 s_KP_within c_KP_within rfl rfl ⟨rfl, rfl⟩ ?_
    refine g_top (in1 (Nat.zero_le _) (by omega) (by decide)) ?_
    refine n_if_ne (tgt := 27) (by omega) dX6_findOrder_22 rfl (fun _ => ?_) (fun zc22 => absurd zc22 (by decide))
    refine g_aload_n dX6_findOrder_27 rfl ?_
    refine q_getq dX6_findOrder_28 f_T_15 ck_80 (by decide) ty_5_4 rf_80_4 ?_
    refine g_iload_n dX6_findOrder_31 rfl ?_
    refine g_iload_n dX6_findOrder_32 rfl ?_
    refine q_iast dX6_findOrder_33 ck_82 (ixD_nI (by omega) (by decide)) ?_
    refine g_heap (congrArg (fun z => HH z δ) tS_pL) ?_
    refine g_aload_n dX6_findOrder_34 rfl ?_
    refine g_dup dX6_findOrder_35 rfl ?_
    refine q_geti dX6_findOrder_36 f_T_33 ck_80 (by decide) ty_5_2 ?_
    refine g_top tS_p ?_
    refine g_iconst dX6_findOrder_39 ic_1 ?_
    refine n_iadd dX6_findOrder_40 ?_
    refine q_puti dX6_findOrder_41 f_T_33 ck_80 (by decide) ty_5_2 fi_5_2 ?_
    refine g_heap (congrArg (fun z => HH z δ) tS_put) ?_
    refine g_iconst dX6_findOrder_44 ic_0 ?_
    refine g_istore dX6_findOrder_45 rfl ?_
    refine g_heap (show _ = HH (tS σ ((onP tc tl p 0).1) (o) (upd Lr k (hrV tc tl p)) (onN tc tl Nr k p 0)) δ from rfl) ?_
    have H47 : ∀ (N : Nat) (j : Nat), j ≤ m → (onP tc tl p j).2 = true → m - j < N → G sc KT_findOrder 47 (aL [some (.ref 80), some (.int (nI k)), some (.int (hrV tc tl p)), some (.int (nI m)), some (.int (nI j))]) [] (HH (tS σ ((onP tc tl p j).1) (o) (upd Lr k (hrV tc tl p)) (onN tc tl Nr k p j)) δ) (0, 0) R := by
      intro N
      induction N with
      | zero => intro j h1 h2 hN47; exact absurd hN47 (Nat.not_lt_zero _)
      | succ N ih47 =>
        intro j h1 h2 hN47
        refine g_iload dX6_findOrder_47 rfl ?_
        refine g_iload_n dX6_findOrder_49 rfl ?_
        refine n_icmp_ge (tgt := 84) (by omega) (by omega) dX6_findOrder_50 rfl (fun zc50 => ?_) (fun zc50 => ?_)
        · refine g_aload_n dX6_findOrder_84 rfl ?_
          obtain rfl : j = m := by omega
          have hb := on_le hT (by omega) j
          have hs := skP_le hT hb
          refine g_v0n (M' := KT_skipBlanks) dX6_findOrder_85 l_T_39 v_KT_skipBlanks (c_KT_skipBlanks hT (by omega)) rc_80 HH_len rfl ⟨rfl, rfl⟩ ?_
          refine g_aload_n dX6_findOrder_88 rfl ?_
          refine g_v0 (M' := KT_here) dX6_findOrder_89 l_T_46 v_KT_here (c_KT_here hT (by omega)) rc_80 rfl rfl ⟨rfl, rfl⟩ ?_
          refine g_bipush dX6_findOrder_92 bp_59 ?_
          refine g_icmp_eq (tgt := 99) dX6_findOrder_94 rfl (fun zc94 => ?_) (fun zc94 => ?_)
          · refine g_aload_n dX6_findOrder_99 rfl ?_
            refine g_dup dX6_findOrder_100 rfl ?_
            refine q_geti dX6_findOrder_101 f_T_33 ck_80 (by decide) ty_5_2 ?_
            refine g_top tS_p ?_
            refine g_iconst dX6_findOrder_104 ic_1 ?_
            refine n_iadd dX6_findOrder_105 ?_
            refine q_puti dX6_findOrder_106 f_T_33 ck_80 (by decide) ty_5_2 fi_5_2 ?_
            refine g_heap (congrArg (fun z => HH z δ) tS_put) ?_
            refine g_iconst dX6_findOrder_109 ic_1 ?_
            exact g_zret (S := []) dX6_findOrder_110 rfl (Or.inr rfl) (by rw [← hRz]; exact ⟨by first | exact congrArg (fun b => some (Value.int (bI b))) (congrArg Prod.snd (or_bad (m := m) (Nr := Nr) (k := k) h2 zc73 (by omega)).1).symm | exact congrArg (fun b => some (Value.int (bI b))) (congrArg Prod.snd (or_y h2 zc94)).symm | exact congrArg (fun b => some (Value.int (bI b))) (congrArg Prod.snd (or_n h2 zc94)).symm, by first | rw [(or_bad (m := m) (Nr := Nr) (k := k) h2 zc73 (by omega)).1, (or_bad (m := m) (Nr := Nr) (k := k) h2 zc73 (by omega)).2] | rw [or_y h2 zc94] | rw [or_n h2 zc94]⟩) (Nat.zero_le _) (Nat.zero_le _)
          · refine g_iconst dX6_findOrder_97 ic_0 ?_
            exact g_zret (S := []) dX6_findOrder_98 rfl (Or.inl rfl) (by rw [← hRz]; exact ⟨by first | exact congrArg (fun b => some (Value.int (bI b))) (congrArg Prod.snd (or_bad (m := m) (Nr := Nr) (k := k) h2 zc73 (by omega)).1).symm | exact congrArg (fun b => some (Value.int (bI b))) (congrArg Prod.snd (or_y h2 zc94)).symm | exact congrArg (fun b => some (Value.int (bI b))) (congrArg Prod.snd (or_n h2 zc94)).symm, by first | rw [(or_bad (m := m) (Nr := Nr) (k := k) h2 zc73 (by omega)).1, (or_bad (m := m) (Nr := Nr) (k := k) h2 zc73 (by omega)).2] | rw [or_y h2 zc94] | rw [or_n h2 zc94]⟩) (Nat.zero_le _) (Nat.zero_le _)
        · refine g_iload dX6_findOrder_53 rfl ?_
          refine g_iconst dX6_findOrder_55 ic_4 ?_
          refine n_icmp_ge (tgt := 84) (by omega) (by omega) dX6_findOrder_56 rfl (fun zc56 => ?_) (fun zc56 => ?_)
          · exact absurd zc56 (by omega)
          · refine g_aload_n dX6_findOrder_59 rfl ?_
            have hb := on_le hT (by omega) j
            have hs := skP_le hT hb
            refine g_v0n (M' := KT_skipBlanks) dX6_findOrder_60 l_T_39 v_KT_skipBlanks (c_KT_skipBlanks hT (by omega)) rc_80 HH_len rfl ⟨rfl, rfl⟩ ?_
            refine g_aload_n dX6_findOrder_63 rfl ?_
            refine g_iload_n dX6_findOrder_64 rfl ?_
            refine g_iconst dX6_findOrder_65 ic_4 ?_
            refine n_imul dX6_findOrder_66 ?_
            refine g_iload dX6_findOrder_67 rfl ?_
            refine n_iadd dX6_findOrder_69 ?_
            refine g_v1 (M' := KT_findNumber) dX6_findOrder_70 l_T_53 v_KT_findNumber (c_KT_findNumber hT (by omega) (by omega)) rc_80 HH_len rfl ⟨rfl, rfl⟩ ?_
            refine b_if_ne (tgt := 78) dX6_findOrder_73 rfl (fun zc73 => ?_) (fun zc73 => ?_)
            · refine n_iinc (b := 1) dX6_findOrder_78 rfl rfl rfl ?_
              refine g_goto (tgt := 47) dX6_findOrder_81 rfl ?_
              refine g_heap (show _ = HH (tS σ ((onP tc tl p (j + 1)).1) (o) (upd Lr k (hrV tc tl p)) (onN tc tl Nr k p (j + 1))) δ from by rw [on_s h2, onN_s h2]) ?_
              exact g_can _ (by exact ⟨rfl, rfl, rfl, rfl, rfl, trivial⟩) (ih47 (j + 1) (by omega) (by rw [on_s h2]; exact zc73) (by omega))
            · refine g_iconst dX6_findOrder_76 ic_0 ?_
              exact g_zret (S := []) dX6_findOrder_77 rfl (Or.inl rfl) (by rw [← hRz]; exact ⟨by first | exact congrArg (fun b => some (Value.int (bI b))) (congrArg Prod.snd (or_bad (m := m) (Nr := Nr) (k := k) h2 zc73 (by omega)).1).symm | exact congrArg (fun b => some (Value.int (bI b))) (congrArg Prod.snd (or_y h2 zc94)).symm | exact congrArg (fun b => some (Value.int (bI b))) (congrArg Prod.snd (or_n h2 zc94)).symm, by first | rw [(or_bad (m := m) (Nr := Nr) (k := k) h2 zc73 (by omega)).1, (or_bad (m := m) (Nr := Nr) (k := k) h2 zc73 (by omega)).2] | rw [or_y h2 zc94] | rw [or_n h2 zc94]⟩) (Nat.zero_le _) (Nat.zero_le _)
    exact g_can _ (by exact ⟨rfl, rfl, rfl, rfl, rfl, trivial⟩) (H47 _ 0 (by omega) rfl (Nat.lt_succ_self _))
