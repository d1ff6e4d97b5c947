/-! FLOATS (what is wanted of them) -/
theorem fl_ten {b : Nat} (h1 : 10 ≤ b) (h2 : b ≤ 80) : vf_n32 (FP.fdiv (FP.i2f (nI b)) tenF) := sorry
theorem fl_side {b q : Nat} (h1 : 10 ≤ b) (h2 : b ≤ 80) (h3 : 10 ≤ q) (h4 : q ≤ 30) (r : Nat) : vf_n32 (FP.fdiv (sdF (FP.fdiv (FP.i2f (nI b)) tenF) (FP.fdiv (FP.i2f (nI q)) tenF) r) (FP.fdiv (FP.i2f (nI q)) tenF)) := sorry
theorem fl_mul {b q r a : Nat} (h1 : 10 ≤ b) (h2 : b ≤ 80) (h3 : 10 ≤ q) (h4 : q ≤ 30) (h5 : 1 ≤ a) (h6 : a ≤ 4) : vf_n32 (FP.fmul (sideN b q r) (FP.i2f (nI a))) := sorry
theorem fl_div {b q r a d : Nat} (h1 : 10 ≤ b) (h2 : b ≤ 80) (h3 : 10 ≤ q) (h4 : q ≤ 30) (h5 : 1 ≤ a) (h6 : a ≤ 4) (h7 : 1 ≤ d) (h8 : d ≤ 4) : vf_n32 (FP.fdiv (FP.fmul (sideN b q r) (FP.i2f (nI a))) (FP.i2f (nI d))) := sorry
theorem fl_half {b q r : Nat} (h1 : 10 ≤ b) (h2 : b ≤ 80) (h3 : 10 ≤ q) (h4 : q ≤ 30) : vf_n32 (FP.fadd (sideN b q r) halfF) := sorry
theorem fl_halfW {b q so r a d : Nat} (h1 : 10 ≤ b) (h2 : b ≤ 80) (h3 : 10 ≤ q) (h4 : q ≤ 30) (h5 : 1 ≤ a) (h6 : a ≤ 4) (h7 : 1 ≤ d) (h8 : d ≤ 4) : vf_n32 (FP.fadd (if so = 1 then FP.fdiv (FP.fmul (sideN b q r) (FP.i2f (nI a))) (FP.i2f (nI d)) else FP.fmul (sideN b q r) (FP.i2f (nI a))) halfF) := sorry
theorem fl_line {k c : Nat} {z : Int32} (hz : ∃ j, j ≤ 96 ∧ z = nI j) (h1 : 1 ≤ c) (h2 : c ≤ 6) : vf_n32 (FP.fdiv (FP.i2f z) (FP.i2f (nI c))) := sorry
theorem fl_high {b q r : Nat} (h1 : 10 ≤ b) (h2 : b ≤ 80) (h3 : 10 ≤ q) (h4 : q ≤ 30) : btw (highN b q r) 1 40 := sorry
theorem fl_wide {b q so r a d : Nat} (h1 : 10 ≤ b) (h2 : b ≤ 80) (h3 : 10 ≤ q) (h4 : q ≤ 30) (h5 : 1 ≤ a) (h6 : a ≤ 4) (h7 : 1 ≤ d) (h8 : d ≤ 4) : btw (wideN b q so r a d) 1 40 := sorry
