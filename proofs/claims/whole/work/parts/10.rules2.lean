/-! RULES of the second stage: over HH; with numbers, with truths -/
section Q2
variable {sc : XS} {M : MM} {pc : Nat} {L : XL} {S : List Value} {w : Nat × Nat} {R : Option Value → XH → Prop} {σ : SI} {δ : SD}
theorem q_geti {idx ci k n c : Nat} (hd : decode (mB M) pc = .ok (.getfield idx, 3)) (hf : FL (mY M).cls idx ci k) (hc : KF c ci n) (hk : k < n) (ht : xTy ci k = 0) (kk : G sc M (pc + 3) L (.int (σ c k) :: S) (HH σ δ) w R) : G sc M pc L (.ref c :: S) (HH σ δ) w R := g_geti hd hf (hc.ck σ δ) hk ht kk
theorem q_getd {idx ci k n c : Nat} (hd : decode (mB M) pc = .ok (.getfield idx, 3)) (hf : FL (mY M).cls idx ci k) (hc : KF c ci n) (hk : k < n) (ht : xTy ci k = 1) (kk : G sc M (pc + 3) L (.double (δ c k) :: S) (HH σ δ) w R) : G sc M pc L (.ref c :: S) (HH σ δ) w R := g_getd hd hf (hc.ck σ δ) hk ht kk
theorem q_getq {idx ci k n c d : Nat} (hd : decode (mB M) pc = .ok (.getfield idx, 3)) (hf : FL (mY M).cls idx ci k) (hc : KF c ci n) (hk : k < n) (ht : xTy ci k = 2) (hr : rfF c k = d + 1) (kk : G sc M (pc + 3) L (.ref d :: S) (HH σ δ) w R) : G sc M pc L (.ref c :: S) (HH σ δ) w R := g_getq hd hf (hc.ck σ δ) hk ht hr kk
theorem q_puti {idx ci k n c : Nat} {z : Int32} (hd : decode (mB M) pc = .ok (.putfield idx, 3)) (hf : FL (mY M).cls idx ci k) (hc : KF c ci n) (hk : k < n) (ht : xTy ci k = 0) (hb : FI ci k) (kk : G sc M (pc + 3) L S (HH (uI σ c k z) δ) w R) : G sc M pc L (.int z :: .ref c :: S) (HH σ δ) w R := g_puti hd hf (hc.ck σ δ) hk ht hb kk
theorem q_putd {idx ci k n c : Nat} {z : UInt64} (hd : decode (mB M) pc = .ok (.putfield idx, 3)) (hf : FL (mY M).cls idx ci k) (hc : KF c ci n) (hk : k < n) (ht : xTy ci k = 1) (hb : FD ci k) (kk : G sc M (pc + 3) L S (HH σ (uI δ c k z)) w R) : G sc M pc L (.double z :: .ref c :: S) (HH σ δ) w R := g_putd hd hf (hc.ck σ δ) hk ht hb kk
theorem q_iald {c n j : Nat} {i : Int32} (hd : decode (mB M) pc = .ok (.iaload, 1)) (hc : KF c 10 n) (hj : ixD i j n) (kk : G sc M (pc + 1) L (.int (σ c j) :: S) (HH σ δ) w R) : G sc M pc L (.int i :: .ref c :: S) (HH σ δ) w R := g_iald hd (hc.ck σ δ) hj kk
theorem q_zald {c n j : Nat} {i : Int32} (hd : decode (mB M) pc = .ok (.baload, 1)) (hc : KF c 11 n) (hj : ixD i j n) (kk : G sc M (pc + 1) L (.int (σ c j) :: S) (HH σ δ) w R) : G sc M pc L (.int i :: .ref c :: S) (HH σ δ) w R := g_zald hd (hc.ck σ δ) hj kk
theorem q_aald {c n j d : Nat} {i : Int32} (hd : decode (mB M) pc = .ok (.aaload, 1)) (hc : KF c 12 n) (hj : ixD i j n) (hr : rfF c j = d + 1) (kk : G sc M (pc + 1) L (.ref d :: S) (HH σ δ) w R) : G sc M pc L (.int i :: .ref c :: S) (HH σ δ) w R := g_aald hd (hc.ck σ δ) hj hr kk
theorem q_iast {c n j : Nat} {i z : Int32} (hd : decode (mB M) pc = .ok (.iastore, 1)) (hc : KF c 10 n) (hj : ixD i j n) (kk : G sc M (pc + 1) L S (HH (uI σ c j z) δ) w R) : G sc M pc L (.int z :: .int i :: .ref c :: S) (HH σ δ) w R := g_iast hd (hc.ck σ δ) hj kk
theorem q_zast {c n j : Nat} {i z : Int32} (hd : decode (mB M) pc = .ok (.bastore, 1)) (hc : KF c 11 n) (hj : ixD i j n) (hz : z = 0 ∨ z = 1) (kk : G sc M (pc + 1) L S (HH (uI σ c j z) δ) w R) : G sc M pc L (.int z :: .int i :: .ref c :: S) (HH σ δ) w R := g_zast hd (hc.ck σ δ) hj hz kk
theorem q_alen {c n : Nat} (hd : decode (mB M) pc = .ok (.arraylength, 1)) (hc : KF c 10 n) (kk : G sc M (pc + 1) L (.int (nI n) :: S) (HH σ δ) w R) : G sc M pc L (.ref c :: S) (HH σ δ) w R := g_alen hd (hc.ck σ δ) kk
theorem q_copy {idx c0 c n0 n1 j0 j1 k : Nat} {sp dp n : Int32} (hd : decode (mB M) pc = .ok (.invokestatic idx, 3)) (hl : Cond.methodLink (mY M).cls idx arraycopyName ∈ gW) (h0 : KF c0 10 n0) (h1 : KF c 10 n1) (e0 : ¬ sp < 0 ∧ sp.toNatClampNeg = j0) (e1 : ¬ dp < 0 ∧ dp.toNatClampNeg = j1) (e2 : ¬ n < 0 ∧ n.toNatClampNeg = k) (b0 : j0 + k ≤ n0) (b1 : j1 + k ≤ n1) (hr : (decide (1 ≤ mFr M) && decide ((S.map fun v => v.category).sum + 18 ≤ mLo M)) = true) (kk : G sc M (pc + 3) L S (HH (uR σ c (va_cpy (σ c0) (σ c) j0 j1 k)) δ) w R) : G sc M pc L (.int n :: .int dp :: .ref c :: .int sp :: .ref c0 :: S) (HH σ δ) w R := g_copy hd hl nw_arraycopyName (h0.ck σ δ) (h1.ck σ δ) e0 e1 e2 b0 b1 hr kk
/-- the top of the stack under another name -/
theorem g_top {h : XH} {z z' : Int32} (e : z = z') (k : G sc M pc L (.int z' :: S) h w R) : G sc M pc L (.int z :: S) h w R := e ▸ k
theorem g_topf {h : XH} {z z' : UInt32} (e : z = z') (k : G sc M pc L (.float z' :: S) h w R) : G sc M pc L (.float z :: S) h w R := e ▸ k
theorem g_topd {h : XH} {z z' : UInt64} (e : z = z') (k : G sc M pc L (.double z' :: S) h w R) : G sc M pc L (.double z :: S) h w R := e ▸ k
theorem g_topl {h : XH} {z z' : Int64} (e : z = z') (k : G sc M pc L (.long z' :: S) h w R) : G sc M pc L (.long z :: S) h w R := e ▸ k
/-- the heap under another name -/
theorem g_heap {h h' : XH} (e : h = h') (k : G sc M pc L S h' w R) : G sc M pc L S h w R := e ▸ k
/-- ends of a contract -/
theorem e_iret {h h' : XH} {z z' : Int32} (hd : decode (mB M) pc = .ok (.ireturn, 1)) (hr : mR M = some .int) (e : z = z') (eh : h = h') : G sc M pc L [.int z] h (0, 0) (fun r k => r = some (.int z') ∧ k = h') := g_iret (S := []) hd hr ⟨by rw [e], eh⟩ (Nat.zero_le _) (Nat.zero_le _)
theorem e_fret {h h' : XH} {z z' : UInt32} (hd : decode (mB M) pc = .ok (.freturn, 1)) (hr : mR M = some .float) (e : z = z') (eh : h = h') : G sc M pc L [.float z] h (0, 0) (fun r k => r = some (.float z') ∧ k = h') := g_fret (S := []) hd hr ⟨by rw [e], eh⟩ (Nat.zero_le _) (Nat.zero_le _)
theorem e_dret {h h' : XH} {z z' : UInt64} (hd : decode (mB M) pc = .ok (.dreturn, 1)) (hr : mR M = some .double) (e : z = z') (eh : h = h') : G sc M pc L [.double z] h (0, 0) (fun r k => r = some (.double z') ∧ k = h') := g_dret (S := []) hd hr ⟨by rw [e], eh⟩ (Nat.zero_le _) (Nat.zero_le _)
theorem e_lret {h h' : XH} {z z' : Int64} (hd : decode (mB M) pc = .ok (.lreturn, 1)) (hr : mR M = some .long) (e : z = z') (eh : h = h') : G sc M pc L [.long z] h (0, 0) (fun r k => r = some (.long z') ∧ k = h') := g_lret (S := []) hd hr ⟨by rw [e], eh⟩ (Nat.zero_le _) (Nat.zero_le _)
theorem e_vret {h h' : XH} (hd : decode (mB M) pc = .ok (.return_, 1)) (hr : mR M = none) (eh : h = h') : G sc M pc L [] h (0, 0) (fun r k => r = none ∧ k = h') := g_vret (S := []) hd hr ⟨rfl, eh⟩ (Nat.zero_le _) (Nat.zero_le _)
/-- a truth as an int -/
def bI (b : Bool) : Int32 := if b then 1 else 0
theorem bI_t : bI true = nI 1 := rfl
theorem bI_f : bI false = nI 0 := rfl
theorem bI_01 (b : Bool) : bI b = 0 ∨ bI b = 1 := by cases b <;> simp [bI]
theorem bI_eq0 {b : Bool} : bI b = 0 ↔ b = false := by cases b <;> simp [bI]
theorem e_zret {h h' : XH} {b b' : Bool} (hd : decode (mB M) pc = .ok (.ireturn, 1)) (hr : mR M = some .boolean) (e : b = b') (eh : h = h') : G sc M pc L [.int (bI b)] h (0, 0) (fun r k => r = some (.int (bI b')) ∧ k = h') := g_zret (S := []) hd hr (bI_01 b) ⟨by rw [e], eh⟩ (Nat.zero_le _) (Nat.zero_le _)
theorem e_z1 {h h' : XH} {b' : Bool} (hd : decode (mB M) pc = .ok (.ireturn, 1)) (hr : mR M = some .boolean) (e : b' = true) (eh : h = h') : G sc M pc L [.int (nI 1)] h (0, 0) (fun r k => r = some (.int (bI b')) ∧ k = h') := g_zret (S := []) hd hr (Or.inr rfl) ⟨by rw [e]; rfl, eh⟩ (Nat.zero_le _) (Nat.zero_le _)
theorem e_z0 {h h' : XH} {b' : Bool} (hd : decode (mB M) pc = .ok (.ireturn, 1)) (hr : mR M = some .boolean) (e : b' = false) (eh : h = h') : G sc M pc L [.int (nI 0)] h (0, 0) (fun r k => r = some (.int (bI b')) ∧ k = h') := g_zret (S := []) hd hr (Or.inl rfl) ⟨by rw [e]; rfl, eh⟩ (Nat.zero_le _) (Nat.zero_le _)
theorem b_if_eq {h : XH} {b : Bool} {off : Int} {tgt : Nat} (hd : decode (mB M) pc = .ok (.ifCond .eq off, 3)) (ht : (pc : Int) + off = (tgt : Int)) (kt : b = false → G sc M tgt L S h w R) (kf : b = true → G sc M (pc + 3) L S h w R) : G sc M pc L (.int (bI b) :: S) h w R := g_if_eq hd ht (fun c => kt (bI_eq0.mp c)) (fun c => kf (by cases b with | true => rfl | false => exact absurd rfl c))
theorem b_if_ne {h : XH} {b : Bool} {off : Int} {tgt : Nat} (hd : decode (mB M) pc = .ok (.ifCond .ne off, 3)) (ht : (pc : Int) + off = (tgt : Int)) (kt : b = true → G sc M tgt L S h w R) (kf : b = false → G sc M (pc + 3) L S h w R) : G sc M pc L (.int (bI b) :: S) h w R := g_if_ne hd ht (fun c => kt (by cases b with | true => rfl | false => exact absurd rfl c)) (fun c => kf (bI_eq0.mp c))
/-- numbers -/
theorem n_iadd {h : XH} {a b : Nat} (hd : decode (mB M) pc = .ok (.iadd, 1)) (k : G sc M (pc + 1) L (.int (nI (a + b)) :: S) h w R) : G sc M pc L (.int (nI b) :: .int (nI a) :: S) h w R := g_iadd hd (by rw [nI_add]; exact k)
theorem n_imul {h : XH} {a b : Nat} (hd : decode (mB M) pc = .ok (.imul, 1)) (k : G sc M (pc + 1) L (.int (nI (a * b)) :: S) h w R) : G sc M pc L (.int (nI b) :: .int (nI a) :: S) h w R := g_imul hd (by rw [pk_mul]; exact k)
theorem n_isub {h : XH} {a b : Nat} (hd : decode (mB M) pc = .ok (.isub, 1)) (hab : b ≤ a) (k : G sc M (pc + 1) L (.int (nI (a - b)) :: S) h w R) : G sc M pc L (.int (nI b) :: .int (nI a) :: S) h w R := g_isub hd (by rw [pk_sub hab]; exact k)
theorem n_idiv {h : XH} {a b : Nat} (hd : decode (mB M) pc = .ok (.idiv, 1)) (ha : a < 2147483648) (h0 : 0 < b) (hb : b < 2147483648) (k : G sc M (pc + 1) L (.int (nI (a / b)) :: S) h w R) : G sc M pc L (.int (nI b) :: .int (nI a) :: S) h w R := g_idiv hd (nI_ne0 h0 hb) (by rw [pk_div ha h0 hb]; exact k)
theorem n_irem {h : XH} {a b : Nat} (hd : decode (mB M) pc = .ok (.irem, 1)) (ha : a < 2147483648) (h0 : 0 < b) (hb : b < 2147483648) (k : G sc M (pc + 1) L (.int (nI (a % b)) :: S) h w R) : G sc M pc L (.int (nI b) :: .int (nI a) :: S) h w R := g_irem hd (nI_ne0 h0 hb) (by rw [pk_rem ha h0 hb]; exact k)
theorem n_iinc {h : XH} {i a b : Nat} {n : Int} (hd : decode (mB M) pc = .ok (.iinc i n, 3)) (ho : okS M i = true) (hl : L i = some (.int (nI a))) (hv : Int32.ofInt n = nI b) (k : G sc M (pc + 3) (sL L i (.int (nI (a + b)))) S h w R) : G sc M pc L S h w R := g_iinc hd ho hl rfl (by rw [hv, nI_add]; exact k)
theorem n_idec {h : XH} {i a : Nat} (hd : decode (mB M) pc = .ok (.iinc i (-1), 3)) (ho : okS M i = true) (hl : L i = some (.int (nI (a + 1)))) (k : G sc M (pc + 3) (sL L i (.int (nI a))) S h w R) : G sc M pc L S h w R := g_iinc hd ho hl rfl (by rw [show nI (a + 1) + Int32.ofInt (-1) = nI a from pk_m1 a]; exact k)
/-! number branches -/
theorem n_icmp_eq {h : XH} {a b : Nat} {off : Int} {tgt : Nat} (ha : a < 2147483648) (hb : b < 2147483648) (hd : decode (mB M) pc = .ok (.if_icmp .eq off, 3)) (ht : (pc : Int) + off = (tgt : Int)) (kt : a = b → G sc M tgt L S h w R) (kf : ¬ a = b → G sc M (pc + 3) L S h w R) : G sc M pc L (.int (nI b) :: .int (nI a) :: S) h w R := g_icmp_eq hd ht (fun c => kt ((nI_eq ha hb).mp c)) (fun c => kf (fun e => c (e ▸ rfl)))
theorem n_icmp_ne {h : XH} {a b : Nat} {off : Int} {tgt : Nat} (ha : a < 2147483648) (hb : b < 2147483648) (hd : decode (mB M) pc = .ok (.if_icmp .ne off, 3)) (ht : (pc : Int) + off = (tgt : Int)) (kt : ¬ a = b → G sc M tgt L S h w R) (kf : a = b → G sc M (pc + 3) L S h w R) : G sc M pc L (.int (nI b) :: .int (nI a) :: S) h w R := g_icmp_ne hd ht (fun c => kt (fun e => c (e ▸ rfl))) (fun c => kf ((nI_eq ha hb).mp c))
theorem n_icmp_lt {h : XH} {a b : Nat} {off : Int} {tgt : Nat} (ha : a < 2147483648) (hb : b < 2147483648) (hd : decode (mB M) pc = .ok (.if_icmp .lt off, 3)) (ht : (pc : Int) + off = (tgt : Int)) (kt : a < b → G sc M tgt L S h w R) (kf : b ≤ a → G sc M (pc + 3) L S h w R) : G sc M pc L (.int (nI b) :: .int (nI a) :: S) h w R := g_icmp_lt hd ht (fun c => kt ((nI_ltI ha hb).mp c)) (fun c => kf (Nat.le_of_not_lt fun e => c ((nI_ltI ha hb).mpr e)))
theorem n_icmp_ge {h : XH} {a b : Nat} {off : Int} {tgt : Nat} (ha : a < 2147483648) (hb : b < 2147483648) (hd : decode (mB M) pc = .ok (.if_icmp .ge off, 3)) (ht : (pc : Int) + off = (tgt : Int)) (kt : b ≤ a → G sc M tgt L S h w R) (kf : a < b → G sc M (pc + 3) L S h w R) : G sc M pc L (.int (nI b) :: .int (nI a) :: S) h w R := g_icmp_ge hd ht (fun c => kt ((nI_leI hb ha).mp c)) (fun c => kf (Nat.lt_of_not_le fun e => c ((nI_leI hb ha).mpr e)))
theorem n_icmp_gt {h : XH} {a b : Nat} {off : Int} {tgt : Nat} (ha : a < 2147483648) (hb : b < 2147483648) (hd : decode (mB M) pc = .ok (.if_icmp .gt off, 3)) (ht : (pc : Int) + off = (tgt : Int)) (kt : b < a → G sc M tgt L S h w R) (kf : a ≤ b → G sc M (pc + 3) L S h w R) : G sc M pc L (.int (nI b) :: .int (nI a) :: S) h w R := g_icmp_gt hd ht (fun c => kt ((nI_ltI hb ha).mp c)) (fun c => kf (Nat.le_of_not_lt fun e => c ((nI_ltI hb ha).mpr e)))
theorem n_icmp_le {h : XH} {a b : Nat} {off : Int} {tgt : Nat} (ha : a < 2147483648) (hb : b < 2147483648) (hd : decode (mB M) pc = .ok (.if_icmp .le off, 3)) (ht : (pc : Int) + off = (tgt : Int)) (kt : a ≤ b → G sc M tgt L S h w R) (kf : b < a → G sc M (pc + 3) L S h w R) : G sc M pc L (.int (nI b) :: .int (nI a) :: S) h w R := g_icmp_le hd ht (fun c => kt ((nI_leI ha hb).mp c)) (fun c => kf (Nat.lt_of_not_le fun e => c ((nI_leI ha hb).mpr e)))
theorem n_if_eq {h : XH} {a : Nat} {off : Int} {tgt : Nat} (ha : a < 2147483648) (hd : decode (mB M) pc = .ok (.ifCond .eq off, 3)) (ht : (pc : Int) + off = (tgt : Int)) (kt : a = 0 → G sc M tgt L S h w R) (kf : ¬ a = 0 → G sc M (pc + 3) L S h w R) : G sc M pc L (.int (nI a) :: S) h w R := g_if_eq hd ht (fun c => kt ((nI_eq ha (b := 0) (by decide)).mp c)) (fun c => kf (fun e => c (e ▸ rfl)))
theorem n_if_ne {h : XH} {a : Nat} {off : Int} {tgt : Nat} (ha : a < 2147483648) (hd : decode (mB M) pc = .ok (.ifCond .ne off, 3)) (ht : (pc : Int) + off = (tgt : Int)) (kt : ¬ a = 0 → G sc M tgt L S h w R) (kf : a = 0 → G sc M (pc + 3) L S h w R) : G sc M pc L (.int (nI a) :: S) h w R := g_if_ne hd ht (fun c => kt (fun e => c (e ▸ rfl))) (fun c => kf ((nI_eq ha (b := 0) (by decide)).mp c))
theorem n_if_lt {h : XH} {a : Nat} {off : Int} {tgt : Nat} (ha : a < 2147483648) (hd : decode (mB M) pc = .ok (.ifCond .lt off, 3)) (ht : (pc : Int) + off = (tgt : Int)) (kt : False → G sc M tgt L S h w R) (kf : True → G sc M (pc + 3) L S h w R) : G sc M pc L (.int (nI a) :: S) h w R := g_if_lt hd ht (fun c => kt (nI_pos ha c)) (fun c => kf trivial)
theorem n_if_ge {h : XH} {a : Nat} {off : Int} {tgt : Nat} (ha : a < 2147483648) (hd : decode (mB M) pc = .ok (.ifCond .ge off, 3)) (ht : (pc : Int) + off = (tgt : Int)) (kt : True → G sc M tgt L S h w R) (kf : False → G sc M (pc + 3) L S h w R) : G sc M pc L (.int (nI a) :: S) h w R := g_if_ge hd ht (fun c => kt trivial) (fun c => kf (c (nI_pos' ha)))
theorem n_if_gt {h : XH} {a : Nat} {off : Int} {tgt : Nat} (ha : a < 2147483648) (hd : decode (mB M) pc = .ok (.ifCond .gt off, 3)) (ht : (pc : Int) + off = (tgt : Int)) (kt : 0 < a → G sc M tgt L S h w R) (kf : a = 0 → G sc M (pc + 3) L S h w R) : G sc M pc L (.int (nI a) :: S) h w R := g_if_gt hd ht (fun c => kt ((nI_ltI (a := 0) (by decide) ha).mp c)) (fun c => kf (Nat.eq_zero_of_not_pos fun e => c ((nI_ltI (a := 0) (by decide) ha).mpr e)))
theorem n_if_le {h : XH} {a : Nat} {off : Int} {tgt : Nat} (ha : a < 2147483648) (hd : decode (mB M) pc = .ok (.ifCond .le off, 3)) (ht : (pc : Int) + off = (tgt : Int)) (kt : a = 0 → G sc M tgt L S h w R) (kf : 0 < a → G sc M (pc + 3) L S h w R) : G sc M pc L (.int (nI a) :: S) h w R := g_if_le hd ht (fun c => kt (Nat.le_zero.mp ((nI_leI ha (b := 0) (by decide)).mp c))) (fun c => kf (Nat.pos_of_ne_zero fun e => c (by rw [e]; decide)))
end Q2
theorem ic_m1 : Int32.ofInt (-1) = (-1) := by decide +kernel
theorem ic_0 : Int32.ofInt (0) = nI 0 := by decide +kernel
theorem ic_1 : Int32.ofInt (1) = nI 1 := by decide +kernel
theorem ic_2 : Int32.ofInt (2) = nI 2 := by decide +kernel
theorem ic_3 : Int32.ofInt (3) = nI 3 := by decide +kernel
theorem ic_4 : Int32.ofInt (4) = nI 4 := by decide +kernel
theorem ic_5 : Int32.ofInt (5) = nI 5 := by decide +kernel
theorem bp_m10 : (Int8.ofInt (-10)).toInt32 = (-10) := by decide +kernel
theorem bp_m4 : (Int8.ofInt (-4)).toInt32 = (-4) := by decide +kernel
theorem bp_m3 : (Int8.ofInt (-3)).toInt32 = (-3) := by decide +kernel
theorem bp_m2 : (Int8.ofInt (-2)).toInt32 = (-2) := by decide +kernel
theorem bp_6 : (Int8.ofInt (6)).toInt32 = nI 6 := by decide +kernel
theorem bp_7 : (Int8.ofInt (7)).toInt32 = nI 7 := by decide +kernel
theorem bp_8 : (Int8.ofInt (8)).toInt32 = nI 8 := by decide +kernel
theorem bp_9 : (Int8.ofInt (9)).toInt32 = nI 9 := by decide +kernel
theorem bp_10 : (Int8.ofInt (10)).toInt32 = nI 10 := by decide +kernel
theorem bp_12 : (Int8.ofInt (12)).toInt32 = nI 12 := by decide +kernel
theorem bp_13 : (Int8.ofInt (13)).toInt32 = nI 13 := by decide +kernel
theorem bp_14 : (Int8.ofInt (14)).toInt32 = nI 14 := by decide +kernel
theorem bp_15 : (Int8.ofInt (15)).toInt32 = nI 15 := by decide +kernel
theorem bp_16 : (Int8.ofInt (16)).toInt32 = nI 16 := by decide +kernel
theorem bp_23 : (Int8.ofInt (23)).toInt32 = nI 23 := by decide +kernel
theorem bp_31 : (Int8.ofInt (31)).toInt32 = nI 31 := by decide +kernel
theorem bp_32 : (Int8.ofInt (32)).toInt32 = nI 32 := by decide +kernel
theorem bp_33 : (Int8.ofInt (33)).toInt32 = nI 33 := by decide +kernel
theorem bp_40 : (Int8.ofInt (40)).toInt32 = nI 40 := by decide +kernel
theorem bp_48 : (Int8.ofInt (48)).toInt32 = nI 48 := by decide +kernel
theorem bp_52 : (Int8.ofInt (52)).toInt32 = nI 52 := by decide +kernel
theorem bp_56 : (Int8.ofInt (56)).toInt32 = nI 56 := by decide +kernel
theorem bp_57 : (Int8.ofInt (57)).toInt32 = nI 57 := by decide +kernel
theorem bp_59 : (Int8.ofInt (59)).toInt32 = nI 59 := by decide +kernel
theorem bp_60 : (Int8.ofInt (60)).toInt32 = nI 60 := by decide +kernel
theorem bp_63 : (Int8.ofInt (63)).toInt32 = nI 63 := by decide +kernel
theorem bp_96 : (Int8.ofInt (96)).toInt32 = nI 96 := by decide +kernel
theorem bp_97 : (Int8.ofInt (97)).toInt32 = nI 97 := by decide +kernel
theorem bp_98 : (Int8.ofInt (98)).toInt32 = nI 98 := by decide +kernel
theorem bp_99 : (Int8.ofInt (99)).toInt32 = nI 99 := by decide +kernel
theorem bp_100 : (Int8.ofInt (100)).toInt32 = nI 100 := by decide +kernel
theorem bp_103 : (Int8.ofInt (103)).toInt32 = nI 103 := by decide +kernel
theorem bp_105 : (Int8.ofInt (105)).toInt32 = nI 105 := by decide +kernel
theorem bp_109 : (Int8.ofInt (109)).toInt32 = nI 109 := by decide +kernel
theorem bp_111 : (Int8.ofInt (111)).toInt32 = nI 111 := by decide +kernel
theorem bp_112 : (Int8.ofInt (112)).toInt32 = nI 112 := by decide +kernel
theorem bp_114 : (Int8.ofInt (114)).toInt32 = nI 114 := by decide +kernel
theorem bp_119 : (Int8.ofInt (119)).toInt32 = nI 119 := by decide +kernel
theorem bp_120 : (Int8.ofInt (120)).toInt32 = nI 120 := by decide +kernel
theorem bp_127 : (Int8.ofInt (127)).toInt32 = nI 127 := by decide +kernel
theorem sp_m1000 : (Int16.ofInt (-1000)).toInt32 = (-1000) := by decide +kernel
theorem sp_155 : (Int16.ofInt (155)).toInt32 = nI 155 := by decide +kernel
theorem sp_239 : (Int16.ofInt (239)).toInt32 = nI 239 := by decide +kernel
theorem sp_240 : (Int16.ofInt (240)).toInt32 = nI 240 := by decide +kernel
theorem sp_255 : (Int16.ofInt (255)).toInt32 = nI 255 := by decide +kernel
theorem sp_256 : (Int16.ofInt (256)).toInt32 = nI 256 := by decide +kernel
theorem sp_620 : (Int16.ofInt (620)).toInt32 = nI 620 := by decide +kernel
theorem sp_775 : (Int16.ofInt (775)).toInt32 = nI 775 := by decide +kernel
theorem sp_1023 : (Int16.ofInt (1023)).toInt32 = nI 1023 := by decide +kernel
theorem rc_5 {σ : SI} {δ : SD} : RC (HH σ δ) 5 RX8 := ⟨7, 10, _, ck_5, rfl, rfl⟩
theorem rc_24 {σ : SI} {δ : SD} : RC (HH σ δ) 24 RX5 := ⟨4, 3, _, ck_24, rfl, rfl⟩
theorem rc_71 {σ : SI} {δ : SD} : RC (HH σ δ) 71 RX3 := ⟨2, 3, _, ck_71, rfl, rfl⟩
theorem rc_72 {σ : SI} {δ : SD} : RC (HH σ δ) 72 RX2 := ⟨1, 3, _, ck_72, rfl, rfl⟩
theorem rc_76 {σ : SI} {δ : SD} : RC (HH σ δ) 76 RX7 := ⟨6, 11, _, ck_76, rfl, rfl⟩
theorem rc_80 {σ : SI} {δ : SD} : RC (HH σ δ) 80 RX6 := ⟨5, 6, _, ck_80, rfl, rfl⟩
theorem rc_84 {σ : SI} {δ : SD} : RC (HH σ δ) 84 RX9 := ⟨8, 16, _, ck_84, rfl, rfl⟩
theorem rcL {σ : SI} {δ : SD} {B : Nat} (h : LB B) : RC (HH σ δ) B RX1 := ⟨0, 11, _, ckL_0 h, rfl, rfl⟩
theorem rcE {σ : SI} {δ : SD} {B : Nat} (h : LB B) : RC (HH σ δ) (B + 1) RX4 := ⟨3, 2, _, ckL_1 h, rfl, rfl⟩
theorem ix_lit {i : Int32} {j n : Nat} (h : ¬ i < 0) (h1 : i.toNatClampNeg = j) (h2 : j < n) : ixD i j n := ⟨fun q => q.elim h (fun q => absurd q (by rw [h1]; exact Nat.not_le.mpr h2)), h1⟩
