/-! MAKING: the constructors; the first k cells of the heap stand -/
def HP (k : Nat) (r : Nat → Nat → Nat) (σ : SI) (δ : SD) : XH := (shF.take k, r, σ, δ)
set_option maxHeartbeats 200000 in
theorem sh_len : ∀ k, k < 90 → (shF.take k).length = k := by decide +kernel
set_option maxHeartbeats 200000 in
theorem sh_app : ∀ k, k < 89 → shF.take k ++ [shF.getD k (0, 0)] = shF.take (k + 1) := by decide +kernel
set_option maxHeartbeats 200000 in
theorem sh_get : ∀ k, k < 90 → ∀ c, c < k → (shF.take k)[c]? = shF[c]? := by decide +kernel
set_option maxHeartbeats 200000 in
theorem sh_out : ∀ q : Nat × Nat, ∀ c, shF[c]? = some q → c < 89 := fun q c h => (List.getElem?_eq_some_iff.mp h).1
set_option maxHeartbeats 200000 in
theorem HP_len {k : Nat} {r : Nat → Nat → Nat} {σ : SI} {δ : SD} (h : k ≤ 89) : (HP k r σ δ).1.length = k := sh_len k (by omega)
set_option maxHeartbeats 200000 in
theorem HP_cong {k k' : Nat} {r : Nat → Nat → Nat} {σ : SI} {δ : SD} (h : k = k') : HP k r σ δ = HP k' r σ δ := by rw [h]
set_option maxHeartbeats 200000 in
theorem HP_ck {c ki n k : Nat} {r : Nat → Nat → Nat} {σ : SI} {δ : SD} (h : KF c ki n) (hk : c < k + 5) (h8 : k ≤ 89 := by omega) : CK (HP k r σ δ) c ki n := by
  refine ⟨h.1, ?_⟩
  have h5 := h.1
  show (shF.take k)[c - 5]? = _
  rw [sh_get k (by omega) (c - 5) (by omega)]
  exact h.2
set_option maxHeartbeats 200000 in
theorem HP_N {c ki n k : Nat} {r : Nat → Nat → Nat} {σ : SI} {δ : SD} (h : KF c ki n) (hk : c = k + 5) : hN (HP k r σ δ) (ki, n) = HP (k + 1) (uR r c (fun _ => 0)) (uR σ c (fun _ => 0)) (uR δ c (fun _ => 0)) ∧ (HP k r σ δ).1.length + 5 = c := by
  subst hk
  have h1 : k < 89 := by have := sh_out _ _ h.2; omega
  have h2 := HP_len (k := k) (r := r) (σ := σ) (δ := δ) (by omega)
  refine ⟨?_, by rw [h2]⟩
  have h3 := sh_app k h1
  have h4 : shF.getD k (0, 0) = (ki, n) := by
    have := h.2
    rw [show k + 5 - 5 = k by omega] at this
    rw [List.getD_eq_getElem?_getD, this]
    rfl
  rw [h4] at h3
  unfold hN
  rw [h2]
  show (shF.take k ++ [(ki, n)], _) = _
  rw [h3]
  rfl
set_option maxHeartbeats 200000 in
theorem uI_self {α : Type} {f : Nat → Nat → α} {c k : Nat} {v : α} : uI f c k v c k = v := if_pos ⟨rfl, rfl⟩
set_option maxHeartbeats 200000 in
theorem LB_6le {B : Nat} (h : LB B) : 6 ≤ B := by unfold LB at h; omega
set_option maxHeartbeats 200000 in
theorem LB_62 {B : Nat} (h : LB B) : B ≤ 62 := by unfold LB at h; omega
/-- what fields hold that nothing was put into -/
def MT (ci n : Nat) (T : u_T) : Prop := ∀ k, k < n → ∃ ty, parseFieldDescriptor (T k).2.2.1 = some ty ∧ ((xTy ci k = 0 ∧ defaultValue ty = .int 0) ∨ (xTy ci k = 1 ∧ defaultValue ty = .double 0) ∨ (xTy ci k = 2 ∧ defaultValue ty = .null))
set_option maxHeartbeats 200000 in
theorem hty_0 : MT 0 11 TX1 := fun k hk => by
  rcases (show k = 0 ∨ k = 1 ∨ k = 2 ∨ k = 3 ∨ k = 4 ∨ k = 5 ∨ k = 6 ∨ k = 7 ∨ k = 8 ∨ k = 9 ∨ k = 10 by omega) with rfl | rfl | rfl | rfl | rfl | rfl | rfl | rfl | rfl | rfl | rfl <;> exact ⟨_, tyX1_ok _ (by decide), by first | exact Or.inl ⟨by decide +kernel, rfl⟩ | exact Or.inr (Or.inl ⟨by decide +kernel, rfl⟩) | exact Or.inr (Or.inr ⟨by decide +kernel, rfl⟩)⟩
set_option maxHeartbeats 200000 in
theorem hty_1 : MT 1 3 TX2 := fun k hk => by
  rcases (show k = 0 ∨ k = 1 ∨ k = 2 by omega) with rfl | rfl | rfl <;> exact ⟨_, tyX2_ok _ (by decide), by first | exact Or.inl ⟨by decide +kernel, rfl⟩ | exact Or.inr (Or.inl ⟨by decide +kernel, rfl⟩) | exact Or.inr (Or.inr ⟨by decide +kernel, rfl⟩)⟩
set_option maxHeartbeats 200000 in
theorem hty_2 : MT 2 3 TX3 := fun k hk => by
  rcases (show k = 0 ∨ k = 1 ∨ k = 2 by omega) with rfl | rfl | rfl <;> exact ⟨_, tyX3_ok _ (by decide), by first | exact Or.inl ⟨by decide +kernel, rfl⟩ | exact Or.inr (Or.inl ⟨by decide +kernel, rfl⟩) | exact Or.inr (Or.inr ⟨by decide +kernel, rfl⟩)⟩
set_option maxHeartbeats 200000 in
theorem hty_3 : MT 3 2 TX4 := fun k hk => by
  rcases (show k = 0 ∨ k = 1 by omega) with rfl | rfl <;> exact ⟨_, tyX4_ok _ (by decide), by first | exact Or.inl ⟨by decide +kernel, rfl⟩ | exact Or.inr (Or.inl ⟨by decide +kernel, rfl⟩) | exact Or.inr (Or.inr ⟨by decide +kernel, rfl⟩)⟩
set_option maxHeartbeats 200000 in
theorem hty_4 : MT 4 3 TX5 := fun k hk => by
  rcases (show k = 0 ∨ k = 1 ∨ k = 2 by omega) with rfl | rfl | rfl <;> exact ⟨_, tyX5_ok _ (by decide), by first | exact Or.inl ⟨by decide +kernel, rfl⟩ | exact Or.inr (Or.inl ⟨by decide +kernel, rfl⟩) | exact Or.inr (Or.inr ⟨by decide +kernel, rfl⟩)⟩
set_option maxHeartbeats 200000 in
theorem hty_5 : MT 5 6 TX6 := fun k hk => by
  rcases (show k = 0 ∨ k = 1 ∨ k = 2 ∨ k = 3 ∨ k = 4 ∨ k = 5 by omega) with rfl | rfl | rfl | rfl | rfl | rfl <;> exact ⟨_, tyX6_ok _ (by decide), by first | exact Or.inl ⟨by decide +kernel, rfl⟩ | exact Or.inr (Or.inl ⟨by decide +kernel, rfl⟩) | exact Or.inr (Or.inr ⟨by decide +kernel, rfl⟩)⟩
set_option maxHeartbeats 200000 in
theorem hty_6 : MT 6 11 TX7 := fun k hk => by
  rcases (show k = 0 ∨ k = 1 ∨ k = 2 ∨ k = 3 ∨ k = 4 ∨ k = 5 ∨ k = 6 ∨ k = 7 ∨ k = 8 ∨ k = 9 ∨ k = 10 by omega) with rfl | rfl | rfl | rfl | rfl | rfl | rfl | rfl | rfl | rfl | rfl <;> exact ⟨_, tyX7_ok _ (by decide), by first | exact Or.inl ⟨by decide +kernel, rfl⟩ | exact Or.inr (Or.inl ⟨by decide +kernel, rfl⟩) | exact Or.inr (Or.inr ⟨by decide +kernel, rfl⟩)⟩
set_option maxHeartbeats 200000 in
theorem hty_7 : MT 7 10 TX8 := fun k hk => by
  rcases (show k = 0 ∨ k = 1 ∨ k = 2 ∨ k = 3 ∨ k = 4 ∨ k = 5 ∨ k = 6 ∨ k = 7 ∨ k = 8 ∨ k = 9 by omega) with rfl | rfl | rfl | rfl | rfl | rfl | rfl | rfl | rfl | rfl <;> exact ⟨_, tyX8_ok _ (by decide), by first | exact Or.inl ⟨by decide +kernel, rfl⟩ | exact Or.inr (Or.inl ⟨by decide +kernel, rfl⟩) | exact Or.inr (Or.inr ⟨by decide +kernel, rfl⟩)⟩
set_option maxHeartbeats 200000 in
theorem hty_8 : MT 8 16 TX9 := fun k hk => by
  rcases (show k = 0 ∨ k = 1 ∨ k = 2 ∨ k = 3 ∨ k = 4 ∨ k = 5 ∨ k = 6 ∨ k = 7 ∨ k = 8 ∨ k = 9 ∨ k = 10 ∨ k = 11 ∨ k = 12 ∨ k = 13 ∨ k = 14 ∨ k = 15 by omega) with rfl | rfl | rfl | rfl | rfl | rfl | rfl | rfl | rfl | rfl | rfl | rfl | rfl | rfl | rfl | rfl <;> exact ⟨_, tyX9_ok _ (by decide), by first | exact Or.inl ⟨by decide +kernel, rfl⟩ | exact Or.inr (Or.inl ⟨by decide +kernel, rfl⟩) | exact Or.inr (Or.inr ⟨by decide +kernel, rfl⟩)⟩
section MK
variable {sc : XS} {M : MM} {pc : Nat} {L : XL} {S : List Value} {w : Nat × Nat} {R : Option Value → XH → Prop} {k : Nat} {r : Nat → Nat → Nat} {σ : SI} {δ : SD}
set_option maxHeartbeats 200000 in
theorem p_new {idx ci n c : Nat} {C : String} {T : u_T} (hd : decode (mB M) pc = .ok (.new idx, 3)) (hq : vwCl[ci]? = some (C, T, n)) (h1 : Cond.classLink (mY M).cls idx C ∈ gW) (h2 : Cond.instantiable C n ∈ gW) (h3 : Cond.initialized C ∈ gW) (hty : MT ci n T) (hc : KF c ci n) (hk : c = k + 5) (hr : (decide (w.1 + 1 ≤ mCe M) && decide (w.2 + n ≤ mSl M)) = true) (kk : G sc M (pc + 3) L (.ref c :: S) (HP (k + 1) (uR r c (fun _ => 0)) (uR σ c (fun _ => 0)) (uR δ c (fun _ => 0))) (w.1 + 1, w.2 + n) R) : G sc M pc L S (HP k r σ δ) w R := by
  obtain ⟨e1, e2⟩ := HP_N (r := r) (σ := σ) (δ := δ) hc hk
  refine g_new hd hq h1 h2 h3 hty hr ?_
  rw [e1, e2]
  exact kk
set_option maxHeartbeats 200000 in
theorem p_newai {n c : Nat} (hd : decode (mB M) pc = .ok (.newarray .int, 2)) (hw : Cond.arrayClass .int ∈ gW) (hc : KF c 10 n) (hk : c = k + 5) (hn : n < 1000) (hr : (decide (w.1 + 1 ≤ mCe M) && decide (w.2 + n ≤ mSl M)) = true) (kk : G sc M (pc + 2) L (.ref c :: S) (HP (k + 1) (uR r c (fun _ => 0)) (uR σ c (fun _ => 0)) (uR δ c (fun _ => 0))) (w.1 + 1, w.2 + n) R) : G sc M pc L (.int (nI n) :: S) (HP k r σ δ) w R := by
  obtain ⟨e1, e2⟩ := HP_N (r := r) (σ := σ) (δ := δ) hc hk
  refine g_newai hd hw (nI_pos (by omega)) (nI_clamp (by omega)) (by omega) hr ?_
  rw [e1, e2]
  exact kk
set_option maxHeartbeats 200000 in
theorem p_newaz {n c : Nat} (hd : decode (mB M) pc = .ok (.newarray .boolean, 2)) (hw : Cond.arrayClass .boolean ∈ gW) (hc : KF c 11 n) (hk : c = k + 5) (hn : n < 1000) (hr : (decide (w.1 + 1 ≤ mCe M) && decide (w.2 + n ≤ mSl M)) = true) (kk : G sc M (pc + 2) L (.ref c :: S) (HP (k + 1) (uR r c (fun _ => 0)) (uR σ c (fun _ => 0)) (uR δ c (fun _ => 0))) (w.1 + 1, w.2 + n) R) : G sc M pc L (.int (nI n) :: S) (HP k r σ δ) w R := by
  obtain ⟨e1, e2⟩ := HP_N (r := r) (σ := σ) (δ := δ) hc hk
  refine g_newaz hd hw (nI_pos (by omega)) (nI_clamp (by omega)) (by show n * 1 ≤ 536870912; omega) hr ?_
  rw [e1, e2]
  exact kk
set_option maxHeartbeats 200000 in
theorem p_newaq {n c idx : Nat} (hd : decode (mB M) pc = .ok (.anewarray idx, 3)) (hw : Cond.classLink (mY M).cls idx "PosterSheet$Layout" ∈ gW) (hc : KF c 12 n) (hk : c = k + 5) (hn : n < 1000) (hr : (decide (w.1 + 1 ≤ mCe M) && decide (w.2 + n ≤ mSl M)) = true) (kk : G sc M (pc + 3) L (.ref c :: S) (HP (k + 1) (uR r c (fun _ => 0)) (uR σ c (fun _ => 0)) (uR δ c (fun _ => 0))) (w.1 + 1, w.2 + n) R) : G sc M pc L (.int (nI n) :: S) (HP k r σ δ) w R := by
  obtain ⟨e1, e2⟩ := HP_N (r := r) (σ := σ) (δ := δ) hc hk
  refine g_newaq hd hw (nI_pos (by omega)) (nI_clamp (by omega)) (by omega) hr ?_
  rw [e1, e2]
  exact kk
set_option maxHeartbeats 200000 in
theorem p_puti {idx ci j n c : Nat} {z : Int32} (hd : decode (mB M) pc = .ok (.putfield idx, 3)) (hf : FL (mY M).cls idx ci j) (hc : KF c ci n) (hk : c < k + 5 ∧ k ≤ 89) (hj : j < n) (ht : xTy ci j = 0) (hb : FI ci j) (kk : G sc M (pc + 3) L S (HP k r (uI σ c j z) δ) w R) : G sc M pc L (.int z :: .ref c :: S) (HP k r σ δ) w R := g_puti hd hf (HP_ck hc hk.1 hk.2) hj ht hb kk
set_option maxHeartbeats 200000 in
theorem p_putq {idx ci j n c d : Nat} {ty0 : FieldType} (hd : decode (mB M) pc = .ok (.putfield idx, 3)) (hf : FL (mY M).cls idx ci j) (hc : KF c ci n) (hk : c < k + 5 ∧ k ≤ 89) (hj : j < n) (ht : xTy ci j = 2) (hb : FQ (mY M).cls ci j ty0) (hin : (mY M).name = "<init>") (kk : G sc M (pc + 3) L S (HP k (uI r c j (d + 1)) σ δ) w R) : G sc M pc L (.ref d :: .ref c :: S) (HP k r σ δ) w R := g_putq hd hf (HP_ck hc hk.1 hk.2) hj ht hb hin kk
set_option maxHeartbeats 200000 in
theorem p_getq {idx ci j n c d : Nat} (hd : decode (mB M) pc = .ok (.getfield idx, 3)) (hf : FL (mY M).cls idx ci j) (hc : KF c ci n) (hk : c < k + 5 ∧ k ≤ 89) (hj : j < n) (ht : xTy ci j = 2) (hr : r c j = d + 1) (kk : G sc M (pc + 3) L (.ref d :: S) (HP k r σ δ) w R) : G sc M pc L (.ref c :: S) (HP k r σ δ) w R := g_getq hd hf (HP_ck hc hk.1 hk.2) hj ht hr kk
set_option maxHeartbeats 200000 in
theorem p_iast {c n j : Nat} {i z : Int32} (hd : decode (mB M) pc = .ok (.iastore, 1)) (hc : KF c 10 n) (hk : c < k + 5 ∧ k ≤ 89) (hj : ixD i j n) (kk : G sc M (pc + 1) L S (HP k r (uI σ c j z) δ) w R) : G sc M pc L (.int z :: .int i :: .ref c :: S) (HP k r σ δ) w R := g_iast hd (HP_ck hc hk.1 hk.2) hj kk
set_option maxHeartbeats 200000 in
theorem p_aast {c d n nd j : Nat} {i : Int32} (hd : decode (mB M) pc = .ok (.aastore, 1)) (hc : KF c 12 n) (hk : c < k + 5 ∧ k ≤ 89) (hj : ixD i j n) (hv : KF d 0 nd) (hk2 : d < k + 5) (kk : G sc M (pc + 1) L S (HP k (uI r c j (d + 1)) σ δ) w R) : G sc M pc L (.ref d :: .int i :: .ref c :: S) (HP k r σ δ) w R := g_aast hd (HP_ck hc hk.1 hk.2) hj (HP_ck hv hk2 hk.2) kk
set_option maxHeartbeats 200000 in
theorem p_init {M' : MM} {idx b k' : Nat} {r' : Nat → Nat → Nat} {σ' : SI} {δ' : SD} (hd : decode (mB M) pc = .ok (.invokespecial idx, 3)) (hl : ML (mY M).cls idx (mY M')) (hm : MokI M' 0) (hE : E M' [.ref b] (HP k r σ δ) none (HP k' r' σ' δ')) (hk : k' = k + mCe M') (h89 : k' ≤ 89) (hr : okR M M' S w = true) (kk : G sc M (pc + 3) L S (HP k' r' σ' δ') (w.1 + mCe M', w.2 + mSl M') R) : G sc M pc L (.ref b :: S) (HP k r σ δ) w R := g_callI (As := []) hd hl hm hE rfl (by rw [HP_len h89, HP_len (by omega)]; exact hk) hr rfl kk
set_option maxHeartbeats 200000 in
theorem p_initN {M' : MM} {idx b k' : Nat} {r' : Nat → Nat → Nat} {σ' : SI} {δ' : SD} (hd : decode (mB M) pc = .ok (.invokespecial idx, 3)) (hl : MLN (mY M).cls idx (mY M')) (hm : MokI M' 0) (hE : E M' [.ref b] (HP k r σ δ) none (HP k' r' σ' δ')) (hk : k' = k + mCe M') (h89 : k' ≤ 89) (hr : okR M M' S w = true) (kk : G sc M (pc + 3) L S (HP k' r' σ' δ') (w.1 + mCe M', w.2 + mSl M') R) : G sc M pc L (.ref b :: S) (HP k r σ δ) w R := g_callIN (As := []) hd hl hm hE rfl (by rw [HP_len h89, HP_len (by omega)]; exact hk) hr rfl kk
end MK
def mkER (c : Nat) (r : Nat → Nat → Nat) : Nat → Nat → Nat := uI (uR (r) (c + 1) (fun _ => 0)) c 1 ((c + 1) + 1)
def mkES (c : Nat) (σ : SI) : SI := uR (σ) (c + 1) (fun _ => 0)
def mkED (c : Nat) (δ : SD) : SD := uR (δ) (c + 1) (fun _ => 0)
set_option maxRecDepth 100000 in
set_option maxHeartbeats 200000 in
theorem c_KE_init {r : Nat → Nat → Nat} {σ : SI} {δ : SD} {c k : Nat} (hc : KF c 3 2) (hd : KF (c + 1) 10 96) (hk : c + 1 = k + 5) : E KE_init [.ref c] (HP k r σ δ) none (HP (k + 1) (mkER c r) (mkES c σ) (mkED c δ)) := by
  have hk89 : k < 89 := by have := sh_out _ _ hd.2; omega
  refine E.ofL [some (.ref c)] rfl pn_RX4 rfl (fun sc => ?_)
  refine g_aload_n dX4_init_0 rfl ?_
  refine g_obj dX4_init_1 l_E_3 nw_obj rfl ?_
  refine g_aload_n dX4_init_4 rfl ?_
  refine g_bipush dX4_init_5 bp_96 ?_
  refine p_newai (c := (c + 1)) dX4_init_7 ac_int hd (by omega) (by decide) rfl ?_
  refine p_putq (ty0 := .array .int) dX4_init_9 f_E_11 hc (by omega) (by decide) ty_3_1 (fun q h => by cases h; exact ⟨rfl, rfl, by decide +kernel, fun a => ⟨rfl, rfl⟩⟩) rfl ?_
  exact g_vret (S := []) dX4_init_12 rfl ⟨rfl, HP_cong (by omega)⟩ (by decide) (by decide)
def mkLR (B : Nat) (r : Nat → Nat → Nat) : Nat → Nat → Nat := uI (uR (uI (uR (uI (uR (uI (uR (uI (uR (uI (uR (uI (mkER (B + 1) (uR (r) (B + 1) (fun _ => 0))) B 3 ((B + 1) + 1)) (B + 3) (fun _ => 0)) B 4 ((B + 3) + 1)) (B + 4) (fun _ => 0)) B 5 ((B + 4) + 1)) (B + 5) (fun _ => 0)) B 6 ((B + 5) + 1)) (B + 6) (fun _ => 0)) B 7 ((B + 6) + 1)) (B + 7) (fun _ => 0)) B 8 ((B + 7) + 1)) (B + 8) (fun _ => 0)) B 9 ((B + 8) + 1)
def mkLS (B : Nat) (σ : SI) : SI := uR (uR (uR (uR (uR (uI (uI (uI (uR (mkES (B + 1) (uR (uI (uI (σ) B 0 (nI 12)) B 1 (nI 12)) (B + 1) (fun _ => 0))) (B + 3) (fun _ => 0)) (B + 3) 0 (nI 1)) (B + 3) 2 (nI 40)) (B + 3) 3 (nI 15)) (B + 4) (fun _ => 0)) (B + 5) (fun _ => 0)) (B + 6) (fun _ => 0)) (B + 7) (fun _ => 0)) (B + 8) (fun _ => 0)
def mkLD (B : Nat) (δ : SD) : SD := uR (uR (uR (uR (uR (uR (mkED (B + 1) (uR (δ) (B + 1) (fun _ => 0))) (B + 3) (fun _ => 0)) (B + 4) (fun _ => 0)) (B + 5) (fun _ => 0)) (B + 6) (fun _ => 0)) (B + 7) (fun _ => 0)) (B + 8) (fun _ => 0)
set_option maxRecDepth 100000 in
set_option maxHeartbeats 200000 in
theorem c_KL_init {r : Nat → Nat → Nat} {σ : SI} {δ : SD} {B : Nat} (hB : LB B) : E KL_init [.ref B] (HP (B - 4) r σ δ) none (HP (B + 4) (mkLR B r) (mkLS B σ) (mkLD B δ)) := by
  have hB6 : 6 ≤ B := LB_6le hB
  have hB62 : B ≤ 62 := LB_62 hB
  refine E.ofL [some (.ref B)] rfl pn_RX1 rfl (fun sc => ?_)
  refine g_aload_n dX1_init_0 rfl ?_
  refine g_obj dX1_init_1 l_L_3 nw_obj rfl ?_
  refine g_aload_n dX1_init_4 rfl ?_
  refine g_bipush dX1_init_5 bp_12 ?_
  refine p_puti dX1_init_7 f_L_9 (ckL_0 hB) (by omega) (by decide) ty_0_0 fi_0_0 ?_
  refine g_aload_n dX1_init_10 rfl ?_
  refine g_bipush dX1_init_11 bp_12 ?_
  refine p_puti dX1_init_13 f_L_15 (ckL_0 hB) (by omega) (by decide) ty_0_1 fi_0_1 ?_
  refine g_aload_n dX1_init_16 rfl ?_
  refine p_new (ci := 3) (c := (B + 1)) dX1_init_17 rfl n_L_18 in_E ini_E hty_3 (ckL_1 hB) (by omega) rfl ?_
  refine g_dup dX1_init_20 rfl ?_
  refine p_init (M' := KE_init) dX1_init_21 l_L_20 i_KE_init (c_KE_init (k := B - 4 + 1) (ckL_1 hB) (ckL_2 hB) (by omega)) (by first | rfl | (show _ = _ + _; omega)) (by omega) rfl ?_
  refine p_putq (ty0 := .object "PosterSheet$Series") dX1_init_24 f_L_21 (ckL_0 hB) (by omega) (by decide) ty_0_3 (fun q h => by cases h; exact ⟨rfl, rfl, by decide +kernel, fun a => ⟨rfl, rfl⟩⟩) rfl ?_
  refine g_aload_n dX1_init_27 rfl ?_
  refine g_iconst dX1_init_28 ic_5 ?_
  refine p_newai (c := (B + 3)) dX1_init_29 ac_int (ckL_3 hB) (by omega) (by decide) rfl ?_
  refine p_putq (ty0 := .array .int) dX1_init_31 f_L_25 (ckL_0 hB) (by omega) (by decide) ty_0_4 (fun q h => by cases h; exact ⟨rfl, rfl, by decide +kernel, fun a => ⟨rfl, rfl⟩⟩) rfl ?_
  refine g_aload_n dX1_init_34 rfl ?_
  refine p_getq (d := (B + 3)) dX1_init_35 f_L_25 (ckL_0 hB) (by omega) (by decide) ty_0_4 uI_self ?_
  refine g_iconst dX1_init_38 ic_0 ?_
  refine g_iconst dX1_init_39 ic_1 ?_
  refine p_iast (j := 0) dX1_init_40 (ckL_3 hB) (by omega) (ixD_nI (by decide) (by decide)) ?_
  refine g_aload_n dX1_init_41 rfl ?_
  refine p_getq (d := (B + 3)) dX1_init_42 f_L_25 (ckL_0 hB) (by omega) (by decide) ty_0_4 uI_self ?_
  refine g_iconst dX1_init_45 ic_2 ?_
  refine g_bipush dX1_init_46 bp_40 ?_
  refine p_iast (j := 2) dX1_init_48 (ckL_3 hB) (by omega) (ixD_nI (by decide) (by decide)) ?_
  refine g_aload_n dX1_init_49 rfl ?_
  refine p_getq (d := (B + 3)) dX1_init_50 f_L_25 (ckL_0 hB) (by omega) (by decide) ty_0_4 uI_self ?_
  refine g_iconst dX1_init_53 ic_3 ?_
  refine g_bipush dX1_init_54 bp_15 ?_
  refine p_iast (j := 3) dX1_init_56 (ckL_3 hB) (by omega) (ixD_nI (by decide) (by decide)) ?_
  refine g_aload_n dX1_init_57 rfl ?_
  refine g_bipush dX1_init_58 bp_32 ?_
  refine p_newai (c := (B + 4)) dX1_init_60 ac_int (ckL_4 hB) (by omega) (by decide) rfl ?_
  refine p_putq (ty0 := .array .int) dX1_init_62 f_L_29 (ckL_0 hB) (by omega) (by decide) ty_0_5 (fun q h => by cases h; exact ⟨rfl, rfl, by decide +kernel, fun a => ⟨rfl, rfl⟩⟩) rfl ?_
  refine g_aload_n dX1_init_65 rfl ?_
  refine g_bipush dX1_init_66 bp_8 ?_
  refine p_newai (c := (B + 5)) dX1_init_68 ac_int (ckL_5 hB) (by omega) (by decide) rfl ?_
  refine p_putq (ty0 := .array .int) dX1_init_70 f_L_32 (ckL_0 hB) (by omega) (by decide) ty_0_6 (fun q h => by cases h; exact ⟨rfl, rfl, by decide +kernel, fun a => ⟨rfl, rfl⟩⟩) rfl ?_
  refine g_aload_n dX1_init_73 rfl ?_
  refine g_bipush dX1_init_74 bp_8 ?_
  refine p_newai (c := (B + 6)) dX1_init_76 ac_int (ckL_6 hB) (by omega) (by decide) rfl ?_
  refine p_putq (ty0 := .array .int) dX1_init_78 f_L_35 (ckL_0 hB) (by omega) (by decide) ty_0_7 (fun q h => by cases h; exact ⟨rfl, rfl, by decide +kernel, fun a => ⟨rfl, rfl⟩⟩) rfl ?_
  refine g_aload_n dX1_init_81 rfl ?_
  refine g_bipush dX1_init_82 bp_8 ?_
  refine p_newai (c := (B + 7)) dX1_init_84 ac_int (ckL_7 hB) (by omega) (by decide) rfl ?_
  refine p_putq (ty0 := .array .int) dX1_init_86 f_L_38 (ckL_0 hB) (by omega) (by decide) ty_0_8 (fun q h => by cases h; exact ⟨rfl, rfl, by decide +kernel, fun a => ⟨rfl, rfl⟩⟩) rfl ?_
  refine g_aload_n dX1_init_89 rfl ?_
  refine g_bipush dX1_init_90 bp_8 ?_
  refine p_newai (c := (B + 8)) dX1_init_92 ac_int (ckL_8 hB) (by omega) (by decide) rfl ?_
  refine p_putq (ty0 := .array .int) dX1_init_94 f_L_41 (ckL_0 hB) (by omega) (by decide) ty_0_9 (fun q h => by cases h; exact ⟨rfl, rfl, by decide +kernel, fun a => ⟨rfl, rfl⟩⟩) rfl ?_
  exact g_vret (S := []) dX1_init_97 rfl ⟨rfl, HP_cong (by omega)⟩ (by decide) (by decide)
def mkQR (r : Nat → Nat → Nat) : Nat → Nat → Nat := uI (mkLR 62 (uR (uI (mkLR 53 (uR (uI (mkLR 44 (uR (uI (mkLR 35 (uR (uI (mkLR 26 (uR (uI (uR (r) 25 (fun _ => 0)) 24 2 (25 + 1)) 26 (fun _ => 0))) 25 0 (26 + 1)) 35 (fun _ => 0))) 25 1 (35 + 1)) 44 (fun _ => 0))) 25 2 (44 + 1)) 53 (fun _ => 0))) 25 3 (53 + 1)) 62 (fun _ => 0))) 25 4 (62 + 1)
def mkQS (σ : SI) : SI := mkLS 62 (uR (mkLS 53 (uR (mkLS 44 (uR (mkLS 35 (uR (mkLS 26 (uR (uR (σ) 25 (fun _ => 0)) 26 (fun _ => 0))) 35 (fun _ => 0))) 44 (fun _ => 0))) 53 (fun _ => 0))) 62 (fun _ => 0))
def mkQD (δ : SD) : SD := mkLD 62 (uR (mkLD 53 (uR (mkLD 44 (uR (mkLD 35 (uR (mkLD 26 (uR (uR (δ) 25 (fun _ => 0)) 26 (fun _ => 0))) 35 (fun _ => 0))) 44 (fun _ => 0))) 53 (fun _ => 0))) 62 (fun _ => 0))
set_option maxRecDepth 100000 in
set_option maxHeartbeats 200000 in
theorem c_KQ_init {r : Nat → Nat → Nat} {σ : SI} {δ : SD} : E KQ_init [.ref 24] (HP (20) r σ δ) none (HP (66) (mkQR r) (mkQS σ) (mkQD δ)) := by
  refine E.ofL [some (.ref 24)] rfl pn_RX5 rfl (fun sc => ?_)
  refine g_aload_n dX5_init_0 rfl ?_
  refine g_obj dX5_init_1 l_Q_3 nw_obj rfl ?_
  refine g_aload_n dX5_init_4 rfl ?_
  refine g_iconst dX5_init_5 ic_5 ?_
  refine p_newaq (c := 25) dX5_init_6 n_Q_9 ck_25 (by omega) (by decide) rfl ?_
  refine p_putq (ty0 := .array (.object "PosterSheet$Layout")) dX5_init_9 f_Q_11 ck_24 (by omega) (by decide) ty_4_2 (fun q h => by cases h; exact ⟨rfl, rfl, by decide +kernel, fun a => ⟨rfl, rfl⟩⟩) rfl ?_
  refine g_iconst dX5_init_12 ic_0 ?_
  refine g_istore_n dX5_init_13 rfl ?_
  refine g_iload_n dX5_init_14 rfl ?_
  refine g_iconst dX5_init_15 ic_5 ?_
  refine n_icmp_ge (a := 0) (b := 5) (tgt := 38) (by decide) (by decide) dX5_init_16 rfl (fun zc => absurd zc (by decide)) (fun _ => ?_)
  refine g_aload_n dX5_init_19 rfl ?_
  refine p_getq (d := 25) dX5_init_20 f_Q_11 ck_24 (by omega) (by decide) ty_4_2 rfl ?_
  refine g_iload_n dX5_init_23 rfl ?_
  refine p_new (ci := 0) (c := 26) dX5_init_24 rfl n_Q_9 in_L ini_L hty_0 ck_26 (by omega) rfl ?_
  refine g_dup dX5_init_27 rfl ?_
  refine p_init (M' := KL_init) dX5_init_28 l_Q_17 i_KL_init (c_KL_init (B := 26) (by unfold LB; omega)) (by first | rfl | (show _ = _ + _; omega)) (by omega) rfl ?_
  refine p_aast (j := 0) dX5_init_31 ck_25 (by omega) (ixD_nI (by decide) (by decide)) ck_26 (by omega) ?_
  refine n_iinc (a := 0) (b := 1) dX5_init_32 rfl rfl rfl ?_
  refine g_goto (tgt := 14) dX5_init_35 rfl ?_
  refine g_iload_n dX5_init_14 rfl ?_
  refine g_iconst dX5_init_15 ic_5 ?_
  refine n_icmp_ge (a := 1) (b := 5) (tgt := 38) (by decide) (by decide) dX5_init_16 rfl (fun zc => absurd zc (by decide)) (fun _ => ?_)
  refine g_aload_n dX5_init_19 rfl ?_
  refine p_getq (d := 25) dX5_init_20 f_Q_11 ck_24 (by omega) (by decide) ty_4_2 rfl ?_
  refine g_iload_n dX5_init_23 rfl ?_
  refine p_new (ci := 0) (c := 35) dX5_init_24 rfl n_Q_9 in_L ini_L hty_0 ck_35 (by omega) rfl ?_
  refine g_dup dX5_init_27 rfl ?_
  refine p_init (M' := KL_init) dX5_init_28 l_Q_17 i_KL_init (c_KL_init (B := 35) (by unfold LB; omega)) (by first | rfl | (show _ = _ + _; omega)) (by omega) rfl ?_
  refine p_aast (j := 1) dX5_init_31 ck_25 (by omega) (ixD_nI (by decide) (by decide)) ck_35 (by omega) ?_
  refine n_iinc (a := 1) (b := 1) dX5_init_32 rfl rfl rfl ?_
  refine g_goto (tgt := 14) dX5_init_35 rfl ?_
  refine g_iload_n dX5_init_14 rfl ?_
  refine g_iconst dX5_init_15 ic_5 ?_
  refine n_icmp_ge (a := 2) (b := 5) (tgt := 38) (by decide) (by decide) dX5_init_16 rfl (fun zc => absurd zc (by decide)) (fun _ => ?_)
  refine g_aload_n dX5_init_19 rfl ?_
  refine p_getq (d := 25) dX5_init_20 f_Q_11 ck_24 (by omega) (by decide) ty_4_2 rfl ?_
  refine g_iload_n dX5_init_23 rfl ?_
  refine p_new (ci := 0) (c := 44) dX5_init_24 rfl n_Q_9 in_L ini_L hty_0 ck_44 (by omega) rfl ?_
  refine g_dup dX5_init_27 rfl ?_
  refine p_init (M' := KL_init) dX5_init_28 l_Q_17 i_KL_init (c_KL_init (B := 44) (by unfold LB; omega)) (by first | rfl | (show _ = _ + _; omega)) (by omega) rfl ?_
  refine p_aast (j := 2) dX5_init_31 ck_25 (by omega) (ixD_nI (by decide) (by decide)) ck_44 (by omega) ?_
  refine n_iinc (a := 2) (b := 1) dX5_init_32 rfl rfl rfl ?_
  refine g_goto (tgt := 14) dX5_init_35 rfl ?_
  refine g_iload_n dX5_init_14 rfl ?_
  refine g_iconst dX5_init_15 ic_5 ?_
  refine n_icmp_ge (a := 3) (b := 5) (tgt := 38) (by decide) (by decide) dX5_init_16 rfl (fun zc => absurd zc (by decide)) (fun _ => ?_)
  refine g_aload_n dX5_init_19 rfl ?_
  refine p_getq (d := 25) dX5_init_20 f_Q_11 ck_24 (by omega) (by decide) ty_4_2 rfl ?_
  refine g_iload_n dX5_init_23 rfl ?_
  refine p_new (ci := 0) (c := 53) dX5_init_24 rfl n_Q_9 in_L ini_L hty_0 ck_53 (by omega) rfl ?_
  refine g_dup dX5_init_27 rfl ?_
  refine p_init (M' := KL_init) dX5_init_28 l_Q_17 i_KL_init (c_KL_init (B := 53) (by unfold LB; omega)) (by first | rfl | (show _ = _ + _; omega)) (by omega) rfl ?_
  refine p_aast (j := 3) dX5_init_31 ck_25 (by omega) (ixD_nI (by decide) (by decide)) ck_53 (by omega) ?_
  refine n_iinc (a := 3) (b := 1) dX5_init_32 rfl rfl rfl ?_
  refine g_goto (tgt := 14) dX5_init_35 rfl ?_
  refine g_iload_n dX5_init_14 rfl ?_
  refine g_iconst dX5_init_15 ic_5 ?_
  refine n_icmp_ge (a := 4) (b := 5) (tgt := 38) (by decide) (by decide) dX5_init_16 rfl (fun zc => absurd zc (by decide)) (fun _ => ?_)
  refine g_aload_n dX5_init_19 rfl ?_
  refine p_getq (d := 25) dX5_init_20 f_Q_11 ck_24 (by omega) (by decide) ty_4_2 rfl ?_
  refine g_iload_n dX5_init_23 rfl ?_
  refine p_new (ci := 0) (c := 62) dX5_init_24 rfl n_Q_9 in_L ini_L hty_0 ck_62 (by omega) rfl ?_
  refine g_dup dX5_init_27 rfl ?_
  refine p_init (M' := KL_init) dX5_init_28 l_Q_17 i_KL_init (c_KL_init (B := 62) (by unfold LB; omega)) (by first | rfl | (show _ = _ + _; omega)) (by omega) rfl ?_
  refine p_aast (j := 4) dX5_init_31 ck_25 (by omega) (ixD_nI (by decide) (by decide)) ck_62 (by omega) ?_
  refine n_iinc (a := 4) (b := 1) dX5_init_32 rfl rfl rfl ?_
  refine g_goto (tgt := 14) dX5_init_35 rfl ?_
  refine g_iload_n dX5_init_14 rfl ?_
  refine g_iconst dX5_init_15 ic_5 ?_
  refine n_icmp_ge (a := 5) (b := 5) (tgt := 38) (by decide) (by decide) dX5_init_16 rfl (fun _ => ?_) (fun zc => absurd zc (by decide))
  exact g_vret (S := []) dX5_init_38 rfl ⟨rfl, HP_cong (by omega)⟩ (by decide) (by decide)
def mkScR (r : Nat → Nat → Nat) : Nat → Nat → Nat := r
def mkScS (σ : SI) : SI := σ
def mkScD (δ : SD) : SD := δ
set_option maxRecDepth 100000 in
set_option maxHeartbeats 200000 in
theorem c_KS_init {r : Nat → Nat → Nat} {σ : SI} {δ : SD} : E KS_init [.ref 71] (HP (67) r σ δ) none (HP (67) (mkScR r) (mkScS σ) (mkScD δ)) := by
  refine E.ofL [some (.ref 71)] rfl pn_RX3 rfl (fun sc => ?_)
  refine g_aload_n dX3_init_0 rfl ?_
  refine g_obj dX3_init_1 l_S_1 nw_obj rfl ?_
  exact g_vret (S := []) dX3_init_4 rfl ⟨rfl, HP_cong (by omega)⟩ (by decide) (by decide)
def mkAR (r : Nat → Nat → Nat) : Nat → Nat → Nat := uI (uR (uI (uR (uI (uR (r) 73 (fun _ => 0)) 72 0 (73 + 1)) 74 (fun _ => 0)) 72 1 (74 + 1)) 75 (fun _ => 0)) 72 2 (75 + 1)
def mkAS (σ : SI) : SI := uR (uR (uR (σ) 73 (fun _ => 0)) 74 (fun _ => 0)) 75 (fun _ => 0)
def mkAD (δ : SD) : SD := uR (uR (uR (δ) 73 (fun _ => 0)) 74 (fun _ => 0)) 75 (fun _ => 0)
set_option maxRecDepth 100000 in
set_option maxHeartbeats 200000 in
theorem c_KA_init {r : Nat → Nat → Nat} {σ : SI} {δ : SD} : E KA_init [.ref 72] (HP (68) r σ δ) none (HP (71) (mkAR r) (mkAS σ) (mkAD δ)) := by
  refine E.ofL [some (.ref 72)] rfl pn_RX2 rfl (fun sc => ?_)
  refine g_aload_n dX2_init_0 rfl ?_
  refine g_obj dX2_init_1 l_A_3 nw_obj rfl ?_
  refine g_aload_n dX2_init_4 rfl ?_
  refine g_bipush dX2_init_5 bp_8 ?_
  refine p_newai (c := 73) dX2_init_7 ac_int ck_73 (by omega) (by decide) rfl ?_
  refine p_putq (ty0 := .array .int) dX2_init_9 f_A_9 ck_72 (by omega) (by decide) ty_1_0 (fun q h => by cases h; exact ⟨rfl, rfl, by decide +kernel, fun a => ⟨rfl, rfl⟩⟩) rfl ?_
  refine g_aload_n dX2_init_12 rfl ?_
  refine g_bipush dX2_init_13 bp_8 ?_
  refine p_newai (c := 74) dX2_init_15 ac_int ck_74 (by omega) (by decide) rfl ?_
  refine p_putq (ty0 := .array .int) dX2_init_17 f_A_15 ck_72 (by omega) (by decide) ty_1_1 (fun q h => by cases h; exact ⟨rfl, rfl, by decide +kernel, fun a => ⟨rfl, rfl⟩⟩) rfl ?_
  refine g_aload_n dX2_init_20 rfl ?_
  refine g_bipush dX2_init_21 bp_8 ?_
  refine p_newai (c := 75) dX2_init_23 ac_int ck_75 (by omega) (by decide) rfl ?_
  refine p_putq (ty0 := .array .int) dX2_init_25 f_A_18 ck_72 (by omega) (by decide) ty_1_2 (fun q h => by cases h; exact ⟨rfl, rfl, by decide +kernel, fun a => ⟨rfl, rfl⟩⟩) rfl ?_
  exact g_vret (S := []) dX2_init_28 rfl ⟨rfl, HP_cong (by omega)⟩ (by decide) (by decide)
def mkWR (r : Nat → Nat → Nat) : Nat → Nat → Nat := uI (uR (uI (uR (uI (uR (r) 77 (fun _ => 0)) 76 8 (77 + 1)) 78 (fun _ => 0)) 76 9 (78 + 1)) 79 (fun _ => 0)) 76 10 (79 + 1)
def mkWS (σ : SI) : SI := uR (uR (uR (σ) 77 (fun _ => 0)) 78 (fun _ => 0)) 79 (fun _ => 0)
def mkWD (δ : SD) : SD := uR (uR (uR (δ) 77 (fun _ => 0)) 78 (fun _ => 0)) 79 (fun _ => 0)
set_option maxRecDepth 100000 in
set_option maxHeartbeats 200000 in
theorem c_KW_init {r : Nat → Nat → Nat} {σ : SI} {δ : SD} : E KW_init [.ref 76] (HP (72) r σ δ) none (HP (75) (mkWR r) (mkWS σ) (mkWD δ)) := by
  refine E.ofL [some (.ref 76)] rfl pn_RX7 rfl (fun sc => ?_)
  refine g_aload_n dX7_init_0 rfl ?_
  refine g_obj dX7_init_1 l_W_3 nw_obj rfl ?_
  refine g_aload_n dX7_init_4 rfl ?_
  refine g_sipush dX7_init_5 sp_256 ?_
  refine p_newai (c := 77) dX7_init_8 ac_int ck_77 (by omega) (by decide) rfl ?_
  refine p_putq (ty0 := .array .int) dX7_init_10 f_W_9 ck_76 (by omega) (by decide) ty_6_8 (fun q h => by cases h; exact ⟨rfl, rfl, by decide +kernel, fun a => ⟨rfl, rfl⟩⟩) rfl ?_
  refine g_aload_n dX7_init_13 rfl ?_
  refine g_sipush dX7_init_14 sp_256 ?_
  refine p_newai (c := 78) dX7_init_17 ac_int ck_78 (by omega) (by decide) rfl ?_
  refine p_putq (ty0 := .array .int) dX7_init_19 f_W_15 ck_76 (by omega) (by decide) ty_6_9 (fun q h => by cases h; exact ⟨rfl, rfl, by decide +kernel, fun a => ⟨rfl, rfl⟩⟩) rfl ?_
  refine g_aload_n dX7_init_22 rfl ?_
  refine g_sipush dX7_init_23 sp_256 ?_
  refine p_newai (c := 79) dX7_init_26 ac_int ck_79 (by omega) (by decide) rfl ?_
  refine p_putq (ty0 := .array .int) dX7_init_28 f_W_18 ck_76 (by omega) (by decide) ty_6_10 (fun q h => by cases h; exact ⟨rfl, rfl, by decide +kernel, fun a => ⟨rfl, rfl⟩⟩) rfl ?_
  exact g_vret (S := []) dX7_init_31 rfl ⟨rfl, HP_cong (by omega)⟩ (by decide) (by decide)
def mkTR (r : Nat → Nat → Nat) : Nat → Nat → Nat := uI (uR (uI (uR (uI (uR (r) 81 (fun _ => 0)) 80 3 (81 + 1)) 82 (fun _ => 0)) 80 4 (82 + 1)) 83 (fun _ => 0)) 80 5 (83 + 1)
def mkTS (σ : SI) : SI := uR (uR (uR (σ) 81 (fun _ => 0)) 82 (fun _ => 0)) 83 (fun _ => 0)
def mkTD (δ : SD) : SD := uR (uR (uR (δ) 81 (fun _ => 0)) 82 (fun _ => 0)) 83 (fun _ => 0)
set_option maxRecDepth 100000 in
set_option maxHeartbeats 200000 in
theorem c_KT_init {r : Nat → Nat → Nat} {σ : SI} {δ : SD} : E KT_init [.ref 80] (HP (76) r σ δ) none (HP (79) (mkTR r) (mkTS σ) (mkTD δ)) := by
  refine E.ofL [some (.ref 80)] rfl pn_RX6 rfl (fun sc => ?_)
  refine g_aload_n dX6_init_0 rfl ?_
  refine g_obj dX6_init_1 l_T_5 nw_obj rfl ?_
  refine g_aload_n dX6_init_4 rfl ?_
  refine g_bipush dX6_init_5 bp_120 ?_
  refine p_newai (c := 81) dX6_init_7 ac_int ck_81 (by omega) (by decide) rfl ?_
  refine p_putq (ty0 := .array .int) dX6_init_9 f_T_11 ck_80 (by omega) (by decide) ty_5_3 (fun q h => by cases h; exact ⟨rfl, rfl, by decide +kernel, fun a => ⟨rfl, rfl⟩⟩) rfl ?_
  refine g_aload_n dX6_init_12 rfl ?_
  refine g_bipush dX6_init_13 bp_60 ?_
  refine p_newai (c := 82) dX6_init_15 ac_int ck_82 (by omega) (by decide) rfl ?_
  refine p_putq (ty0 := .array .int) dX6_init_17 f_T_15 ck_80 (by omega) (by decide) ty_5_4 (fun q h => by cases h; exact ⟨rfl, rfl, by decide +kernel, fun a => ⟨rfl, rfl⟩⟩) rfl ?_
  refine g_aload_n dX6_init_20 rfl ?_
  refine g_sipush dX6_init_21 sp_240 ?_
  refine p_newai (c := 83) dX6_init_24 ac_int ck_83 (by omega) (by decide) rfl ?_
  refine p_putq (ty0 := .array .int) dX6_init_26 f_T_18 ck_80 (by omega) (by decide) ty_5_5 (fun q h => by cases h; exact ⟨rfl, rfl, by decide +kernel, fun a => ⟨rfl, rfl⟩⟩) rfl ?_
  exact g_vret (S := []) dX6_init_29 rfl ⟨rfl, HP_cong (by omega)⟩ (by decide) (by decide)
def mkPR (r : Nat → Nat → Nat) : Nat → Nat → Nat := uI (mkTR (uR (uI (mkWR (uR (uI (mkAR (uR (uI (mkScR (uR (uI (mkQR (uR (uI (mkLR 15 (uR (uI (mkLR 6 (uR (r) 6 (fun _ => 0))) 5 0 (6 + 1)) 15 (fun _ => 0))) 5 1 (15 + 1)) 24 (fun _ => 0))) 5 2 (24 + 1)) 71 (fun _ => 0))) 5 4 (71 + 1)) 72 (fun _ => 0))) 5 3 (72 + 1)) 76 (fun _ => 0))) 5 5 (76 + 1)) 80 (fun _ => 0))) 5 6 (80 + 1)
def mkPS (σ : SI) : SI := mkTS (uR (mkWS (uR (mkAS (uR (mkScS (uR (mkQS (uR (mkLS 15 (uR (mkLS 6 (uR (σ) 6 (fun _ => 0))) 15 (fun _ => 0))) 24 (fun _ => 0))) 71 (fun _ => 0))) 72 (fun _ => 0))) 76 (fun _ => 0))) 80 (fun _ => 0))
def mkPD (δ : SD) : SD := mkTD (uR (mkWD (uR (mkAD (uR (mkScD (uR (mkQD (uR (mkLD 15 (uR (mkLD 6 (uR (δ) 6 (fun _ => 0))) 15 (fun _ => 0))) 24 (fun _ => 0))) 71 (fun _ => 0))) 72 (fun _ => 0))) 76 (fun _ => 0))) 80 (fun _ => 0))
set_option maxRecDepth 100000 in
set_option maxHeartbeats 200000 in
theorem c_KP_init {r : Nat → Nat → Nat} {σ : SI} {δ : SD} : E KP_init [.ref 5] (HP (1) r σ δ) none (HP (79) (mkPR r) (mkPS σ) (mkPD δ)) := by
  refine E.ofL [some (.ref 5)] rfl pn_RX8 rfl (fun sc => ?_)
  refine g_aload_n dX8_init_0 rfl ?_
  refine g_obj dX8_init_1 l_P_3 nw_obj rfl ?_
  refine g_aload_n dX8_init_4 rfl ?_
  refine p_new (ci := 0) (c := 6) dX8_init_5 rfl n_P_9 in_L ini_L hty_0 ck_6 (by omega) rfl ?_
  refine g_dup dX8_init_8 rfl ?_
  refine p_init (M' := KL_init) dX8_init_9 l_P_11 i_KL_init (c_KL_init (B := 6) (by unfold LB; omega)) (by first | rfl | (show _ = _ + _; omega)) (by omega) rfl ?_
  refine p_putq (ty0 := .object "PosterSheet$Layout") dX8_init_12 f_P_12 ck_5 (by omega) (by decide) ty_7_0 (fun q h => by cases h; exact ⟨rfl, rfl, by decide +kernel, fun a => ⟨rfl, rfl⟩⟩) rfl ?_
  refine g_aload_n dX8_init_15 rfl ?_
  refine p_new (ci := 0) (c := 15) dX8_init_16 rfl n_P_9 in_L ini_L hty_0 ck_15 (by omega) rfl ?_
  refine g_dup dX8_init_19 rfl ?_
  refine p_init (M' := KL_init) dX8_init_20 l_P_11 i_KL_init (c_KL_init (B := 15) (by unfold LB; omega)) (by first | rfl | (show _ = _ + _; omega)) (by omega) rfl ?_
  refine p_putq (ty0 := .object "PosterSheet$Layout") dX8_init_23 f_P_16 ck_5 (by omega) (by decide) ty_7_1 (fun q h => by cases h; exact ⟨rfl, rfl, by decide +kernel, fun a => ⟨rfl, rfl⟩⟩) rfl ?_
  refine g_aload_n dX8_init_26 rfl ?_
  refine p_new (ci := 4) (c := 24) dX8_init_27 rfl n_P_19 in_Q ini_Q hty_4 ck_24 (by omega) rfl ?_
  refine g_dup dX8_init_30 rfl ?_
  refine p_init (M' := KQ_init) dX8_init_31 l_P_21 i_KQ_init c_KQ_init (by first | rfl | (show _ = _ + _; omega)) (by omega) rfl ?_
  refine p_putq (ty0 := .object "PosterSheet$States") dX8_init_34 f_P_22 ck_5 (by omega) (by decide) ty_7_2 (fun q h => by cases h; exact ⟨rfl, rfl, by decide +kernel, fun a => ⟨rfl, rfl⟩⟩) rfl ?_
  refine g_aload_n dX8_init_37 rfl ?_
  refine p_new (ci := 2) (c := 71) dX8_init_38 rfl n_P_26 in_S ini_S hty_2 ck_71 (by omega) rfl ?_
  refine g_dup dX8_init_41 rfl ?_
  refine p_initN (M' := KS_init) dX8_init_42 l_P_28 i_KS_init c_KS_init (by first | rfl | (show _ = _ + _; omega)) (by omega) rfl ?_
  refine p_putq (ty0 := .object "PosterSheet$Scales") dX8_init_45 f_P_29 ck_5 (by omega) (by decide) ty_7_4 (fun q h => by cases h; exact ⟨rfl, rfl, by decide +kernel, fun a => ⟨rfl, rfl⟩⟩) rfl ?_
  refine g_aload_n dX8_init_48 rfl ?_
  refine p_new (ci := 1) (c := 72) dX8_init_49 rfl n_P_33 in_A ini_A hty_1 ck_72 (by omega) rfl ?_
  refine g_dup dX8_init_52 rfl ?_
  refine p_init (M' := KA_init) dX8_init_53 l_P_35 i_KA_init c_KA_init (by first | rfl | (show _ = _ + _; omega)) (by omega) rfl ?_
  refine p_putq (ty0 := .object "PosterSheet$Places") dX8_init_56 f_P_36 ck_5 (by omega) (by decide) ty_7_3 (fun q h => by cases h; exact ⟨rfl, rfl, by decide +kernel, fun a => ⟨rfl, rfl⟩⟩) rfl ?_
  refine g_aload_n dX8_init_59 rfl ?_
  refine p_new (ci := 6) (c := 76) dX8_init_60 rfl n_P_40 in_W ini_W hty_6 ck_76 (by omega) rfl ?_
  refine g_dup dX8_init_63 rfl ?_
  refine p_init (M' := KW_init) dX8_init_64 l_P_42 i_KW_init c_KW_init (by first | rfl | (show _ = _ + _; omega)) (by omega) rfl ?_
  refine p_putq (ty0 := .object "PosterSheet$White") dX8_init_67 f_P_43 ck_5 (by omega) (by decide) ty_7_5 (fun q h => by cases h; exact ⟨rfl, rfl, by decide +kernel, fun a => ⟨rfl, rfl⟩⟩) rfl ?_
  refine g_aload_n dX8_init_70 rfl ?_
  refine p_new (ci := 5) (c := 80) dX8_init_71 rfl n_P_47 in_T ini_T hty_5 ck_80 (by omega) rfl ?_
  refine g_dup dX8_init_74 rfl ?_
  refine p_init (M' := KT_init) dX8_init_75 l_P_49 i_KT_init c_KT_init (by first | rfl | (show _ = _ + _; omega)) (by omega) rfl ?_
  refine p_putq (ty0 := .object "PosterSheet$Text") dX8_init_78 f_P_50 ck_5 (by omega) (by decide) ty_7_6 (fun q h => by cases h; exact ⟨rfl, rfl, by decide +kernel, fun a => ⟨rfl, rfl⟩⟩) rfl ?_
  exact g_vret (S := []) dX8_init_81 rfl ⟨rfl, HP_cong (by omega)⟩ (by decide) (by decide)
def mkMR (r : Nat → Nat → Nat) : Nat → Nat → Nat := uI (uR (uI (uR (uI (uR (uI (uR (uI (uR (uI (uR (uI (uR (uI (uR (uI (uR (r) 85 (fun _ => 0)) 84 0 (85 + 1)) 86 (fun _ => 0)) 84 1 (86 + 1)) 87 (fun _ => 0)) 84 2 (87 + 1)) 88 (fun _ => 0)) 84 4 (88 + 1)) 89 (fun _ => 0)) 84 5 (89 + 1)) 90 (fun _ => 0)) 84 6 (90 + 1)) 91 (fun _ => 0)) 84 7 (91 + 1)) 92 (fun _ => 0)) 84 11 (92 + 1)) 93 (fun _ => 0)) 84 14 (93 + 1)
def mkMS (σ : SI) : SI := uI (uI (uI (uI (uI (uR (uR (uR (uR (uR (uR (uR (uR (uR (σ) 85 (fun _ => 0)) 86 (fun _ => 0)) 87 (fun _ => 0)) 88 (fun _ => 0)) 89 (fun _ => 0)) 90 (fun _ => 0)) 91 (fun _ => 0)) 92 (fun _ => 0)) 93 (fun _ => 0)) 85 0 (nI 12)) 85 1 (nI 12)) 85 2 (nI 1)) 85 4 (nI 40)) 85 5 (nI 15)
def mkMD (δ : SD) : SD := uR (uR (uR (uR (uR (uR (uR (uR (uR (δ) 85 (fun _ => 0)) 86 (fun _ => 0)) 87 (fun _ => 0)) 88 (fun _ => 0)) 89 (fun _ => 0)) 90 (fun _ => 0)) 91 (fun _ => 0)) 92 (fun _ => 0)) 93 (fun _ => 0)
set_option maxRecDepth 100000 in
set_option maxHeartbeats 200000 in
theorem c_KR_init {r : Nat → Nat → Nat} {σ : SI} {δ : SD} : E KR_init [.ref 84] (HP (80) r σ δ) none (HP (89) (mkMR r) (mkMS σ) (mkMD δ)) := by
  refine E.ofL [some (.ref 84)] rfl pn_RX9 rfl (fun sc => ?_)
  refine g_aload_n dX9_init_0 rfl ?_
  refine g_obj dX9_init_1 l_R_1 nw_obj rfl ?_
  refine g_aload_n dX9_init_4 rfl ?_
  refine g_sipush dX9_init_5 sp_155 ?_
  refine p_newai (c := 85) dX9_init_8 ac_int ck_85 (by omega) (by decide) rfl ?_
  refine p_putq (ty0 := .array .int) dX9_init_10 f_R_7 ck_84 (by omega) (by decide) ty_8_0 (fun q h => by cases h; exact ⟨rfl, rfl, by decide +kernel, fun a => ⟨rfl, rfl⟩⟩) rfl ?_
  refine g_aload_n dX9_init_13 rfl ?_
  refine g_sipush dX9_init_14 sp_775 ?_
  refine p_newai (c := 86) dX9_init_17 ac_int ck_86 (by omega) (by decide) rfl ?_
  refine p_putq (ty0 := .array .int) dX9_init_19 f_R_13 ck_84 (by omega) (by decide) ty_8_1 (fun q h => by cases h; exact ⟨rfl, rfl, by decide +kernel, fun a => ⟨rfl, rfl⟩⟩) rfl ?_
  refine g_aload_n dX9_init_22 rfl ?_
  refine g_sipush dX9_init_23 sp_155 ?_
  refine p_newai (c := 87) dX9_init_26 ac_int ck_87 (by omega) (by decide) rfl ?_
  refine p_putq (ty0 := .array .int) dX9_init_28 f_R_16 ck_84 (by omega) (by decide) ty_8_2 (fun q h => by cases h; exact ⟨rfl, rfl, by decide +kernel, fun a => ⟨rfl, rfl⟩⟩) rfl ?_
  refine g_aload_n dX9_init_31 rfl ?_
  refine g_iconst dX9_init_32 ic_3 ?_
  refine p_newai (c := 88) dX9_init_33 ac_int ck_88 (by omega) (by decide) rfl ?_
  refine p_putq (ty0 := .array .int) dX9_init_35 f_R_19 ck_84 (by omega) (by decide) ty_8_4 (fun q h => by cases h; exact ⟨rfl, rfl, by decide +kernel, fun a => ⟨rfl, rfl⟩⟩) rfl ?_
  refine g_aload_n dX9_init_38 rfl ?_
  refine g_bipush dX9_init_39 bp_8 ?_
  refine p_newai (c := 89) dX9_init_41 ac_int ck_89 (by omega) (by decide) rfl ?_
  refine p_putq (ty0 := .array .int) dX9_init_43 f_R_22 ck_84 (by omega) (by decide) ty_8_5 (fun q h => by cases h; exact ⟨rfl, rfl, by decide +kernel, fun a => ⟨rfl, rfl⟩⟩) rfl ?_
  refine g_aload_n dX9_init_46 rfl ?_
  refine g_sipush dX9_init_47 sp_256 ?_
  refine p_newaz (c := 90) dX9_init_50 ac_boolean ck_90 (by omega) (by decide) rfl ?_
  refine p_putq (ty0 := .array .boolean) dX9_init_52 f_R_25 ck_84 (by omega) (by decide) ty_8_6 (fun q h => by cases h; exact ⟨rfl, rfl, by decide +kernel, fun a => ⟨rfl, rfl⟩⟩) rfl ?_
  refine g_aload_n dX9_init_55 rfl ?_
  refine g_sipush dX9_init_56 sp_256 ?_
  refine p_newai (c := 91) dX9_init_59 ac_int ck_91 (by omega) (by decide) rfl ?_
  refine p_putq (ty0 := .array .int) dX9_init_61 f_R_29 ck_84 (by omega) (by decide) ty_8_7 (fun q h => by cases h; exact ⟨rfl, rfl, by decide +kernel, fun a => ⟨rfl, rfl⟩⟩) rfl ?_
  refine g_aload_n dX9_init_64 rfl ?_
  refine g_bipush dX9_init_65 bp_120 ?_
  refine p_newai (c := 92) dX9_init_67 ac_int ck_92 (by omega) (by decide) rfl ?_
  refine p_putq (ty0 := .array .int) dX9_init_69 f_R_32 ck_84 (by omega) (by decide) ty_8_11 (fun q h => by cases h; exact ⟨rfl, rfl, by decide +kernel, fun a => ⟨rfl, rfl⟩⟩) rfl ?_
  refine g_aload_n dX9_init_72 rfl ?_
  refine g_iconst dX9_init_73 ic_4 ?_
  refine p_newai (c := 93) dX9_init_74 ac_int ck_93 (by omega) (by decide) rfl ?_
  refine p_putq (ty0 := .array .int) dX9_init_76 f_R_35 ck_84 (by omega) (by decide) ty_8_14 (fun q h => by cases h; exact ⟨rfl, rfl, by decide +kernel, fun a => ⟨rfl, rfl⟩⟩) rfl ?_
  refine g_aload_n dX9_init_79 rfl ?_
  refine p_getq (d := 85) dX9_init_80 f_R_7 ck_84 (by omega) (by decide) ty_8_0 rfl ?_
  refine g_iconst dX9_init_83 ic_0 ?_
  refine g_bipush dX9_init_84 bp_12 ?_
  refine p_iast (j := 0) dX9_init_86 ck_85 (by omega) (ixD_nI (by decide) (by decide)) ?_
  refine g_aload_n dX9_init_87 rfl ?_
  refine p_getq (d := 85) dX9_init_88 f_R_7 ck_84 (by omega) (by decide) ty_8_0 rfl ?_
  refine g_iconst dX9_init_91 ic_1 ?_
  refine g_bipush dX9_init_92 bp_12 ?_
  refine p_iast (j := 1) dX9_init_94 ck_85 (by omega) (ixD_nI (by decide) (by decide)) ?_
  refine g_aload_n dX9_init_95 rfl ?_
  refine p_getq (d := 85) dX9_init_96 f_R_7 ck_84 (by omega) (by decide) ty_8_0 rfl ?_
  refine g_iconst dX9_init_99 ic_2 ?_
  refine g_iconst dX9_init_100 ic_1 ?_
  refine p_iast (j := 2) dX9_init_101 ck_85 (by omega) (ixD_nI (by decide) (by decide)) ?_
  refine g_aload_n dX9_init_102 rfl ?_
  refine p_getq (d := 85) dX9_init_103 f_R_7 ck_84 (by omega) (by decide) ty_8_0 rfl ?_
  refine g_iconst dX9_init_106 ic_4 ?_
  refine g_bipush dX9_init_107 bp_40 ?_
  refine p_iast (j := 4) dX9_init_109 ck_85 (by omega) (ixD_nI (by decide) (by decide)) ?_
  refine g_aload_n dX9_init_110 rfl ?_
  refine p_getq (d := 85) dX9_init_111 f_R_7 ck_84 (by omega) (by decide) ty_8_0 rfl ?_
  refine g_iconst dX9_init_114 ic_5 ?_
  refine g_bipush dX9_init_115 bp_15 ?_
  refine p_iast (j := 5) dX9_init_117 ck_85 (by omega) (ixD_nI (by decide) (by decide)) ?_
  exact g_vret (S := []) dX9_init_118 rfl ⟨rfl, HP_cong (by omega)⟩ (by decide) (by decide)
