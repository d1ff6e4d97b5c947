/-! THE SECOND STAGE: all objects are made; the heap HH of ints and doubles over fixed cells -/
theorem G.sub {sc : XS} {M : MM} {pc : Nat} {L L' : XL} {S : List Value} {h : XH} {w : Nat × Nat} {R : Option Value → XH → Prop} (hL' : ∀ i v, L' i = some v → L i = some v) (k : G sc M pc L' S h w R) : G sc M pc L S h w R := by
  intro x p l e s mI args below meth c Q H locs ls F X hH hS hz hL
  exact k x p l e s mI args below meth c Q H locs ls F X hH hS hz ⟨hL.1, fun i v hv => hL.2 i v (hL' i v hv)⟩
/-- locals by a list -/
def aL (l : List (Option Value)) : XL := fun i => (l[i]?).getD none
def slotsOf : List Value → List (Option Value)
  | [] => []
  | v :: vs => if v.category = 2 then some v :: none :: slotsOf vs else some v :: slotsOf vs
def canL : Nat → List (Option Value) → XL → Prop
  | _, [], _ => True
  | i, none :: l, L => canL (i + 1) l L
  | i, some v :: l, L => L i = some v ∧ canL (i + 1) l L
theorem canL_get : ∀ (l : List (Option Value)) (k : Nat) (L : XL), canL k l L → ∀ i v, l[i]? = some (some v) → L (k + i) = some v
  | [], _, _, _, i, v, h => by simp at h
  | none :: l, k, L, hc, i, v, h => by
    cases i with
    | zero => simp at h
    | succ i => have := canL_get l (k + 1) L hc i v (by simpa using h); rwa [show k + 1 + i = k + (i + 1) by omega] at this
  | some u :: l, k, L, hc, i, v, h => by
    cases i with
    | zero => simp at h; rw [← h]; exact hc.1
    | succ i => have := canL_get l (k + 1) L hc.2 i v (by simpa using h); rwa [show k + 1 + i = k + (i + 1) by omega] at this
theorem aL_some {l : List (Option Value)} {i : Nat} {v : Value} (h : aL l i = some v) : l[i]? = some (some v) := by
  unfold aL at h
  cases hg : l[i]? with
  | none => rw [hg] at h; simp at h
  | some o => rw [hg] at h; simp at h; rw [h]
/-- the locals in one form -/
theorem g_can {sc : XS} {M : MM} {pc : Nat} {L : XL} {S : List Value} {h : XH} {w : Nat × Nat} {R : Option Value → XH → Prop} (l : List (Option Value)) (hc : canL 0 l L) (k : G sc M pc (aL l) S h w R) : G sc M pc L S h w R :=
  G.sub (fun i v hv => by have := canL_get l 0 L hc i v (aL_some hv); rwa [Nat.zero_add] at this) k
theorem slots_args : ∀ (as : List Value) (k i : Nat) (v : Value), (slotsOf as)[i]? = some (some v) → (lv_args k as).lookup (k + i) = some v
  | [], _, i, v, h => by simp [slotsOf] at h
  | a :: as, k, i, v, h => by
    unfold slotsOf at h
    unfold lv_args
    rw [List.lookup_cons]
    by_cases hc : a.category = 2
    · rw [if_pos hc] at h
      match i with
      | 0 => simp at h; simp [h]
      | 1 => simp at h
      | i + 2 =>
        have e : (k + (i + 2) == k) = false := by simp
        rw [e]
        have := slots_args as (k + 2) i v (by simpa using h)
        rw [if_pos hc]
        rwa [show k + 2 + i = k + (i + 2) by omega] at this
    · rw [if_neg hc] at h
      match i with
      | 0 => simp at h; simp [h]
      | i + 1 =>
        have e : (k + (i + 1) == k) = false := by simp
        rw [e]
        have := slots_args as (k + 1) i v (by simpa using h)
        rw [if_neg hc]
        rwa [show k + 1 + i = k + (i + 1) by omega] at this
def okA (M : MM) (args : List Value) : Bool := decide ((lg_sl args).length ≤ mL M) && (lv_args 0 args).all (fun q => !(q.2.category == 2) || (mC2 M).contains q.1)
theorem E.ofL {M : MM} {args : List Value} {h h' : XH} {v : Option Value} (al : List (Option Value)) (hal : slotsOf args = al) (hy : plainFor (mY M) = true) (hok : okA M args = true)
    (body : ∀ sc : XS, G sc M 0 (aL al) [] h (0, 0) (fun r k => r = v ∧ k = h')) : E M args h v h' := by
  unfold okA at hok
  simp only [Bool.and_eq_true, decide_eq_true_eq, List.all_eq_true] at hok
  refine E.of hy hok.1 (fun q hq hc => ?_) (fun sc => G.sub (fun i u hu => ?_) (body sc))
  · have := hok.2 q hq
    simp [hc] at this
    exact this
  · have := slots_args args 0 i u (by rw [hal]; exact aL_some hu)
    rwa [Nat.zero_add] at this
/-- the cells, by kind and length -/
def layL : List (Nat × Nat) := [(0, 11), (3, 2), (10, 96), (10, 5), (10, 32), (10, 8), (10, 8), (10, 8), (10, 8)]
def shF : List (Nat × Nat) := [(7, 10)] ++ layL ++ layL ++ [(4, 3), (12, 5)] ++ layL ++ layL ++ layL ++ layL ++ layL ++ [(2, 3), (1, 3), (10, 8), (10, 8), (10, 8), (6, 11), (10, 256), (10, 256), (10, 256), (5, 6), (10, 120), (10, 60), (10, 240), (8, 16), (10, 155), (10, 775), (10, 155), (10, 3), (10, 8), (11, 256), (10, 256), (10, 120), (10, 4)]
def isLB (B : Nat) : Bool := B == 6 || B == 15 || B == 26 || B == 35 || B == 44 || B == 53 || B == 62
/-- the references: 0 null, n + 1 cell n -/
def rfF (c k : Nat) : Nat :=
  if isLB c then (match k with | 3 => c + 2 | 4 => c + 4 | 5 => c + 5 | 6 => c + 6 | 7 => c + 7 | 8 => c + 8 | 9 => c + 9 | _ => 0)
  else if isLB (c - 1) then (if k = 1 then c + 2 else 0)
  else match c, k with
    | 5, 0 => 7 | 5, 1 => 16 | 5, 2 => 25 | 5, 3 => 73 | 5, 4 => 72 | 5, 5 => 77 | 5, 6 => 81
    | 24, 2 => 26
    | 25, 0 => 27 | 25, 1 => 36 | 25, 2 => 45 | 25, 3 => 54 | 25, 4 => 63
    | 72, 0 => 74 | 72, 1 => 75 | 72, 2 => 76
    | 76, 8 => 78 | 76, 9 => 79 | 76, 10 => 80
    | 80, 3 => 82 | 80, 4 => 83 | 80, 5 => 84
    | 84, 0 => 86 | 84, 1 => 87 | 84, 2 => 88 | 84, 4 => 89 | 84, 5 => 90 | 84, 6 => 91 | 84, 7 => 92 | 84, 11 => 93 | 84, 14 => 94
    | _, _ => 0
abbrev SI : Type := Nat → Nat → Int32
abbrev SD : Type := Nat → Nat → UInt64
def HH (σ : SI) (δ : SD) : XH := (shF, rfF, σ, δ)
def KF (c ki n : Nat) : Prop := 5 ≤ c ∧ shF[c - 5]? = some (ki, n)
theorem KF.ck {c ki n : Nat} (h : KF c ki n) (σ : SI) (δ : SD) : CK (HH σ δ) c ki n := h
def LB (B : Nat) : Prop := B = 6 ∨ B = 15 ∨ B = 26 ∨ B = 35 ∨ B = 44 ∨ B = 53 ∨ B = 62
theorem ck_5 : KF 5 7 10 := ⟨by decide, rfl⟩
theorem ck_6 : KF 6 0 11 := ⟨by decide, rfl⟩
theorem ck_7 : KF 7 3 2 := ⟨by decide, rfl⟩
theorem ck_8 : KF 8 10 96 := ⟨by decide, rfl⟩
theorem ck_9 : KF 9 10 5 := ⟨by decide, rfl⟩
theorem ck_10 : KF 10 10 32 := ⟨by decide, rfl⟩
theorem ck_11 : KF 11 10 8 := ⟨by decide, rfl⟩
theorem ck_12 : KF 12 10 8 := ⟨by decide, rfl⟩
theorem ck_13 : KF 13 10 8 := ⟨by decide, rfl⟩
theorem ck_14 : KF 14 10 8 := ⟨by decide, rfl⟩
theorem ck_15 : KF 15 0 11 := ⟨by decide, rfl⟩
theorem ck_16 : KF 16 3 2 := ⟨by decide, rfl⟩
theorem ck_17 : KF 17 10 96 := ⟨by decide, rfl⟩
theorem ck_18 : KF 18 10 5 := ⟨by decide, rfl⟩
theorem ck_19 : KF 19 10 32 := ⟨by decide, rfl⟩
theorem ck_20 : KF 20 10 8 := ⟨by decide, rfl⟩
theorem ck_21 : KF 21 10 8 := ⟨by decide, rfl⟩
theorem ck_22 : KF 22 10 8 := ⟨by decide, rfl⟩
theorem ck_23 : KF 23 10 8 := ⟨by decide, rfl⟩
theorem ck_24 : KF 24 4 3 := ⟨by decide, rfl⟩
theorem ck_25 : KF 25 12 5 := ⟨by decide, rfl⟩
theorem ck_26 : KF 26 0 11 := ⟨by decide, rfl⟩
theorem ck_27 : KF 27 3 2 := ⟨by decide, rfl⟩
theorem ck_28 : KF 28 10 96 := ⟨by decide, rfl⟩
theorem ck_29 : KF 29 10 5 := ⟨by decide, rfl⟩
theorem ck_30 : KF 30 10 32 := ⟨by decide, rfl⟩
theorem ck_31 : KF 31 10 8 := ⟨by decide, rfl⟩
theorem ck_32 : KF 32 10 8 := ⟨by decide, rfl⟩
theorem ck_33 : KF 33 10 8 := ⟨by decide, rfl⟩
theorem ck_34 : KF 34 10 8 := ⟨by decide, rfl⟩
theorem ck_35 : KF 35 0 11 := ⟨by decide, rfl⟩
theorem ck_36 : KF 36 3 2 := ⟨by decide, rfl⟩
theorem ck_37 : KF 37 10 96 := ⟨by decide, rfl⟩
theorem ck_38 : KF 38 10 5 := ⟨by decide, rfl⟩
theorem ck_39 : KF 39 10 32 := ⟨by decide, rfl⟩
theorem ck_40 : KF 40 10 8 := ⟨by decide, rfl⟩
theorem ck_41 : KF 41 10 8 := ⟨by decide, rfl⟩
theorem ck_42 : KF 42 10 8 := ⟨by decide, rfl⟩
theorem ck_43 : KF 43 10 8 := ⟨by decide, rfl⟩
theorem ck_44 : KF 44 0 11 := ⟨by decide, rfl⟩
theorem ck_45 : KF 45 3 2 := ⟨by decide, rfl⟩
theorem ck_46 : KF 46 10 96 := ⟨by decide, rfl⟩
theorem ck_47 : KF 47 10 5 := ⟨by decide, rfl⟩
theorem ck_48 : KF 48 10 32 := ⟨by decide, rfl⟩
theorem ck_49 : KF 49 10 8 := ⟨by decide, rfl⟩
theorem ck_50 : KF 50 10 8 := ⟨by decide, rfl⟩
theorem ck_51 : KF 51 10 8 := ⟨by decide, rfl⟩
theorem ck_52 : KF 52 10 8 := ⟨by decide, rfl⟩
theorem ck_53 : KF 53 0 11 := ⟨by decide, rfl⟩
theorem ck_54 : KF 54 3 2 := ⟨by decide, rfl⟩
theorem ck_55 : KF 55 10 96 := ⟨by decide, rfl⟩
theorem ck_56 : KF 56 10 5 := ⟨by decide, rfl⟩
theorem ck_57 : KF 57 10 32 := ⟨by decide, rfl⟩
theorem ck_58 : KF 58 10 8 := ⟨by decide, rfl⟩
theorem ck_59 : KF 59 10 8 := ⟨by decide, rfl⟩
theorem ck_60 : KF 60 10 8 := ⟨by decide, rfl⟩
theorem ck_61 : KF 61 10 8 := ⟨by decide, rfl⟩
theorem ck_62 : KF 62 0 11 := ⟨by decide, rfl⟩
theorem ck_63 : KF 63 3 2 := ⟨by decide, rfl⟩
theorem ck_64 : KF 64 10 96 := ⟨by decide, rfl⟩
theorem ck_65 : KF 65 10 5 := ⟨by decide, rfl⟩
theorem ck_66 : KF 66 10 32 := ⟨by decide, rfl⟩
theorem ck_67 : KF 67 10 8 := ⟨by decide, rfl⟩
theorem ck_68 : KF 68 10 8 := ⟨by decide, rfl⟩
theorem ck_69 : KF 69 10 8 := ⟨by decide, rfl⟩
theorem ck_70 : KF 70 10 8 := ⟨by decide, rfl⟩
theorem ck_71 : KF 71 2 3 := ⟨by decide, rfl⟩
theorem ck_72 : KF 72 1 3 := ⟨by decide, rfl⟩
theorem ck_73 : KF 73 10 8 := ⟨by decide, rfl⟩
theorem ck_74 : KF 74 10 8 := ⟨by decide, rfl⟩
theorem ck_75 : KF 75 10 8 := ⟨by decide, rfl⟩
theorem ck_76 : KF 76 6 11 := ⟨by decide, rfl⟩
theorem ck_77 : KF 77 10 256 := ⟨by decide, rfl⟩
theorem ck_78 : KF 78 10 256 := ⟨by decide, rfl⟩
theorem ck_79 : KF 79 10 256 := ⟨by decide, rfl⟩
theorem ck_80 : KF 80 5 6 := ⟨by decide, rfl⟩
theorem ck_81 : KF 81 10 120 := ⟨by decide, rfl⟩
theorem ck_82 : KF 82 10 60 := ⟨by decide, rfl⟩
theorem ck_83 : KF 83 10 240 := ⟨by decide, rfl⟩
theorem ck_84 : KF 84 8 16 := ⟨by decide, rfl⟩
theorem ck_85 : KF 85 10 155 := ⟨by decide, rfl⟩
theorem ck_86 : KF 86 10 775 := ⟨by decide, rfl⟩
theorem ck_87 : KF 87 10 155 := ⟨by decide, rfl⟩
theorem ck_88 : KF 88 10 3 := ⟨by decide, rfl⟩
theorem ck_89 : KF 89 10 8 := ⟨by decide, rfl⟩
theorem ck_90 : KF 90 11 256 := ⟨by decide, rfl⟩
theorem ck_91 : KF 91 10 256 := ⟨by decide, rfl⟩
theorem ck_92 : KF 92 10 120 := ⟨by decide, rfl⟩
theorem ck_93 : KF 93 10 4 := ⟨by decide, rfl⟩
theorem ckL_0 {B : Nat} (h : LB B) : KF B 0 11 := by rcases h with rfl | rfl | rfl | rfl | rfl | rfl | rfl <;> exact ⟨by decide, rfl⟩
theorem ckL_1 {B : Nat} (h : LB B) : KF (B + 1) 3 2 := by rcases h with rfl | rfl | rfl | rfl | rfl | rfl | rfl <;> exact ⟨by decide, rfl⟩
theorem ckL_2 {B : Nat} (h : LB B) : KF (B + 2) 10 96 := by rcases h with rfl | rfl | rfl | rfl | rfl | rfl | rfl <;> exact ⟨by decide, rfl⟩
theorem ckL_3 {B : Nat} (h : LB B) : KF (B + 3) 10 5 := by rcases h with rfl | rfl | rfl | rfl | rfl | rfl | rfl <;> exact ⟨by decide, rfl⟩
theorem ckL_4 {B : Nat} (h : LB B) : KF (B + 4) 10 32 := by rcases h with rfl | rfl | rfl | rfl | rfl | rfl | rfl <;> exact ⟨by decide, rfl⟩
theorem ckL_5 {B : Nat} (h : LB B) : KF (B + 5) 10 8 := by rcases h with rfl | rfl | rfl | rfl | rfl | rfl | rfl <;> exact ⟨by decide, rfl⟩
theorem ckL_6 {B : Nat} (h : LB B) : KF (B + 6) 10 8 := by rcases h with rfl | rfl | rfl | rfl | rfl | rfl | rfl <;> exact ⟨by decide, rfl⟩
theorem ckL_7 {B : Nat} (h : LB B) : KF (B + 7) 10 8 := by rcases h with rfl | rfl | rfl | rfl | rfl | rfl | rfl <;> exact ⟨by decide, rfl⟩
theorem ckL_8 {B : Nat} (h : LB B) : KF (B + 8) 10 8 := by rcases h with rfl | rfl | rfl | rfl | rfl | rfl | rfl <;> exact ⟨by decide, rfl⟩
theorem rfL_3 {B : Nat} (h : LB B) : rfF B 3 = (B + 1) + 1 := by rcases h with rfl | rfl | rfl | rfl | rfl | rfl | rfl <;> rfl
theorem rfL_4 {B : Nat} (h : LB B) : rfF B 4 = (B + 3) + 1 := by rcases h with rfl | rfl | rfl | rfl | rfl | rfl | rfl <;> rfl
theorem rfL_5 {B : Nat} (h : LB B) : rfF B 5 = (B + 4) + 1 := by rcases h with rfl | rfl | rfl | rfl | rfl | rfl | rfl <;> rfl
theorem rfL_6 {B : Nat} (h : LB B) : rfF B 6 = (B + 5) + 1 := by rcases h with rfl | rfl | rfl | rfl | rfl | rfl | rfl <;> rfl
theorem rfL_7 {B : Nat} (h : LB B) : rfF B 7 = (B + 6) + 1 := by rcases h with rfl | rfl | rfl | rfl | rfl | rfl | rfl <;> rfl
theorem rfL_8 {B : Nat} (h : LB B) : rfF B 8 = (B + 7) + 1 := by rcases h with rfl | rfl | rfl | rfl | rfl | rfl | rfl <;> rfl
theorem rfL_9 {B : Nat} (h : LB B) : rfF B 9 = (B + 8) + 1 := by rcases h with rfl | rfl | rfl | rfl | rfl | rfl | rfl <;> rfl
theorem rfE_1 {B : Nat} (h : LB B) : rfF (B + 1) 1 = (B + 2) + 1 := by rcases h with rfl | rfl | rfl | rfl | rfl | rfl | rfl <;> rfl
theorem rf_5_0 : rfF 5 0 = 6 + 1 := rfl
theorem rf_5_1 : rfF 5 1 = 15 + 1 := rfl
theorem rf_5_2 : rfF 5 2 = 24 + 1 := rfl
theorem rf_5_3 : rfF 5 3 = 72 + 1 := rfl
theorem rf_5_4 : rfF 5 4 = 71 + 1 := rfl
theorem rf_5_5 : rfF 5 5 = 76 + 1 := rfl
theorem rf_5_6 : rfF 5 6 = 80 + 1 := rfl
theorem rf_24_2 : rfF 24 2 = 25 + 1 := rfl
theorem rf_72_0 : rfF 72 0 = 73 + 1 := rfl
theorem rf_72_1 : rfF 72 1 = 74 + 1 := rfl
theorem rf_72_2 : rfF 72 2 = 75 + 1 := rfl
theorem rf_76_8 : rfF 76 8 = 77 + 1 := rfl
theorem rf_76_9 : rfF 76 9 = 78 + 1 := rfl
theorem rf_76_10 : rfF 76 10 = 79 + 1 := rfl
theorem rf_80_3 : rfF 80 3 = 81 + 1 := rfl
theorem rf_80_4 : rfF 80 4 = 82 + 1 := rfl
theorem rf_80_5 : rfF 80 5 = 83 + 1 := rfl
theorem rf_84_0 : rfF 84 0 = 85 + 1 := rfl
theorem rf_84_1 : rfF 84 1 = 86 + 1 := rfl
theorem rf_84_2 : rfF 84 2 = 87 + 1 := rfl
theorem rf_84_4 : rfF 84 4 = 88 + 1 := rfl
theorem rf_84_5 : rfF 84 5 = 89 + 1 := rfl
theorem rf_84_6 : rfF 84 6 = 90 + 1 := rfl
theorem rf_84_7 : rfF 84 7 = 91 + 1 := rfl
theorem rf_84_11 : rfF 84 11 = 92 + 1 := rfl
theorem rf_84_14 : rfF 84 14 = 93 + 1 := rfl
theorem rf_25_0 : rfF 25 0 = 26 + 1 := rfl
theorem rf_25_1 : rfF 25 1 = 35 + 1 := rfl
theorem rf_25_2 : rfF 25 2 = 44 + 1 := rfl
theorem rf_25_3 : rfF 25 3 = 53 + 1 := rfl
theorem rf_25_4 : rfF 25 4 = 62 + 1 := rfl
theorem LB_6 : LB 6 := Or.inl rfl
theorem LB_15 : LB 15 := Or.inr (Or.inl rfl)
theorem ty_0_0 : xTy 0 0 = 0 := by decide +kernel
theorem fi_0_0 : FI 0 0 := fun q h => by cases h; exact ⟨rfl, by decide +kernel⟩
theorem ty_0_1 : xTy 0 1 = 0 := by decide +kernel
theorem fi_0_1 : FI 0 1 := fun q h => by cases h; exact ⟨rfl, by decide +kernel⟩
theorem ty_0_2 : xTy 0 2 = 0 := by decide +kernel
theorem fi_0_2 : FI 0 2 := fun q h => by cases h; exact ⟨rfl, by decide +kernel⟩
theorem ty_0_3 : xTy 0 3 = 2 := by decide +kernel
theorem ty_0_4 : xTy 0 4 = 2 := by decide +kernel
theorem ty_0_5 : xTy 0 5 = 2 := by decide +kernel
theorem ty_0_6 : xTy 0 6 = 2 := by decide +kernel
theorem ty_0_7 : xTy 0 7 = 2 := by decide +kernel
theorem ty_0_8 : xTy 0 8 = 2 := by decide +kernel
theorem ty_0_9 : xTy 0 9 = 2 := by decide +kernel
theorem ty_0_10 : xTy 0 10 = 0 := by decide +kernel
theorem fi_0_10 : FI 0 10 := fun q h => by cases h; exact ⟨rfl, by decide +kernel⟩
theorem ty_1_0 : xTy 1 0 = 2 := by decide +kernel
theorem ty_1_1 : xTy 1 1 = 2 := by decide +kernel
theorem ty_1_2 : xTy 1 2 = 2 := by decide +kernel
theorem ty_2_0 : xTy 2 0 = 1 := by decide +kernel
theorem fd_2_0 : FD 2 0 := fun q h => by cases h; exact ⟨rfl, by decide +kernel⟩
theorem ty_2_1 : xTy 2 1 = 1 := by decide +kernel
theorem fd_2_1 : FD 2 1 := fun q h => by cases h; exact ⟨rfl, by decide +kernel⟩
theorem ty_2_2 : xTy 2 2 = 1 := by decide +kernel
theorem fd_2_2 : FD 2 2 := fun q h => by cases h; exact ⟨rfl, by decide +kernel⟩
theorem ty_3_0 : xTy 3 0 = 0 := by decide +kernel
theorem fi_3_0 : FI 3 0 := fun q h => by cases h; exact ⟨rfl, by decide +kernel⟩
theorem ty_3_1 : xTy 3 1 = 2 := by decide +kernel
theorem ty_4_0 : xTy 4 0 = 0 := by decide +kernel
theorem fi_4_0 : FI 4 0 := fun q h => by cases h; exact ⟨rfl, by decide +kernel⟩
theorem ty_4_1 : xTy 4 1 = 0 := by decide +kernel
theorem fi_4_1 : FI 4 1 := fun q h => by cases h; exact ⟨rfl, by decide +kernel⟩
theorem ty_4_2 : xTy 4 2 = 2 := by decide +kernel
theorem ty_5_0 : xTy 5 0 = 0 := by decide +kernel
theorem fi_5_0 : FI 5 0 := fun q h => by cases h; exact ⟨rfl, by decide +kernel⟩
theorem ty_5_1 : xTy 5 1 = 0 := by decide +kernel
theorem fi_5_1 : FI 5 1 := fun q h => by cases h; exact ⟨rfl, by decide +kernel⟩
theorem ty_5_2 : xTy 5 2 = 0 := by decide +kernel
theorem fi_5_2 : FI 5 2 := fun q h => by cases h; exact ⟨rfl, by decide +kernel⟩
theorem ty_5_3 : xTy 5 3 = 2 := by decide +kernel
theorem ty_5_4 : xTy 5 4 = 2 := by decide +kernel
theorem ty_5_5 : xTy 5 5 = 2 := by decide +kernel
theorem ty_6_0 : xTy 6 0 = 0 := by decide +kernel
theorem fi_6_0 : FI 6 0 := fun q h => by cases h; exact ⟨rfl, by decide +kernel⟩
theorem ty_6_1 : xTy 6 1 = 0 := by decide +kernel
theorem fi_6_1 : FI 6 1 := fun q h => by cases h; exact ⟨rfl, by decide +kernel⟩
theorem ty_6_2 : xTy 6 2 = 0 := by decide +kernel
theorem fi_6_2 : FI 6 2 := fun q h => by cases h; exact ⟨rfl, by decide +kernel⟩
theorem ty_6_3 : xTy 6 3 = 0 := by decide +kernel
theorem fi_6_3 : FI 6 3 := fun q h => by cases h; exact ⟨rfl, by decide +kernel⟩
theorem ty_6_4 : xTy 6 4 = 0 := by decide +kernel
theorem fi_6_4 : FI 6 4 := fun q h => by cases h; exact ⟨rfl, by decide +kernel⟩
theorem ty_6_5 : xTy 6 5 = 0 := by decide +kernel
theorem fi_6_5 : FI 6 5 := fun q h => by cases h; exact ⟨rfl, by decide +kernel⟩
theorem ty_6_6 : xTy 6 6 = 0 := by decide +kernel
theorem fi_6_6 : FI 6 6 := fun q h => by cases h; exact ⟨rfl, by decide +kernel⟩
theorem ty_6_7 : xTy 6 7 = 0 := by decide +kernel
theorem fi_6_7 : FI 6 7 := fun q h => by cases h; exact ⟨rfl, by decide +kernel⟩
theorem ty_6_8 : xTy 6 8 = 2 := by decide +kernel
theorem ty_6_9 : xTy 6 9 = 2 := by decide +kernel
theorem ty_6_10 : xTy 6 10 = 2 := by decide +kernel
theorem ty_7_0 : xTy 7 0 = 2 := by decide +kernel
theorem ty_7_1 : xTy 7 1 = 2 := by decide +kernel
theorem ty_7_2 : xTy 7 2 = 2 := by decide +kernel
theorem ty_7_3 : xTy 7 3 = 2 := by decide +kernel
theorem ty_7_4 : xTy 7 4 = 2 := by decide +kernel
theorem ty_7_5 : xTy 7 5 = 2 := by decide +kernel
theorem ty_7_6 : xTy 7 6 = 2 := by decide +kernel
theorem ty_7_7 : xTy 7 7 = 0 := by decide +kernel
theorem fi_7_7 : FI 7 7 := fun q h => by cases h; exact ⟨rfl, by decide +kernel⟩
theorem ty_7_8 : xTy 7 8 = 0 := by decide +kernel
theorem fi_7_8 : FI 7 8 := fun q h => by cases h; exact ⟨rfl, by decide +kernel⟩
theorem ty_7_9 : xTy 7 9 = 0 := by decide +kernel
theorem fi_7_9 : FI 7 9 := fun q h => by cases h; exact ⟨rfl, by decide +kernel⟩
theorem ty_8_0 : xTy 8 0 = 2 := by decide +kernel
theorem ty_8_1 : xTy 8 1 = 2 := by decide +kernel
theorem ty_8_2 : xTy 8 2 = 2 := by decide +kernel
theorem ty_8_3 : xTy 8 3 = 0 := by decide +kernel
theorem fi_8_3 : FI 8 3 := fun q h => by cases h; exact ⟨rfl, by decide +kernel⟩
theorem ty_8_4 : xTy 8 4 = 2 := by decide +kernel
theorem ty_8_5 : xTy 8 5 = 2 := by decide +kernel
theorem ty_8_6 : xTy 8 6 = 2 := by decide +kernel
theorem ty_8_7 : xTy 8 7 = 2 := by decide +kernel
theorem ty_8_8 : xTy 8 8 = 0 := by decide +kernel
theorem fi_8_8 : FI 8 8 := fun q h => by cases h; exact ⟨rfl, by decide +kernel⟩
theorem ty_8_9 : xTy 8 9 = 0 := by decide +kernel
theorem fi_8_9 : FI 8 9 := fun q h => by cases h; exact ⟨rfl, by decide +kernel⟩
theorem ty_8_10 : xTy 8 10 = 0 := by decide +kernel
theorem fi_8_10 : FI 8 10 := fun q h => by cases h; exact ⟨rfl, by decide +kernel⟩
theorem ty_8_11 : xTy 8 11 = 2 := by decide +kernel
theorem ty_8_12 : xTy 8 12 = 0 := by decide +kernel
theorem fi_8_12 : FI 8 12 := fun q h => by cases h; exact ⟨rfl, by decide +kernel⟩
theorem ty_8_13 : xTy 8 13 = 0 := by decide +kernel
theorem fi_8_13 : FI 8 13 := fun q h => by cases h; exact ⟨rfl, by decide +kernel⟩
theorem ty_8_14 : xTy 8 14 = 2 := by decide +kernel
theorem ty_8_15 : xTy 8 15 = 0 := by decide +kernel
theorem fi_8_15 : FI 8 15 := fun q h => by cases h; exact ⟨rfl, by decide +kernel⟩
theorem pn_RX0 {n d : String} : plainFor ⟨RX0, n, d⟩ = true := plainFor_of_name (show plainName RX0 = true by decide +kernel)
theorem pn_RX1 {n d : String} : plainFor ⟨RX1, n, d⟩ = true := plainFor_of_name (show plainName RX1 = true by decide +kernel)
theorem pn_RX2 {n d : String} : plainFor ⟨RX2, n, d⟩ = true := plainFor_of_name (show plainName RX2 = true by decide +kernel)
theorem pn_RX3 {n d : String} : plainFor ⟨RX3, n, d⟩ = true := plainFor_of_name (show plainName RX3 = true by decide +kernel)
theorem pn_RX4 {n d : String} : plainFor ⟨RX4, n, d⟩ = true := plainFor_of_name (show plainName RX4 = true by decide +kernel)
theorem pn_RX5 {n d : String} : plainFor ⟨RX5, n, d⟩ = true := plainFor_of_name (show plainName RX5 = true by decide +kernel)
theorem pn_RX6 {n d : String} : plainFor ⟨RX6, n, d⟩ = true := plainFor_of_name (show plainName RX6 = true by decide +kernel)
theorem pn_RX7 {n d : String} : plainFor ⟨RX7, n, d⟩ = true := plainFor_of_name (show plainName RX7 = true by decide +kernel)
theorem pn_RX8 {n d : String} : plainFor ⟨RX8, n, d⟩ = true := plainFor_of_name (show plainName RX8 = true by decide +kernel)
theorem pn_RX9 {n d : String} : plainFor ⟨RX9, n, d⟩ = true := plainFor_of_name (show plainName RX9 = true by decide +kernel)
theorem pn_RL {n d : String} : plainFor ⟨RL, n, d⟩ = true := plainFor_of_name (show plainName RL = true by decide +kernel)
theorem pn_KJ_isNaND : plainFor (mY KJ_isNaND) = true := by decide +kernel
theorem pn_KJ_doubleToLongBits : plainFor (mY KJ_doubleToLongBits) = true := by decide +kernel
theorem pn_KJ_isNaNF : plainFor (mY KJ_isNaNF) = true := by decide +kernel
theorem pn_KJ_floatToIntBits : plainFor (mY KJ_floatToIntBits) = true := by decide +kernel
theorem pn_KJ_bitCount : plainFor (mY KJ_bitCount) = true := by decide +kernel
theorem pn_KJ_fill : plainFor (mY KJ_fill) = true := by decide +kernel
