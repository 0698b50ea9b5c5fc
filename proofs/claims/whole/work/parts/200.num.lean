/-! numbers of the pure half -/
theorem fa_lt (a b : Int32) : a < b ↔ a.toInt < b.toInt := Int32.lt_iff_toInt_lt
theorem fa_le (a b : Int32) : a ≤ b ↔ a.toInt ≤ b.toInt := Int32.le_iff_toInt_le
theorem fa_eq (a b : Int32) : a = b ↔ a.toInt = b.toInt := Int32.toInt_inj.symm
theorem fa_lt64 (a b : Int64) : a < b ↔ a.toInt < b.toInt := Int64.lt_iff_toInt_lt
theorem fa_le64 (a b : Int64) : a ≤ b ↔ a.toInt ≤ b.toInt := Int64.le_iff_toInt_le
theorem fa_eq64 (a b : Int64) : a = b ↔ a.toInt = b.toInt := Int64.toInt_inj.symm
theorem fa_wide_lt (a b : Int32) : a.toInt64 < b.toInt64 ↔ a < b := by rw [fa_lt64, fa_lt, Int32.toInt_toInt64, Int32.toInt_toInt64]
theorem fa_wide_le (a b : Int32) : a.toInt64 ≤ b.toInt64 ↔ a ≤ b := by rw [fa_le64, fa_le, Int32.toInt_toInt64, Int32.toInt_toInt64]
theorem fa_wide_eq (a b : Int32) : a.toInt64 = b.toInt64 ↔ a = b := by rw [fa_eq64, fa_eq, Int32.toInt_toInt64, Int32.toInt_toInt64]
theorem fb_rng (x : Int32) : -2147483648 ≤ x.toInt ∧ x.toInt < 2147483648 := by
  have h1 := Int32.le_toInt x
  have h2 := Int32.toInt_lt x
  omega
theorem fb_bmod {z : Int} (h1 : -2147483648 ≤ z) (h2 : z < 2147483648) : z.bmod (2 ^ 32) = z := by
  rw [Int.bmod_eq_of_le (by omega) (by omega)]
theorem fb_addI {x y : Int32} (h1 : -2147483648 ≤ x.toInt + y.toInt) (h2 : x.toInt + y.toInt < 2147483648) : (x + y).toInt = x.toInt + y.toInt := by
  rw [Int32.toInt_add, fb_bmod h1 h2]
theorem fb_subI {x y : Int32} (h1 : -2147483648 ≤ x.toInt - y.toInt) (h2 : x.toInt - y.toInt < 2147483648) : (x - y).toInt = x.toInt - y.toInt := by
  rw [Int32.toInt_sub, fb_bmod h1 h2]
theorem fb_negI {x : Int32} (h : x.toInt ≠ -2147483648) : (-x).toInt = -x.toInt := by
  have := fb_rng x
  rw [Int32.toInt_neg, fb_bmod (by omega) (by omega)]
theorem fb_bmodL {z : Int} (h1 : -9223372036854775808 ≤ z) (h2 : z < 9223372036854775808) : z.bmod (2 ^ 64) = z := by
  rw [Int.bmod_eq_of_le (by omega) (by omega)]
theorem fb_addL {x y : Int64} (h1 : -9223372036854775808 ≤ x.toInt + y.toInt) (h2 : x.toInt + y.toInt < 9223372036854775808) : (x + y).toInt = x.toInt + y.toInt := by
  rw [Int64.toInt_add, fb_bmodL h1 h2]
theorem fb_subL {x y : Int64} (h1 : -9223372036854775808 ≤ x.toInt - y.toInt) (h2 : x.toInt - y.toInt < 9223372036854775808) : (x - y).toInt = x.toInt - y.toInt := by
  rw [Int64.toInt_sub, fb_bmodL h1 h2]
theorem fb_mulL {x y : Int64} (h1 : -9223372036854775808 ≤ x.toInt * y.toInt) (h2 : x.toInt * y.toInt < 9223372036854775808) : (x * y).toInt = x.toInt * y.toInt := by
  rw [Int64.toInt_mul, fb_bmodL h1 h2]
theorem kl_0 : (0 : Int32) = nI 0 := rfl
theorem kl_1 : (1 : Int32) = nI 1 := rfl
theorem kl_2 : (2 : Int32) = nI 2 := rfl
theorem kl_3 : (3 : Int32) = nI 3 := rfl
theorem kl_4 : (4 : Int32) = nI 4 := rfl
theorem kl_5 : (5 : Int32) = nI 5 := rfl
theorem kl_6 : (6 : Int32) = nI 6 := rfl
theorem kl_7 : (7 : Int32) = nI 7 := rfl
theorem kl_8 : (8 : Int32) = nI 8 := rfl
theorem kl_9 : (9 : Int32) = nI 9 := rfl
theorem kl_10 : (10 : Int32) = nI 10 := rfl
theorem kl_11 : (11 : Int32) = nI 11 := rfl
theorem kl_12 : (12 : Int32) = nI 12 := rfl
theorem kl_13 : (13 : Int32) = nI 13 := rfl
theorem kl_14 : (14 : Int32) = nI 14 := rfl
theorem kl_15 : (15 : Int32) = nI 15 := rfl
theorem kl_16 : (16 : Int32) = nI 16 := rfl
theorem kl_17 : (17 : Int32) = nI 17 := rfl
theorem kl_18 : (18 : Int32) = nI 18 := rfl
theorem kl_19 : (19 : Int32) = nI 19 := rfl
theorem kl_20 : (20 : Int32) = nI 20 := rfl
theorem kl_21 : (21 : Int32) = nI 21 := rfl
theorem kl_22 : (22 : Int32) = nI 22 := rfl
theorem kl_23 : (23 : Int32) = nI 23 := rfl
theorem kl_32 : (32 : Int32) = nI 32 := rfl
theorem kl_40 : (40 : Int32) = nI 40 := rfl
theorem kl_48 : (48 : Int32) = nI 48 := rfl
theorem kl_50 : (50 : Int32) = nI 50 := rfl
theorem kl_53 : (53 : Int32) = nI 53 := rfl
theorem kl_56 : (56 : Int32) = nI 56 := rfl
theorem kl_57 : (57 : Int32) = nI 57 := rfl
theorem kl_60 : (60 : Int32) = nI 60 := rfl
theorem kl_61 : (61 : Int32) = nI 61 := rfl
theorem kl_66 : (66 : Int32) = nI 66 := rfl
theorem kl_97 : (97 : Int32) = nI 97 := rfl
theorem kl_99 : (99 : Int32) = nI 99 := rfl
theorem kl_100 : (100 : Int32) = nI 100 := rfl
theorem kl_120 : (120 : Int32) = nI 120 := rfl
theorem kl_122 : (122 : Int32) = nI 122 := rfl
theorem kl_160 : (160 : Int32) = nI 160 := rfl
theorem kl_200 : (200 : Int32) = nI 200 := rfl
theorem kl_255 : (255 : Int32) = nI 255 := rfl
theorem kl_300 : (300 : Int32) = nI 300 := rfl
theorem kl_500 : (500 : Int32) = nI 500 := rfl
theorem kl_600 : (600 : Int32) = nI 600 := rfl
theorem kl_601 : (601 : Int32) = nI 601 := rfl
theorem kl_999 : (999 : Int32) = nI 999 := rfl
theorem kl_1000 : (1000 : Int32) = nI 1000 := rfl
theorem kl_2048 : (2048 : Int32) = nI 2048 := rfl
theorem kl_9999 : (9999 : Int32) = nI 9999 := rfl
theorem lg_cases (x y : Int64) : (x < y ∧ lg_cmp x y = -1) ∨ (x = y ∧ lg_cmp x y = 0) ∨ (y < x ∧ lg_cmp x y = 1) := by
  unfold lg_cmp
  have key : x.toInt < y.toInt ∨ x.toInt = y.toInt ∨ y.toInt < x.toInt := by omega
  rcases key with h | h | h
  · refine Or.inl ⟨Int64.lt_iff_toInt_lt.mpr h, ?_⟩
    rw [if_neg (fun q => by have := Int64.lt_iff_toInt_lt.mp q; omega), if_neg (fun q => by rw [q] at h; omega)]
  · have : x = y := Int64.toInt_inj.mp h
    subst this
    refine Or.inr (Or.inl ⟨rfl, ?_⟩)
    rw [if_neg (fun q => by have := Int64.lt_iff_toInt_lt.mp q; omega), if_pos rfl]
  · refine Or.inr (Or.inr ⟨Int64.lt_iff_toInt_lt.mpr h, ?_⟩)
    rw [if_pos (Int64.lt_iff_toInt_lt.mpr h)]
theorem lg_lt (x y : Int64) : lg_cmp x y < 0 ↔ x < y := by
  rcases lg_cases x y with ⟨h, e⟩ | ⟨h, e⟩ | ⟨h, e⟩
  · rw [e]; exact ⟨fun _ => h, fun _ => by decide⟩
  · rw [e]; subst h; exact ⟨fun q => absurd q (by decide), fun q => by rw [fa_lt64] at q; omega⟩
  · rw [e]; exact ⟨fun q => absurd q (by decide), fun q => by rw [fa_lt64] at q h; omega⟩
theorem lg_gt (x y : Int64) : 0 < lg_cmp x y ↔ y < x := by
  rcases lg_cases x y with ⟨h, e⟩ | ⟨h, e⟩ | ⟨h, e⟩
  · rw [e]; exact ⟨fun q => absurd q (by decide), fun q => by rw [fa_lt64] at q h; omega⟩
  · rw [e]; subst h; exact ⟨fun q => absurd q (by decide), fun q => by rw [fa_lt64] at q; omega⟩
  · rw [e]; exact ⟨fun _ => h, fun _ => by decide⟩
theorem lg_le (x y : Int64) : lg_cmp x y ≤ 0 ↔ x ≤ y := by
  rcases lg_cases x y with ⟨h, e⟩ | ⟨h, e⟩ | ⟨h, e⟩
  · rw [e]; exact ⟨fun _ => by rw [fa_lt64] at h; rw [fa_le64]; omega, fun _ => by decide⟩
  · rw [e]; subst h; exact ⟨fun _ => by rw [fa_le64]; omega, fun _ => by decide⟩
  · rw [e]; exact ⟨fun q => absurd q (by decide), fun q => by rw [fa_lt64] at h; rw [fa_le64] at q; omega⟩
theorem lg_ge (x y : Int64) : 0 ≤ lg_cmp x y ↔ y ≤ x := by
  rcases lg_cases x y with ⟨h, e⟩ | ⟨h, e⟩ | ⟨h, e⟩
  · rw [e]; exact ⟨fun q => absurd q (by decide), fun q => by rw [fa_lt64] at h; rw [fa_le64] at q; omega⟩
  · rw [e]; subst h; exact ⟨fun _ => by rw [fa_le64]; omega, fun _ => by decide⟩
  · rw [e]; exact ⟨fun _ => by rw [fa_lt64] at h; rw [fa_le64]; omega, fun _ => by decide⟩
theorem lg_eq (x y : Int64) : lg_cmp x y = 0 ↔ x = y := by
  rcases lg_cases x y with ⟨h, e⟩ | ⟨h, e⟩ | ⟨h, e⟩
  · rw [e]; exact ⟨fun q => absurd q (by decide), fun q => by subst q; rw [fa_lt64] at h; omega⟩
  · rw [e]; exact ⟨fun _ => h, fun _ => rfl⟩
  · rw [e]; exact ⟨fun q => absurd q (by decide), fun q => by subst q; rw [fa_lt64] at h; omega⟩
/-- binds and guards on values -/
theorem nm_s {α β : Type} (x : α) (k : α → β) : nm x k = k x := Eq.trans (Eq.refl _) (Eq.refl _)
theorem bd1_s {α β : Type} (x : α) (k : α → Option β) : bd1 (some x) k = k x := Eq.trans (Eq.refl _) (Eq.refl _)
theorem bd2_s {α γ β : Type} (x : α) (y : γ) (k : α → γ → Option β) : bd2 (some (x, y)) k = k x y := Eq.trans (Eq.refl _) (Eq.refl _)
theorem bd3_s {α γ δ β : Type} (x : α) (y : γ) (z : δ) (k : α → γ → δ → Option β) : bd3 (some (x, y, z)) k = k x y z := Eq.trans (Eq.refl _) (Eq.refl _)
theorem gd_n {α : Type} {c N : Nat} {x : Option α} (h : c < N) (hN : N < 2 ^ 31) : gd (inb (nI c) N) x = x := if_pos (nI_in h hN)
theorem gd_ne {α : Type} {c : Nat} {x : Option α} (h : 0 < c) (hN : c < 2 ^ 31) : gd (¬ nI c = 0) x = x := if_pos (nI_ne0 h hN)
theorem up_r (μ : Mem) (k i : Nat) (v : Int32) (k' i' : Nat) : up μ k i v k' i' = if k' = k ∧ i' = i then v else μ k' i' := rfl
theorem upL_r (ν : Lem) (k i : Nat) (v : Int64) (k' i' : Nat) : upL ν k i v k' i' = if k' = k ∧ i' = i then v else ν k' i' := rfl
theorem jrem_n {a d : Nat} (ha : a < 2 ^ 31) (h0 : 0 < d) (hd : d < 2 ^ 31) : jrem (nI a) (nI d) = nI (a % d) := pk_rem ha h0 hd
theorem jmax_n {a b : Nat} (ha : a < 2 ^ 31) (hb : b < 2 ^ 31) : jmax (nI a) (nI b) = nI (max a b) := by
  unfold jmax
  by_cases h : a < b
  · rw [if_pos (nI_lt h hb), Nat.max_eq_right (Nat.le_of_lt h)]
  · rw [if_neg (nI_nlt (Nat.le_of_not_lt h) ha), Nat.max_eq_left (Nat.le_of_not_lt h)]
theorem nI_nn {a : Nat} (h : a < 2 ^ 31) : (nI a < nI 0) = False := eq_false (nI_pos h)
theorem nI_nn2 {a : Nat} (h : a < 2 ^ 31) : (nI 0 ≤ nI a) = True := eq_true (nI_pos' h)
theorem neg_toInt {a : Nat} (h : a < 2 ^ 31) : (-nI a).toInt = -(a : Int) := by
  rw [fb_negI (by rw [nI_toInt h]; omega), nI_toInt h]
theorem mI_le {a b : Nat} (ha : a < 2 ^ 31) (hb : b < 2 ^ 31) : (nI a ≤ -nI b) = (a = 0 ∧ b = 0) := by
  rw [fa_le, nI_toInt ha, neg_toInt hb]
  exact propext ⟨fun h => by omega, fun h => by omega⟩
theorem mI_ne {a b : Nat} (ha : a < 2 ^ 31) (hb : b < 2 ^ 31) : (nI a = -nI b) = (a = 0 ∧ b = 0) := by
  rw [fa_eq, nI_toInt ha, neg_toInt hb]
  exact propext ⟨fun h => by omega, fun h => by omega⟩
theorem mI_ne2 {a b : Nat} (ha : a < 2 ^ 31) (hb : b < 2 ^ 31) : (-nI b = nI a) = (a = 0 ∧ b = 0) := by
  rw [fa_eq, nI_toInt ha, neg_toInt hb]
  exact propext ⟨fun h => by omega, fun h => by omega⟩
theorem mI_ne3 {a b : Nat} (ha : a < 2 ^ 31) (hb : b < 2 ^ 31) : (-nI a = -nI b) = (a = b) := by
  rw [fa_eq, neg_toInt ha, neg_toInt hb]
  exact propext ⟨fun h => by omega, fun h => by omega⟩
theorem mI_ne4 {a b : Nat} (ha : a < 2 ^ 31) (hb : b < 2 ^ 31) : (nI b < -nI a) = False := by
  rw [fa_lt, neg_toInt ha, nI_toInt hb]
  exact propext ⟨fun h => by omega, fun h => h.elim⟩
theorem ne0 : (nI 1 = nI 0) = False := eq_false (by decide)
theorem pk_m1' (n : Nat) : nI (n + 1) + -nI 1 = nI n := pk_m1 n
theorem pos0 {a : Nat} (h : ¬ 0 < a) : a = 0 := by omega
/-! a window of ints, read through longs -/
theorem in_w (x a b : Int32) : f6_in x.toInt64 a.toInt64 b.toInt64 = if x < a then 0 else if b < x then 0 else 1 := by
  unfold f6_in
  by_cases h1 : x < a
  · rw [if_pos h1, if_pos ((lg_lt _ _).mpr ((fa_wide_lt x a).mpr h1))]
  · rw [if_neg h1, if_neg (fun q => h1 ((fa_wide_lt x a).mp ((lg_lt _ _).mp q)))]
    by_cases h2 : b < x
    · rw [if_pos h2, if_pos ((lg_gt _ _).mpr ((fa_wide_lt b x).mpr h2))]
    · rw [if_neg h2, if_neg (fun q => h2 ((fa_wide_lt b x).mp ((lg_gt _ _).mp q)))]
theorem in_c {x a b : Int32} {A B : Int64} (hA : a.toInt64 = A) (hB : b.toInt64 = B) : f6_in x.toInt64 A B = if x < a then 0 else if b < x then 0 else 1 := by
  subst hA; subst hB
  exact in_w x a b
/-- an int is below 0, or n at least, or one of 0 .. n less 1 -/
theorem ix3 (x : Int32) (n : Nat) (hn : n < 2 ^ 31) : x < 0 ∨ nI n ≤ x ∨ ∃ j : Nat, j < n ∧ x = nI j := pk_ix x hn
theorem win (x : Int32) {n : Nat} (hn : n + 1 < 2 ^ 31) : (if x < 0 then (0 : Int32) else if nI n < x then 0 else 1) = 0 ∨ ∃ j, j ≤ n ∧ x = nI j ∧ (if x < 0 then (0 : Int32) else if nI n < x then 0 else 1) = 1 := by
  rcases ix3 x (n + 1) hn with h | h | ⟨j, hj, rfl⟩
  · left; rw [if_pos h]
  · left
    by_cases h0 : x < 0
    · rw [if_pos h0]
    · rw [if_neg h0, if_pos (by rw [fa_le, nI_toInt hn] at h; rw [fa_lt, nI_toInt (by omega)]; omega)]
  · right; exact ⟨j, by omega, rfl, by rw [if_neg (nI_pos (by omega)), if_neg (nI_nlt (by omega) (by omega))]⟩
theorem minute_eq (x : Int32) : f6_isMinute x = f5_isMinute x := in_c (a := 0) (b := 600) (by decide) (by decide)
theorem minute3 (x : Int32) : (f5_isMinute x = 0 ∧ f6_isMinute x = 0) ∨ ∃ m, m ≤ 600 ∧ x = nI m ∧ f5_isMinute x = 1 ∧ f6_isMinute x = 1 := by
  rw [minute_eq]
  rcases win x (n := 600) (by decide) with h | ⟨j, hj, e, h⟩
  · exact Or.inl ⟨h, h⟩
  · exact Or.inr ⟨j, hj, e, h, h⟩
theorem isMin_n {m : Nat} (h : m ≤ 600) : f5_isMinute (nI m) = nI 1 := by
  unfold f5_isMinute
  rw [if_neg (nI_pos (by omega)), if_neg (show ¬ (600 : Int32) < nI m from nI_nlt (a := 600) (by omega) (by omega))]
  rfl
theorem sheet_eq (x : Int32) : f6_isSheet x = f5_isSheet x := by
  unfold f5_isSheet f6_isSheet
  rw [in_c (a := 0) (b := 3) (by decide) (by decide)]
  by_cases h : x < 0
  · rw [if_pos h, if_pos h]
  · rw [if_neg h, if_neg h]
    by_cases h2 : (3 : Int32) < x
    · rw [if_pos h2, if_pos]
      rw [fa_lt] at h2; rw [fa_le]
      have e3 : (3 : Int32).toInt = 3 := by decide
      have e4 : (4 : Int32).toInt = 4 := by decide
      omega
    · rw [if_neg h2, if_neg]
      rw [fa_lt] at h2; rw [fa_le]
      have e3 : (3 : Int32).toInt = 3 := by decide
      have e4 : (4 : Int32).toInt = 4 := by decide
      omega
theorem sheet3 (x : Int32) : (f5_isSheet x = 0 ∧ f6_isSheet x = 0) ∨ ∃ q, q < 4 ∧ x = nI q ∧ f5_isSheet x = 1 ∧ f6_isSheet x = 1 := by
  rw [sheet_eq]
  unfold f5_isSheet
  rcases ix3 x 4 (by decide) with h | h | ⟨j, hj, rfl⟩
  · left; rw [if_pos h]; exact ⟨rfl, rfl⟩
  · left
    by_cases h0 : x < 0
    · rw [if_pos h0]; exact ⟨rfl, rfl⟩
    · rw [if_neg h0, if_pos (show (4 : Int32) ≤ x from h)]; exact ⟨rfl, rfl⟩
  · right
    refine ⟨j, hj, rfl, ?_⟩
    rw [if_neg (nI_pos (by omega)), if_neg (show ¬ (4 : Int32) ≤ nI j from nI_ge (b := 4) hj (by omega))]
    exact ⟨rfl, rfl⟩
theorem opp_eq (x y : Int64) : f6_areUnlike x y = f5_areOpposite x y := rfl
/-- distance -/
def dst (a b : Nat) : Nat := (a - b) + (b - a)
theorem jabs_d {a b : Nat} (ha : a < 2 ^ 30) (hb : b < 2 ^ 30) : jabs (nI a - nI b) = nI (dst a b) := by
  unfold jabs dst
  have e := pk_sub_toInt ha hb
  by_cases h : b ≤ a
  · rw [if_pos (by rw [fa_le, e]; have : (0 : Int32).toInt = 0 := by decide
                   omega), pk_sub h]
    exact congrArg nI (by omega)
  · rw [if_neg (by rw [fa_le, e]; have : (0 : Int32).toInt = 0 := by decide
                   omega)]
    apply Int32.toInt_inj.mp
    have e0 : (0 : Int32).toInt = 0 := by decide
    rw [fb_subI (by rw [e, e0]; omega) (by rw [e, e0]; omega), e, e0, nI_toInt (by omega)]
    omega
theorem plain_d {a b : Nat} (ha : a < 2 ^ 30) (hb : b < 2 ^ 30) : f6_plain ((nI a - nI b).toInt64) = lN (dst a b) := by
  have e := pk_sub_toInt ha hb
  have e2 : ((nI a - nI b).toInt64).toInt = (a : Int) - b := by rw [Int32.toInt_toInt64, e]
  have e0 : (0 : Int64).toInt = 0 := by decide
  unfold f6_plain
  apply Int64.toInt_inj.mp
  rw [lN_toInt (by unfold dst; omega)]
  by_cases h : b ≤ a
  · rw [if_pos ((lg_ge _ _).mpr (by rw [fa_le64, e2, e0]; omega)), e2]
    unfold dst; omega
  · rw [if_neg (fun q => by have := (lg_ge _ _).mp q; rw [fa_le64, e2, e0] at this; omega), Int64.toInt_neg, e2, fb_bmodL (by omega) (by omega)]
    unfold dst; omega
theorem two_ints (x : Int32) {a b : Nat} (hab : a ≤ b) (hb : b + 1 < 2 ^ 31) : (x < nI a ∧ ¬ nI b < x) ∨ (¬ x < nI a ∧ ¬ x ≤ nI b ∧ nI b < x) ∨ ∃ j, a ≤ j ∧ j ≤ b ∧ x = nI j := by
  rcases ix3 x (b + 1) hb with h | h | ⟨j, hj, rfl⟩
  · left
    rw [fa_lt, show (0 : Int32).toInt = 0 by decide] at h
    exact ⟨by rw [fa_lt, nI_toInt (by omega)]; omega, by rw [fa_lt, nI_toInt (by omega)]; omega⟩
  · right; left
    rw [fa_le, nI_toInt (by omega)] at h
    exact ⟨by rw [fa_lt, nI_toInt (by omega)]; omega, by rw [fa_le, nI_toInt (by omega)]; omega, by rw [fa_lt, nI_toInt (by omega)]; omega⟩
  · by_cases h : a ≤ j
    · right; right; exact ⟨j, h, by omega, rfl⟩
    · left; exact ⟨nI_lt (by omega) (by omega), nI_nlt (by omega) (by omega)⟩
/-- an int in a window from 0 to k, as both worlds ask it -/
theorem win3 (x : Int32) (k : Nat) (hk : k < 1000) : (x < nI 0 ∧ (if x < 0 then (0 : Int32) else if nI k < x then 0 else 1) = nI 0) ∨ (¬ x < nI 0 ∧ ¬ x ≤ nI k ∧ (if x < 0 then (0 : Int32) else if nI k < x then 0 else 1) = nI 0) ∨ ∃ j, j ≤ k ∧ x = nI j ∧ (if x < 0 then (0 : Int32) else if nI k < x then 0 else 1) = nI 1 := by
  rcases ix3 x (k + 1) (by omega) with h | h | ⟨j, hj, rfl⟩
  · left; exact ⟨h, by rw [if_pos h]; rfl⟩
  · right; left
    rw [fa_le, nI_toInt (by omega)] at h
    have h0 : ¬ x < 0 := by rw [fa_lt, show (0 : Int32).toInt = 0 by decide]; omega
    exact ⟨h0, by rw [fa_le, nI_toInt (by omega)]; omega, by rw [if_neg h0, if_pos (by rw [fa_lt, nI_toInt (by omega)]; omega)]; rfl⟩
  · right; right
    exact ⟨j, by omega, rfl, by rw [if_neg (nI_pos (by omega)), if_neg (nI_nlt (by omega) (by omega))]; rfl⟩
