/-! posts -/
def bc (s : Nat) : Nat := (fJ6_bitCount_0f7a4 (nI s)).toNatClampNeg
theorem bc_all : ∀ a, a < 8 → ∀ b, b < 256 → f6_bitsOf_1 20 0 (nI (256 * a + b)) = some (nI (bc (256 * a + b))) ∧ fJ6_bitCount_0f7a4 (nI (256 * a + b)) = nI (bc (256 * a + b)) ∧ bc (256 * a + b) ≤ 11 := by decide +kernel
theorem bits_more : ∀ (n m : Nat) (a x : Int32) (v : Int32), f6_bitsOf_1 n a x = some v → f6_bitsOf_1 (n + m) a x = some v := by
  intro n
  induction n with
  | zero => intro m a x v h; rw [f6_bitsOf_1] at h; cases h
  | succ n ih =>
    intro m a x v h
    rw [f6_bitsOf_1] at h
    rw [show n + 1 + m = (n + m) + 1 by omega, f6_bitsOf_1]
    by_cases hx : x = 0
    · rw [if_pos hx] at h ⊢; exact h
    · rw [if_neg hx] at h ⊢
      exact ih m _ _ v h
theorem bc_s {s : Nat} (h : s < 2048) : f6_bitsOf (nI s) = some (nI (bc s)) ∧ fJ6_bitCount_0f7a4 (nI s) = nI (bc s) ∧ bc s ≤ 11 := by
  have := bc_all (s / 256) (by omega) (s % 256) (by omega)
  rw [show 256 * (s / 256) + s % 256 = s by omega] at this
  refine ⟨?_, this.2.1, this.2.2⟩
  have h2 := bits_more 20 99980 _ _ _ this.1
  exact h2
/-- bits of the minutes in which two are apart -/
def ub (D : Nat → Bool) : Nat → Nat
  | 0 => 0
  | i + 1 => if D i = true then ub D i ||| 2 ^ i else ub D i
theorem ub_bit (D : Nat → Bool) : ∀ (k j : Nat), (ub D k).testBit j = decide (j < k ∧ D j = true) := by
  intro k
  induction k with
  | zero => intro j; show Nat.testBit 0 j = _; rw [Nat.zero_testBit]; exact (decide_eq_false (by omega)).symm
  | succ k ih =>
    intro j
    unfold ub
    by_cases hd : D k = true
    · rw [if_pos hd, Nat.testBit_or, ih j]
      by_cases e : j = k
      · subst e
        rw [Nat.testBit_two_pow_self, Bool.or_true]
        exact (decide_eq_true ⟨by omega, hd⟩).symm
      · rw [Nat.testBit_two_pow_of_ne (Ne.symm e), Bool.or_false]
        exact decide_eq_decide.mpr ⟨fun h => ⟨by omega, h.2⟩, fun h => ⟨by omega, h.2⟩⟩
    · rw [if_neg hd, ih j]
      exact decide_eq_decide.mpr ⟨fun h => ⟨by omega, h.2⟩, fun h => ⟨by
        by_cases e : j = k
        · subst e; exact absurd h.2 hd
        · omega, h.2⟩⟩
theorem ub_lt (D : Nat → Bool) : ∀ k, ub D k < 2 ^ k := by
  intro k
  induction k with
  | zero => exact Nat.zero_lt_one
  | succ k ih =>
    unfold ub
    have h2 : (2 : Nat) ^ (k + 1) = 2 ^ k * 2 := Nat.pow_succ 2 k
    by_cases hd : D k = true
    · rw [if_pos hd]
      exact Nat.or_lt_two_pow (by omega) (by omega)
    · rw [if_neg hd]; omega
theorem nx_or (a b : Nat) : nI a ||| nI b = nI (a ||| b) := by
  apply Int32.toBitVec_inj.1
  show BitVec.ofNat 32 a ||| BitVec.ofNat 32 b = BitVec.ofNat 32 (a ||| b)
  apply BitVec.eq_of_getLsbD_eq
  intro i hi
  simp [hi]
theorem nx_and (a b : Nat) : nI a &&& nI b = nI (a &&& b) := by
  apply Int32.toBitVec_inj.1
  show BitVec.ofNat 32 a &&& BitVec.ofNat 32 b = BitVec.ofNat 32 (a &&& b)
  apply BitVec.eq_of_getLsbD_eq
  intro i hi
  simp [hi]
theorem sh1 {i : Nat} (h : i < 11) : nI 1 <<< (nI i &&& nI 31) = nI (2 ^ i) := by
  have : ∀ j, j < 11 → nI 1 <<< (nI j &&& nI 31) = nI (2 ^ j) := by decide +kernel
  exact this i h
def DIF (F : Nat) (g h : Gw) (i : Nat) : Bool := decide (¬ AT F g (60 * i) = AT F h (60 * i))
theorem unl1 {F a b : Nat} {ga gb : Gw} {μ : Mem} (hF : F ≤ 999) (hGa : Gok F ga) (hGb : Gok F gb) (hCa : WC μ a ga) (hCb : WC μ b gb) (h10 : μ 1 0 = nI F) : ∀ (n i : Nat), i ≤ 11 → 11 - i < n → f5_unlikePosts_1 μ n a b (nI (ub (DIF F ga gb) i)) (nI i) = some (nI (ub (DIF F ga gb) 11)) := by
  intro n
  induction n with
  | zero => intro i _ h; omega
  | succ n ih =>
    intro i hi hn
    rw [f5_unlikePosts_1]
    by_cases h : i = 11
    · subst h
      simp (disch := omega) only [Nat.add_sub_cancel, nm_s, bd1_s, bd2_s, bd3_s, gd_n, gd_ne, nI_clamp, nI_leI, nI_ltI, nI_eq, nI_add, pk_mul, pk_sub, up_r, upL_r, jrem_n, jmax_n, if_true, if_false, if_pos, if_neg, gd_i, Nat.zero_add, Nat.add_zero, Nat.mul_zero, nI_nn, nI_nn2, mI_le, mI_ne, mI_ne2, mI_ne3, mI_ne4, ne0, kl_0, kl_1, kl_2, kl_3, kl_4, kl_5, kl_6, kl_7, kl_8, kl_9, kl_10, kl_11, kl_12, kl_13, kl_14, kl_15, kl_16, kl_17, kl_18, kl_19, kl_20, kl_21, kl_22, kl_23, kl_32, kl_40, kl_48, kl_50, kl_53, kl_56, kl_57, kl_60, kl_61, kl_66, kl_97, kl_99, kl_100, kl_120, kl_122, kl_160, kl_200, kl_255, kl_300, kl_500, kl_600, kl_601, kl_999, kl_1000, kl_2048, kl_9999, and_self, and_true, true_and, and_false, false_and, not_false_eq_true, not_true_eq_false]
    · have e1 := AT_C hGa hF hCa (m := 60 * i) (by omega)
      have e2 := AT_C hGb hF hCb (m := 60 * i) (by omega)
      have l1 := AT_le hGa hF (m := 60 * i) (by omega)
      have l2 := AT_le hGb hF (m := 60 * i) (by omega)
      have := ih (i + 1) (by omega) (by omega)
      by_cases hd : AT F ga (60 * i) = AT F gb (60 * i)
      · have hu : ub (DIF F ga gb) (i + 1) = ub (DIF F ga gb) i := if_neg (by unfold DIF; rw [decide_eq_true_eq]; exact fun q => q hd)
        rw [hu] at this
        simp (disch := omega) only [e1, e2, h10, Nat.add_sub_cancel, nm_s, bd1_s, bd2_s, bd3_s, gd_n, gd_ne, nI_clamp, nI_leI, nI_ltI, nI_eq, nI_add, pk_mul, pk_sub, up_r, upL_r, jrem_n, jmax_n, if_true, if_false, if_pos, if_neg, gd_i, Nat.zero_add, Nat.add_zero, Nat.mul_zero, nI_nn, nI_nn2, mI_le, mI_ne, mI_ne2, mI_ne3, mI_ne4, ne0, kl_0, kl_1, kl_2, kl_3, kl_4, kl_5, kl_6, kl_7, kl_8, kl_9, kl_10, kl_11, kl_12, kl_13, kl_14, kl_15, kl_16, kl_17, kl_18, kl_19, kl_20, kl_21, kl_22, kl_23, kl_32, kl_40, kl_48, kl_50, kl_53, kl_56, kl_57, kl_60, kl_61, kl_66, kl_97, kl_99, kl_100, kl_120, kl_122, kl_160, kl_200, kl_255, kl_300, kl_500, kl_600, kl_601, kl_999, kl_1000, kl_2048, kl_9999, and_self, and_true, true_and, and_false, false_and, not_false_eq_true, not_true_eq_false]
        exact this
      · have hu : ub (DIF F ga gb) (i + 1) = ub (DIF F ga gb) i ||| 2 ^ i := if_pos (by unfold DIF; rw [decide_eq_true_eq]; exact hd)
        rw [hu] at this
        simp (disch := omega) only [e1, e2, h10, kl_31, sh1, nx_or, Nat.add_sub_cancel, nm_s, bd1_s, bd2_s, bd3_s, gd_n, gd_ne, nI_clamp, nI_leI, nI_ltI, nI_eq, nI_add, pk_mul, pk_sub, up_r, upL_r, jrem_n, jmax_n, if_true, if_false, if_pos, if_neg, gd_i, Nat.zero_add, Nat.add_zero, Nat.mul_zero, nI_nn, nI_nn2, mI_le, mI_ne, mI_ne2, mI_ne3, mI_ne4, ne0, kl_0, kl_1, kl_2, kl_3, kl_4, kl_5, kl_6, kl_7, kl_8, kl_9, kl_10, kl_11, kl_12, kl_13, kl_14, kl_15, kl_16, kl_17, kl_18, kl_19, kl_20, kl_21, kl_22, kl_23, kl_32, kl_40, kl_48, kl_50, kl_53, kl_56, kl_57, kl_60, kl_61, kl_66, kl_97, kl_99, kl_100, kl_120, kl_122, kl_160, kl_200, kl_255, kl_300, kl_500, kl_600, kl_601, kl_999, kl_1000, kl_2048, kl_9999, and_self, and_true, true_and, and_false, false_and, not_false_eq_true, not_true_eq_false]
        exact this
theorem unl {F a b : Nat} {ga gb : Gw} {μ : Mem} (hF : F ≤ 999) (hGa : Gok F ga) (hGb : Gok F gb) (hCa : WC μ a ga) (hCb : WC μ b gb) (h10 : μ 1 0 = nI F) : f5_unlikePosts μ a b = some (nI (ub (DIF F ga gb) 11)) := unl1 hF hGa hGb hCa hCb h10 FUEL 0 (by omega) (fuel_o (by omega))
def tri : Nat → Nat
  | 0 => 0
  | o + 1 => tri o + o
theorem tri_mono : ∀ (d o : Nat), tri o + o ≤ tri (o + 1 + d) := by
  intro d
  induction d with
  | zero => intro o; exact Nat.le_refl _
  | succ d ih =>
    intro o
    have := ih o
    show tri o + o ≤ tri (o + 1 + d) + (o + 1 + d)
    omega
theorem tri_lt {o' o : Nat} (h : o' < o) : tri o' + o' ≤ tri o := by
  have := tri_mono (o - o' - 1) o'
  rw [show o' + 1 + (o - o' - 1) = o by omega] at this
  exact this
theorem tri_le {n : Nat} (h : n ≤ 6) : tri n ≤ 15 := by
  have : n = 0 ∨ n = 1 ∨ n = 2 ∨ n = 3 ∨ n = 4 ∨ n = 5 ∨ n = 6 := by omega
  rcases this with rfl | rfl | rfl | rfl | rfl | rfl | rfl <;> decide
theorem tri_of : ∀ (n i : Nat), i < tri n → ∃ o c, c < o ∧ o < n ∧ i = tri o + c := by
  intro n
  induction n with
  | zero => intro i h; exact absurd h (Nat.not_lt_zero i)
  | succ n ih =>
    intro i h
    by_cases hi : i < tri n
    · obtain ⟨o, c, h1, h2, h3⟩ := ih i hi
      exact ⟨o, c, h1, by omega, h3⟩
    · have h : i < tri n + n := h
      exact ⟨n, i - tri n, by omega, by omega, by omega⟩
/-- the rows of pairs -/
def PRS (F : Nat) (G : Nat → Gw) (μ : Mem) (o c : Nat) : Prop := ∀ o' c', c' < o' → (o' < o ∨ (o' = o ∧ c' < c)) → μ 11 (tri o' + c') = nI (ub (DIF F (G o') (G c')) 11)
theorem lu2 {F n : Nat} {G : Nat → Gw} {μ0 : Mem} (hF : F ≤ 999) (hn6 : n ≤ 6) (h10 : μ0 1 0 = nI F) (hW : ∀ w, w < n → Gok F (G w) ∧ WC μ0 w (G w)) {o : Nat} (ho : o < n) (K4 : Mem → Int32 → Int32 → Option (Int32 × Mem)) : ∀ (N c : Nat) (μ : Mem), c ≤ o → o - c < N → fX 11 μ0 μ → PRS F G μ o c →
    ∃ μ', f5_layUnlike_2 K4 N μ (nI (tri o + c)) (nI o) (nI c) = K4 μ' (nI (tri (o + 1))) (nI (o + 1)) ∧ fX 11 μ0 μ' ∧ PRS F G μ' (o + 1) 0 := by
  intro N
  induction N with
  | zero => intro c μ _ h; omega
  | succ N ih =>
    intro c μ hc hN hf hv
    rw [f5_layUnlike_2]
    by_cases hco : c = o
    · subst hco
      refine ⟨μ, ?_, hf, fun o' c' h1 h2 => hv o' c' h1 (by omega)⟩
      simp (disch := omega) only [Nat.add_sub_cancel, nm_s, bd1_s, bd2_s, bd3_s, gd_n, gd_ne, nI_clamp, nI_leI, nI_ltI, nI_eq, nI_add, pk_mul, pk_sub, up_r, upL_r, jrem_n, jmax_n, if_true, if_false, if_pos, if_neg, gd_i, Nat.zero_add, Nat.add_zero, Nat.mul_zero, nI_nn, nI_nn2, mI_le, mI_ne, mI_ne2, mI_ne3, mI_ne4, ne0, kl_0, kl_1, kl_2, kl_3, kl_4, kl_5, kl_6, kl_7, kl_8, kl_9, kl_10, kl_11, kl_12, kl_13, kl_14, kl_15, kl_16, kl_17, kl_18, kl_19, kl_20, kl_21, kl_22, kl_23, kl_32, kl_40, kl_48, kl_50, kl_53, kl_56, kl_57, kl_60, kl_61, kl_66, kl_97, kl_99, kl_100, kl_120, kl_122, kl_160, kl_200, kl_255, kl_300, kl_500, kl_600, kl_601, kl_999, kl_1000, kl_2048, kl_9999, and_self, and_true, true_and, and_false, false_and, not_false_eq_true, not_true_eq_false]
      rfl
    · have ht := tri_lt (o' := o) (o := 6) (by omega)
      have ht6 : tri 6 = 15 := rfl
      have e0 : μ 1 0 = nI F := by rw [hf _ _ (by omega)]; exact h10
      have hu := unl (a := o) (b := c) (μ := μ) hF (hW o ho).1 (hW c (by omega)).1 ((hW o ho).2.fx (by omega) hf) ((hW c (by omega)).2.fx (by omega) hf) e0
      simp (disch := omega) only [hu, Nat.add_sub_cancel, nm_s, bd1_s, bd2_s, bd3_s, gd_n, gd_ne, nI_clamp, nI_leI, nI_ltI, nI_eq, nI_add, pk_mul, pk_sub, up_r, upL_r, jrem_n, jmax_n, if_true, if_false, if_pos, if_neg, gd_i, Nat.zero_add, Nat.add_zero, Nat.mul_zero, nI_nn, nI_nn2, mI_le, mI_ne, mI_ne2, mI_ne3, mI_ne4, ne0, kl_0, kl_1, kl_2, kl_3, kl_4, kl_5, kl_6, kl_7, kl_8, kl_9, kl_10, kl_11, kl_12, kl_13, kl_14, kl_15, kl_16, kl_17, kl_18, kl_19, kl_20, kl_21, kl_22, kl_23, kl_32, kl_40, kl_48, kl_50, kl_53, kl_56, kl_57, kl_60, kl_61, kl_66, kl_97, kl_99, kl_100, kl_120, kl_122, kl_160, kl_200, kl_255, kl_300, kl_500, kl_600, kl_601, kl_999, kl_1000, kl_2048, kl_9999, and_self, and_true, true_and, and_false, false_and, not_false_eq_true, not_true_eq_false]
      refine ih (c + 1) _ (by omega) (by omega) hf.up (fun o' c' h1 h2 => ?_)
      by_cases e : o' = o ∧ c' = c
      · obtain ⟨e1, e2⟩ := e
        subst e1; subst e2
        simp (disch := omega) only [Nat.add_sub_cancel, nm_s, bd1_s, bd2_s, bd3_s, gd_n, gd_ne, nI_clamp, nI_leI, nI_ltI, nI_eq, nI_add, pk_mul, pk_sub, up_r, upL_r, jrem_n, jmax_n, if_true, if_false, if_pos, if_neg, gd_i, Nat.zero_add, Nat.add_zero, Nat.mul_zero, nI_nn, nI_nn2, mI_le, mI_ne, mI_ne2, mI_ne3, mI_ne4, ne0, kl_0, kl_1, kl_2, kl_3, kl_4, kl_5, kl_6, kl_7, kl_8, kl_9, kl_10, kl_11, kl_12, kl_13, kl_14, kl_15, kl_16, kl_17, kl_18, kl_19, kl_20, kl_21, kl_22, kl_23, kl_32, kl_40, kl_48, kl_50, kl_53, kl_56, kl_57, kl_60, kl_61, kl_66, kl_97, kl_99, kl_100, kl_120, kl_122, kl_160, kl_200, kl_255, kl_300, kl_500, kl_600, kl_601, kl_999, kl_1000, kl_2048, kl_9999, and_self, and_true, true_and, and_false, false_and, not_false_eq_true, not_true_eq_false]
      · have hne : tri o' + c' ≠ tri o + c := by
          by_cases e1 : o' = o
          · subst e1; omega
          · have := tri_lt (o' := o') (o := o) (by omega)
            omega
        have := hv o' c' h1 (by omega)
        simp (disch := omega) only [Nat.add_sub_cancel, nm_s, bd1_s, bd2_s, bd3_s, gd_n, gd_ne, nI_clamp, nI_leI, nI_ltI, nI_eq, nI_add, pk_mul, pk_sub, up_r, upL_r, jrem_n, jmax_n, if_true, if_false, if_pos, if_neg, gd_i, Nat.zero_add, Nat.add_zero, Nat.mul_zero, nI_nn, nI_nn2, mI_le, mI_ne, mI_ne2, mI_ne3, mI_ne4, ne0, kl_0, kl_1, kl_2, kl_3, kl_4, kl_5, kl_6, kl_7, kl_8, kl_9, kl_10, kl_11, kl_12, kl_13, kl_14, kl_15, kl_16, kl_17, kl_18, kl_19, kl_20, kl_21, kl_22, kl_23, kl_32, kl_40, kl_48, kl_50, kl_53, kl_56, kl_57, kl_60, kl_61, kl_66, kl_97, kl_99, kl_100, kl_120, kl_122, kl_160, kl_200, kl_255, kl_300, kl_500, kl_600, kl_601, kl_999, kl_1000, kl_2048, kl_9999, and_self, and_true, true_and, and_false, false_and, not_false_eq_true, not_true_eq_false]
        exact this
theorem lu1 {F n : Nat} {G : Nat → Gw} {μ0 : Mem} (hF : F ≤ 999) (hn6 : n ≤ 6) (h10 : μ0 1 0 = nI F) (hn : μ0 1 1 = nI n) (hW : ∀ w, w < n → Gok F (G w) ∧ WC μ0 w (G w)) : ∀ (N o : Nat) (μ : Mem), o ≤ n → n - o < N → fX 11 μ0 μ → PRS F G μ o 0 →
    ∃ μ', f5_layUnlike_1 N μ (nI (tri o)) (nI o) = some (nI (tri n), μ') ∧ fX 11 μ0 μ' ∧ PRS F G μ' n 0 := by
  intro N
  induction N with
  | zero => intro o μ _ h; omega
  | succ N ih =>
    intro o μ ho hN hf hv
    have e1 : μ 1 1 = nI n := by rw [hf _ _ (by omega)]; exact hn
    rw [f5_layUnlike_1]
    by_cases hon : o = n
    · subst hon
      exact ⟨μ, by simp (disch := omega) only [e1, Nat.add_sub_cancel, nm_s, bd1_s, bd2_s, bd3_s, gd_n, gd_ne, nI_clamp, nI_leI, nI_ltI, nI_eq, nI_add, pk_mul, pk_sub, up_r, upL_r, jrem_n, jmax_n, if_true, if_false, if_pos, if_neg, gd_i, Nat.zero_add, Nat.add_zero, Nat.mul_zero, nI_nn, nI_nn2, mI_le, mI_ne, mI_ne2, mI_ne3, mI_ne4, ne0, kl_0, kl_1, kl_2, kl_3, kl_4, kl_5, kl_6, kl_7, kl_8, kl_9, kl_10, kl_11, kl_12, kl_13, kl_14, kl_15, kl_16, kl_17, kl_18, kl_19, kl_20, kl_21, kl_22, kl_23, kl_32, kl_40, kl_48, kl_50, kl_53, kl_56, kl_57, kl_60, kl_61, kl_66, kl_97, kl_99, kl_100, kl_120, kl_122, kl_160, kl_200, kl_255, kl_300, kl_500, kl_600, kl_601, kl_999, kl_1000, kl_2048, kl_9999, and_self, and_true, true_and, and_false, false_and, not_false_eq_true, not_true_eq_false], hf, hv⟩
    · obtain ⟨μ1, a1, a2, a3⟩ := lu2 hF hn6 h10 hW (o := o) (by omega) (f5_layUnlike_1 N) FUEL 0 μ (by omega) (fuel_o (by omega)) hf hv
      obtain ⟨μ', b1, b2, b3⟩ := ih (o + 1) μ1 (by omega) (by omega) a2 a3
      rw [Nat.add_zero] at a1
      refine ⟨μ', ?_, b2, b3⟩
      simp (disch := omega) only [e1, Nat.add_sub_cancel, nm_s, bd1_s, bd2_s, bd3_s, gd_n, gd_ne, nI_clamp, nI_leI, nI_ltI, nI_eq, nI_add, pk_mul, pk_sub, up_r, upL_r, jrem_n, jmax_n, if_true, if_false, if_pos, if_neg, gd_i, Nat.zero_add, Nat.add_zero, Nat.mul_zero, nI_nn, nI_nn2, mI_le, mI_ne, mI_ne2, mI_ne3, mI_ne4, ne0, kl_0, kl_1, kl_2, kl_3, kl_4, kl_5, kl_6, kl_7, kl_8, kl_9, kl_10, kl_11, kl_12, kl_13, kl_14, kl_15, kl_16, kl_17, kl_18, kl_19, kl_20, kl_21, kl_22, kl_23, kl_32, kl_40, kl_48, kl_50, kl_53, kl_56, kl_57, kl_60, kl_61, kl_66, kl_97, kl_99, kl_100, kl_120, kl_122, kl_160, kl_200, kl_255, kl_300, kl_500, kl_600, kl_601, kl_999, kl_1000, kl_2048, kl_9999, and_self, and_true, true_and, and_false, false_and, not_false_eq_true, not_true_eq_false]
      rw [a1]
      exact b1
theorem and0 (a b : Nat) (h : a < 2048) : (nI a &&& nI b = nI 0) ↔ ∀ j, j < 11 → ¬ (a.testBit j = true ∧ b.testBit j = true) := by
  rw [nx_and, nI_eq (Nat.lt_of_le_of_lt Nat.and_le_left (by omega)) (by decide)]
  constructor
  · intro h0 j hj hb
    have : (a &&& b).testBit j = true := by rw [Nat.testBit_and, hb.1, hb.2]; rfl
    rw [h0, Nat.zero_testBit] at this
    cases this
  · intro h0
    apply Nat.eq_of_testBit_eq
    intro j
    rw [Nat.zero_testBit, Nat.testBit_and]
    by_cases hj : j < 11
    · have := h0 j hj
      cases ha : a.testBit j with
      | false => rfl
      | true =>
        cases hb : b.testBit j with
        | false => rfl
        | true => exact absurd ⟨ha, hb⟩ this
    · have : a.testBit j = false := Nat.testBit_lt_two_pow (Nat.lt_of_lt_of_le h (show 2 ^ 11 ≤ 2 ^ j from Nat.pow_le_pow_right (by decide) (by omega)))
      rw [this]; rfl
/-- a set of minutes tells two apart; all -/
def TA2 (F : Nat) (g h : Gw) (s : Nat) : Prop := ∃ j, j < 11 ∧ s.testBit j = true ∧ DIF F g h j = true
def PA (F n : Nat) (G : Nat → Gw) (s : Nat) : Prop := ∀ o c, c < o → o < n → TA2 F (G o) (G c) s
theorem tell_1 {F n : Nat} {G : Nat → Gw} {μ : Mem} (hn6 : n ≤ 6) (hv : PRS F G μ n 0) {s : Nat} (hs : s < 2048) : ∀ (N i : Nat), i ≤ tri n → tri n - i < N → ((∀ k, i ≤ k → k < tri n → ∀ o c, c < o → o < n → k = tri o + c → TA2 F (G o) (G c) s) ∧ f5_tellsAllApart_1 μ N (nI s) (nI (tri n)) (nI i) = some (nI 1)) ∨ (¬ PA F n G s ∧ f5_tellsAllApart_1 μ N (nI s) (nI (tri n)) (nI i) = some (nI 0)) := by
  have ht := tri_le hn6
  intro N
  induction N with
  | zero => intro i _ h; omega
  | succ N ih =>
    intro i hi hN
    rw [f5_tellsAllApart_1]
    by_cases hin : i = tri n
    · subst hin
      left
      exact ⟨fun k h1 h2 => by omega, by simp (disch := omega) only [Nat.add_sub_cancel, nm_s, bd1_s, bd2_s, bd3_s, gd_n, gd_ne, nI_clamp, nI_leI, nI_ltI, nI_eq, nI_add, pk_mul, pk_sub, up_r, upL_r, jrem_n, jmax_n, if_true, if_false, if_pos, if_neg, gd_i, Nat.zero_add, Nat.add_zero, Nat.mul_zero, nI_nn, nI_nn2, mI_le, mI_ne, mI_ne2, mI_ne3, mI_ne4, ne0, kl_0, kl_1, kl_2, kl_3, kl_4, kl_5, kl_6, kl_7, kl_8, kl_9, kl_10, kl_11, kl_12, kl_13, kl_14, kl_15, kl_16, kl_17, kl_18, kl_19, kl_20, kl_21, kl_22, kl_23, kl_32, kl_40, kl_48, kl_50, kl_53, kl_56, kl_57, kl_60, kl_61, kl_66, kl_97, kl_99, kl_100, kl_120, kl_122, kl_160, kl_200, kl_255, kl_300, kl_500, kl_600, kl_601, kl_999, kl_1000, kl_2048, kl_9999, and_self, and_true, true_and, and_false, false_and, not_false_eq_true, not_true_eq_false]⟩
    · obtain ⟨o, c, hc, ho, hio⟩ := tri_of n i (by omega)
      have e := hv o c hc (Or.inl ho)
      rw [← hio] at e
      have ha := and0 s (ub (DIF F (G o) (G c)) 11) hs
      by_cases hz : nI s &&& nI (ub (DIF F (G o) (G c)) 11) = nI 0
      · right
        refine ⟨fun hPA => ?_, by simp (disch := omega) only [e, hz, Nat.add_sub_cancel, nm_s, bd1_s, bd2_s, bd3_s, gd_n, gd_ne, nI_clamp, nI_leI, nI_ltI, nI_eq, nI_add, pk_mul, pk_sub, up_r, upL_r, jrem_n, jmax_n, if_true, if_false, if_pos, if_neg, gd_i, Nat.zero_add, Nat.add_zero, Nat.mul_zero, nI_nn, nI_nn2, mI_le, mI_ne, mI_ne2, mI_ne3, mI_ne4, ne0, kl_0, kl_1, kl_2, kl_3, kl_4, kl_5, kl_6, kl_7, kl_8, kl_9, kl_10, kl_11, kl_12, kl_13, kl_14, kl_15, kl_16, kl_17, kl_18, kl_19, kl_20, kl_21, kl_22, kl_23, kl_32, kl_40, kl_48, kl_50, kl_53, kl_56, kl_57, kl_60, kl_61, kl_66, kl_97, kl_99, kl_100, kl_120, kl_122, kl_160, kl_200, kl_255, kl_300, kl_500, kl_600, kl_601, kl_999, kl_1000, kl_2048, kl_9999, and_self, and_true, true_and, and_false, false_and, not_false_eq_true, not_true_eq_false]⟩
        obtain ⟨j, j1, j2, j3⟩ := hPA o c hc ho
        exact ha.mp hz j j1 ⟨j2, by rw [ub_bit]; exact decide_eq_true ⟨j1, j3⟩⟩
      · have hta : TA2 F (G o) (G c) s := by
          apply Classical.byContradiction
          intro hno
          refine hz (ha.mpr (fun j hj hb => hno ⟨j, hj, hb.1, ?_⟩))
          have := hb.2
          rw [ub_bit] at this
          exact (of_decide_eq_true this).2
        rcases ih (i + 1) (by omega) (by omega) with ⟨q1, q2⟩ | ⟨q1, q2⟩
        · left
          refine ⟨fun k h1 h2 o2 c2 h3 h4 h5 => ?_, by simp (disch := omega) only [e, hz, Nat.add_sub_cancel, nm_s, bd1_s, bd2_s, bd3_s, gd_n, gd_ne, nI_clamp, nI_leI, nI_ltI, nI_eq, nI_add, pk_mul, pk_sub, up_r, upL_r, jrem_n, jmax_n, if_true, if_false, if_pos, if_neg, gd_i, Nat.zero_add, Nat.add_zero, Nat.mul_zero, nI_nn, nI_nn2, mI_le, mI_ne, mI_ne2, mI_ne3, mI_ne4, ne0, kl_0, kl_1, kl_2, kl_3, kl_4, kl_5, kl_6, kl_7, kl_8, kl_9, kl_10, kl_11, kl_12, kl_13, kl_14, kl_15, kl_16, kl_17, kl_18, kl_19, kl_20, kl_21, kl_22, kl_23, kl_32, kl_40, kl_48, kl_50, kl_53, kl_56, kl_57, kl_60, kl_61, kl_66, kl_97, kl_99, kl_100, kl_120, kl_122, kl_160, kl_200, kl_255, kl_300, kl_500, kl_600, kl_601, kl_999, kl_1000, kl_2048, kl_9999, and_self, and_true, true_and, and_false, false_and, not_false_eq_true, not_true_eq_false]; exact q2⟩
          by_cases hki : k = i
          · subst hki
            have heq : o2 = o ∧ c2 = c := by
              rcases Nat.lt_trichotomy o2 o with h6 | h6 | h6
              · have := tri_lt h6; omega
              · subst h6; omega
              · have := tri_lt h6; omega
            obtain ⟨e1, e2⟩ := heq
            subst e1; subst e2
            exact hta
          · exact q1 k (by omega) h2 o2 c2 h3 h4 h5
        · right
          exact ⟨q1, by simp (disch := omega) only [e, hz, Nat.add_sub_cancel, nm_s, bd1_s, bd2_s, bd3_s, gd_n, gd_ne, nI_clamp, nI_leI, nI_ltI, nI_eq, nI_add, pk_mul, pk_sub, up_r, upL_r, jrem_n, jmax_n, if_true, if_false, if_pos, if_neg, gd_i, Nat.zero_add, Nat.add_zero, Nat.mul_zero, nI_nn, nI_nn2, mI_le, mI_ne, mI_ne2, mI_ne3, mI_ne4, ne0, kl_0, kl_1, kl_2, kl_3, kl_4, kl_5, kl_6, kl_7, kl_8, kl_9, kl_10, kl_11, kl_12, kl_13, kl_14, kl_15, kl_16, kl_17, kl_18, kl_19, kl_20, kl_21, kl_22, kl_23, kl_32, kl_40, kl_48, kl_50, kl_53, kl_56, kl_57, kl_60, kl_61, kl_66, kl_97, kl_99, kl_100, kl_120, kl_122, kl_160, kl_200, kl_255, kl_300, kl_500, kl_600, kl_601, kl_999, kl_1000, kl_2048, kl_9999, and_self, and_true, true_and, and_false, false_and, not_false_eq_true, not_true_eq_false]; exact q2⟩
theorem tellA {F n : Nat} {G : Nat → Gw} {μ : Mem} (hn6 : n ≤ 6) (hv : PRS F G μ n 0) {s : Nat} (hs : s < 2048) : (PA F n G s ∧ f5_tellsAllApart μ (nI s) (nI (tri n)) = some (nI 1)) ∨ (¬ PA F n G s ∧ f5_tellsAllApart μ (nI s) (nI (tri n)) = some (nI 0)) := by
  have ht := tri_le hn6
  rcases tell_1 hn6 hv hs FUEL 0 (by omega) (fuel_o (by omega)) with ⟨q1, q2⟩ | ⟨q1, q2⟩
  · refine Or.inl ⟨fun o c hc ho => q1 (tri o + c) (by omega) ?_ o c hc ho rfl, q2⟩
    have := tri_lt ho
    omega
  · exact Or.inr ⟨q1, q2⟩
/-! the reference -/
def PST (F n : Nat) (G : Nat → Gw) (μM : Mem) : Prop := ∀ i w, i < 11 → w < n → μM 12 (6 * i + w) = nI (AT F (G w) (60 * i))
theorem bitM {s i : Nat} (hs : s < 2048) (hi : i < 11) : ((nI s >>> (nI i &&& nI 31)) &&& nI 1 = nI 1) ↔ s.testBit i = true := by
  have e31 : nI i &&& nI 31 = nI i := by
    have : ∀ j, j < 11 → nI j &&& nI 31 = nI j := by decide +kernel
    exact this i hi
  have es : nI s >>> (nI i &&& nI 31) = nI (s / 2 ^ i) := by
    rw [e31]
    exact pk_shrN (by omega) (nI i) i (by
      have : ∀ j, j < 11 → ((nI j).toBitVec.smod 32).toNat = j := by decide +kernel
      exact this i hi)
  have hle : s / 2 ^ i ≤ s := Nat.div_le_self _ _
  rw [es, nx_and, Nat.and_one_is_mod, nI_eq (by omega) (by decide), Nat.testBit_eq_decide_div_mod_eq, decide_eq_true_eq]
theorem pa3 {F n : Nat} {G : Nat → Gw} {μM : Mem} {ν : Lem} (hF : F ≤ 999) (hn6 : n ≤ 6) (hG : ∀ w, w < n → Gok F (G w)) (hv : PST F n G μM) {s : Nat} (hs : s < 2048) {a b : Nat} (ha : a < n) (hb : b < n) (K2 : Int32 → Int32 → Option Int32) (K14 : Int32 → Int32 → Int32 → Option Int32) : ∀ (N i : Nat) (is : Bool), i ≤ 11 → 11 - i < N →
    ((is = true ∨ ∃ j, i ≤ j ∧ j < 11 ∧ s.testBit j = true ∧ DIF F (G b) (G a) j = true) → f6_partsAll_3 μM ν K2 K14 N (nI s) (nI a) (nI b) (nI is.toNat) (nI i) = K14 (nI s) (nI a) (nI (b + 1))) ∧
    (¬ (is = true ∨ ∃ j, i ≤ j ∧ j < 11 ∧ s.testBit j = true ∧ DIF F (G b) (G a) j = true) → f6_partsAll_3 μM ν K2 K14 N (nI s) (nI a) (nI b) (nI is.toNat) (nI i) = some (nI 0)) := by
  intro N
  induction N with
  | zero => intro i is _ h; omega
  | succ N ih =>
    intro i is hi hN
    rw [f6_partsAll_3]
    by_cases h11 : i = 11
    · subst h11
      cases is with
      | false =>
        have e : false.toNat = 0 := rfl
        refine ⟨fun h => ?_, fun _ => by simp (disch := omega) only [e, Nat.add_sub_cancel, nm_s, bd1_s, bd2_s, bd3_s, gd_n, gd_ne, nI_clamp, nI_leI, nI_ltI, nI_eq, nI_add, pk_mul, pk_sub, up_r, upL_r, jrem_n, jmax_n, if_true, if_false, if_pos, if_neg, gd_i, Nat.zero_add, Nat.add_zero, Nat.mul_zero, nI_nn, nI_nn2, mI_le, mI_ne, mI_ne2, mI_ne3, mI_ne4, ne0, kl_0, kl_1, kl_2, kl_3, kl_4, kl_5, kl_6, kl_7, kl_8, kl_9, kl_10, kl_11, kl_12, kl_13, kl_14, kl_15, kl_16, kl_17, kl_18, kl_19, kl_20, kl_21, kl_22, kl_23, kl_32, kl_40, kl_48, kl_50, kl_53, kl_56, kl_57, kl_60, kl_61, kl_66, kl_97, kl_99, kl_100, kl_120, kl_122, kl_160, kl_200, kl_255, kl_300, kl_500, kl_600, kl_601, kl_999, kl_1000, kl_2048, kl_9999, and_self, and_true, true_and, and_false, false_and, not_false_eq_true, not_true_eq_false]⟩
        rcases h with h | ⟨j, h1, h2, -⟩
        · cases h
        · omega
      | true =>
        have e : true.toNat = 1 := rfl
        exact ⟨fun _ => by simp (disch := omega) only [e, Nat.add_sub_cancel, nm_s, bd1_s, bd2_s, bd3_s, gd_n, gd_ne, nI_clamp, nI_leI, nI_ltI, nI_eq, nI_add, pk_mul, pk_sub, up_r, upL_r, jrem_n, jmax_n, if_true, if_false, if_pos, if_neg, gd_i, Nat.zero_add, Nat.add_zero, Nat.mul_zero, nI_nn, nI_nn2, mI_le, mI_ne, mI_ne2, mI_ne3, mI_ne4, ne0, kl_0, kl_1, kl_2, kl_3, kl_4, kl_5, kl_6, kl_7, kl_8, kl_9, kl_10, kl_11, kl_12, kl_13, kl_14, kl_15, kl_16, kl_17, kl_18, kl_19, kl_20, kl_21, kl_22, kl_23, kl_32, kl_40, kl_48, kl_50, kl_53, kl_56, kl_57, kl_60, kl_61, kl_66, kl_97, kl_99, kl_100, kl_120, kl_122, kl_160, kl_200, kl_255, kl_300, kl_500, kl_600, kl_601, kl_999, kl_1000, kl_2048, kl_9999, and_self, and_true, true_and, and_false, false_and, not_false_eq_true, not_true_eq_false], fun h => absurd (Or.inl rfl) h⟩
    · cases is with
      | true =>
        have e : true.toNat = 1 := rfl
        have := ih (i + 1) true (by omega) (by omega)
        rw [e] at this ⊢
        exact ⟨fun _ => by simp (disch := omega) only [Nat.add_sub_cancel, nm_s, bd1_s, bd2_s, bd3_s, gd_n, gd_ne, nI_clamp, nI_leI, nI_ltI, nI_eq, nI_add, pk_mul, pk_sub, up_r, upL_r, jrem_n, jmax_n, if_true, if_false, if_pos, if_neg, gd_i, Nat.zero_add, Nat.add_zero, Nat.mul_zero, nI_nn, nI_nn2, mI_le, mI_ne, mI_ne2, mI_ne3, mI_ne4, ne0, kl_0, kl_1, kl_2, kl_3, kl_4, kl_5, kl_6, kl_7, kl_8, kl_9, kl_10, kl_11, kl_12, kl_13, kl_14, kl_15, kl_16, kl_17, kl_18, kl_19, kl_20, kl_21, kl_22, kl_23, kl_32, kl_40, kl_48, kl_50, kl_53, kl_56, kl_57, kl_60, kl_61, kl_66, kl_97, kl_99, kl_100, kl_120, kl_122, kl_160, kl_200, kl_255, kl_300, kl_500, kl_600, kl_601, kl_999, kl_1000, kl_2048, kl_9999, and_self, and_true, true_and, and_false, false_and, not_false_eq_true, not_true_eq_false]; exact this.1 (Or.inl rfl), fun h => absurd (Or.inl rfl) h⟩
      | false =>
        have e : false.toNat = 0 := rfl
        have e1 : true.toNat = 1 := rfl
        have hbit := bitM hs (i := i) (by omega)
        have va := hv i a (by omega) ha
        have vb := hv i b (by omega) hb
        have la := AT_le (hG a ha) hF (m := 60 * i) (by omega)
        have lb := AT_le (hG b hb) hF (m := 60 * i) (by omega)
        have i0 := ih (i + 1) false (by omega) (by omega)
        have i1 := ih (i + 1) true (by omega) (by omega)
        rw [e] at i0 ⊢
        rw [e1] at i1
        by_cases ht : s.testBit i = true
        · have hb1 := hbit.mpr ht
          by_cases hd : AT F (G a) (60 * i) = AT F (G b) (60 * i)
          · have hno : ¬ DIF F (G b) (G a) i = true := by unfold DIF; rw [decide_eq_true_eq]; exact fun q => q hd.symm
            have hiff : (false = true ∨ ∃ j, i ≤ j ∧ j < 11 ∧ s.testBit j = true ∧ DIF F (G b) (G a) j = true) ↔ (false = true ∨ ∃ j, i + 1 ≤ j ∧ j < 11 ∧ s.testBit j = true ∧ DIF F (G b) (G a) j = true) := by
              constructor
              · rintro (h | ⟨j, h1, h2, h3, h4⟩)
                · cases h
                · refine Or.inr ⟨j, ?_, h2, h3, h4⟩
                  by_cases q : j = i
                  · subst q; exact absurd h4 hno
                  · omega
              · rintro (h | ⟨j, h1, h2, h3, h4⟩)
                · cases h
                · exact Or.inr ⟨j, by omega, h2, h3, h4⟩
            rw [hiff]
            exact ⟨fun h => by simp (disch := omega) only [kl_31, hb1, va, vb, Nat.add_sub_cancel, nm_s, bd1_s, bd2_s, bd3_s, gd_n, gd_ne, nI_clamp, nI_leI, nI_ltI, nI_eq, nI_add, pk_mul, pk_sub, up_r, upL_r, jrem_n, jmax_n, if_true, if_false, if_pos, if_neg, gd_i, Nat.zero_add, Nat.add_zero, Nat.mul_zero, nI_nn, nI_nn2, mI_le, mI_ne, mI_ne2, mI_ne3, mI_ne4, ne0, kl_0, kl_1, kl_2, kl_3, kl_4, kl_5, kl_6, kl_7, kl_8, kl_9, kl_10, kl_11, kl_12, kl_13, kl_14, kl_15, kl_16, kl_17, kl_18, kl_19, kl_20, kl_21, kl_22, kl_23, kl_32, kl_40, kl_48, kl_50, kl_53, kl_56, kl_57, kl_60, kl_61, kl_66, kl_97, kl_99, kl_100, kl_120, kl_122, kl_160, kl_200, kl_255, kl_300, kl_500, kl_600, kl_601, kl_999, kl_1000, kl_2048, kl_9999, and_self, and_true, true_and, and_false, false_and, not_false_eq_true, not_true_eq_false]; exact i0.1 h, fun h => by simp (disch := omega) only [kl_31, hb1, va, vb, Nat.add_sub_cancel, nm_s, bd1_s, bd2_s, bd3_s, gd_n, gd_ne, nI_clamp, nI_leI, nI_ltI, nI_eq, nI_add, pk_mul, pk_sub, up_r, upL_r, jrem_n, jmax_n, if_true, if_false, if_pos, if_neg, gd_i, Nat.zero_add, Nat.add_zero, Nat.mul_zero, nI_nn, nI_nn2, mI_le, mI_ne, mI_ne2, mI_ne3, mI_ne4, ne0, kl_0, kl_1, kl_2, kl_3, kl_4, kl_5, kl_6, kl_7, kl_8, kl_9, kl_10, kl_11, kl_12, kl_13, kl_14, kl_15, kl_16, kl_17, kl_18, kl_19, kl_20, kl_21, kl_22, kl_23, kl_32, kl_40, kl_48, kl_50, kl_53, kl_56, kl_57, kl_60, kl_61, kl_66, kl_97, kl_99, kl_100, kl_120, kl_122, kl_160, kl_200, kl_255, kl_300, kl_500, kl_600, kl_601, kl_999, kl_1000, kl_2048, kl_9999, and_self, and_true, true_and, and_false, false_and, not_false_eq_true, not_true_eq_false]; exact i0.2 h⟩
          · have hyes : DIF F (G b) (G a) i = true := by unfold DIF; rw [decide_eq_true_eq]; exact fun q => hd q.symm
            exact ⟨fun _ => by simp (disch := omega) only [kl_31, hb1, va, vb, Nat.add_sub_cancel, nm_s, bd1_s, bd2_s, bd3_s, gd_n, gd_ne, nI_clamp, nI_leI, nI_ltI, nI_eq, nI_add, pk_mul, pk_sub, up_r, upL_r, jrem_n, jmax_n, if_true, if_false, if_pos, if_neg, gd_i, Nat.zero_add, Nat.add_zero, Nat.mul_zero, nI_nn, nI_nn2, mI_le, mI_ne, mI_ne2, mI_ne3, mI_ne4, ne0, kl_0, kl_1, kl_2, kl_3, kl_4, kl_5, kl_6, kl_7, kl_8, kl_9, kl_10, kl_11, kl_12, kl_13, kl_14, kl_15, kl_16, kl_17, kl_18, kl_19, kl_20, kl_21, kl_22, kl_23, kl_32, kl_40, kl_48, kl_50, kl_53, kl_56, kl_57, kl_60, kl_61, kl_66, kl_97, kl_99, kl_100, kl_120, kl_122, kl_160, kl_200, kl_255, kl_300, kl_500, kl_600, kl_601, kl_999, kl_1000, kl_2048, kl_9999, and_self, and_true, true_and, and_false, false_and, not_false_eq_true, not_true_eq_false]; exact i1.1 (Or.inl rfl), fun h => absurd (Or.inr ⟨i, Nat.le_refl i, by omega, ht, hyes⟩) h⟩
        · have hb0 : ¬ ((nI s >>> (nI i &&& nI 31)) &&& nI 1 = nI 1) := fun q => ht (hbit.mp q)
          have hiff : (false = true ∨ ∃ j, i ≤ j ∧ j < 11 ∧ s.testBit j = true ∧ DIF F (G b) (G a) j = true) ↔ (false = true ∨ ∃ j, i + 1 ≤ j ∧ j < 11 ∧ s.testBit j = true ∧ DIF F (G b) (G a) j = true) := by
            constructor
            · rintro (h | ⟨j, h1, h2, h3, h4⟩)
              · cases h
              · refine Or.inr ⟨j, ?_, h2, h3, h4⟩
                by_cases q : j = i
                · subst q; exact absurd h3 ht
                · omega
            · rintro (h | ⟨j, h1, h2, h3, h4⟩)
              · cases h
              · exact Or.inr ⟨j, by omega, h2, h3, h4⟩
          rw [hiff]
          exact ⟨fun h => by simp (disch := omega) only [kl_31, hb0, Nat.add_sub_cancel, nm_s, bd1_s, bd2_s, bd3_s, gd_n, gd_ne, nI_clamp, nI_leI, nI_ltI, nI_eq, nI_add, pk_mul, pk_sub, up_r, upL_r, jrem_n, jmax_n, if_true, if_false, if_pos, if_neg, gd_i, Nat.zero_add, Nat.add_zero, Nat.mul_zero, nI_nn, nI_nn2, mI_le, mI_ne, mI_ne2, mI_ne3, mI_ne4, ne0, kl_0, kl_1, kl_2, kl_3, kl_4, kl_5, kl_6, kl_7, kl_8, kl_9, kl_10, kl_11, kl_12, kl_13, kl_14, kl_15, kl_16, kl_17, kl_18, kl_19, kl_20, kl_21, kl_22, kl_23, kl_32, kl_40, kl_48, kl_50, kl_53, kl_56, kl_57, kl_60, kl_61, kl_66, kl_97, kl_99, kl_100, kl_120, kl_122, kl_160, kl_200, kl_255, kl_300, kl_500, kl_600, kl_601, kl_999, kl_1000, kl_2048, kl_9999, and_self, and_true, true_and, and_false, false_and, not_false_eq_true, not_true_eq_false]; exact i0.1 h, fun h => by simp (disch := omega) only [kl_31, hb0, Nat.add_sub_cancel, nm_s, bd1_s, bd2_s, bd3_s, gd_n, gd_ne, nI_clamp, nI_leI, nI_ltI, nI_eq, nI_add, pk_mul, pk_sub, up_r, upL_r, jrem_n, jmax_n, if_true, if_false, if_pos, if_neg, gd_i, Nat.zero_add, Nat.add_zero, Nat.mul_zero, nI_nn, nI_nn2, mI_le, mI_ne, mI_ne2, mI_ne3, mI_ne4, ne0, kl_0, kl_1, kl_2, kl_3, kl_4, kl_5, kl_6, kl_7, kl_8, kl_9, kl_10, kl_11, kl_12, kl_13, kl_14, kl_15, kl_16, kl_17, kl_18, kl_19, kl_20, kl_21, kl_22, kl_23, kl_32, kl_40, kl_48, kl_50, kl_53, kl_56, kl_57, kl_60, kl_61, kl_66, kl_97, kl_99, kl_100, kl_120, kl_122, kl_160, kl_200, kl_255, kl_300, kl_500, kl_600, kl_601, kl_999, kl_1000, kl_2048, kl_9999, and_self, and_true, true_and, and_false, false_and, not_false_eq_true, not_true_eq_false]; exact i0.2 h⟩
theorem pa2 {F n : Nat} {G : Nat → Gw} {μM : Mem} {ν : Lem} (hF : F ≤ 999) (hn6 : n ≤ 6) (hn : μM 0 13 = nI n) (hG : ∀ w, w < n → Gok F (G w)) (hv : PST F n G μM) {s : Nat} (hs : s < 2048) {a : Nat} (ha : a < n) (K2 : Int32 → Int32 → Option Int32) : ∀ (N b : Nat), a < b → b ≤ n → n - b < N →
    ((∀ c, b ≤ c → c < n → TA2 F (G c) (G a) s) → f6_partsAll_2 μM ν K2 N (nI s) (nI a) (nI b) = K2 (nI s) (nI (a + 1))) ∧ (¬ (∀ c, b ≤ c → c < n → TA2 F (G c) (G a) s) → f6_partsAll_2 μM ν K2 N (nI s) (nI a) (nI b) = some (nI 0)) := by
  intro N
  induction N with
  | zero => intro b _ _ h; omega
  | succ N ih =>
    intro b hab hb hN
    rw [f6_partsAll_2]
    by_cases hbn : b = n
    · subst hbn
      exact ⟨fun _ => by simp (disch := omega) only [hn, Nat.add_sub_cancel, nm_s, bd1_s, bd2_s, bd3_s, gd_n, gd_ne, nI_clamp, nI_leI, nI_ltI, nI_eq, nI_add, pk_mul, pk_sub, up_r, upL_r, jrem_n, jmax_n, if_true, if_false, if_pos, if_neg, gd_i, Nat.zero_add, Nat.add_zero, Nat.mul_zero, nI_nn, nI_nn2, mI_le, mI_ne, mI_ne2, mI_ne3, mI_ne4, ne0, kl_0, kl_1, kl_2, kl_3, kl_4, kl_5, kl_6, kl_7, kl_8, kl_9, kl_10, kl_11, kl_12, kl_13, kl_14, kl_15, kl_16, kl_17, kl_18, kl_19, kl_20, kl_21, kl_22, kl_23, kl_32, kl_40, kl_48, kl_50, kl_53, kl_56, kl_57, kl_60, kl_61, kl_66, kl_97, kl_99, kl_100, kl_120, kl_122, kl_160, kl_200, kl_255, kl_300, kl_500, kl_600, kl_601, kl_999, kl_1000, kl_2048, kl_9999, and_self, and_true, true_and, and_false, false_and, not_false_eq_true, not_true_eq_false], fun h => absurd (fun c h1 h2 => by omega) h⟩
    · obtain ⟨y1, y2⟩ := pa3 (ν := ν) hF hn6 hG hv hs ha (b := b) (by omega) K2 (f6_partsAll_2 μM ν K2 N) FUEL 0 false (by omega) (fuel_o (by omega))
      obtain ⟨z1, z2⟩ := ih (b + 1) (by omega) (by omega) (by omega)
      have e : false.toNat = 0 := rfl
      rw [e] at y1 y2
      have hT : (false = true ∨ ∃ j, 0 ≤ j ∧ j < 11 ∧ s.testBit j = true ∧ DIF F (G b) (G a) j = true) ↔ TA2 F (G b) (G a) s := by
        constructor
        · rintro (h | ⟨j, h1, h2, h3, h4⟩)
          · cases h
          · exact ⟨j, h2, h3, h4⟩
        · rintro ⟨j, h2, h3, h4⟩
          exact Or.inr ⟨j, by omega, h2, h3, h4⟩
      rw [hT] at y1 y2
      by_cases hta : TA2 F (G b) (G a) s
      · have hiff : (∀ c, b ≤ c → c < n → TA2 F (G c) (G a) s) ↔ ∀ c, b + 1 ≤ c → c < n → TA2 F (G c) (G a) s := ⟨fun h c h1 h2 => h c (by omega) h2, fun h c h1 h2 => by
          by_cases q : c = b
          · subst q; exact hta
          · exact h c (by omega) h2⟩
        rw [hiff]
        exact ⟨fun h => by simp (disch := omega) only [hn, Nat.add_sub_cancel, nm_s, bd1_s, bd2_s, bd3_s, gd_n, gd_ne, nI_clamp, nI_leI, nI_ltI, nI_eq, nI_add, pk_mul, pk_sub, up_r, upL_r, jrem_n, jmax_n, if_true, if_false, if_pos, if_neg, gd_i, Nat.zero_add, Nat.add_zero, Nat.mul_zero, nI_nn, nI_nn2, mI_le, mI_ne, mI_ne2, mI_ne3, mI_ne4, ne0, kl_0, kl_1, kl_2, kl_3, kl_4, kl_5, kl_6, kl_7, kl_8, kl_9, kl_10, kl_11, kl_12, kl_13, kl_14, kl_15, kl_16, kl_17, kl_18, kl_19, kl_20, kl_21, kl_22, kl_23, kl_32, kl_40, kl_48, kl_50, kl_53, kl_56, kl_57, kl_60, kl_61, kl_66, kl_97, kl_99, kl_100, kl_120, kl_122, kl_160, kl_200, kl_255, kl_300, kl_500, kl_600, kl_601, kl_999, kl_1000, kl_2048, kl_9999, and_self, and_true, true_and, and_false, false_and, not_false_eq_true, not_true_eq_false]; rw [y1 hta]; exact z1 h, fun h => by simp (disch := omega) only [hn, Nat.add_sub_cancel, nm_s, bd1_s, bd2_s, bd3_s, gd_n, gd_ne, nI_clamp, nI_leI, nI_ltI, nI_eq, nI_add, pk_mul, pk_sub, up_r, upL_r, jrem_n, jmax_n, if_true, if_false, if_pos, if_neg, gd_i, Nat.zero_add, Nat.add_zero, Nat.mul_zero, nI_nn, nI_nn2, mI_le, mI_ne, mI_ne2, mI_ne3, mI_ne4, ne0, kl_0, kl_1, kl_2, kl_3, kl_4, kl_5, kl_6, kl_7, kl_8, kl_9, kl_10, kl_11, kl_12, kl_13, kl_14, kl_15, kl_16, kl_17, kl_18, kl_19, kl_20, kl_21, kl_22, kl_23, kl_32, kl_40, kl_48, kl_50, kl_53, kl_56, kl_57, kl_60, kl_61, kl_66, kl_97, kl_99, kl_100, kl_120, kl_122, kl_160, kl_200, kl_255, kl_300, kl_500, kl_600, kl_601, kl_999, kl_1000, kl_2048, kl_9999, and_self, and_true, true_and, and_false, false_and, not_false_eq_true, not_true_eq_false]; rw [y1 hta]; exact z2 h⟩
      · exact ⟨fun h => absurd (h b (Nat.le_refl b) (by omega)) hta, fun h => by simp (disch := omega) only [hn, Nat.add_sub_cancel, nm_s, bd1_s, bd2_s, bd3_s, gd_n, gd_ne, nI_clamp, nI_leI, nI_ltI, nI_eq, nI_add, pk_mul, pk_sub, up_r, upL_r, jrem_n, jmax_n, if_true, if_false, if_pos, if_neg, gd_i, Nat.zero_add, Nat.add_zero, Nat.mul_zero, nI_nn, nI_nn2, mI_le, mI_ne, mI_ne2, mI_ne3, mI_ne4, ne0, kl_0, kl_1, kl_2, kl_3, kl_4, kl_5, kl_6, kl_7, kl_8, kl_9, kl_10, kl_11, kl_12, kl_13, kl_14, kl_15, kl_16, kl_17, kl_18, kl_19, kl_20, kl_21, kl_22, kl_23, kl_32, kl_40, kl_48, kl_50, kl_53, kl_56, kl_57, kl_60, kl_61, kl_66, kl_97, kl_99, kl_100, kl_120, kl_122, kl_160, kl_200, kl_255, kl_300, kl_500, kl_600, kl_601, kl_999, kl_1000, kl_2048, kl_9999, and_self, and_true, true_and, and_false, false_and, not_false_eq_true, not_true_eq_false]; exact y2 hta⟩
theorem pa1 {F n : Nat} {G : Nat → Gw} {μM : Mem} {ν : Lem} (hF : F ≤ 999) (hn6 : n ≤ 6) (hn : μM 0 13 = nI n) (hG : ∀ w, w < n → Gok F (G w)) (hv : PST F n G μM) {s : Nat} (hs : s < 2048) : ∀ (N a : Nat), a ≤ n → n - a < N →
    ((∀ o c, a ≤ c → c < o → o < n → TA2 F (G o) (G c) s) → f6_partsAll_1 μM ν N (nI s) (nI a) = some (nI 1)) ∧ (¬ (∀ o c, a ≤ c → c < o → o < n → TA2 F (G o) (G c) s) → f6_partsAll_1 μM ν N (nI s) (nI a) = some (nI 0)) := by
  intro N
  induction N with
  | zero => intro a _ h; omega
  | succ N ih =>
    intro a ha hN
    rw [f6_partsAll_1]
    by_cases han : a = n
    · subst han
      exact ⟨fun _ => by simp (disch := omega) only [hn, Nat.add_sub_cancel, nm_s, bd1_s, bd2_s, bd3_s, gd_n, gd_ne, nI_clamp, nI_leI, nI_ltI, nI_eq, nI_add, pk_mul, pk_sub, up_r, upL_r, jrem_n, jmax_n, if_true, if_false, if_pos, if_neg, gd_i, Nat.zero_add, Nat.add_zero, Nat.mul_zero, nI_nn, nI_nn2, mI_le, mI_ne, mI_ne2, mI_ne3, mI_ne4, ne0, kl_0, kl_1, kl_2, kl_3, kl_4, kl_5, kl_6, kl_7, kl_8, kl_9, kl_10, kl_11, kl_12, kl_13, kl_14, kl_15, kl_16, kl_17, kl_18, kl_19, kl_20, kl_21, kl_22, kl_23, kl_32, kl_40, kl_48, kl_50, kl_53, kl_56, kl_57, kl_60, kl_61, kl_66, kl_97, kl_99, kl_100, kl_120, kl_122, kl_160, kl_200, kl_255, kl_300, kl_500, kl_600, kl_601, kl_999, kl_1000, kl_2048, kl_9999, and_self, and_true, true_and, and_false, false_and, not_false_eq_true, not_true_eq_false], fun h => absurd (fun o c h1 h2 h3 => by omega) h⟩
    · obtain ⟨y1, y2⟩ := pa2 (ν := ν) hF hn6 hn hG hv hs (a := a) (by omega) (f6_partsAll_1 μM ν N) FUEL (a + 1) (by omega) (by omega) (fuel_o (by omega))
      obtain ⟨z1, z2⟩ := ih (a + 1) (by omega) (by omega)
      by_cases hall : ∀ c, a + 1 ≤ c → c < n → TA2 F (G c) (G a) s
      · have hiff : (∀ o c, a ≤ c → c < o → o < n → TA2 F (G o) (G c) s) ↔ ∀ o c, a + 1 ≤ c → c < o → o < n → TA2 F (G o) (G c) s := ⟨fun h o c h1 h2 h3 => h o c (by omega) h2 h3, fun h o c h1 h2 h3 => by
          by_cases q : c = a
          · subst q; exact hall o (by omega) h3
          · exact h o c (by omega) h2 h3⟩
        rw [hiff]
        exact ⟨fun h => by simp (disch := omega) only [hn, Nat.add_sub_cancel, nm_s, bd1_s, bd2_s, bd3_s, gd_n, gd_ne, nI_clamp, nI_leI, nI_ltI, nI_eq, nI_add, pk_mul, pk_sub, up_r, upL_r, jrem_n, jmax_n, if_true, if_false, if_pos, if_neg, gd_i, Nat.zero_add, Nat.add_zero, Nat.mul_zero, nI_nn, nI_nn2, mI_le, mI_ne, mI_ne2, mI_ne3, mI_ne4, ne0, kl_0, kl_1, kl_2, kl_3, kl_4, kl_5, kl_6, kl_7, kl_8, kl_9, kl_10, kl_11, kl_12, kl_13, kl_14, kl_15, kl_16, kl_17, kl_18, kl_19, kl_20, kl_21, kl_22, kl_23, kl_32, kl_40, kl_48, kl_50, kl_53, kl_56, kl_57, kl_60, kl_61, kl_66, kl_97, kl_99, kl_100, kl_120, kl_122, kl_160, kl_200, kl_255, kl_300, kl_500, kl_600, kl_601, kl_999, kl_1000, kl_2048, kl_9999, and_self, and_true, true_and, and_false, false_and, not_false_eq_true, not_true_eq_false]; rw [y1 hall]; exact z1 h, fun h => by simp (disch := omega) only [hn, Nat.add_sub_cancel, nm_s, bd1_s, bd2_s, bd3_s, gd_n, gd_ne, nI_clamp, nI_leI, nI_ltI, nI_eq, nI_add, pk_mul, pk_sub, up_r, upL_r, jrem_n, jmax_n, if_true, if_false, if_pos, if_neg, gd_i, Nat.zero_add, Nat.add_zero, Nat.mul_zero, nI_nn, nI_nn2, mI_le, mI_ne, mI_ne2, mI_ne3, mI_ne4, ne0, kl_0, kl_1, kl_2, kl_3, kl_4, kl_5, kl_6, kl_7, kl_8, kl_9, kl_10, kl_11, kl_12, kl_13, kl_14, kl_15, kl_16, kl_17, kl_18, kl_19, kl_20, kl_21, kl_22, kl_23, kl_32, kl_40, kl_48, kl_50, kl_53, kl_56, kl_57, kl_60, kl_61, kl_66, kl_97, kl_99, kl_100, kl_120, kl_122, kl_160, kl_200, kl_255, kl_300, kl_500, kl_600, kl_601, kl_999, kl_1000, kl_2048, kl_9999, and_self, and_true, true_and, and_false, false_and, not_false_eq_true, not_true_eq_false]; rw [y1 hall]; exact z2 h⟩
      · exact ⟨fun h => absurd (fun c h1 h2 => h c a (Nat.le_refl a) (by omega) h2) hall, fun h => by simp (disch := omega) only [hn, Nat.add_sub_cancel, nm_s, bd1_s, bd2_s, bd3_s, gd_n, gd_ne, nI_clamp, nI_leI, nI_ltI, nI_eq, nI_add, pk_mul, pk_sub, up_r, upL_r, jrem_n, jmax_n, if_true, if_false, if_pos, if_neg, gd_i, Nat.zero_add, Nat.add_zero, Nat.mul_zero, nI_nn, nI_nn2, mI_le, mI_ne, mI_ne2, mI_ne3, mI_ne4, ne0, kl_0, kl_1, kl_2, kl_3, kl_4, kl_5, kl_6, kl_7, kl_8, kl_9, kl_10, kl_11, kl_12, kl_13, kl_14, kl_15, kl_16, kl_17, kl_18, kl_19, kl_20, kl_21, kl_22, kl_23, kl_32, kl_40, kl_48, kl_50, kl_53, kl_56, kl_57, kl_60, kl_61, kl_66, kl_97, kl_99, kl_100, kl_120, kl_122, kl_160, kl_200, kl_255, kl_300, kl_500, kl_600, kl_601, kl_999, kl_1000, kl_2048, kl_9999, and_self, and_true, true_and, and_false, false_and, not_false_eq_true, not_true_eq_false]; exact y2 hall⟩
theorem paA {F n : Nat} {G : Nat → Gw} {μM : Mem} {ν : Lem} (hF : F ≤ 999) (hn6 : n ≤ 6) (hn : μM 0 13 = nI n) (hG : ∀ w, w < n → Gok F (G w)) (hv : PST F n G μM) {s : Nat} (hs : s < 2048) : (PA F n G s → f6_partsAll μM ν (nI s) = some (nI 1)) ∧ (¬ PA F n G s → f6_partsAll μM ν (nI s) = some (nI 0)) := by
  obtain ⟨y1, y2⟩ := pa1 (ν := ν) hF hn6 hn hG hv hs FUEL 0 (by omega) (fuel_o (by omega))
  have hiff : (∀ o c, 0 ≤ c → c < o → o < n → TA2 F (G o) (G c) s) ↔ PA F n G s := ⟨fun h o c h1 h2 => h o c (by omega) h1 h2, fun h o c _ h1 h2 => h o c h1 h2⟩
  rw [hiff] at y1 y2
  exact ⟨y1, y2⟩
theorem few1 {F n : Nat} {G : Nat → Gw} {μ μM : Mem} {ν : Lem} (hF : F ≤ 999) (hn6 : n ≤ 6) (hn : μM 0 13 = nI n) (hG : ∀ w, w < n → Gok F (G w)) (hC : PRS F G μ n 0) (hv : PST F n G μM) (x1 : Nat) (hx1 : x1 < 2) : ∀ (N K s : Nat) (b f : Int32), s ≤ 2048 → 2048 - s < N → 2048 - s < K → ((b = -nI 1 ∧ f = nI 12) ∨ ∃ t, t < 2048 ∧ b = nI t ∧ f = nI (bc t)) →
    ∃ v, (v = -nI 1 ∨ ∃ t, t < 2048 ∧ v = nI t) ∧ f5_fewestPosts_1 μ N (nI (tri n)) b f (nI s) = some v ∧ f6_posts_3 K μM ν (nI x1) b (nI s) = if x1 = 0 ∨ v = -nI 1 then some (v, μM, ν) else some (fJ6_bitCount_0f7a4 v, μM, ν) := by
  intro N
  induction N with
  | zero => intro K s b f _ h; omega
  | succ N ih =>
    intro K s b f hs hN hK hbf
    obtain ⟨K, rfl⟩ : ∃ k', K = k' + 1 := ⟨K - 1, by omega⟩
    by_cases hs2 : s = 2048
    · subst hs2
      refine ⟨b, ?_, ?_, ?_⟩
      · rcases hbf with ⟨h, -⟩ | ⟨t, h1, h2, -⟩
        · exact Or.inl h
        · exact Or.inr ⟨t, h1, h2⟩
      · rw [f5_fewestPosts_1]
        simp (disch := omega) only [Nat.add_sub_cancel, nm_s, bd1_s, bd2_s, bd3_s, gd_n, gd_ne, nI_clamp, nI_leI, nI_ltI, nI_eq, nI_add, pk_mul, pk_sub, up_r, upL_r, jrem_n, jmax_n, if_true, if_false, if_pos, if_neg, gd_i, Nat.zero_add, Nat.add_zero, Nat.mul_zero, nI_nn, nI_nn2, mI_le, mI_ne, mI_ne2, mI_ne3, mI_ne4, ne0, kl_0, kl_1, kl_2, kl_3, kl_4, kl_5, kl_6, kl_7, kl_8, kl_9, kl_10, kl_11, kl_12, kl_13, kl_14, kl_15, kl_16, kl_17, kl_18, kl_19, kl_20, kl_21, kl_22, kl_23, kl_32, kl_40, kl_48, kl_50, kl_53, kl_56, kl_57, kl_60, kl_61, kl_66, kl_97, kl_99, kl_100, kl_120, kl_122, kl_160, kl_200, kl_255, kl_300, kl_500, kl_600, kl_601, kl_999, kl_1000, kl_2048, kl_9999, and_self, and_true, true_and, and_false, false_and, not_false_eq_true, not_true_eq_false]
      · rw [f6_posts_3]
        have hx : x1 = 0 ∨ x1 = 1 := by omega
        rcases hx with rfl | rfl
        · rw [if_pos (Or.inl rfl)]
          simp (disch := omega) only [Nat.add_sub_cancel, nm_s, bd1_s, bd2_s, bd3_s, gd_n, gd_ne, nI_clamp, nI_leI, nI_ltI, nI_eq, nI_add, pk_mul, pk_sub, up_r, upL_r, jrem_n, jmax_n, if_true, if_false, if_pos, if_neg, gd_i, Nat.zero_add, Nat.add_zero, Nat.mul_zero, nI_nn, nI_nn2, mI_le, mI_ne, mI_ne2, mI_ne3, mI_ne4, ne0, kl_0, kl_1, kl_2, kl_3, kl_4, kl_5, kl_6, kl_7, kl_8, kl_9, kl_10, kl_11, kl_12, kl_13, kl_14, kl_15, kl_16, kl_17, kl_18, kl_19, kl_20, kl_21, kl_22, kl_23, kl_32, kl_40, kl_48, kl_50, kl_53, kl_56, kl_57, kl_60, kl_61, kl_66, kl_97, kl_99, kl_100, kl_120, kl_122, kl_160, kl_200, kl_255, kl_300, kl_500, kl_600, kl_601, kl_999, kl_1000, kl_2048, kl_9999, and_self, and_true, true_and, and_false, false_and, not_false_eq_true, not_true_eq_false]
        · rcases hbf with ⟨h, -⟩ | ⟨t, h1, h2, -⟩
          · subst h
            rw [if_pos (Or.inr rfl)]
            simp (disch := omega) only [Nat.add_sub_cancel, nm_s, bd1_s, bd2_s, bd3_s, gd_n, gd_ne, nI_clamp, nI_leI, nI_ltI, nI_eq, nI_add, pk_mul, pk_sub, up_r, upL_r, jrem_n, jmax_n, if_true, if_false, if_pos, if_neg, gd_i, Nat.zero_add, Nat.add_zero, Nat.mul_zero, nI_nn, nI_nn2, mI_le, mI_ne, mI_ne2, mI_ne3, mI_ne4, ne0, kl_0, kl_1, kl_2, kl_3, kl_4, kl_5, kl_6, kl_7, kl_8, kl_9, kl_10, kl_11, kl_12, kl_13, kl_14, kl_15, kl_16, kl_17, kl_18, kl_19, kl_20, kl_21, kl_22, kl_23, kl_32, kl_40, kl_48, kl_50, kl_53, kl_56, kl_57, kl_60, kl_61, kl_66, kl_97, kl_99, kl_100, kl_120, kl_122, kl_160, kl_200, kl_255, kl_300, kl_500, kl_600, kl_601, kl_999, kl_1000, kl_2048, kl_9999, and_self, and_true, true_and, and_false, false_and, not_false_eq_true, not_true_eq_false]
          · subst h2
            obtain ⟨b1, b2, b3⟩ := bc_s h1
            have hne : ¬ nI t = -nI 1 := by rw [mI_ne (by omega) (by decide)]; omega
            have hn2 : ¬ (1 = 0 ∨ nI t = -nI 1) := fun hh => hh.elim (fun e => absurd e (by decide)) hne
            rw [if_neg hn2]
            simp (disch := omega) only [hne, b1, b2, Nat.add_sub_cancel, nm_s, bd1_s, bd2_s, bd3_s, gd_n, gd_ne, nI_clamp, nI_leI, nI_ltI, nI_eq, nI_add, pk_mul, pk_sub, up_r, upL_r, jrem_n, jmax_n, if_true, if_false, if_pos, if_neg, gd_i, Nat.zero_add, Nat.add_zero, Nat.mul_zero, nI_nn, nI_nn2, mI_le, mI_ne, mI_ne2, mI_ne3, mI_ne4, ne0, kl_0, kl_1, kl_2, kl_3, kl_4, kl_5, kl_6, kl_7, kl_8, kl_9, kl_10, kl_11, kl_12, kl_13, kl_14, kl_15, kl_16, kl_17, kl_18, kl_19, kl_20, kl_21, kl_22, kl_23, kl_32, kl_40, kl_48, kl_50, kl_53, kl_56, kl_57, kl_60, kl_61, kl_66, kl_97, kl_99, kl_100, kl_120, kl_122, kl_160, kl_200, kl_255, kl_300, kl_500, kl_600, kl_601, kl_999, kl_1000, kl_2048, kl_9999, and_self, and_true, true_and, and_false, false_and, not_false_eq_true, not_true_eq_false]
    · obtain ⟨b1, b2, b3⟩ := bc_s (s := s) (by omega)
      rw [f5_fewestPosts_1, f6_posts_3]
      have skip : ∃ v, (v = -nI 1 ∨ ∃ t, t < 2048 ∧ v = nI t) ∧ f5_fewestPosts_1 μ N (nI (tri n)) b f (nI (s + 1)) = some v ∧ f6_posts_3 K μM ν (nI x1) b (nI (s + 1)) = if x1 = 0 ∨ v = -nI 1 then some (v, μM, ν) else some (fJ6_bitCount_0f7a4 v, μM, ν) := ih K (s + 1) b f (by omega) (by omega) (by omega) hbf
      have take : ∃ v, (v = -nI 1 ∨ ∃ t, t < 2048 ∧ v = nI t) ∧ f5_fewestPosts_1 μ N (nI (tri n)) (nI s) (nI (bc s)) (nI (s + 1)) = some v ∧ f6_posts_3 K μM ν (nI x1) (nI s) (nI (s + 1)) = if x1 = 0 ∨ v = -nI 1 then some (v, μM, ν) else some (fJ6_bitCount_0f7a4 v, μM, ν) := ih K (s + 1) (nI s) (nI (bc s)) (by omega) (by omega) (by omega) (Or.inr ⟨s, by omega, rfl, rfl⟩)
      obtain ⟨m1, m2⟩ := paA (ν := ν) hF hn6 hn hG hv (s := s) (by omega)
      have hc := tellA hn6 hC (s := s) (by omega)
      rcases hbf with ⟨hb, hf⟩ | ⟨t, ht, hb, hf⟩
      · subst hb; subst hf
        rcases hc with ⟨c1, c2⟩ | ⟨c1, c2⟩
        · obtain ⟨v, v1, v2, v3⟩ := take
          refine ⟨v, v1, by simp (disch := omega) only [b2, c2, Nat.add_sub_cancel, nm_s, bd1_s, bd2_s, bd3_s, gd_n, gd_ne, nI_clamp, nI_leI, nI_ltI, nI_eq, nI_add, pk_mul, pk_sub, up_r, upL_r, jrem_n, jmax_n, if_true, if_false, if_pos, if_neg, gd_i, Nat.zero_add, Nat.add_zero, Nat.mul_zero, nI_nn, nI_nn2, mI_le, mI_ne, mI_ne2, mI_ne3, mI_ne4, ne0, kl_0, kl_1, kl_2, kl_3, kl_4, kl_5, kl_6, kl_7, kl_8, kl_9, kl_10, kl_11, kl_12, kl_13, kl_14, kl_15, kl_16, kl_17, kl_18, kl_19, kl_20, kl_21, kl_22, kl_23, kl_32, kl_40, kl_48, kl_50, kl_53, kl_56, kl_57, kl_60, kl_61, kl_66, kl_97, kl_99, kl_100, kl_120, kl_122, kl_160, kl_200, kl_255, kl_300, kl_500, kl_600, kl_601, kl_999, kl_1000, kl_2048, kl_9999, and_self, and_true, true_and, and_false, false_and, not_false_eq_true, not_true_eq_false]; exact v2, ?_⟩
          rw [← v3]
          unfold f6_posts_4
          simp (disch := omega) only [m1 c1, Nat.add_sub_cancel, nm_s, bd1_s, bd2_s, bd3_s, gd_n, gd_ne, nI_clamp, nI_leI, nI_ltI, nI_eq, nI_add, pk_mul, pk_sub, up_r, upL_r, jrem_n, jmax_n, if_true, if_false, if_pos, if_neg, gd_i, Nat.zero_add, Nat.add_zero, Nat.mul_zero, nI_nn, nI_nn2, mI_le, mI_ne, mI_ne2, mI_ne3, mI_ne4, ne0, kl_0, kl_1, kl_2, kl_3, kl_4, kl_5, kl_6, kl_7, kl_8, kl_9, kl_10, kl_11, kl_12, kl_13, kl_14, kl_15, kl_16, kl_17, kl_18, kl_19, kl_20, kl_21, kl_22, kl_23, kl_32, kl_40, kl_48, kl_50, kl_53, kl_56, kl_57, kl_60, kl_61, kl_66, kl_97, kl_99, kl_100, kl_120, kl_122, kl_160, kl_200, kl_255, kl_300, kl_500, kl_600, kl_601, kl_999, kl_1000, kl_2048, kl_9999, and_self, and_true, true_and, and_false, false_and, not_false_eq_true, not_true_eq_false]
        · obtain ⟨v, v1, v2, v3⟩ := skip
          refine ⟨v, v1, by simp (disch := omega) only [b2, c2, Nat.add_sub_cancel, nm_s, bd1_s, bd2_s, bd3_s, gd_n, gd_ne, nI_clamp, nI_leI, nI_ltI, nI_eq, nI_add, pk_mul, pk_sub, up_r, upL_r, jrem_n, jmax_n, if_true, if_false, if_pos, if_neg, gd_i, Nat.zero_add, Nat.add_zero, Nat.mul_zero, nI_nn, nI_nn2, mI_le, mI_ne, mI_ne2, mI_ne3, mI_ne4, ne0, kl_0, kl_1, kl_2, kl_3, kl_4, kl_5, kl_6, kl_7, kl_8, kl_9, kl_10, kl_11, kl_12, kl_13, kl_14, kl_15, kl_16, kl_17, kl_18, kl_19, kl_20, kl_21, kl_22, kl_23, kl_32, kl_40, kl_48, kl_50, kl_53, kl_56, kl_57, kl_60, kl_61, kl_66, kl_97, kl_99, kl_100, kl_120, kl_122, kl_160, kl_200, kl_255, kl_300, kl_500, kl_600, kl_601, kl_999, kl_1000, kl_2048, kl_9999, and_self, and_true, true_and, and_false, false_and, not_false_eq_true, not_true_eq_false]; exact v2, ?_⟩
          rw [← v3]
          unfold f6_posts_4
          simp (disch := omega) only [m2 c1, Nat.add_sub_cancel, nm_s, bd1_s, bd2_s, bd3_s, gd_n, gd_ne, nI_clamp, nI_leI, nI_ltI, nI_eq, nI_add, pk_mul, pk_sub, up_r, upL_r, jrem_n, jmax_n, if_true, if_false, if_pos, if_neg, gd_i, Nat.zero_add, Nat.add_zero, Nat.mul_zero, nI_nn, nI_nn2, mI_le, mI_ne, mI_ne2, mI_ne3, mI_ne4, ne0, kl_0, kl_1, kl_2, kl_3, kl_4, kl_5, kl_6, kl_7, kl_8, kl_9, kl_10, kl_11, kl_12, kl_13, kl_14, kl_15, kl_16, kl_17, kl_18, kl_19, kl_20, kl_21, kl_22, kl_23, kl_32, kl_40, kl_48, kl_50, kl_53, kl_56, kl_57, kl_60, kl_61, kl_66, kl_97, kl_99, kl_100, kl_120, kl_122, kl_160, kl_200, kl_255, kl_300, kl_500, kl_600, kl_601, kl_999, kl_1000, kl_2048, kl_9999, and_self, and_true, true_and, and_false, false_and, not_false_eq_true, not_true_eq_false]
      · subst hb; subst hf
        obtain ⟨d1, d2, d3⟩ := bc_s ht
        have hne : ¬ nI t = -nI 1 := by rw [mI_ne (by omega) (by decide)]; omega
        by_cases hle : bc t ≤ bc s
        · obtain ⟨v, v1, v2, v3⟩ := skip
          refine ⟨v, v1, by simp (disch := omega) only [b2, Nat.add_sub_cancel, nm_s, bd1_s, bd2_s, bd3_s, gd_n, gd_ne, nI_clamp, nI_leI, nI_ltI, nI_eq, nI_add, pk_mul, pk_sub, up_r, upL_r, jrem_n, jmax_n, if_true, if_false, if_pos, if_neg, gd_i, Nat.zero_add, Nat.add_zero, Nat.mul_zero, nI_nn, nI_nn2, mI_le, mI_ne, mI_ne2, mI_ne3, mI_ne4, ne0, kl_0, kl_1, kl_2, kl_3, kl_4, kl_5, kl_6, kl_7, kl_8, kl_9, kl_10, kl_11, kl_12, kl_13, kl_14, kl_15, kl_16, kl_17, kl_18, kl_19, kl_20, kl_21, kl_22, kl_23, kl_32, kl_40, kl_48, kl_50, kl_53, kl_56, kl_57, kl_60, kl_61, kl_66, kl_97, kl_99, kl_100, kl_120, kl_122, kl_160, kl_200, kl_255, kl_300, kl_500, kl_600, kl_601, kl_999, kl_1000, kl_2048, kl_9999, and_self, and_true, true_and, and_false, false_and, not_false_eq_true, not_true_eq_false]; exact v2, ?_⟩
          rw [← v3]
          simp (disch := omega) only [hne, b1, d1, Nat.add_sub_cancel, nm_s, bd1_s, bd2_s, bd3_s, gd_n, gd_ne, nI_clamp, nI_leI, nI_ltI, nI_eq, nI_add, pk_mul, pk_sub, up_r, upL_r, jrem_n, jmax_n, if_true, if_false, if_pos, if_neg, gd_i, Nat.zero_add, Nat.add_zero, Nat.mul_zero, nI_nn, nI_nn2, mI_le, mI_ne, mI_ne2, mI_ne3, mI_ne4, ne0, kl_0, kl_1, kl_2, kl_3, kl_4, kl_5, kl_6, kl_7, kl_8, kl_9, kl_10, kl_11, kl_12, kl_13, kl_14, kl_15, kl_16, kl_17, kl_18, kl_19, kl_20, kl_21, kl_22, kl_23, kl_32, kl_40, kl_48, kl_50, kl_53, kl_56, kl_57, kl_60, kl_61, kl_66, kl_97, kl_99, kl_100, kl_120, kl_122, kl_160, kl_200, kl_255, kl_300, kl_500, kl_600, kl_601, kl_999, kl_1000, kl_2048, kl_9999, and_self, and_true, true_and, and_false, false_and, not_false_eq_true, not_true_eq_false]
        · rcases hc with ⟨c1, c2⟩ | ⟨c1, c2⟩
          · obtain ⟨v, v1, v2, v3⟩ := take
            refine ⟨v, v1, by simp (disch := omega) only [b2, c2, Nat.add_sub_cancel, nm_s, bd1_s, bd2_s, bd3_s, gd_n, gd_ne, nI_clamp, nI_leI, nI_ltI, nI_eq, nI_add, pk_mul, pk_sub, up_r, upL_r, jrem_n, jmax_n, if_true, if_false, if_pos, if_neg, gd_i, Nat.zero_add, Nat.add_zero, Nat.mul_zero, nI_nn, nI_nn2, mI_le, mI_ne, mI_ne2, mI_ne3, mI_ne4, ne0, kl_0, kl_1, kl_2, kl_3, kl_4, kl_5, kl_6, kl_7, kl_8, kl_9, kl_10, kl_11, kl_12, kl_13, kl_14, kl_15, kl_16, kl_17, kl_18, kl_19, kl_20, kl_21, kl_22, kl_23, kl_32, kl_40, kl_48, kl_50, kl_53, kl_56, kl_57, kl_60, kl_61, kl_66, kl_97, kl_99, kl_100, kl_120, kl_122, kl_160, kl_200, kl_255, kl_300, kl_500, kl_600, kl_601, kl_999, kl_1000, kl_2048, kl_9999, and_self, and_true, true_and, and_false, false_and, not_false_eq_true, not_true_eq_false]; exact v2, ?_⟩
            rw [← v3]
            unfold f6_posts_4
            simp (disch := omega) only [hne, b1, d1, m1 c1, Nat.add_sub_cancel, nm_s, bd1_s, bd2_s, bd3_s, gd_n, gd_ne, nI_clamp, nI_leI, nI_ltI, nI_eq, nI_add, pk_mul, pk_sub, up_r, upL_r, jrem_n, jmax_n, if_true, if_false, if_pos, if_neg, gd_i, Nat.zero_add, Nat.add_zero, Nat.mul_zero, nI_nn, nI_nn2, mI_le, mI_ne, mI_ne2, mI_ne3, mI_ne4, ne0, kl_0, kl_1, kl_2, kl_3, kl_4, kl_5, kl_6, kl_7, kl_8, kl_9, kl_10, kl_11, kl_12, kl_13, kl_14, kl_15, kl_16, kl_17, kl_18, kl_19, kl_20, kl_21, kl_22, kl_23, kl_32, kl_40, kl_48, kl_50, kl_53, kl_56, kl_57, kl_60, kl_61, kl_66, kl_97, kl_99, kl_100, kl_120, kl_122, kl_160, kl_200, kl_255, kl_300, kl_500, kl_600, kl_601, kl_999, kl_1000, kl_2048, kl_9999, and_self, and_true, true_and, and_false, false_and, not_false_eq_true, not_true_eq_false]
          · obtain ⟨v, v1, v2, v3⟩ := skip
            refine ⟨v, v1, by simp (disch := omega) only [b2, c2, Nat.add_sub_cancel, nm_s, bd1_s, bd2_s, bd3_s, gd_n, gd_ne, nI_clamp, nI_leI, nI_ltI, nI_eq, nI_add, pk_mul, pk_sub, up_r, upL_r, jrem_n, jmax_n, if_true, if_false, if_pos, if_neg, gd_i, Nat.zero_add, Nat.add_zero, Nat.mul_zero, nI_nn, nI_nn2, mI_le, mI_ne, mI_ne2, mI_ne3, mI_ne4, ne0, kl_0, kl_1, kl_2, kl_3, kl_4, kl_5, kl_6, kl_7, kl_8, kl_9, kl_10, kl_11, kl_12, kl_13, kl_14, kl_15, kl_16, kl_17, kl_18, kl_19, kl_20, kl_21, kl_22, kl_23, kl_32, kl_40, kl_48, kl_50, kl_53, kl_56, kl_57, kl_60, kl_61, kl_66, kl_97, kl_99, kl_100, kl_120, kl_122, kl_160, kl_200, kl_255, kl_300, kl_500, kl_600, kl_601, kl_999, kl_1000, kl_2048, kl_9999, and_self, and_true, true_and, and_false, false_and, not_false_eq_true, not_true_eq_false]; exact v2, ?_⟩
            rw [← v3]
            unfold f6_posts_4
            simp (disch := omega) only [hne, b1, d1, m2 c1, Nat.add_sub_cancel, nm_s, bd1_s, bd2_s, bd3_s, gd_n, gd_ne, nI_clamp, nI_leI, nI_ltI, nI_eq, nI_add, pk_mul, pk_sub, up_r, upL_r, jrem_n, jmax_n, if_true, if_false, if_pos, if_neg, gd_i, Nat.zero_add, Nat.add_zero, Nat.mul_zero, nI_nn, nI_nn2, mI_le, mI_ne, mI_ne2, mI_ne3, mI_ne4, ne0, kl_0, kl_1, kl_2, kl_3, kl_4, kl_5, kl_6, kl_7, kl_8, kl_9, kl_10, kl_11, kl_12, kl_13, kl_14, kl_15, kl_16, kl_17, kl_18, kl_19, kl_20, kl_21, kl_22, kl_23, kl_32, kl_40, kl_48, kl_50, kl_53, kl_56, kl_57, kl_60, kl_61, kl_66, kl_97, kl_99, kl_100, kl_120, kl_122, kl_160, kl_200, kl_255, kl_300, kl_500, kl_600, kl_601, kl_999, kl_1000, kl_2048, kl_9999, and_self, and_true, true_and, and_false, false_and, not_false_eq_true, not_true_eq_false]
/-- the reference lays out where all are -/
theorem pl2 {F n : Nat} {G : Nat → Gw} {μ0 : Mem} {ν : Lem} (hF : F ≤ 999) (hn6 : n ≤ 6) (h7 : μ0 0 7 = nI F) (hn : μ0 0 13 = nI n) (hW : ∀ w, w < n → Gok F (G w) ∧ WM μ0 w (G w)) {i : Nat} (hi : i < 11) (x1 : Int32) (K15 : Mem → Lem → Int32 → Int32 → Option (Int32 × Mem × Lem)) : ∀ (N w : Nat) (μ : Mem), w ≤ n → n - w < N → fX 12 μ0 μ → (∀ j v, v < n → (j < i ∨ (j = i ∧ v < w)) → μ 12 (6 * j + v) = nI (AT F (G v) (60 * j))) →
    ∃ μ', f6_posts_2 K15 N μ ν x1 (nI i) (nI w) = K15 μ' ν x1 (nI (i + 1)) ∧ fX 12 μ0 μ' ∧ ∀ j v, v < n → j < i + 1 → μ' 12 (6 * j + v) = nI (AT F (G v) (60 * j)) := by
  intro N
  induction N with
  | zero => intro w μ _ h; omega
  | succ N ih =>
    intro w μ hw hN hf hv
    have e1 : μ 0 13 = nI n := by rw [hf _ _ (by omega)]; exact hn
    have e7 : μ 0 7 = nI F := by rw [hf _ _ (by omega)]; exact h7
    rw [f6_posts_2]
    by_cases hwn : w = n
    · subst hwn
      exact ⟨μ, by simp (disch := omega) only [e1, Nat.add_sub_cancel, nm_s, bd1_s, bd2_s, bd3_s, gd_n, gd_ne, nI_clamp, nI_leI, nI_ltI, nI_eq, nI_add, pk_mul, pk_sub, up_r, upL_r, jrem_n, jmax_n, if_true, if_false, if_pos, if_neg, gd_i, Nat.zero_add, Nat.add_zero, Nat.mul_zero, nI_nn, nI_nn2, mI_le, mI_ne, mI_ne2, mI_ne3, mI_ne4, ne0, kl_0, kl_1, kl_2, kl_3, kl_4, kl_5, kl_6, kl_7, kl_8, kl_9, kl_10, kl_11, kl_12, kl_13, kl_14, kl_15, kl_16, kl_17, kl_18, kl_19, kl_20, kl_21, kl_22, kl_23, kl_32, kl_40, kl_48, kl_50, kl_53, kl_56, kl_57, kl_60, kl_61, kl_66, kl_97, kl_99, kl_100, kl_120, kl_122, kl_160, kl_200, kl_255, kl_300, kl_500, kl_600, kl_601, kl_999, kl_1000, kl_2048, kl_9999, and_self, and_true, true_and, and_false, false_and, not_false_eq_true, not_true_eq_false], hf, fun j v h1 h2 => hv j v h1 (by omega)⟩
    · have hMw : WM μ w (G w) := by
        obtain ⟨c0, c1, c2, c3, c4⟩ := (hW w (by omega)).2
        exact ⟨fun q => ⟨by rw [hf _ _ (by omega)]; exact (c0 q).1, by rw [hf _ _ (by omega)]; exact (c0 q).2⟩, c1, by rw [hf _ _ (by omega)]; exact c2, fun i hi => by rw [hf _ _ (by omega)]; exact c3 i hi, fun i hi => by rw [hf _ _ (by omega)]; exact c4 i hi⟩
      have hat := AT_M (ν := ν) (hW w (by omega)).1 hF hMw e7 (by omega) (m := 60 * i) (by omega)
      simp (disch := omega) only [e1, hat, Nat.add_sub_cancel, nm_s, bd1_s, bd2_s, bd3_s, gd_n, gd_ne, nI_clamp, nI_leI, nI_ltI, nI_eq, nI_add, pk_mul, pk_sub, up_r, upL_r, jrem_n, jmax_n, if_true, if_false, if_pos, if_neg, gd_i, Nat.zero_add, Nat.add_zero, Nat.mul_zero, nI_nn, nI_nn2, mI_le, mI_ne, mI_ne2, mI_ne3, mI_ne4, ne0, kl_0, kl_1, kl_2, kl_3, kl_4, kl_5, kl_6, kl_7, kl_8, kl_9, kl_10, kl_11, kl_12, kl_13, kl_14, kl_15, kl_16, kl_17, kl_18, kl_19, kl_20, kl_21, kl_22, kl_23, kl_32, kl_40, kl_48, kl_50, kl_53, kl_56, kl_57, kl_60, kl_61, kl_66, kl_97, kl_99, kl_100, kl_120, kl_122, kl_160, kl_200, kl_255, kl_300, kl_500, kl_600, kl_601, kl_999, kl_1000, kl_2048, kl_9999, and_self, and_true, true_and, and_false, false_and, not_false_eq_true, not_true_eq_false]
      refine ih (w + 1) _ (by omega) (by omega) hf.up (fun j v h1 h2 => ?_)
      by_cases e : j = i ∧ v = w
      · obtain ⟨q1, q2⟩ := e
        subst q1; subst q2
        simp (disch := omega) only [Nat.add_sub_cancel, nm_s, bd1_s, bd2_s, bd3_s, gd_n, gd_ne, nI_clamp, nI_leI, nI_ltI, nI_eq, nI_add, pk_mul, pk_sub, up_r, upL_r, jrem_n, jmax_n, if_true, if_false, if_pos, if_neg, gd_i, Nat.zero_add, Nat.add_zero, Nat.mul_zero, nI_nn, nI_nn2, mI_le, mI_ne, mI_ne2, mI_ne3, mI_ne4, ne0, kl_0, kl_1, kl_2, kl_3, kl_4, kl_5, kl_6, kl_7, kl_8, kl_9, kl_10, kl_11, kl_12, kl_13, kl_14, kl_15, kl_16, kl_17, kl_18, kl_19, kl_20, kl_21, kl_22, kl_23, kl_32, kl_40, kl_48, kl_50, kl_53, kl_56, kl_57, kl_60, kl_61, kl_66, kl_97, kl_99, kl_100, kl_120, kl_122, kl_160, kl_200, kl_255, kl_300, kl_500, kl_600, kl_601, kl_999, kl_1000, kl_2048, kl_9999, and_self, and_true, true_and, and_false, false_and, not_false_eq_true, not_true_eq_false]
      · have := hv j v h1 (by omega)
        simp (disch := omega) only [Nat.add_sub_cancel, nm_s, bd1_s, bd2_s, bd3_s, gd_n, gd_ne, nI_clamp, nI_leI, nI_ltI, nI_eq, nI_add, pk_mul, pk_sub, up_r, upL_r, jrem_n, jmax_n, if_true, if_false, if_pos, if_neg, gd_i, Nat.zero_add, Nat.add_zero, Nat.mul_zero, nI_nn, nI_nn2, mI_le, mI_ne, mI_ne2, mI_ne3, mI_ne4, ne0, kl_0, kl_1, kl_2, kl_3, kl_4, kl_5, kl_6, kl_7, kl_8, kl_9, kl_10, kl_11, kl_12, kl_13, kl_14, kl_15, kl_16, kl_17, kl_18, kl_19, kl_20, kl_21, kl_22, kl_23, kl_32, kl_40, kl_48, kl_50, kl_53, kl_56, kl_57, kl_60, kl_61, kl_66, kl_97, kl_99, kl_100, kl_120, kl_122, kl_160, kl_200, kl_255, kl_300, kl_500, kl_600, kl_601, kl_999, kl_1000, kl_2048, kl_9999, and_self, and_true, true_and, and_false, false_and, not_false_eq_true, not_true_eq_false]
        exact this
theorem pl1 {F n : Nat} {G : Nat → Gw} {μ0 : Mem} {ν : Lem} (hF : F ≤ 999) (hn6 : n ≤ 6) (h7 : μ0 0 7 = nI F) (hn : μ0 0 13 = nI n) (hW : ∀ w, w < n → Gok F (G w) ∧ WM μ0 w (G w)) (x1 : Int32) : ∀ (N i : Nat) (μ : Mem), i ≤ 11 → 11 - i < N → fX 12 μ0 μ → (∀ j v, v < n → j < i → μ 12 (6 * j + v) = nI (AT F (G v) (60 * j))) →
    ∃ μ', f6_posts_1 N μ ν x1 (nI i) = f6_posts_3 FUEL μ' ν x1 (-nI 1) (nI 0) ∧ fX 12 μ0 μ' ∧ PST F n G μ' := by
  intro N
  induction N with
  | zero => intro i μ _ h; omega
  | succ N ih =>
    intro i μ hi hN hf hv
    rw [f6_posts_1]
    by_cases h11 : i = 11
    · subst h11
      exact ⟨μ, by simp (disch := omega) only [Nat.add_sub_cancel, nm_s, bd1_s, bd2_s, bd3_s, gd_n, gd_ne, nI_clamp, nI_leI, nI_ltI, nI_eq, nI_add, pk_mul, pk_sub, up_r, upL_r, jrem_n, jmax_n, if_true, if_false, if_pos, if_neg, gd_i, Nat.zero_add, Nat.add_zero, Nat.mul_zero, nI_nn, nI_nn2, mI_le, mI_ne, mI_ne2, mI_ne3, mI_ne4, ne0, kl_0, kl_1, kl_2, kl_3, kl_4, kl_5, kl_6, kl_7, kl_8, kl_9, kl_10, kl_11, kl_12, kl_13, kl_14, kl_15, kl_16, kl_17, kl_18, kl_19, kl_20, kl_21, kl_22, kl_23, kl_32, kl_40, kl_48, kl_50, kl_53, kl_56, kl_57, kl_60, kl_61, kl_66, kl_97, kl_99, kl_100, kl_120, kl_122, kl_160, kl_200, kl_255, kl_300, kl_500, kl_600, kl_601, kl_999, kl_1000, kl_2048, kl_9999, and_self, and_true, true_and, and_false, false_and, not_false_eq_true, not_true_eq_false], hf, fun j v h1 h2 => hv j v h2 h1⟩
    · obtain ⟨μ1, a1, a2, a3⟩ := pl2 (ν := ν) hF hn6 h7 hn hW (i := i) (by omega) x1 (f6_posts_1 N) FUEL 0 μ (by omega) (fuel_o (by omega)) hf (fun j v h1 h2 => hv j v h1 (by omega))
      obtain ⟨μ', b1, b2, b3⟩ := ih (i + 1) μ1 (by omega) (by omega) a2 a3
      refine ⟨μ', ?_, b2, b3⟩
      simp (disch := omega) only [Nat.add_sub_cancel, nm_s, bd1_s, bd2_s, bd3_s, gd_n, gd_ne, nI_clamp, nI_leI, nI_ltI, nI_eq, nI_add, pk_mul, pk_sub, up_r, upL_r, jrem_n, jmax_n, if_true, if_false, if_pos, if_neg, gd_i, Nat.zero_add, Nat.add_zero, Nat.mul_zero, nI_nn, nI_nn2, mI_le, mI_ne, mI_ne2, mI_ne3, mI_ne4, ne0, kl_0, kl_1, kl_2, kl_3, kl_4, kl_5, kl_6, kl_7, kl_8, kl_9, kl_10, kl_11, kl_12, kl_13, kl_14, kl_15, kl_16, kl_17, kl_18, kl_19, kl_20, kl_21, kl_22, kl_23, kl_32, kl_40, kl_48, kl_50, kl_53, kl_56, kl_57, kl_60, kl_61, kl_66, kl_97, kl_99, kl_100, kl_120, kl_122, kl_160, kl_200, kl_255, kl_300, kl_500, kl_600, kl_601, kl_999, kl_1000, kl_2048, kl_9999, and_self, and_true, true_and, and_false, false_and, not_false_eq_true, not_true_eq_false]
      rw [a1]
      exact b1
theorem posts_call {μ μM : Mem} {ν : Lem} {T F n r : Nat} {G : Nat → Gw} (p : RQ μ μM T F n r G) (x1 : Int32) : SameI μ μM ν (f5_posts μ x1) (f6_posts μM ν x1) := by
  obtain ⟨p1, p2, p3, p4, p5, p6, p7, p8, p9, p10⟩ := p.2.2.2.1
  have e3 : f6_in x1.toInt64 0 1 = if x1 < 0 then 0 else if nI 1 < x1 then 0 else 1 := in_c (a := 0) (b := 1) (by decide) (by decide)
  unfold f5_posts f6_posts
  rw [e3]
  rcases win3 x1 1 (by decide) with ⟨g3, g4⟩ | ⟨g3, g4, g5⟩ | ⟨k, hk, rfl, g3⟩
  · exact SameI.ret (-nI 2) (by simp (disch := omega) only [g3, Nat.add_sub_cancel, nm_s, bd1_s, bd2_s, bd3_s, gd_n, gd_ne, nI_clamp, nI_leI, nI_ltI, nI_eq, nI_add, pk_mul, pk_sub, up_r, upL_r, jrem_n, jmax_n, if_true, if_false, if_pos, if_neg, gd_i, Nat.zero_add, Nat.add_zero, Nat.mul_zero, nI_nn, nI_nn2, mI_le, mI_ne, mI_ne2, mI_ne3, mI_ne4, ne0, kl_0, kl_1, kl_2, kl_3, kl_4, kl_5, kl_6, kl_7, kl_8, kl_9, kl_10, kl_11, kl_12, kl_13, kl_14, kl_15, kl_16, kl_17, kl_18, kl_19, kl_20, kl_21, kl_22, kl_23, kl_32, kl_40, kl_48, kl_50, kl_53, kl_56, kl_57, kl_60, kl_61, kl_66, kl_97, kl_99, kl_100, kl_120, kl_122, kl_160, kl_200, kl_255, kl_300, kl_500, kl_600, kl_601, kl_999, kl_1000, kl_2048, kl_9999, and_self, and_true, true_and, and_false, false_and, not_false_eq_true, not_true_eq_false]) (by rw [g4]; simp (disch := omega) only [Nat.add_sub_cancel, nm_s, bd1_s, bd2_s, bd3_s, gd_n, gd_ne, nI_clamp, nI_leI, nI_ltI, nI_eq, nI_add, pk_mul, pk_sub, up_r, upL_r, jrem_n, jmax_n, if_true, if_false, if_pos, if_neg, gd_i, Nat.zero_add, Nat.add_zero, Nat.mul_zero, nI_nn, nI_nn2, mI_le, mI_ne, mI_ne2, mI_ne3, mI_ne4, ne0, kl_0, kl_1, kl_2, kl_3, kl_4, kl_5, kl_6, kl_7, kl_8, kl_9, kl_10, kl_11, kl_12, kl_13, kl_14, kl_15, kl_16, kl_17, kl_18, kl_19, kl_20, kl_21, kl_22, kl_23, kl_32, kl_40, kl_48, kl_50, kl_53, kl_56, kl_57, kl_60, kl_61, kl_66, kl_97, kl_99, kl_100, kl_120, kl_122, kl_160, kl_200, kl_255, kl_300, kl_500, kl_600, kl_601, kl_999, kl_1000, kl_2048, kl_9999, and_self, and_true, true_and, and_false, false_and, not_false_eq_true, not_true_eq_false])
  · exact SameI.ret (-nI 2) (by simp (disch := omega) only [g3, g4, Nat.add_sub_cancel, nm_s, bd1_s, bd2_s, bd3_s, gd_n, gd_ne, nI_clamp, nI_leI, nI_ltI, nI_eq, nI_add, pk_mul, pk_sub, up_r, upL_r, jrem_n, jmax_n, if_true, if_false, if_pos, if_neg, gd_i, Nat.zero_add, Nat.add_zero, Nat.mul_zero, nI_nn, nI_nn2, mI_le, mI_ne, mI_ne2, mI_ne3, mI_ne4, ne0, kl_0, kl_1, kl_2, kl_3, kl_4, kl_5, kl_6, kl_7, kl_8, kl_9, kl_10, kl_11, kl_12, kl_13, kl_14, kl_15, kl_16, kl_17, kl_18, kl_19, kl_20, kl_21, kl_22, kl_23, kl_32, kl_40, kl_48, kl_50, kl_53, kl_56, kl_57, kl_60, kl_61, kl_66, kl_97, kl_99, kl_100, kl_120, kl_122, kl_160, kl_200, kl_255, kl_300, kl_500, kl_600, kl_601, kl_999, kl_1000, kl_2048, kl_9999, and_self, and_true, true_and, and_false, false_and, not_false_eq_true, not_true_eq_false]) (by rw [g5]; simp (disch := omega) only [Nat.add_sub_cancel, nm_s, bd1_s, bd2_s, bd3_s, gd_n, gd_ne, nI_clamp, nI_leI, nI_ltI, nI_eq, nI_add, pk_mul, pk_sub, up_r, upL_r, jrem_n, jmax_n, if_true, if_false, if_pos, if_neg, gd_i, Nat.zero_add, Nat.add_zero, Nat.mul_zero, nI_nn, nI_nn2, mI_le, mI_ne, mI_ne2, mI_ne3, mI_ne4, ne0, kl_0, kl_1, kl_2, kl_3, kl_4, kl_5, kl_6, kl_7, kl_8, kl_9, kl_10, kl_11, kl_12, kl_13, kl_14, kl_15, kl_16, kl_17, kl_18, kl_19, kl_20, kl_21, kl_22, kl_23, kl_32, kl_40, kl_48, kl_50, kl_53, kl_56, kl_57, kl_60, kl_61, kl_66, kl_97, kl_99, kl_100, kl_120, kl_122, kl_160, kl_200, kl_255, kl_300, kl_500, kl_600, kl_601, kl_999, kl_1000, kl_2048, kl_9999, and_self, and_true, true_and, and_false, false_and, not_false_eq_true, not_true_eq_false])
  · rw [g3]
    obtain ⟨μ', a1, a2, a3⟩ := lu1 p2 p3 p4 p5 (fun w hw => ⟨(p10 w hw).1, (p10 w hw).2.1⟩) FUEL 0 μ (by omega) (fuel_o (by omega)) fX.rf (fun o c h1 h2 => by omega)
    obtain ⟨μM', m1, m2, m3⟩ := pl1 (ν := ν) p2 p3 p7 p8 (fun w hw => ⟨(p10 w hw).1, (p10 w hw).2.2⟩) (nI k) FUEL 0 μM (by omega) (fuel_o (by omega)) fX.rf (fun j v h1 h2 => by omega)
    have a1' : f5_layUnlike μ = some (nI (tri n), μ') := a1
    obtain ⟨v, v1, v2, v3⟩ := few1 (ν := ν) p2 p3 (by rw [m2 _ _ (by omega)]; exact p8) (fun w hw => (p10 w hw).1) a3 m3 k (by omega) FUEL FUEL 0 (-nI 1) (nI 12) (by omega) (by rw [FUEL_eq]; omega) (by rw [FUEL_eq]; omega) (Or.inl ⟨rfl, rfl⟩)
    have v2' : f5_fewestPosts μ' (nI (tri n)) = some v := v2
    have hk2 : k = 0 ∨ k = 1 := by omega
    rcases hk2 with rfl | rfl
    · rw [if_pos (Or.inl rfl)] at v3
      refine ⟨v, μ', μM', ν, by simp (disch := omega) only [a1', v2', Nat.add_sub_cancel, nm_s, bd1_s, bd2_s, bd3_s, gd_n, gd_ne, nI_clamp, nI_leI, nI_ltI, nI_eq, nI_add, pk_mul, pk_sub, up_r, upL_r, jrem_n, jmax_n, if_true, if_false, if_pos, if_neg, gd_i, Nat.zero_add, Nat.add_zero, Nat.mul_zero, nI_nn, nI_nn2, mI_le, mI_ne, mI_ne2, mI_ne3, mI_ne4, ne0, kl_0, kl_1, kl_2, kl_3, kl_4, kl_5, kl_6, kl_7, kl_8, kl_9, kl_10, kl_11, kl_12, kl_13, kl_14, kl_15, kl_16, kl_17, kl_18, kl_19, kl_20, kl_21, kl_22, kl_23, kl_32, kl_40, kl_48, kl_50, kl_53, kl_56, kl_57, kl_60, kl_61, kl_66, kl_97, kl_99, kl_100, kl_120, kl_122, kl_160, kl_200, kl_255, kl_300, kl_500, kl_600, kl_601, kl_999, kl_1000, kl_2048, kl_9999, and_self, and_true, true_and, and_false, false_and, not_false_eq_true, not_true_eq_false], ?_, a2.c (by omega), m2.m (by omega)⟩
      simp (disch := omega) only [Nat.add_sub_cancel, nm_s, bd1_s, bd2_s, bd3_s, gd_n, gd_ne, nI_clamp, nI_leI, nI_ltI, nI_eq, nI_add, pk_mul, pk_sub, up_r, upL_r, jrem_n, jmax_n, if_true, if_false, if_pos, if_neg, gd_i, Nat.zero_add, Nat.add_zero, Nat.mul_zero, nI_nn, nI_nn2, mI_le, mI_ne, mI_ne2, mI_ne3, mI_ne4, ne0, kl_0, kl_1, kl_2, kl_3, kl_4, kl_5, kl_6, kl_7, kl_8, kl_9, kl_10, kl_11, kl_12, kl_13, kl_14, kl_15, kl_16, kl_17, kl_18, kl_19, kl_20, kl_21, kl_22, kl_23, kl_32, kl_40, kl_48, kl_50, kl_53, kl_56, kl_57, kl_60, kl_61, kl_66, kl_97, kl_99, kl_100, kl_120, kl_122, kl_160, kl_200, kl_255, kl_300, kl_500, kl_600, kl_601, kl_999, kl_1000, kl_2048, kl_9999, and_self, and_true, true_and, and_false, false_and, not_false_eq_true, not_true_eq_false]
      rw [m1]
      exact v3
    · rcases v1 with rfl | ⟨t, ht, rfl⟩
      · rw [if_pos (Or.inr rfl)] at v3
        refine ⟨-nI 1, μ', μM', ν, by simp (disch := omega) only [a1', v2', Nat.add_sub_cancel, nm_s, bd1_s, bd2_s, bd3_s, gd_n, gd_ne, nI_clamp, nI_leI, nI_ltI, nI_eq, nI_add, pk_mul, pk_sub, up_r, upL_r, jrem_n, jmax_n, if_true, if_false, if_pos, if_neg, gd_i, Nat.zero_add, Nat.add_zero, Nat.mul_zero, nI_nn, nI_nn2, mI_le, mI_ne, mI_ne2, mI_ne3, mI_ne4, ne0, kl_0, kl_1, kl_2, kl_3, kl_4, kl_5, kl_6, kl_7, kl_8, kl_9, kl_10, kl_11, kl_12, kl_13, kl_14, kl_15, kl_16, kl_17, kl_18, kl_19, kl_20, kl_21, kl_22, kl_23, kl_32, kl_40, kl_48, kl_50, kl_53, kl_56, kl_57, kl_60, kl_61, kl_66, kl_97, kl_99, kl_100, kl_120, kl_122, kl_160, kl_200, kl_255, kl_300, kl_500, kl_600, kl_601, kl_999, kl_1000, kl_2048, kl_9999, and_self, and_true, true_and, and_false, false_and, not_false_eq_true, not_true_eq_false], ?_, a2.c (by omega), m2.m (by omega)⟩
        simp (disch := omega) only [Nat.add_sub_cancel, nm_s, bd1_s, bd2_s, bd3_s, gd_n, gd_ne, nI_clamp, nI_leI, nI_ltI, nI_eq, nI_add, pk_mul, pk_sub, up_r, upL_r, jrem_n, jmax_n, if_true, if_false, if_pos, if_neg, gd_i, Nat.zero_add, Nat.add_zero, Nat.mul_zero, nI_nn, nI_nn2, mI_le, mI_ne, mI_ne2, mI_ne3, mI_ne4, ne0, kl_0, kl_1, kl_2, kl_3, kl_4, kl_5, kl_6, kl_7, kl_8, kl_9, kl_10, kl_11, kl_12, kl_13, kl_14, kl_15, kl_16, kl_17, kl_18, kl_19, kl_20, kl_21, kl_22, kl_23, kl_32, kl_40, kl_48, kl_50, kl_53, kl_56, kl_57, kl_60, kl_61, kl_66, kl_97, kl_99, kl_100, kl_120, kl_122, kl_160, kl_200, kl_255, kl_300, kl_500, kl_600, kl_601, kl_999, kl_1000, kl_2048, kl_9999, and_self, and_true, true_and, and_false, false_and, not_false_eq_true, not_true_eq_false]
        rw [m1]
        exact v3
      · have hne : ¬ nI t = -nI 1 := by rw [mI_ne (by omega) (by decide)]; omega
        rw [if_neg (by rintro (q | q); cases q; exact hne q)] at v3
        refine ⟨fJ6_bitCount_0f7a4 (nI t), μ', μM', ν, by simp (disch := omega) only [a1', v2', hne, Nat.add_sub_cancel, nm_s, bd1_s, bd2_s, bd3_s, gd_n, gd_ne, nI_clamp, nI_leI, nI_ltI, nI_eq, nI_add, pk_mul, pk_sub, up_r, upL_r, jrem_n, jmax_n, if_true, if_false, if_pos, if_neg, gd_i, Nat.zero_add, Nat.add_zero, Nat.mul_zero, nI_nn, nI_nn2, mI_le, mI_ne, mI_ne2, mI_ne3, mI_ne4, ne0, kl_0, kl_1, kl_2, kl_3, kl_4, kl_5, kl_6, kl_7, kl_8, kl_9, kl_10, kl_11, kl_12, kl_13, kl_14, kl_15, kl_16, kl_17, kl_18, kl_19, kl_20, kl_21, kl_22, kl_23, kl_32, kl_40, kl_48, kl_50, kl_53, kl_56, kl_57, kl_60, kl_61, kl_66, kl_97, kl_99, kl_100, kl_120, kl_122, kl_160, kl_200, kl_255, kl_300, kl_500, kl_600, kl_601, kl_999, kl_1000, kl_2048, kl_9999, and_self, and_true, true_and, and_false, false_and, not_false_eq_true, not_true_eq_false], ?_, a2.c (by omega), m2.m (by omega)⟩
        simp (disch := omega) only [Nat.add_sub_cancel, nm_s, bd1_s, bd2_s, bd3_s, gd_n, gd_ne, nI_clamp, nI_leI, nI_ltI, nI_eq, nI_add, pk_mul, pk_sub, up_r, upL_r, jrem_n, jmax_n, if_true, if_false, if_pos, if_neg, gd_i, Nat.zero_add, Nat.add_zero, Nat.mul_zero, nI_nn, nI_nn2, mI_le, mI_ne, mI_ne2, mI_ne3, mI_ne4, ne0, kl_0, kl_1, kl_2, kl_3, kl_4, kl_5, kl_6, kl_7, kl_8, kl_9, kl_10, kl_11, kl_12, kl_13, kl_14, kl_15, kl_16, kl_17, kl_18, kl_19, kl_20, kl_21, kl_22, kl_23, kl_32, kl_40, kl_48, kl_50, kl_53, kl_56, kl_57, kl_60, kl_61, kl_66, kl_97, kl_99, kl_100, kl_120, kl_122, kl_160, kl_200, kl_255, kl_300, kl_500, kl_600, kl_601, kl_999, kl_1000, kl_2048, kl_9999, and_self, and_true, true_and, and_false, false_and, not_false_eq_true, not_true_eq_false]
        rw [m1]
        exact v3
