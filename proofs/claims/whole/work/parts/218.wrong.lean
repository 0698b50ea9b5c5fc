/-! wrong -/
def cnb (b : Nat → Bool) : Nat → Nat → Nat
  | _, 0 => 0
  | a, n + 1 => (b a).toNat + cnb b (a + 1) n
theorem cnb_right (b : Nat → Bool) : ∀ (n a : Nat), cnb b a (n + 1) = cnb b a n + (b (a + n)).toNat := by
  intro n
  induction n with
  | zero => intro a; show (b a).toNat + 0 = 0 + (b a).toNat; omega
  | succ n ih =>
    intro a
    show (b a).toNat + cnb b (a + 1) (n + 1) = ((b a).toNat + cnb b (a + 1) n) + (b (a + (n + 1))).toNat
    rw [ih (a + 1), show a + 1 + n = a + (n + 1) by omega]
    omega
theorem toNat_le (x : Bool) : x.toNat ≤ 1 := by cases x <;> decide
theorem cnb_le (b : Nat → Bool) : ∀ (n a : Nat), cnb b a n ≤ n := by
  intro n
  induction n with
  | zero => intro a; exact Nat.le_refl 0
  | succ n ih =>
    intro a
    have := ih (a + 1)
    have := toNat_le (b a)
    show (b a).toNat + cnb b (a + 1) n ≤ n + 1
    omega
def cd (b : Nat → Bool) (d : Nat) : Nat := if d = 0 then 0 else cnb b (61 - d) (2 * d - 1)
theorem cd_1 (b : Nat → Bool) : cd b 1 = (b 60).toNat := by
  show (b 60).toNat + 0 = _
  omega
theorem cd_step (b : Nat → Bool) {d : Nat} (h0 : 0 < d) (h : d ≤ 60) : cd b (d + 1) = cd b d + (b (60 - d)).toNat + (b (60 + d)).toNat := by
  unfold cd
  rw [if_neg (by omega), if_neg (by omega)]
  obtain ⟨d, rfl⟩ : ∃ k, d = k + 1 := ⟨d - 1, by omega⟩
  rw [show 2 * (d + 1 + 1) - 1 = (2 * (d + 1) - 1 + 1) + 1 by omega, show 61 - (d + 1 + 1) = 60 - (d + 1) by omega]
  show (b (60 - (d + 1))).toNat + cnb b (60 - (d + 1) + 1) (2 * (d + 1) - 1 + 1) = _
  rw [cnb_right, show 60 - (d + 1) + 1 = 61 - (d + 1) by omega, show 61 - (d + 1) + (2 * (d + 1) - 1) = 60 + (d + 1) by omega]
  omega
theorem cd_61 (b : Nat → Bool) : cd b 61 = cnb b 0 121 := by
  unfold cd
  rw [if_neg (by decide)]
def cI (k : Nat) : Int32 := nI k + -nI 60
theorem cI_t {k : Nat} (h : k ≤ 1000) : (cI k).toInt = (k : Int) - 60 := by
  unfold cI
  rw [fb_addI (by rw [nI_toInt (by omega), neg_toInt (by decide)]; omega) (by rw [nI_toInt (by omega), neg_toInt (by decide)]; omega), nI_toInt (by omega), neg_toInt (by decide)]
  omega
theorem cI_1 (k : Nat) : cI k + nI 1 = cI (k + 1) := by
  unfold cI
  rw [Int32.add_assoc, Int32.add_comm (-nI 60) (nI 1), ← Int32.add_assoc, nI_add]
theorem cI_n {d : Nat} (h : d ≤ 60) : -nI d = cI (60 - d) := by
  rw [fa_eq, neg_toInt (by omega), cI_t (by omega)]
  omega
theorem cI_p {d : Nat} (h : d ≤ 60) : nI d = cI (60 + d) := by
  rw [fa_eq, nI_toInt (by omega), cI_t (by omega)]
  omega
theorem cI_99 {k : Nat} (h : k ≤ 121) : ¬ cI k = nI 99 := by
  rw [fa_eq, cI_t (by omega), nI_toInt (by decide)]
  omega
theorem cI_gt {k : Nat} (h : k ≤ 121) : (nI 60 < cI k) = (120 < k) := by
  rw [fa_lt, cI_t (by omega), nI_toInt (by decide)]
  exact propext ⟨fun h => by omega, fun h => by omega⟩
def fb (μ : Mem) (q w : Nat) (k : Nat) : Bool := decide (f5_fitsBy μ q (nI w) (cI k) = some (nI 1))
theorem clk1 {μ μM : Mem} {ν : Lem} {q w : Nat} (H : ∀ k, k ≤ 121 → (fb μ q w k = true ∧ f5_fitsBy μ q (nI w) (cI k) = some (nI 1) ∧ f6_isSo μM ν (nI q) (nI w) (cI k) = some (nI 1, μM, ν)) ∨ (fb μ q w k = false ∧ f5_fitsBy μ q (nI w) (cI k) = some (nI 0) ∧ f6_isSo μM ν (nI q) (nI w) (cI k) = some (nI 0, μM, ν))) : ∀ (N k c : Nat), k ≤ 121 → 121 - k < N → c ≤ k → f5_clocks_1 μ N q (nI w) (nI c) (cI k) = some (nI (c + cnb (fb μ q w) k (121 - k))) := by
  intro N
  induction N with
  | zero => intro k c _ h; omega
  | succ N ih =>
    intro k c hk hN hc
    rw [f5_clocks_1]
    by_cases h6 : k = 121
    · subst h6
      simp (disch := omega) only [cI_gt, Nat.add_sub_cancel, nm_s, bd1_s, bd2_s, bd3_s, gd_n, gd_ne, nI_clamp, nI_leI, nI_ltI, nI_eq, nI_add, pk_mul, pk_sub, up_r, upL_r, jrem_n, jmax_n, if_true, if_false, if_pos, if_neg, gd_i, Nat.zero_add, Nat.add_zero, Nat.mul_zero, nI_nn, nI_nn2, mI_le, mI_ne, mI_ne2, mI_ne3, mI_ne4, ne0, kl_0, kl_1, kl_2, kl_3, kl_4, kl_5, kl_6, kl_7, kl_8, kl_9, kl_10, kl_11, kl_12, kl_13, kl_14, kl_15, kl_16, kl_17, kl_18, kl_19, kl_20, kl_21, kl_22, kl_23, kl_32, kl_40, kl_48, kl_50, kl_53, kl_56, kl_57, kl_60, kl_61, kl_66, kl_97, kl_99, kl_100, kl_120, kl_122, kl_160, kl_200, kl_255, kl_300, kl_500, kl_600, kl_601, kl_999, kl_1000, kl_2048, kl_9999, and_self, and_true, true_and, and_false, false_and, not_false_eq_true, not_true_eq_false]
      rfl
    · have hh := H k hk
      obtain ⟨m, hm⟩ : ∃ m, 121 - k = m + 1 := ⟨121 - k - 1, by omega⟩
      have hm2 : 121 - (k + 1) = m := by omega
      rcases hh with ⟨h1, h2, -⟩ | ⟨h1, h2, -⟩
      · have := ih (k + 1) (c + 1) (by omega) (by omega) (by omega)
        rw [hm2] at this
        simp (disch := omega) only [cI_gt, h2, cI_1, Nat.add_sub_cancel, nm_s, bd1_s, bd2_s, bd3_s, gd_n, gd_ne, nI_clamp, nI_leI, nI_ltI, nI_eq, nI_add, pk_mul, pk_sub, up_r, upL_r, jrem_n, jmax_n, if_true, if_false, if_pos, if_neg, gd_i, Nat.zero_add, Nat.add_zero, Nat.mul_zero, nI_nn, nI_nn2, mI_le, mI_ne, mI_ne2, mI_ne3, mI_ne4, ne0, kl_0, kl_1, kl_2, kl_3, kl_4, kl_5, kl_6, kl_7, kl_8, kl_9, kl_10, kl_11, kl_12, kl_13, kl_14, kl_15, kl_16, kl_17, kl_18, kl_19, kl_20, kl_21, kl_22, kl_23, kl_32, kl_40, kl_48, kl_50, kl_53, kl_56, kl_57, kl_60, kl_61, kl_66, kl_97, kl_99, kl_100, kl_120, kl_122, kl_160, kl_200, kl_255, kl_300, kl_500, kl_600, kl_601, kl_999, kl_1000, kl_2048, kl_9999, and_self, and_true, true_and, and_false, false_and, not_false_eq_true, not_true_eq_false]
        rw [this, hm]
        show some (nI (c + 1 + cnb (fb μ q w) (k + 1) m)) = some (nI (c + ((fb μ q w k).toNat + cnb (fb μ q w) (k + 1) m)))
        rw [h1]
        exact congrArg (fun x => some (nI x)) (by show c + 1 + _ = c + (1 + _); omega)
      · have := ih (k + 1) c (by omega) (by omega) (by omega)
        rw [hm2] at this
        simp (disch := omega) only [cI_gt, h2, cI_1, Nat.add_sub_cancel, nm_s, bd1_s, bd2_s, bd3_s, gd_n, gd_ne, nI_clamp, nI_leI, nI_ltI, nI_eq, nI_add, pk_mul, pk_sub, up_r, upL_r, jrem_n, jmax_n, if_true, if_false, if_pos, if_neg, gd_i, Nat.zero_add, Nat.add_zero, Nat.mul_zero, nI_nn, nI_nn2, mI_le, mI_ne, mI_ne2, mI_ne3, mI_ne4, ne0, kl_0, kl_1, kl_2, kl_3, kl_4, kl_5, kl_6, kl_7, kl_8, kl_9, kl_10, kl_11, kl_12, kl_13, kl_14, kl_15, kl_16, kl_17, kl_18, kl_19, kl_20, kl_21, kl_22, kl_23, kl_32, kl_40, kl_48, kl_50, kl_53, kl_56, kl_57, kl_60, kl_61, kl_66, kl_97, kl_99, kl_100, kl_120, kl_122, kl_160, kl_200, kl_255, kl_300, kl_500, kl_600, kl_601, kl_999, kl_1000, kl_2048, kl_9999, and_self, and_true, true_and, and_false, false_and, not_false_eq_true, not_true_eq_false]
        rw [this, hm]
        show some (nI (c + cnb (fb μ q w) (k + 1) m)) = some (nI (c + ((fb μ q w k).toNat + cnb (fb μ q w) (k + 1) m)))
        rw [h1]
        exact congrArg (fun x => some (nI x)) (by show c + _ = c + (0 + _); omega)
theorem wr1 {μ μM : Mem} {ν : Lem} {q w : Nat} (H : ∀ k, k ≤ 121 → (fb μ q w k = true ∧ f5_fitsBy μ q (nI w) (cI k) = some (nI 1) ∧ f6_isSo μM ν (nI q) (nI w) (cI k) = some (nI 1, μM, ν)) ∨ (fb μ q w k = false ∧ f5_fitsBy μ q (nI w) (cI k) = some (nI 0) ∧ f6_isSo μM ν (nI q) (nI w) (cI k) = some (nI 0, μM, ν))) (x3 : Int32) : ∀ (N K d : Nat) (x5 : Int32), d ≤ 61 → 61 - d < N → 61 - d < K →
    ∃ v, f5_nearestClock_1 μ N q (nI w) (nI d) = some v ∧ f6_wrong_1 K μM ν (nI q) (nI w) x3 (nI (cd (fb μ q w) d)) x5 (nI d) = if x3 = nI 0 then some (nI (cnb (fb μ q w) 0 121), μM, ν) else some (if x5 = nI 99 then v else x5, μM, ν) := by
  intro N
  induction N with
  | zero => intro K d x5 _ h; omega
  | succ N ih =>
    intro K d x5 hd hN hK
    obtain ⟨K, rfl⟩ : ∃ k', K = k' + 1 := ⟨K - 1, by omega⟩
    by_cases h6 : d = 61
    · subst h6
      refine ⟨nI 99, ?_, ?_⟩
      · rw [f5_nearestClock_1]
        simp (disch := omega) only [Nat.add_sub_cancel, nm_s, bd1_s, bd2_s, bd3_s, gd_n, gd_ne, nI_clamp, nI_leI, nI_ltI, nI_eq, nI_add, pk_mul, pk_sub, up_r, upL_r, jrem_n, jmax_n, if_true, if_false, if_pos, if_neg, gd_i, Nat.zero_add, Nat.add_zero, Nat.mul_zero, nI_nn, nI_nn2, mI_le, mI_ne, mI_ne2, mI_ne3, mI_ne4, ne0, kl_0, kl_1, kl_2, kl_3, kl_4, kl_5, kl_6, kl_7, kl_8, kl_9, kl_10, kl_11, kl_12, kl_13, kl_14, kl_15, kl_16, kl_17, kl_18, kl_19, kl_20, kl_21, kl_22, kl_23, kl_32, kl_40, kl_48, kl_50, kl_53, kl_56, kl_57, kl_60, kl_61, kl_66, kl_97, kl_99, kl_100, kl_120, kl_122, kl_160, kl_200, kl_255, kl_300, kl_500, kl_600, kl_601, kl_999, kl_1000, kl_2048, kl_9999, and_self, and_true, true_and, and_false, false_and, not_false_eq_true, not_true_eq_false]
      · rw [f6_wrong_1, ← cd_61]
        by_cases hx : x3 = nI 0
        · simp (disch := omega) only [hx, Nat.add_sub_cancel, nm_s, bd1_s, bd2_s, bd3_s, gd_n, gd_ne, nI_clamp, nI_leI, nI_ltI, nI_eq, nI_add, pk_mul, pk_sub, up_r, upL_r, jrem_n, jmax_n, if_true, if_false, if_pos, if_neg, gd_i, Nat.zero_add, Nat.add_zero, Nat.mul_zero, nI_nn, nI_nn2, mI_le, mI_ne, mI_ne2, mI_ne3, mI_ne4, ne0, kl_0, kl_1, kl_2, kl_3, kl_4, kl_5, kl_6, kl_7, kl_8, kl_9, kl_10, kl_11, kl_12, kl_13, kl_14, kl_15, kl_16, kl_17, kl_18, kl_19, kl_20, kl_21, kl_22, kl_23, kl_32, kl_40, kl_48, kl_50, kl_53, kl_56, kl_57, kl_60, kl_61, kl_66, kl_97, kl_99, kl_100, kl_120, kl_122, kl_160, kl_200, kl_255, kl_300, kl_500, kl_600, kl_601, kl_999, kl_1000, kl_2048, kl_9999, and_self, and_true, true_and, and_false, false_and, not_false_eq_true, not_true_eq_false]
        · by_cases hx5 : x5 = nI 99
          · simp (disch := omega) only [hx, hx5, Nat.add_sub_cancel, nm_s, bd1_s, bd2_s, bd3_s, gd_n, gd_ne, nI_clamp, nI_leI, nI_ltI, nI_eq, nI_add, pk_mul, pk_sub, up_r, upL_r, jrem_n, jmax_n, if_true, if_false, if_pos, if_neg, gd_i, Nat.zero_add, Nat.add_zero, Nat.mul_zero, nI_nn, nI_nn2, mI_le, mI_ne, mI_ne2, mI_ne3, mI_ne4, ne0, kl_0, kl_1, kl_2, kl_3, kl_4, kl_5, kl_6, kl_7, kl_8, kl_9, kl_10, kl_11, kl_12, kl_13, kl_14, kl_15, kl_16, kl_17, kl_18, kl_19, kl_20, kl_21, kl_22, kl_23, kl_32, kl_40, kl_48, kl_50, kl_53, kl_56, kl_57, kl_60, kl_61, kl_66, kl_97, kl_99, kl_100, kl_120, kl_122, kl_160, kl_200, kl_255, kl_300, kl_500, kl_600, kl_601, kl_999, kl_1000, kl_2048, kl_9999, and_self, and_true, true_and, and_false, false_and, not_false_eq_true, not_true_eq_false]
          · simp (disch := omega) only [hx, hx5, Nat.add_sub_cancel, nm_s, bd1_s, bd2_s, bd3_s, gd_n, gd_ne, nI_clamp, nI_leI, nI_ltI, nI_eq, nI_add, pk_mul, pk_sub, up_r, upL_r, jrem_n, jmax_n, if_true, if_false, if_pos, if_neg, gd_i, Nat.zero_add, Nat.add_zero, Nat.mul_zero, nI_nn, nI_nn2, mI_le, mI_ne, mI_ne2, mI_ne3, mI_ne4, ne0, kl_0, kl_1, kl_2, kl_3, kl_4, kl_5, kl_6, kl_7, kl_8, kl_9, kl_10, kl_11, kl_12, kl_13, kl_14, kl_15, kl_16, kl_17, kl_18, kl_19, kl_20, kl_21, kl_22, kl_23, kl_32, kl_40, kl_48, kl_50, kl_53, kl_56, kl_57, kl_60, kl_61, kl_66, kl_97, kl_99, kl_100, kl_120, kl_122, kl_160, kl_200, kl_255, kl_300, kl_500, kl_600, kl_601, kl_999, kl_1000, kl_2048, kl_9999, and_self, and_true, true_and, and_false, false_and, not_false_eq_true, not_true_eq_false]
    · have hd60 : d ≤ 60 := by omega
      have Hn := H (60 - d) (by omega)
      have Hp := H (60 + d) (by omega)
      have n99 : ¬ -nI d = nI 99 := by rw [cI_n hd60]; exact cI_99 (by omega)
      have p99 : ¬ nI d = nI 99 := by rw [cI_p hd60]; exact cI_99 (by omega)
      rw [← cI_n hd60] at Hn
      rw [← cI_p hd60] at Hp
      by_cases h0 : d = 0
      · subst h0
        have hz : cd (fb μ q w) 0 = 0 := rfl
        have hneg : -nI 0 = nI 0 := by decide
        rw [hneg] at Hn n99
        rw [hz]
        have Hn : (fb μ q w 60 = true ∧ f5_fitsBy μ q (nI w) (nI 0) = some (nI 1) ∧ f6_isSo μM ν (nI q) (nI w) (nI 0) = some (nI 1, μM, ν)) ∨ (fb μ q w 60 = false ∧ f5_fitsBy μ q (nI w) (nI 0) = some (nI 0) ∧ f6_isSo μM ν (nI q) (nI w) (nI 0) = some (nI 0, μM, ν)) := Hn
        rcases Hn with ⟨a1, a2, a3⟩ | ⟨a1, a2, a3⟩
        · have hcd : cd (fb μ q w) 1 = 1 := by rw [cd_1, a1]; rfl
          refine ⟨nI 0, ?_, ?_⟩
          · rw [f5_nearestClock_1]
            simp (disch := omega) only [hneg, a2, Nat.add_sub_cancel, nm_s, bd1_s, bd2_s, bd3_s, gd_n, gd_ne, nI_clamp, nI_leI, nI_ltI, nI_eq, nI_add, pk_mul, pk_sub, up_r, upL_r, jrem_n, jmax_n, if_true, if_false, if_pos, if_neg, gd_i, Nat.zero_add, Nat.add_zero, Nat.mul_zero, nI_nn, nI_nn2, mI_le, mI_ne, mI_ne2, mI_ne3, mI_ne4, ne0, kl_0, kl_1, kl_2, kl_3, kl_4, kl_5, kl_6, kl_7, kl_8, kl_9, kl_10, kl_11, kl_12, kl_13, kl_14, kl_15, kl_16, kl_17, kl_18, kl_19, kl_20, kl_21, kl_22, kl_23, kl_32, kl_40, kl_48, kl_50, kl_53, kl_56, kl_57, kl_60, kl_61, kl_66, kl_97, kl_99, kl_100, kl_120, kl_122, kl_160, kl_200, kl_255, kl_300, kl_500, kl_600, kl_601, kl_999, kl_1000, kl_2048, kl_9999, and_self, and_true, true_and, and_false, false_and, not_false_eq_true, not_true_eq_false]
          · rw [f6_wrong_1]
            unfold f6_wrong_2 f6_wrong_3
            by_cases hx5 : x5 = nI 99
            · obtain ⟨v2, b1, b2⟩ := ih K 1 (nI 0) (by omega) (by omega) (by omega)
              rw [hcd] at b2
              simp (disch := omega) only [hneg, a3, hx5, p99, Nat.add_sub_cancel, nm_s, bd1_s, bd2_s, bd3_s, gd_n, gd_ne, nI_clamp, nI_leI, nI_ltI, nI_eq, nI_add, pk_mul, pk_sub, up_r, upL_r, jrem_n, jmax_n, if_true, if_false, if_pos, if_neg, gd_i, Nat.zero_add, Nat.add_zero, Nat.mul_zero, nI_nn, nI_nn2, mI_le, mI_ne, mI_ne2, mI_ne3, mI_ne4, ne0, kl_0, kl_1, kl_2, kl_3, kl_4, kl_5, kl_6, kl_7, kl_8, kl_9, kl_10, kl_11, kl_12, kl_13, kl_14, kl_15, kl_16, kl_17, kl_18, kl_19, kl_20, kl_21, kl_22, kl_23, kl_32, kl_40, kl_48, kl_50, kl_53, kl_56, kl_57, kl_60, kl_61, kl_66, kl_97, kl_99, kl_100, kl_120, kl_122, kl_160, kl_200, kl_255, kl_300, kl_500, kl_600, kl_601, kl_999, kl_1000, kl_2048, kl_9999, and_self, and_true, true_and, and_false, false_and, not_false_eq_true, not_true_eq_false]
              rw [b2, if_neg (show ¬ nI 0 = nI 99 by decide)]
            · obtain ⟨v2, b1, b2⟩ := ih K 1 x5 (by omega) (by omega) (by omega)
              rw [hcd, if_neg hx5] at b2
              simp (disch := omega) only [hneg, a3, hx5, Nat.add_sub_cancel, nm_s, bd1_s, bd2_s, bd3_s, gd_n, gd_ne, nI_clamp, nI_leI, nI_ltI, nI_eq, nI_add, pk_mul, pk_sub, up_r, upL_r, jrem_n, jmax_n, if_true, if_false, if_pos, if_neg, gd_i, Nat.zero_add, Nat.add_zero, Nat.mul_zero, nI_nn, nI_nn2, mI_le, mI_ne, mI_ne2, mI_ne3, mI_ne4, ne0, kl_0, kl_1, kl_2, kl_3, kl_4, kl_5, kl_6, kl_7, kl_8, kl_9, kl_10, kl_11, kl_12, kl_13, kl_14, kl_15, kl_16, kl_17, kl_18, kl_19, kl_20, kl_21, kl_22, kl_23, kl_32, kl_40, kl_48, kl_50, kl_53, kl_56, kl_57, kl_60, kl_61, kl_66, kl_97, kl_99, kl_100, kl_120, kl_122, kl_160, kl_200, kl_255, kl_300, kl_500, kl_600, kl_601, kl_999, kl_1000, kl_2048, kl_9999, and_self, and_true, true_and, and_false, false_and, not_false_eq_true, not_true_eq_false]
              rw [b2]
        · have hcd : cd (fb μ q w) 1 = 0 := by rw [cd_1, a1]; rfl
          obtain ⟨v2, b1, b2⟩ := ih K 1 x5 (by omega) (by omega) (by omega)
          rw [hcd] at b2
          refine ⟨v2, ?_, ?_⟩
          · rw [f5_nearestClock_1]
            simp (disch := omega) only [hneg, a2, Nat.add_sub_cancel, nm_s, bd1_s, bd2_s, bd3_s, gd_n, gd_ne, nI_clamp, nI_leI, nI_ltI, nI_eq, nI_add, pk_mul, pk_sub, up_r, upL_r, jrem_n, jmax_n, if_true, if_false, if_pos, if_neg, gd_i, Nat.zero_add, Nat.add_zero, Nat.mul_zero, nI_nn, nI_nn2, mI_le, mI_ne, mI_ne2, mI_ne3, mI_ne4, ne0, kl_0, kl_1, kl_2, kl_3, kl_4, kl_5, kl_6, kl_7, kl_8, kl_9, kl_10, kl_11, kl_12, kl_13, kl_14, kl_15, kl_16, kl_17, kl_18, kl_19, kl_20, kl_21, kl_22, kl_23, kl_32, kl_40, kl_48, kl_50, kl_53, kl_56, kl_57, kl_60, kl_61, kl_66, kl_97, kl_99, kl_100, kl_120, kl_122, kl_160, kl_200, kl_255, kl_300, kl_500, kl_600, kl_601, kl_999, kl_1000, kl_2048, kl_9999, and_self, and_true, true_and, and_false, false_and, not_false_eq_true, not_true_eq_false]
            exact b1
          · rw [f6_wrong_1]
            unfold f6_wrong_2 f6_wrong_3
            simp (disch := omega) only [hneg, a3, Nat.add_sub_cancel, nm_s, bd1_s, bd2_s, bd3_s, gd_n, gd_ne, nI_clamp, nI_leI, nI_ltI, nI_eq, nI_add, pk_mul, pk_sub, up_r, upL_r, jrem_n, jmax_n, if_true, if_false, if_pos, if_neg, gd_i, Nat.zero_add, Nat.add_zero, Nat.mul_zero, nI_nn, nI_nn2, mI_le, mI_ne, mI_ne2, mI_ne3, mI_ne4, ne0, kl_0, kl_1, kl_2, kl_3, kl_4, kl_5, kl_6, kl_7, kl_8, kl_9, kl_10, kl_11, kl_12, kl_13, kl_14, kl_15, kl_16, kl_17, kl_18, kl_19, kl_20, kl_21, kl_22, kl_23, kl_32, kl_40, kl_48, kl_50, kl_53, kl_56, kl_57, kl_60, kl_61, kl_66, kl_97, kl_99, kl_100, kl_120, kl_122, kl_160, kl_200, kl_255, kl_300, kl_500, kl_600, kl_601, kl_999, kl_1000, kl_2048, kl_9999, and_self, and_true, true_and, and_false, false_and, not_false_eq_true, not_true_eq_false]
            exact b2
      · have hst := cd_step (fb μ q w) (d := d) (by omega) hd60
        have hcl : cd (fb μ q w) d ≤ 121 := by
          unfold cd
          split
          · omega
          · exact Nat.le_trans (cnb_le _ _ _) (by omega)
        rcases Hn with ⟨a1, a2, a3⟩ | ⟨a1, a2, a3⟩
        · rcases Hp with ⟨c1, c2, c3⟩ | ⟨c1, c2, c3⟩
          · have hcd : cd (fb μ q w) (d + 1) = cd (fb μ q w) d + 1 + 1 := by rw [hst, a1, c1]; rfl
            refine ⟨-nI d, by rw [f5_nearestClock_1]; simp (disch := omega) only [a2, Nat.add_sub_cancel, nm_s, bd1_s, bd2_s, bd3_s, gd_n, gd_ne, nI_clamp, nI_leI, nI_ltI, nI_eq, nI_add, pk_mul, pk_sub, up_r, upL_r, jrem_n, jmax_n, if_true, if_false, if_pos, if_neg, gd_i, Nat.zero_add, Nat.add_zero, Nat.mul_zero, nI_nn, nI_nn2, mI_le, mI_ne, mI_ne2, mI_ne3, mI_ne4, ne0, kl_0, kl_1, kl_2, kl_3, kl_4, kl_5, kl_6, kl_7, kl_8, kl_9, kl_10, kl_11, kl_12, kl_13, kl_14, kl_15, kl_16, kl_17, kl_18, kl_19, kl_20, kl_21, kl_22, kl_23, kl_32, kl_40, kl_48, kl_50, kl_53, kl_56, kl_57, kl_60, kl_61, kl_66, kl_97, kl_99, kl_100, kl_120, kl_122, kl_160, kl_200, kl_255, kl_300, kl_500, kl_600, kl_601, kl_999, kl_1000, kl_2048, kl_9999, and_self, and_true, true_and, and_false, false_and, not_false_eq_true, not_true_eq_false], ?_⟩
            rw [f6_wrong_1]
            unfold f6_wrong_2 f6_wrong_3
            by_cases hx5 : x5 = nI 99
            · obtain ⟨v2, b1, b2⟩ := ih K (d + 1) (-nI d) (by omega) (by omega) (by omega)
              rw [hcd, if_neg n99] at b2
              simp (disch := omega) only [a3, c3, hx5, n99, Nat.add_sub_cancel, nm_s, bd1_s, bd2_s, bd3_s, gd_n, gd_ne, nI_clamp, nI_leI, nI_ltI, nI_eq, nI_add, pk_mul, pk_sub, up_r, upL_r, jrem_n, jmax_n, if_true, if_false, if_pos, if_neg, gd_i, Nat.zero_add, Nat.add_zero, Nat.mul_zero, nI_nn, nI_nn2, mI_le, mI_ne, mI_ne2, mI_ne3, mI_ne4, ne0, kl_0, kl_1, kl_2, kl_3, kl_4, kl_5, kl_6, kl_7, kl_8, kl_9, kl_10, kl_11, kl_12, kl_13, kl_14, kl_15, kl_16, kl_17, kl_18, kl_19, kl_20, kl_21, kl_22, kl_23, kl_32, kl_40, kl_48, kl_50, kl_53, kl_56, kl_57, kl_60, kl_61, kl_66, kl_97, kl_99, kl_100, kl_120, kl_122, kl_160, kl_200, kl_255, kl_300, kl_500, kl_600, kl_601, kl_999, kl_1000, kl_2048, kl_9999, and_self, and_true, true_and, and_false, false_and, not_false_eq_true, not_true_eq_false]
              rw [b2]
            · obtain ⟨v2, b1, b2⟩ := ih K (d + 1) x5 (by omega) (by omega) (by omega)
              rw [hcd, if_neg hx5] at b2
              simp (disch := omega) only [a3, c3, hx5, Nat.add_sub_cancel, nm_s, bd1_s, bd2_s, bd3_s, gd_n, gd_ne, nI_clamp, nI_leI, nI_ltI, nI_eq, nI_add, pk_mul, pk_sub, up_r, upL_r, jrem_n, jmax_n, if_true, if_false, if_pos, if_neg, gd_i, Nat.zero_add, Nat.add_zero, Nat.mul_zero, nI_nn, nI_nn2, mI_le, mI_ne, mI_ne2, mI_ne3, mI_ne4, ne0, kl_0, kl_1, kl_2, kl_3, kl_4, kl_5, kl_6, kl_7, kl_8, kl_9, kl_10, kl_11, kl_12, kl_13, kl_14, kl_15, kl_16, kl_17, kl_18, kl_19, kl_20, kl_21, kl_22, kl_23, kl_32, kl_40, kl_48, kl_50, kl_53, kl_56, kl_57, kl_60, kl_61, kl_66, kl_97, kl_99, kl_100, kl_120, kl_122, kl_160, kl_200, kl_255, kl_300, kl_500, kl_600, kl_601, kl_999, kl_1000, kl_2048, kl_9999, and_self, and_true, true_and, and_false, false_and, not_false_eq_true, not_true_eq_false]
              rw [b2]
          · have hcd : cd (fb μ q w) (d + 1) = cd (fb μ q w) d + 1 := by rw [hst, a1, c1]; rfl
            refine ⟨-nI d, by rw [f5_nearestClock_1]; simp (disch := omega) only [a2, Nat.add_sub_cancel, nm_s, bd1_s, bd2_s, bd3_s, gd_n, gd_ne, nI_clamp, nI_leI, nI_ltI, nI_eq, nI_add, pk_mul, pk_sub, up_r, upL_r, jrem_n, jmax_n, if_true, if_false, if_pos, if_neg, gd_i, Nat.zero_add, Nat.add_zero, Nat.mul_zero, nI_nn, nI_nn2, mI_le, mI_ne, mI_ne2, mI_ne3, mI_ne4, ne0, kl_0, kl_1, kl_2, kl_3, kl_4, kl_5, kl_6, kl_7, kl_8, kl_9, kl_10, kl_11, kl_12, kl_13, kl_14, kl_15, kl_16, kl_17, kl_18, kl_19, kl_20, kl_21, kl_22, kl_23, kl_32, kl_40, kl_48, kl_50, kl_53, kl_56, kl_57, kl_60, kl_61, kl_66, kl_97, kl_99, kl_100, kl_120, kl_122, kl_160, kl_200, kl_255, kl_300, kl_500, kl_600, kl_601, kl_999, kl_1000, kl_2048, kl_9999, and_self, and_true, true_and, and_false, false_and, not_false_eq_true, not_true_eq_false], ?_⟩
            rw [f6_wrong_1]
            unfold f6_wrong_2 f6_wrong_3
            by_cases hx5 : x5 = nI 99
            · obtain ⟨v2, b1, b2⟩ := ih K (d + 1) (-nI d) (by omega) (by omega) (by omega)
              rw [hcd, if_neg n99] at b2
              simp (disch := omega) only [a3, c3, hx5, n99, Nat.add_sub_cancel, nm_s, bd1_s, bd2_s, bd3_s, gd_n, gd_ne, nI_clamp, nI_leI, nI_ltI, nI_eq, nI_add, pk_mul, pk_sub, up_r, upL_r, jrem_n, jmax_n, if_true, if_false, if_pos, if_neg, gd_i, Nat.zero_add, Nat.add_zero, Nat.mul_zero, nI_nn, nI_nn2, mI_le, mI_ne, mI_ne2, mI_ne3, mI_ne4, ne0, kl_0, kl_1, kl_2, kl_3, kl_4, kl_5, kl_6, kl_7, kl_8, kl_9, kl_10, kl_11, kl_12, kl_13, kl_14, kl_15, kl_16, kl_17, kl_18, kl_19, kl_20, kl_21, kl_22, kl_23, kl_32, kl_40, kl_48, kl_50, kl_53, kl_56, kl_57, kl_60, kl_61, kl_66, kl_97, kl_99, kl_100, kl_120, kl_122, kl_160, kl_200, kl_255, kl_300, kl_500, kl_600, kl_601, kl_999, kl_1000, kl_2048, kl_9999, and_self, and_true, true_and, and_false, false_and, not_false_eq_true, not_true_eq_false]
              rw [b2]
            · obtain ⟨v2, b1, b2⟩ := ih K (d + 1) x5 (by omega) (by omega) (by omega)
              rw [hcd, if_neg hx5] at b2
              simp (disch := omega) only [a3, c3, hx5, Nat.add_sub_cancel, nm_s, bd1_s, bd2_s, bd3_s, gd_n, gd_ne, nI_clamp, nI_leI, nI_ltI, nI_eq, nI_add, pk_mul, pk_sub, up_r, upL_r, jrem_n, jmax_n, if_true, if_false, if_pos, if_neg, gd_i, Nat.zero_add, Nat.add_zero, Nat.mul_zero, nI_nn, nI_nn2, mI_le, mI_ne, mI_ne2, mI_ne3, mI_ne4, ne0, kl_0, kl_1, kl_2, kl_3, kl_4, kl_5, kl_6, kl_7, kl_8, kl_9, kl_10, kl_11, kl_12, kl_13, kl_14, kl_15, kl_16, kl_17, kl_18, kl_19, kl_20, kl_21, kl_22, kl_23, kl_32, kl_40, kl_48, kl_50, kl_53, kl_56, kl_57, kl_60, kl_61, kl_66, kl_97, kl_99, kl_100, kl_120, kl_122, kl_160, kl_200, kl_255, kl_300, kl_500, kl_600, kl_601, kl_999, kl_1000, kl_2048, kl_9999, and_self, and_true, true_and, and_false, false_and, not_false_eq_true, not_true_eq_false]
              rw [b2]
        · rcases Hp with ⟨c1, c2, c3⟩ | ⟨c1, c2, c3⟩
          · have hcd : cd (fb μ q w) (d + 1) = cd (fb μ q w) d + 1 := by rw [hst, a1, c1]; rfl
            refine ⟨nI d, by rw [f5_nearestClock_1]; simp (disch := omega) only [a2, c2, Nat.add_sub_cancel, nm_s, bd1_s, bd2_s, bd3_s, gd_n, gd_ne, nI_clamp, nI_leI, nI_ltI, nI_eq, nI_add, pk_mul, pk_sub, up_r, upL_r, jrem_n, jmax_n, if_true, if_false, if_pos, if_neg, gd_i, Nat.zero_add, Nat.add_zero, Nat.mul_zero, nI_nn, nI_nn2, mI_le, mI_ne, mI_ne2, mI_ne3, mI_ne4, ne0, kl_0, kl_1, kl_2, kl_3, kl_4, kl_5, kl_6, kl_7, kl_8, kl_9, kl_10, kl_11, kl_12, kl_13, kl_14, kl_15, kl_16, kl_17, kl_18, kl_19, kl_20, kl_21, kl_22, kl_23, kl_32, kl_40, kl_48, kl_50, kl_53, kl_56, kl_57, kl_60, kl_61, kl_66, kl_97, kl_99, kl_100, kl_120, kl_122, kl_160, kl_200, kl_255, kl_300, kl_500, kl_600, kl_601, kl_999, kl_1000, kl_2048, kl_9999, and_self, and_true, true_and, and_false, false_and, not_false_eq_true, not_true_eq_false], ?_⟩
            rw [f6_wrong_1]
            unfold f6_wrong_2 f6_wrong_3
            by_cases hx5 : x5 = nI 99
            · obtain ⟨v2, b1, b2⟩ := ih K (d + 1) (nI d) (by omega) (by omega) (by omega)
              rw [hcd, if_neg p99] at b2
              simp (disch := omega) only [a3, c3, hx5, Nat.add_sub_cancel, nm_s, bd1_s, bd2_s, bd3_s, gd_n, gd_ne, nI_clamp, nI_leI, nI_ltI, nI_eq, nI_add, pk_mul, pk_sub, up_r, upL_r, jrem_n, jmax_n, if_true, if_false, if_pos, if_neg, gd_i, Nat.zero_add, Nat.add_zero, Nat.mul_zero, nI_nn, nI_nn2, mI_le, mI_ne, mI_ne2, mI_ne3, mI_ne4, ne0, kl_0, kl_1, kl_2, kl_3, kl_4, kl_5, kl_6, kl_7, kl_8, kl_9, kl_10, kl_11, kl_12, kl_13, kl_14, kl_15, kl_16, kl_17, kl_18, kl_19, kl_20, kl_21, kl_22, kl_23, kl_32, kl_40, kl_48, kl_50, kl_53, kl_56, kl_57, kl_60, kl_61, kl_66, kl_97, kl_99, kl_100, kl_120, kl_122, kl_160, kl_200, kl_255, kl_300, kl_500, kl_600, kl_601, kl_999, kl_1000, kl_2048, kl_9999, and_self, and_true, true_and, and_false, false_and, not_false_eq_true, not_true_eq_false]
              rw [b2]
            · obtain ⟨v2, b1, b2⟩ := ih K (d + 1) x5 (by omega) (by omega) (by omega)
              rw [hcd, if_neg hx5] at b2
              simp (disch := omega) only [a3, c3, hx5, Nat.add_sub_cancel, nm_s, bd1_s, bd2_s, bd3_s, gd_n, gd_ne, nI_clamp, nI_leI, nI_ltI, nI_eq, nI_add, pk_mul, pk_sub, up_r, upL_r, jrem_n, jmax_n, if_true, if_false, if_pos, if_neg, gd_i, Nat.zero_add, Nat.add_zero, Nat.mul_zero, nI_nn, nI_nn2, mI_le, mI_ne, mI_ne2, mI_ne3, mI_ne4, ne0, kl_0, kl_1, kl_2, kl_3, kl_4, kl_5, kl_6, kl_7, kl_8, kl_9, kl_10, kl_11, kl_12, kl_13, kl_14, kl_15, kl_16, kl_17, kl_18, kl_19, kl_20, kl_21, kl_22, kl_23, kl_32, kl_40, kl_48, kl_50, kl_53, kl_56, kl_57, kl_60, kl_61, kl_66, kl_97, kl_99, kl_100, kl_120, kl_122, kl_160, kl_200, kl_255, kl_300, kl_500, kl_600, kl_601, kl_999, kl_1000, kl_2048, kl_9999, and_self, and_true, true_and, and_false, false_and, not_false_eq_true, not_true_eq_false]
              rw [b2]
          · have hcd : cd (fb μ q w) (d + 1) = cd (fb μ q w) d := by rw [hst, a1, c1]; rfl
            obtain ⟨v2, b1, b2⟩ := ih K (d + 1) x5 (by omega) (by omega) (by omega)
            rw [hcd] at b2
            refine ⟨v2, by rw [f5_nearestClock_1]; simp (disch := omega) only [a2, c2, Nat.add_sub_cancel, nm_s, bd1_s, bd2_s, bd3_s, gd_n, gd_ne, nI_clamp, nI_leI, nI_ltI, nI_eq, nI_add, pk_mul, pk_sub, up_r, upL_r, jrem_n, jmax_n, if_true, if_false, if_pos, if_neg, gd_i, Nat.zero_add, Nat.add_zero, Nat.mul_zero, nI_nn, nI_nn2, mI_le, mI_ne, mI_ne2, mI_ne3, mI_ne4, ne0, kl_0, kl_1, kl_2, kl_3, kl_4, kl_5, kl_6, kl_7, kl_8, kl_9, kl_10, kl_11, kl_12, kl_13, kl_14, kl_15, kl_16, kl_17, kl_18, kl_19, kl_20, kl_21, kl_22, kl_23, kl_32, kl_40, kl_48, kl_50, kl_53, kl_56, kl_57, kl_60, kl_61, kl_66, kl_97, kl_99, kl_100, kl_120, kl_122, kl_160, kl_200, kl_255, kl_300, kl_500, kl_600, kl_601, kl_999, kl_1000, kl_2048, kl_9999, and_self, and_true, true_and, and_false, false_and, not_false_eq_true, not_true_eq_false]; exact b1, ?_⟩
            rw [f6_wrong_1]
            unfold f6_wrong_2 f6_wrong_3
            simp (disch := omega) only [a3, c3, Nat.add_sub_cancel, nm_s, bd1_s, bd2_s, bd3_s, gd_n, gd_ne, nI_clamp, nI_leI, nI_ltI, nI_eq, nI_add, pk_mul, pk_sub, up_r, upL_r, jrem_n, jmax_n, if_true, if_false, if_pos, if_neg, gd_i, Nat.zero_add, Nat.add_zero, Nat.mul_zero, nI_nn, nI_nn2, mI_le, mI_ne, mI_ne2, mI_ne3, mI_ne4, ne0, kl_0, kl_1, kl_2, kl_3, kl_4, kl_5, kl_6, kl_7, kl_8, kl_9, kl_10, kl_11, kl_12, kl_13, kl_14, kl_15, kl_16, kl_17, kl_18, kl_19, kl_20, kl_21, kl_22, kl_23, kl_32, kl_40, kl_48, kl_50, kl_53, kl_56, kl_57, kl_60, kl_61, kl_66, kl_97, kl_99, kl_100, kl_120, kl_122, kl_160, kl_200, kl_255, kl_300, kl_500, kl_600, kl_601, kl_999, kl_1000, kl_2048, kl_9999, and_self, and_true, true_and, and_false, false_and, not_false_eq_true, not_true_eq_false]
            exact b2
theorem wrong_call {μ μM : Mem} {ν : Lem} {T F n r : Nat} {G : Nat → Gw} (p : RQ μ μM T F n r G) (x1 x2 x3 : Int32) : ∃ v, f5_wrong μ x1 x2 x3 = some v ∧ f6_wrong μM ν x1 x2 x3 = some (v, μM, ν) := by
  have pP := p.2.2.2.1
  have hm : ¬ -nI 2 = nI 0 := by decide
  have hm2 : ¬ -nI 11 = nI 0 := by decide
  have e3 : f6_in x3.toInt64 0 1 = if x3 < 0 then 0 else if nI 1 < x3 then 0 else 1 := in_c (a := 0) (b := 1) (by decide) (by decide)
  unfold f5_wrong f6_wrong
  rw [e3]
  rcases notes3 (ν := ν) p.2.2.1 x1 with ⟨h1, h2⟩ | ⟨q, hq, rfl, h1, hrest⟩
  · exact ⟨-nI 1000, by simp (disch := omega) only [h1, Nat.add_sub_cancel, nm_s, bd1_s, bd2_s, bd3_s, gd_n, gd_ne, nI_clamp, nI_leI, nI_ltI, nI_eq, nI_add, pk_mul, pk_sub, up_r, upL_r, jrem_n, jmax_n, if_true, if_false, if_pos, if_neg, gd_i, Nat.zero_add, Nat.add_zero, Nat.mul_zero, nI_nn, nI_nn2, mI_le, mI_ne, mI_ne2, mI_ne3, mI_ne4, ne0, kl_0, kl_1, kl_2, kl_3, kl_4, kl_5, kl_6, kl_7, kl_8, kl_9, kl_10, kl_11, kl_12, kl_13, kl_14, kl_15, kl_16, kl_17, kl_18, kl_19, kl_20, kl_21, kl_22, kl_23, kl_32, kl_40, kl_48, kl_50, kl_53, kl_56, kl_57, kl_60, kl_61, kl_66, kl_97, kl_99, kl_100, kl_120, kl_122, kl_160, kl_200, kl_255, kl_300, kl_500, kl_600, kl_601, kl_999, kl_1000, kl_2048, kl_9999, and_self, and_true, true_and, and_false, false_and, not_false_eq_true, not_true_eq_false], by simp (disch := omega) only [h2, hm, Nat.add_sub_cancel, nm_s, bd1_s, bd2_s, bd3_s, gd_n, gd_ne, nI_clamp, nI_leI, nI_ltI, nI_eq, nI_add, pk_mul, pk_sub, up_r, upL_r, jrem_n, jmax_n, if_true, if_false, if_pos, if_neg, gd_i, Nat.zero_add, Nat.add_zero, Nat.mul_zero, nI_nn, nI_nn2, mI_le, mI_ne, mI_ne2, mI_ne3, mI_ne4, ne0, kl_0, kl_1, kl_2, kl_3, kl_4, kl_5, kl_6, kl_7, kl_8, kl_9, kl_10, kl_11, kl_12, kl_13, kl_14, kl_15, kl_16, kl_17, kl_18, kl_19, kl_20, kl_21, kl_22, kl_23, kl_32, kl_40, kl_48, kl_50, kl_53, kl_56, kl_57, kl_60, kl_61, kl_66, kl_97, kl_99, kl_100, kl_120, kl_122, kl_160, kl_200, kl_255, kl_300, kl_500, kl_600, kl_601, kl_999, kl_1000, kl_2048, kl_9999, and_self, and_true, true_and, and_false, false_and, not_false_eq_true, not_true_eq_false]⟩
  · rcases way3 (ν := ν) pP x2 with ⟨w1, w2⟩ | ⟨w, hw, rfl, w1, w2⟩
    · refine ⟨-nI 1000, by simp (disch := omega) only [h1, w1, Nat.add_sub_cancel, nm_s, bd1_s, bd2_s, bd3_s, gd_n, gd_ne, nI_clamp, nI_leI, nI_ltI, nI_eq, nI_add, pk_mul, pk_sub, up_r, upL_r, jrem_n, jmax_n, if_true, if_false, if_pos, if_neg, gd_i, Nat.zero_add, Nat.add_zero, Nat.mul_zero, nI_nn, nI_nn2, mI_le, mI_ne, mI_ne2, mI_ne3, mI_ne4, ne0, kl_0, kl_1, kl_2, kl_3, kl_4, kl_5, kl_6, kl_7, kl_8, kl_9, kl_10, kl_11, kl_12, kl_13, kl_14, kl_15, kl_16, kl_17, kl_18, kl_19, kl_20, kl_21, kl_22, kl_23, kl_32, kl_40, kl_48, kl_50, kl_53, kl_56, kl_57, kl_60, kl_61, kl_66, kl_97, kl_99, kl_100, kl_120, kl_122, kl_160, kl_200, kl_255, kl_300, kl_500, kl_600, kl_601, kl_999, kl_1000, kl_2048, kl_9999, and_self, and_true, true_and, and_false, false_and, not_false_eq_true, not_true_eq_false], ?_⟩
      rcases hrest with ⟨h3, h4⟩ | ⟨z, it, R, h3, ⟨h4, h5⟩ | ⟨h4, h5, hN⟩⟩
      · simp (disch := omega) only [h4, hm2, Nat.add_sub_cancel, nm_s, bd1_s, bd2_s, bd3_s, gd_n, gd_ne, nI_clamp, nI_leI, nI_ltI, nI_eq, nI_add, pk_mul, pk_sub, up_r, upL_r, jrem_n, jmax_n, if_true, if_false, if_pos, if_neg, gd_i, Nat.zero_add, Nat.add_zero, Nat.mul_zero, nI_nn, nI_nn2, mI_le, mI_ne, mI_ne2, mI_ne3, mI_ne4, ne0, kl_0, kl_1, kl_2, kl_3, kl_4, kl_5, kl_6, kl_7, kl_8, kl_9, kl_10, kl_11, kl_12, kl_13, kl_14, kl_15, kl_16, kl_17, kl_18, kl_19, kl_20, kl_21, kl_22, kl_23, kl_32, kl_40, kl_48, kl_50, kl_53, kl_56, kl_57, kl_60, kl_61, kl_66, kl_97, kl_99, kl_100, kl_120, kl_122, kl_160, kl_200, kl_255, kl_300, kl_500, kl_600, kl_601, kl_999, kl_1000, kl_2048, kl_9999, and_self, and_true, true_and, and_false, false_and, not_false_eq_true, not_true_eq_false]
      · simp (disch := omega) only [h5, hm, Nat.add_sub_cancel, nm_s, bd1_s, bd2_s, bd3_s, gd_n, gd_ne, nI_clamp, nI_leI, nI_ltI, nI_eq, nI_add, pk_mul, pk_sub, up_r, upL_r, jrem_n, jmax_n, if_true, if_false, if_pos, if_neg, gd_i, Nat.zero_add, Nat.add_zero, Nat.mul_zero, nI_nn, nI_nn2, mI_le, mI_ne, mI_ne2, mI_ne3, mI_ne4, ne0, kl_0, kl_1, kl_2, kl_3, kl_4, kl_5, kl_6, kl_7, kl_8, kl_9, kl_10, kl_11, kl_12, kl_13, kl_14, kl_15, kl_16, kl_17, kl_18, kl_19, kl_20, kl_21, kl_22, kl_23, kl_32, kl_40, kl_48, kl_50, kl_53, kl_56, kl_57, kl_60, kl_61, kl_66, kl_97, kl_99, kl_100, kl_120, kl_122, kl_160, kl_200, kl_255, kl_300, kl_500, kl_600, kl_601, kl_999, kl_1000, kl_2048, kl_9999, and_self, and_true, true_and, and_false, false_and, not_false_eq_true, not_true_eq_false]
      · simp (disch := omega) only [h5, w2, Nat.add_sub_cancel, nm_s, bd1_s, bd2_s, bd3_s, gd_n, gd_ne, nI_clamp, nI_leI, nI_ltI, nI_eq, nI_add, pk_mul, pk_sub, up_r, upL_r, jrem_n, jmax_n, if_true, if_false, if_pos, if_neg, gd_i, Nat.zero_add, Nat.add_zero, Nat.mul_zero, nI_nn, nI_nn2, mI_le, mI_ne, mI_ne2, mI_ne3, mI_ne4, ne0, kl_0, kl_1, kl_2, kl_3, kl_4, kl_5, kl_6, kl_7, kl_8, kl_9, kl_10, kl_11, kl_12, kl_13, kl_14, kl_15, kl_16, kl_17, kl_18, kl_19, kl_20, kl_21, kl_22, kl_23, kl_32, kl_40, kl_48, kl_50, kl_53, kl_56, kl_57, kl_60, kl_61, kl_66, kl_97, kl_99, kl_100, kl_120, kl_122, kl_160, kl_200, kl_255, kl_300, kl_500, kl_600, kl_601, kl_999, kl_1000, kl_2048, kl_9999, and_self, and_true, true_and, and_false, false_and, not_false_eq_true, not_true_eq_false]
    · have hbad : (x3 < nI 0 ∨ (¬ x3 < nI 0 ∧ ¬ x3 ≤ nI 1)) → f6_in x3.toInt64 0 1 = nI 0 → ∃ v, f5_wrong μ (nI q) (nI w) x3 = some v ∧ f6_wrong μM ν (nI q) (nI w) x3 = some (v, μM, ν) := by
        intro hx hin
        refine ⟨-nI 1000, ?_, ?_⟩
        · unfold f5_wrong
          rcases hx with hx | ⟨hx, hx2⟩
          · simp (disch := omega) only [h1, w1, hx, Nat.add_sub_cancel, nm_s, bd1_s, bd2_s, bd3_s, gd_n, gd_ne, nI_clamp, nI_leI, nI_ltI, nI_eq, nI_add, pk_mul, pk_sub, up_r, upL_r, jrem_n, jmax_n, if_true, if_false, if_pos, if_neg, gd_i, Nat.zero_add, Nat.add_zero, Nat.mul_zero, nI_nn, nI_nn2, mI_le, mI_ne, mI_ne2, mI_ne3, mI_ne4, ne0, kl_0, kl_1, kl_2, kl_3, kl_4, kl_5, kl_6, kl_7, kl_8, kl_9, kl_10, kl_11, kl_12, kl_13, kl_14, kl_15, kl_16, kl_17, kl_18, kl_19, kl_20, kl_21, kl_22, kl_23, kl_32, kl_40, kl_48, kl_50, kl_53, kl_56, kl_57, kl_60, kl_61, kl_66, kl_97, kl_99, kl_100, kl_120, kl_122, kl_160, kl_200, kl_255, kl_300, kl_500, kl_600, kl_601, kl_999, kl_1000, kl_2048, kl_9999, and_self, and_true, true_and, and_false, false_and, not_false_eq_true, not_true_eq_false]
          · simp (disch := omega) only [h1, w1, hx, hx2, Nat.add_sub_cancel, nm_s, bd1_s, bd2_s, bd3_s, gd_n, gd_ne, nI_clamp, nI_leI, nI_ltI, nI_eq, nI_add, pk_mul, pk_sub, up_r, upL_r, jrem_n, jmax_n, if_true, if_false, if_pos, if_neg, gd_i, Nat.zero_add, Nat.add_zero, Nat.mul_zero, nI_nn, nI_nn2, mI_le, mI_ne, mI_ne2, mI_ne3, mI_ne4, ne0, kl_0, kl_1, kl_2, kl_3, kl_4, kl_5, kl_6, kl_7, kl_8, kl_9, kl_10, kl_11, kl_12, kl_13, kl_14, kl_15, kl_16, kl_17, kl_18, kl_19, kl_20, kl_21, kl_22, kl_23, kl_32, kl_40, kl_48, kl_50, kl_53, kl_56, kl_57, kl_60, kl_61, kl_66, kl_97, kl_99, kl_100, kl_120, kl_122, kl_160, kl_200, kl_255, kl_300, kl_500, kl_600, kl_601, kl_999, kl_1000, kl_2048, kl_9999, and_self, and_true, true_and, and_false, false_and, not_false_eq_true, not_true_eq_false]
        · unfold f6_wrong
          rcases hrest with ⟨h3, h4⟩ | ⟨z, it, R, h3, ⟨h4, h5⟩ | ⟨h4, h5, hN⟩⟩
          · simp (disch := omega) only [h4, hm2, Nat.add_sub_cancel, nm_s, bd1_s, bd2_s, bd3_s, gd_n, gd_ne, nI_clamp, nI_leI, nI_ltI, nI_eq, nI_add, pk_mul, pk_sub, up_r, upL_r, jrem_n, jmax_n, if_true, if_false, if_pos, if_neg, gd_i, Nat.zero_add, Nat.add_zero, Nat.mul_zero, nI_nn, nI_nn2, mI_le, mI_ne, mI_ne2, mI_ne3, mI_ne4, ne0, kl_0, kl_1, kl_2, kl_3, kl_4, kl_5, kl_6, kl_7, kl_8, kl_9, kl_10, kl_11, kl_12, kl_13, kl_14, kl_15, kl_16, kl_17, kl_18, kl_19, kl_20, kl_21, kl_22, kl_23, kl_32, kl_40, kl_48, kl_50, kl_53, kl_56, kl_57, kl_60, kl_61, kl_66, kl_97, kl_99, kl_100, kl_120, kl_122, kl_160, kl_200, kl_255, kl_300, kl_500, kl_600, kl_601, kl_999, kl_1000, kl_2048, kl_9999, and_self, and_true, true_and, and_false, false_and, not_false_eq_true, not_true_eq_false]
          · simp (disch := omega) only [h5, hm, Nat.add_sub_cancel, nm_s, bd1_s, bd2_s, bd3_s, gd_n, gd_ne, nI_clamp, nI_leI, nI_ltI, nI_eq, nI_add, pk_mul, pk_sub, up_r, upL_r, jrem_n, jmax_n, if_true, if_false, if_pos, if_neg, gd_i, Nat.zero_add, Nat.add_zero, Nat.mul_zero, nI_nn, nI_nn2, mI_le, mI_ne, mI_ne2, mI_ne3, mI_ne4, ne0, kl_0, kl_1, kl_2, kl_3, kl_4, kl_5, kl_6, kl_7, kl_8, kl_9, kl_10, kl_11, kl_12, kl_13, kl_14, kl_15, kl_16, kl_17, kl_18, kl_19, kl_20, kl_21, kl_22, kl_23, kl_32, kl_40, kl_48, kl_50, kl_53, kl_56, kl_57, kl_60, kl_61, kl_66, kl_97, kl_99, kl_100, kl_120, kl_122, kl_160, kl_200, kl_255, kl_300, kl_500, kl_600, kl_601, kl_999, kl_1000, kl_2048, kl_9999, and_self, and_true, true_and, and_false, false_and, not_false_eq_true, not_true_eq_false]
          · simp (disch := omega) only [h5, w2, hin, Nat.add_sub_cancel, nm_s, bd1_s, bd2_s, bd3_s, gd_n, gd_ne, nI_clamp, nI_leI, nI_ltI, nI_eq, nI_add, pk_mul, pk_sub, up_r, upL_r, jrem_n, jmax_n, if_true, if_false, if_pos, if_neg, gd_i, Nat.zero_add, Nat.add_zero, Nat.mul_zero, nI_nn, nI_nn2, mI_le, mI_ne, mI_ne2, mI_ne3, mI_ne4, ne0, kl_0, kl_1, kl_2, kl_3, kl_4, kl_5, kl_6, kl_7, kl_8, kl_9, kl_10, kl_11, kl_12, kl_13, kl_14, kl_15, kl_16, kl_17, kl_18, kl_19, kl_20, kl_21, kl_22, kl_23, kl_32, kl_40, kl_48, kl_50, kl_53, kl_56, kl_57, kl_60, kl_61, kl_66, kl_97, kl_99, kl_100, kl_120, kl_122, kl_160, kl_200, kl_255, kl_300, kl_500, kl_600, kl_601, kl_999, kl_1000, kl_2048, kl_9999, and_self, and_true, true_and, and_false, false_and, not_false_eq_true, not_true_eq_false]
      have hgo : ∃ v, f5_wrong μ (nI q) (nI w) x3 = some v ∧ f6_wrong μM ν (nI q) (nI w) x3 = some (v, μM, ν) := by
        rcases win3 x3 1 (by decide) with ⟨g3, g4⟩ | ⟨g3, g4, g5⟩ | ⟨k, hk, rfl, g3⟩
        · exact hbad (Or.inl g3) (by rw [e3]; exact g4)
        · exact hbad (Or.inr ⟨g3, g4⟩) (by rw [e3]; exact g5)
        · have g3' : f6_in (nI k).toInt64 0 1 = nI 1 := by rw [e3]; exact g3
          unfold f5_wrong f6_wrong
          rcases hrest with ⟨h3, h4⟩ | ⟨z, it, R, h3, ⟨h4, h5⟩ | ⟨h4, h5, hN⟩⟩
          · exact ⟨-nI 1000, by simp (disch := omega) only [h1, w1, h3, Nat.add_sub_cancel, nm_s, bd1_s, bd2_s, bd3_s, gd_n, gd_ne, nI_clamp, nI_leI, nI_ltI, nI_eq, nI_add, pk_mul, pk_sub, up_r, upL_r, jrem_n, jmax_n, if_true, if_false, if_pos, if_neg, gd_i, Nat.zero_add, Nat.add_zero, Nat.mul_zero, nI_nn, nI_nn2, mI_le, mI_ne, mI_ne2, mI_ne3, mI_ne4, ne0, kl_0, kl_1, kl_2, kl_3, kl_4, kl_5, kl_6, kl_7, kl_8, kl_9, kl_10, kl_11, kl_12, kl_13, kl_14, kl_15, kl_16, kl_17, kl_18, kl_19, kl_20, kl_21, kl_22, kl_23, kl_32, kl_40, kl_48, kl_50, kl_53, kl_56, kl_57, kl_60, kl_61, kl_66, kl_97, kl_99, kl_100, kl_120, kl_122, kl_160, kl_200, kl_255, kl_300, kl_500, kl_600, kl_601, kl_999, kl_1000, kl_2048, kl_9999, and_self, and_true, true_and, and_false, false_and, not_false_eq_true, not_true_eq_false], by simp (disch := omega) only [h4, hm2, Nat.add_sub_cancel, nm_s, bd1_s, bd2_s, bd3_s, gd_n, gd_ne, nI_clamp, nI_leI, nI_ltI, nI_eq, nI_add, pk_mul, pk_sub, up_r, upL_r, jrem_n, jmax_n, if_true, if_false, if_pos, if_neg, gd_i, Nat.zero_add, Nat.add_zero, Nat.mul_zero, nI_nn, nI_nn2, mI_le, mI_ne, mI_ne2, mI_ne3, mI_ne4, ne0, kl_0, kl_1, kl_2, kl_3, kl_4, kl_5, kl_6, kl_7, kl_8, kl_9, kl_10, kl_11, kl_12, kl_13, kl_14, kl_15, kl_16, kl_17, kl_18, kl_19, kl_20, kl_21, kl_22, kl_23, kl_32, kl_40, kl_48, kl_50, kl_53, kl_56, kl_57, kl_60, kl_61, kl_66, kl_97, kl_99, kl_100, kl_120, kl_122, kl_160, kl_200, kl_255, kl_300, kl_500, kl_600, kl_601, kl_999, kl_1000, kl_2048, kl_9999, and_self, and_true, true_and, and_false, false_and, not_false_eq_true, not_true_eq_false]⟩
          · exact ⟨-nI 1000, by simp (disch := omega) only [h1, w1, h3, h4, Nat.add_sub_cancel, nm_s, bd1_s, bd2_s, bd3_s, gd_n, gd_ne, nI_clamp, nI_leI, nI_ltI, nI_eq, nI_add, pk_mul, pk_sub, up_r, upL_r, jrem_n, jmax_n, if_true, if_false, if_pos, if_neg, gd_i, Nat.zero_add, Nat.add_zero, Nat.mul_zero, nI_nn, nI_nn2, mI_le, mI_ne, mI_ne2, mI_ne3, mI_ne4, ne0, kl_0, kl_1, kl_2, kl_3, kl_4, kl_5, kl_6, kl_7, kl_8, kl_9, kl_10, kl_11, kl_12, kl_13, kl_14, kl_15, kl_16, kl_17, kl_18, kl_19, kl_20, kl_21, kl_22, kl_23, kl_32, kl_40, kl_48, kl_50, kl_53, kl_56, kl_57, kl_60, kl_61, kl_66, kl_97, kl_99, kl_100, kl_120, kl_122, kl_160, kl_200, kl_255, kl_300, kl_500, kl_600, kl_601, kl_999, kl_1000, kl_2048, kl_9999, and_self, and_true, true_and, and_false, false_and, not_false_eq_true, not_true_eq_false], by simp (disch := omega) only [h5, hm, Nat.add_sub_cancel, nm_s, bd1_s, bd2_s, bd3_s, gd_n, gd_ne, nI_clamp, nI_leI, nI_ltI, nI_eq, nI_add, pk_mul, pk_sub, up_r, upL_r, jrem_n, jmax_n, if_true, if_false, if_pos, if_neg, gd_i, Nat.zero_add, Nat.add_zero, Nat.mul_zero, nI_nn, nI_nn2, mI_le, mI_ne, mI_ne2, mI_ne3, mI_ne4, ne0, kl_0, kl_1, kl_2, kl_3, kl_4, kl_5, kl_6, kl_7, kl_8, kl_9, kl_10, kl_11, kl_12, kl_13, kl_14, kl_15, kl_16, kl_17, kl_18, kl_19, kl_20, kl_21, kl_22, kl_23, kl_32, kl_40, kl_48, kl_50, kl_53, kl_56, kl_57, kl_60, kl_61, kl_66, kl_97, kl_99, kl_100, kl_120, kl_122, kl_160, kl_200, kl_255, kl_300, kl_500, kl_600, kl_601, kl_999, kl_1000, kl_2048, kl_9999, and_self, and_true, true_and, and_false, false_and, not_false_eq_true, not_true_eq_false]⟩
          · obtain ⟨hw6, hF, hG, hC, hM, h10, h7⟩ := pP.way hw
            have H : ∀ k, k ≤ 121 → (fb μ q w k = true ∧ f5_fitsBy μ q (nI w) (cI k) = some (nI 1) ∧ f6_isSo μM ν (nI q) (nI w) (cI k) = some (nI 1, μM, ν)) ∨ (fb μ q w k = false ∧ f5_fitsBy μ q (nI w) (cI k) = some (nI 0) ∧ f6_isSo μM ν (nI q) (nI w) (cI k) = some (nI 0, μM, ν)) := by
              intro k hk
              obtain ⟨b, b1, b2, b3⟩ := fitsBy (ν := ν) R hN hF hG hw6 hC hM h10 h7 (cI k) (cI_99 hk)
              rcases b1 with rfl | rfl
              · exact Or.inr ⟨decide_eq_false (by rw [b2]; intro h; exact absurd (Option.some.inj h) (by decide)), b2, b3⟩
              · exact Or.inl ⟨decide_eq_true b2, b2, b3⟩
            have c1 := clk1 H FUEL 0 0 (by omega) (fuel_o (by omega)) (by omega)
            have c1' : f5_clocks μ q (nI w) = some (nI (cnb (fb μ q w) 0 121)) := by
              have e0 : cI 0 = -60 := by decide
              rw [e0, Nat.zero_add] at c1
              exact c1
            obtain ⟨v, n1, n2⟩ := wr1 H (nI k) FUEL FUEL 0 (nI 99) (by omega) (fuel_o (by omega)) (fuel_o (by omega))
            have n1' : f5_nearestClock μ q (nI w) = some v := n1
            have hz : cd (fb μ q w) 0 = 0 := rfl
            rw [hz, if_pos rfl] at n2
            have hk2 : k = 0 ∨ k = 1 := by omega
            rcases hk2 with rfl | rfl
            · rw [if_pos rfl] at n2
              exact ⟨nI (cnb (fb μ q w) 0 121), by simp (disch := omega) only [h1, w1, h3, h4, c1', Nat.add_sub_cancel, nm_s, bd1_s, bd2_s, bd3_s, gd_n, gd_ne, nI_clamp, nI_leI, nI_ltI, nI_eq, nI_add, pk_mul, pk_sub, up_r, upL_r, jrem_n, jmax_n, if_true, if_false, if_pos, if_neg, gd_i, Nat.zero_add, Nat.add_zero, Nat.mul_zero, nI_nn, nI_nn2, mI_le, mI_ne, mI_ne2, mI_ne3, mI_ne4, ne0, kl_0, kl_1, kl_2, kl_3, kl_4, kl_5, kl_6, kl_7, kl_8, kl_9, kl_10, kl_11, kl_12, kl_13, kl_14, kl_15, kl_16, kl_17, kl_18, kl_19, kl_20, kl_21, kl_22, kl_23, kl_32, kl_40, kl_48, kl_50, kl_53, kl_56, kl_57, kl_60, kl_61, kl_66, kl_97, kl_99, kl_100, kl_120, kl_122, kl_160, kl_200, kl_255, kl_300, kl_500, kl_600, kl_601, kl_999, kl_1000, kl_2048, kl_9999, and_self, and_true, true_and, and_false, false_and, not_false_eq_true, not_true_eq_false], by simp (disch := omega) only [h5, w2, g3', Nat.add_sub_cancel, nm_s, bd1_s, bd2_s, bd3_s, gd_n, gd_ne, nI_clamp, nI_leI, nI_ltI, nI_eq, nI_add, pk_mul, pk_sub, up_r, upL_r, jrem_n, jmax_n, if_true, if_false, if_pos, if_neg, gd_i, Nat.zero_add, Nat.add_zero, Nat.mul_zero, nI_nn, nI_nn2, mI_le, mI_ne, mI_ne2, mI_ne3, mI_ne4, ne0, kl_0, kl_1, kl_2, kl_3, kl_4, kl_5, kl_6, kl_7, kl_8, kl_9, kl_10, kl_11, kl_12, kl_13, kl_14, kl_15, kl_16, kl_17, kl_18, kl_19, kl_20, kl_21, kl_22, kl_23, kl_32, kl_40, kl_48, kl_50, kl_53, kl_56, kl_57, kl_60, kl_61, kl_66, kl_97, kl_99, kl_100, kl_120, kl_122, kl_160, kl_200, kl_255, kl_300, kl_500, kl_600, kl_601, kl_999, kl_1000, kl_2048, kl_9999, and_self, and_true, true_and, and_false, false_and, not_false_eq_true, not_true_eq_false]; exact n2⟩
            · rw [if_neg (by decide)] at n2
              exact ⟨v, by simp (disch := omega) only [h1, w1, h3, h4, n1', Nat.add_sub_cancel, nm_s, bd1_s, bd2_s, bd3_s, gd_n, gd_ne, nI_clamp, nI_leI, nI_ltI, nI_eq, nI_add, pk_mul, pk_sub, up_r, upL_r, jrem_n, jmax_n, if_true, if_false, if_pos, if_neg, gd_i, Nat.zero_add, Nat.add_zero, Nat.mul_zero, nI_nn, nI_nn2, mI_le, mI_ne, mI_ne2, mI_ne3, mI_ne4, ne0, kl_0, kl_1, kl_2, kl_3, kl_4, kl_5, kl_6, kl_7, kl_8, kl_9, kl_10, kl_11, kl_12, kl_13, kl_14, kl_15, kl_16, kl_17, kl_18, kl_19, kl_20, kl_21, kl_22, kl_23, kl_32, kl_40, kl_48, kl_50, kl_53, kl_56, kl_57, kl_60, kl_61, kl_66, kl_97, kl_99, kl_100, kl_120, kl_122, kl_160, kl_200, kl_255, kl_300, kl_500, kl_600, kl_601, kl_999, kl_1000, kl_2048, kl_9999, and_self, and_true, true_and, and_false, false_and, not_false_eq_true, not_true_eq_false], by simp (disch := omega) only [h5, w2, g3', Nat.add_sub_cancel, nm_s, bd1_s, bd2_s, bd3_s, gd_n, gd_ne, nI_clamp, nI_leI, nI_ltI, nI_eq, nI_add, pk_mul, pk_sub, up_r, upL_r, jrem_n, jmax_n, if_true, if_false, if_pos, if_neg, gd_i, Nat.zero_add, Nat.add_zero, Nat.mul_zero, nI_nn, nI_nn2, mI_le, mI_ne, mI_ne2, mI_ne3, mI_ne4, ne0, kl_0, kl_1, kl_2, kl_3, kl_4, kl_5, kl_6, kl_7, kl_8, kl_9, kl_10, kl_11, kl_12, kl_13, kl_14, kl_15, kl_16, kl_17, kl_18, kl_19, kl_20, kl_21, kl_22, kl_23, kl_32, kl_40, kl_48, kl_50, kl_53, kl_56, kl_57, kl_60, kl_61, kl_66, kl_97, kl_99, kl_100, kl_120, kl_122, kl_160, kl_200, kl_255, kl_300, kl_500, kl_600, kl_601, kl_999, kl_1000, kl_2048, kl_9999, and_self, and_true, true_and, and_false, false_and, not_false_eq_true, not_true_eq_false]; exact n2⟩
      rw [← e3]
      unfold f5_wrong f6_wrong at hgo
      exact hgo
