/-! beads, heat -/
def RG (μ μM : Mem) (q z : Nat) (it : Nat → Int32) : Prop := q < 4 ∧ z ≤ 40 ∧ μ (71 + 2 * q) 1 = nI z ∧ μM 19 q = nI z ∧ ∀ i, i < z → μ (72 + 2 * q) i = it i ∧ μM 20 (40 * q + i) = it i
theorem ring_C {μ μM : Mem} {q z : Nat} {it : Nat → Int32} (R : RG μ μM q z it) (h0 : 0 < z) {i : Nat} (hi : i < 1000) : f1_onRing μ q (nI i) = some (it (i % z)) := by
  obtain ⟨r1, r2, r3, r4, r5⟩ := R
  have hm := Nat.mod_lt i h0
  have e := (r5 (i % z) hm).1
  unfold f1_onRing f5_rest
  simp (disch := omega) only [r3, e, Nat.add_sub_cancel, nm_s, bd1_s, bd2_s, bd3_s, gd_n, gd_ne, nI_clamp, nI_leI, nI_ltI, nI_eq, nI_add, pk_mul, pk_sub, up_r, upL_r, jrem_n, jmax_n, if_true, if_false, if_pos, if_neg, gd_i, Nat.zero_add, Nat.add_zero, Nat.mul_zero, nI_nn, nI_nn2, mI_le, mI_ne, mI_ne2, mI_ne3, mI_ne4, ne0, kl_0, kl_1, kl_2, kl_3, kl_4, kl_5, kl_6, kl_7, kl_8, kl_9, kl_10, kl_11, kl_12, kl_13, kl_14, kl_15, kl_16, kl_17, kl_18, kl_19, kl_20, kl_21, kl_22, kl_23, kl_32, kl_40, kl_48, kl_50, kl_53, kl_56, kl_57, kl_60, kl_61, kl_66, kl_97, kl_99, kl_100, kl_120, kl_122, kl_160, kl_200, kl_255, kl_300, kl_500, kl_600, kl_601, kl_999, kl_1000, kl_2048, kl_9999, and_self, and_true, true_and, and_false, false_and, not_false_eq_true, not_true_eq_false]
theorem ring_M {μ μM : Mem} {ν : Lem} {q z : Nat} {it : Nat → Int32} (R : RG μ μM q z it) (h0 : 0 < z) {i : Nat} (hi : i < 1000) : f6_ring μM ν (nI q) (nI i) = some (it (i % z)) := by
  obtain ⟨r1, r2, r3, r4, r5⟩ := R
  have hm := Nat.mod_lt i h0
  have e := (r5 (i % z) hm).2
  unfold f6_ring
  simp (disch := omega) only [r4, e, Nat.add_sub_cancel, nm_s, bd1_s, bd2_s, bd3_s, gd_n, gd_ne, nI_clamp, nI_leI, nI_ltI, nI_eq, nI_add, pk_mul, pk_sub, up_r, upL_r, jrem_n, jmax_n, if_true, if_false, if_pos, if_neg, gd_i, Nat.zero_add, Nat.add_zero, Nat.mul_zero, nI_nn, nI_nn2, mI_le, mI_ne, mI_ne2, mI_ne3, mI_ne4, ne0, kl_0, kl_1, kl_2, kl_3, kl_4, kl_5, kl_6, kl_7, kl_8, kl_9, kl_10, kl_11, kl_12, kl_13, kl_14, kl_15, kl_16, kl_17, kl_18, kl_19, kl_20, kl_21, kl_22, kl_23, kl_32, kl_40, kl_48, kl_50, kl_53, kl_56, kl_57, kl_60, kl_61, kl_66, kl_97, kl_99, kl_100, kl_120, kl_122, kl_160, kl_200, kl_255, kl_300, kl_500, kl_600, kl_601, kl_999, kl_1000, kl_2048, kl_9999, and_self, and_true, true_and, and_false, false_and, not_false_eq_true, not_true_eq_false]
def NZ (it : Nat → Int32) (z s a : Nat) : Prop := ¬ it ((s + a) % z) = nI 0
theorem fill1 {μ μM : Mem} {q z : Nat} {it : Nat → Int32} (R : RG μ μM q z it) (h0 : 0 < z) {s N : Nat} (hs : s ≤ 40) (hN : N ≤ 40) : ∀ (n k c : Nat), k ≤ N → N - k < n → CT (NZ it z s) k c → ∃ c', f1_filled_1 μ n q (nI s) (nI N) (nI c) (nI k) = some (nI c') ∧ CT (NZ it z s) N c' := by
  intro n
  induction n with
  | zero => intro k c _ h; omega
  | succ n ih =>
    intro k c hk hn hc
    have hcl := CT_le k c hc
    by_cases hkN : k = N
    · subst hkN
      exact ⟨c, by rw [f1_filled_1]; simp (disch := omega) only [Nat.add_sub_cancel, nm_s, bd1_s, bd2_s, bd3_s, gd_n, gd_ne, nI_clamp, nI_leI, nI_ltI, nI_eq, nI_add, pk_mul, pk_sub, up_r, upL_r, jrem_n, jmax_n, if_true, if_false, if_pos, if_neg, gd_i, Nat.zero_add, Nat.add_zero, Nat.mul_zero, nI_nn, nI_nn2, mI_le, mI_ne, mI_ne2, mI_ne3, mI_ne4, ne0, kl_0, kl_1, kl_2, kl_3, kl_4, kl_5, kl_6, kl_7, kl_8, kl_9, kl_10, kl_11, kl_12, kl_13, kl_14, kl_15, kl_16, kl_17, kl_18, kl_19, kl_20, kl_21, kl_22, kl_23, kl_32, kl_40, kl_48, kl_50, kl_53, kl_56, kl_57, kl_60, kl_61, kl_66, kl_97, kl_99, kl_100, kl_120, kl_122, kl_160, kl_200, kl_255, kl_300, kl_500, kl_600, kl_601, kl_999, kl_1000, kl_2048, kl_9999, and_self, and_true, true_and, and_false, false_and, not_false_eq_true, not_true_eq_false], hc⟩
    · have g := ring_C R h0 (i := s + k) (by omega)
      by_cases hP : it ((s + k) % z) = nI 0
      · obtain ⟨c', q1, q2⟩ := ih (k + 1) c (by omega) (by omega) (Or.inr ⟨fun h => h hP, hc⟩)
        exact ⟨c', by rw [f1_filled_1]; simp (disch := omega) only [g, hP, Nat.add_sub_cancel, nm_s, bd1_s, bd2_s, bd3_s, gd_n, gd_ne, nI_clamp, nI_leI, nI_ltI, nI_eq, nI_add, pk_mul, pk_sub, up_r, upL_r, jrem_n, jmax_n, if_true, if_false, if_pos, if_neg, gd_i, Nat.zero_add, Nat.add_zero, Nat.mul_zero, nI_nn, nI_nn2, mI_le, mI_ne, mI_ne2, mI_ne3, mI_ne4, ne0, kl_0, kl_1, kl_2, kl_3, kl_4, kl_5, kl_6, kl_7, kl_8, kl_9, kl_10, kl_11, kl_12, kl_13, kl_14, kl_15, kl_16, kl_17, kl_18, kl_19, kl_20, kl_21, kl_22, kl_23, kl_32, kl_40, kl_48, kl_50, kl_53, kl_56, kl_57, kl_60, kl_61, kl_66, kl_97, kl_99, kl_100, kl_120, kl_122, kl_160, kl_200, kl_255, kl_300, kl_500, kl_600, kl_601, kl_999, kl_1000, kl_2048, kl_9999, and_self, and_true, true_and, and_false, false_and, not_false_eq_true, not_true_eq_false]; exact q1, q2⟩
      · obtain ⟨c', q1, q2⟩ := ih (k + 1) (c + 1) (by omega) (by omega) (Or.inl ⟨hP, c, rfl, hc⟩)
        exact ⟨c', by rw [f1_filled_1]; simp (disch := omega) only [g, hP, Nat.add_sub_cancel, nm_s, bd1_s, bd2_s, bd3_s, gd_n, gd_ne, nI_clamp, nI_leI, nI_ltI, nI_eq, nI_add, pk_mul, pk_sub, up_r, upL_r, jrem_n, jmax_n, if_true, if_false, if_pos, if_neg, gd_i, Nat.zero_add, Nat.add_zero, Nat.mul_zero, nI_nn, nI_nn2, mI_le, mI_ne, mI_ne2, mI_ne3, mI_ne4, ne0, kl_0, kl_1, kl_2, kl_3, kl_4, kl_5, kl_6, kl_7, kl_8, kl_9, kl_10, kl_11, kl_12, kl_13, kl_14, kl_15, kl_16, kl_17, kl_18, kl_19, kl_20, kl_21, kl_22, kl_23, kl_32, kl_40, kl_48, kl_50, kl_53, kl_56, kl_57, kl_60, kl_61, kl_66, kl_97, kl_99, kl_100, kl_120, kl_122, kl_160, kl_200, kl_255, kl_300, kl_500, kl_600, kl_601, kl_999, kl_1000, kl_2048, kl_9999, and_self, and_true, true_and, and_false, false_and, not_false_eq_true, not_true_eq_false]; exact q1, q2⟩
theorem fill {μ μM : Mem} {q z : Nat} {it : Nat → Int32} (R : RG μ μM q z it) (h0 : 0 < z) {s N : Nat} (hs : s ≤ 40) (hN : N ≤ 40) : ∃ c', f1_filled μ q (nI s) (nI N) = some (nI c') ∧ CT (NZ it z s) N c' :=
  fill1 R h0 hs hN FUEL 0 0 (by omega) (fuel_o (by omega)) rfl
theorem bea3 {μ μM : Mem} {ν : Lem} {q z : Nat} {it : Nat → Int32} (R : RG μ μM q z it) (h0 : 0 < z) {s all : Nat} (hs : s ≤ 40) (hall : all ≤ 40) (K60 : Int32 → Int32 → Int32 → Int32 → Option Int32) : ∀ (n k c : Nat), k ≤ z / 2 → z / 2 - k < n → CT (NZ it z s) k c →
    ∃ c', CT (NZ it z s) (z / 2) c' ∧ f6_beads_3 μM ν K60 n (nI q) (nI z) (nI all) (nI s) (nI c) (nI k) = if c' = all / 2 then some (nI s) else K60 (nI q) (nI z) (nI all) (nI (s + 1)) := by
  have hz := R.2.1
  have hd1 : nI z / nI 2 = nI (z / 2) := pk_div (by omega) (by decide) (by decide)
  have hd2 : nI all / nI 2 = nI (all / 2) := pk_div (by omega) (by decide) (by decide)
  intro n
  induction n with
  | zero => intro k c _ h; omega
  | succ n ih =>
    intro k c hk hn hc
    have hcl := CT_le k c hc
    by_cases hkN : k = z / 2
    · subst hkN
      refine ⟨c, hc, ?_⟩
      rw [f6_beads_3]
      by_cases hca : c = all / 2
      · simp (disch := omega) only [hd1, hd2, Nat.add_sub_cancel, nm_s, bd1_s, bd2_s, bd3_s, gd_n, gd_ne, nI_clamp, nI_leI, nI_ltI, nI_eq, nI_add, pk_mul, pk_sub, up_r, upL_r, jrem_n, jmax_n, if_true, if_false, if_pos, if_neg, gd_i, Nat.zero_add, Nat.add_zero, Nat.mul_zero, nI_nn, nI_nn2, mI_le, mI_ne, mI_ne2, mI_ne3, mI_ne4, ne0, kl_0, kl_1, kl_2, kl_3, kl_4, kl_5, kl_6, kl_7, kl_8, kl_9, kl_10, kl_11, kl_12, kl_13, kl_14, kl_15, kl_16, kl_17, kl_18, kl_19, kl_20, kl_21, kl_22, kl_23, kl_32, kl_40, kl_48, kl_50, kl_53, kl_56, kl_57, kl_60, kl_61, kl_66, kl_97, kl_99, kl_100, kl_120, kl_122, kl_160, kl_200, kl_255, kl_300, kl_500, kl_600, kl_601, kl_999, kl_1000, kl_2048, kl_9999, and_self, and_true, true_and, and_false, false_and, not_false_eq_true, not_true_eq_false]
      · simp (disch := omega) only [hd1, hd2, Nat.add_sub_cancel, nm_s, bd1_s, bd2_s, bd3_s, gd_n, gd_ne, nI_clamp, nI_leI, nI_ltI, nI_eq, nI_add, pk_mul, pk_sub, up_r, upL_r, jrem_n, jmax_n, if_true, if_false, if_pos, if_neg, gd_i, Nat.zero_add, Nat.add_zero, Nat.mul_zero, nI_nn, nI_nn2, mI_le, mI_ne, mI_ne2, mI_ne3, mI_ne4, ne0, kl_0, kl_1, kl_2, kl_3, kl_4, kl_5, kl_6, kl_7, kl_8, kl_9, kl_10, kl_11, kl_12, kl_13, kl_14, kl_15, kl_16, kl_17, kl_18, kl_19, kl_20, kl_21, kl_22, kl_23, kl_32, kl_40, kl_48, kl_50, kl_53, kl_56, kl_57, kl_60, kl_61, kl_66, kl_97, kl_99, kl_100, kl_120, kl_122, kl_160, kl_200, kl_255, kl_300, kl_500, kl_600, kl_601, kl_999, kl_1000, kl_2048, kl_9999, and_self, and_true, true_and, and_false, false_and, not_false_eq_true, not_true_eq_false]
    · have g := ring_M (ν := ν) R h0 (i := s + k) (by omega)
      by_cases hP : it ((s + k) % z) = nI 0
      · obtain ⟨c', q1, q2⟩ := ih (k + 1) c (by omega) (by omega) (Or.inr ⟨fun h => h hP, hc⟩)
        exact ⟨c', q1, by rw [← q2, f6_beads_3]; simp (disch := omega) only [hd1, g, hP, Nat.add_sub_cancel, nm_s, bd1_s, bd2_s, bd3_s, gd_n, gd_ne, nI_clamp, nI_leI, nI_ltI, nI_eq, nI_add, pk_mul, pk_sub, up_r, upL_r, jrem_n, jmax_n, if_true, if_false, if_pos, if_neg, gd_i, Nat.zero_add, Nat.add_zero, Nat.mul_zero, nI_nn, nI_nn2, mI_le, mI_ne, mI_ne2, mI_ne3, mI_ne4, ne0, kl_0, kl_1, kl_2, kl_3, kl_4, kl_5, kl_6, kl_7, kl_8, kl_9, kl_10, kl_11, kl_12, kl_13, kl_14, kl_15, kl_16, kl_17, kl_18, kl_19, kl_20, kl_21, kl_22, kl_23, kl_32, kl_40, kl_48, kl_50, kl_53, kl_56, kl_57, kl_60, kl_61, kl_66, kl_97, kl_99, kl_100, kl_120, kl_122, kl_160, kl_200, kl_255, kl_300, kl_500, kl_600, kl_601, kl_999, kl_1000, kl_2048, kl_9999, and_self, and_true, true_and, and_false, false_and, not_false_eq_true, not_true_eq_false]⟩
      · obtain ⟨c', q1, q2⟩ := ih (k + 1) (c + 1) (by omega) (by omega) (Or.inl ⟨hP, c, rfl, hc⟩)
        exact ⟨c', q1, by rw [← q2, f6_beads_3]; simp (disch := omega) only [hd1, g, hP, Nat.add_sub_cancel, nm_s, bd1_s, bd2_s, bd3_s, gd_n, gd_ne, nI_clamp, nI_leI, nI_ltI, nI_eq, nI_add, pk_mul, pk_sub, up_r, upL_r, jrem_n, jmax_n, if_true, if_false, if_pos, if_neg, gd_i, Nat.zero_add, Nat.add_zero, Nat.mul_zero, nI_nn, nI_nn2, mI_le, mI_ne, mI_ne2, mI_ne3, mI_ne4, ne0, kl_0, kl_1, kl_2, kl_3, kl_4, kl_5, kl_6, kl_7, kl_8, kl_9, kl_10, kl_11, kl_12, kl_13, kl_14, kl_15, kl_16, kl_17, kl_18, kl_19, kl_20, kl_21, kl_22, kl_23, kl_32, kl_40, kl_48, kl_50, kl_53, kl_56, kl_57, kl_60, kl_61, kl_66, kl_97, kl_99, kl_100, kl_120, kl_122, kl_160, kl_200, kl_255, kl_300, kl_500, kl_600, kl_601, kl_999, kl_1000, kl_2048, kl_9999, and_self, and_true, true_and, and_false, false_and, not_false_eq_true, not_true_eq_false]⟩
theorem bd2' {μ μM : Mem} {ν : Lem} {q z : Nat} {it : Nat → Int32} (R : RG μ μM q z it) (h0 : 0 < z) {all : Nat} (hall : all ≤ 40) : ∀ (n K i : Nat), i ≤ z → z - i < n → z - i < K → ∃ v, f5_beads_1 μ n q (nI (all / 2)) (nI i) = some v ∧ f6_beads_2 μM ν K (nI q) (nI z) (nI all) (nI i) = some v := by
  have hz := R.2.1
  have r3 := R.2.2.1
  have hd1 : nI z / nI 2 = nI (z / 2) := pk_div (by omega) (by decide) (by decide)
  intro n
  induction n with
  | zero => intro K i _ h; omega
  | succ n ih =>
    intro K i hi hn hK
    obtain ⟨K, rfl⟩ : ∃ k', K = k' + 1 := ⟨K - 1, by omega⟩
    by_cases hiz : i = z
    · subst hiz
      exact ⟨-nI 1, by rw [f5_beads_1]; simp (disch := omega) only [r3, Nat.add_sub_cancel, nm_s, bd1_s, bd2_s, bd3_s, gd_n, gd_ne, nI_clamp, nI_leI, nI_ltI, nI_eq, nI_add, pk_mul, pk_sub, up_r, upL_r, jrem_n, jmax_n, if_true, if_false, if_pos, if_neg, gd_i, Nat.zero_add, Nat.add_zero, Nat.mul_zero, nI_nn, nI_nn2, mI_le, mI_ne, mI_ne2, mI_ne3, mI_ne4, ne0, kl_0, kl_1, kl_2, kl_3, kl_4, kl_5, kl_6, kl_7, kl_8, kl_9, kl_10, kl_11, kl_12, kl_13, kl_14, kl_15, kl_16, kl_17, kl_18, kl_19, kl_20, kl_21, kl_22, kl_23, kl_32, kl_40, kl_48, kl_50, kl_53, kl_56, kl_57, kl_60, kl_61, kl_66, kl_97, kl_99, kl_100, kl_120, kl_122, kl_160, kl_200, kl_255, kl_300, kl_500, kl_600, kl_601, kl_999, kl_1000, kl_2048, kl_9999, and_self, and_true, true_and, and_false, false_and, not_false_eq_true, not_true_eq_false], by rw [f6_beads_2]; simp (disch := omega) only [Nat.add_sub_cancel, nm_s, bd1_s, bd2_s, bd3_s, gd_n, gd_ne, nI_clamp, nI_leI, nI_ltI, nI_eq, nI_add, pk_mul, pk_sub, up_r, upL_r, jrem_n, jmax_n, if_true, if_false, if_pos, if_neg, gd_i, Nat.zero_add, Nat.add_zero, Nat.mul_zero, nI_nn, nI_nn2, mI_le, mI_ne, mI_ne2, mI_ne3, mI_ne4, ne0, kl_0, kl_1, kl_2, kl_3, kl_4, kl_5, kl_6, kl_7, kl_8, kl_9, kl_10, kl_11, kl_12, kl_13, kl_14, kl_15, kl_16, kl_17, kl_18, kl_19, kl_20, kl_21, kl_22, kl_23, kl_32, kl_40, kl_48, kl_50, kl_53, kl_56, kl_57, kl_60, kl_61, kl_66, kl_97, kl_99, kl_100, kl_120, kl_122, kl_160, kl_200, kl_255, kl_300, kl_500, kl_600, kl_601, kl_999, kl_1000, kl_2048, kl_9999, and_self, and_true, true_and, and_false, false_and, not_false_eq_true, not_true_eq_false]⟩
    · obtain ⟨c, a1, a2⟩ := fill R h0 (s := i) (N := z / 2) (by omega) (by omega)
      obtain ⟨c', b1, b2⟩ := bea3 (ν := ν) R h0 (s := i) (by omega) hall (f6_beads_2 μM ν K) FUEL 0 0 (by omega) (fuel_o (by omega)) rfl
      have hcc := CT_one _ _ _ a2 b1
      subst hcc
      have hcl := CT_le _ _ a2
      by_cases hca : c = all / 2
      · refine ⟨nI i, ?_, ?_⟩
        · rw [f5_beads_1]
          simp (disch := omega) only [r3, hd1, a1, Nat.add_sub_cancel, nm_s, bd1_s, bd2_s, bd3_s, gd_n, gd_ne, nI_clamp, nI_leI, nI_ltI, nI_eq, nI_add, pk_mul, pk_sub, up_r, upL_r, jrem_n, jmax_n, if_true, if_false, if_pos, if_neg, gd_i, Nat.zero_add, Nat.add_zero, Nat.mul_zero, nI_nn, nI_nn2, mI_le, mI_ne, mI_ne2, mI_ne3, mI_ne4, ne0, kl_0, kl_1, kl_2, kl_3, kl_4, kl_5, kl_6, kl_7, kl_8, kl_9, kl_10, kl_11, kl_12, kl_13, kl_14, kl_15, kl_16, kl_17, kl_18, kl_19, kl_20, kl_21, kl_22, kl_23, kl_32, kl_40, kl_48, kl_50, kl_53, kl_56, kl_57, kl_60, kl_61, kl_66, kl_97, kl_99, kl_100, kl_120, kl_122, kl_160, kl_200, kl_255, kl_300, kl_500, kl_600, kl_601, kl_999, kl_1000, kl_2048, kl_9999, and_self, and_true, true_and, and_false, false_and, not_false_eq_true, not_true_eq_false]
        · rw [f6_beads_2]
          simp (disch := omega) only [Nat.add_sub_cancel, nm_s, bd1_s, bd2_s, bd3_s, gd_n, gd_ne, nI_clamp, nI_leI, nI_ltI, nI_eq, nI_add, pk_mul, pk_sub, up_r, upL_r, jrem_n, jmax_n, if_true, if_false, if_pos, if_neg, gd_i, Nat.zero_add, Nat.add_zero, Nat.mul_zero, nI_nn, nI_nn2, mI_le, mI_ne, mI_ne2, mI_ne3, mI_ne4, ne0, kl_0, kl_1, kl_2, kl_3, kl_4, kl_5, kl_6, kl_7, kl_8, kl_9, kl_10, kl_11, kl_12, kl_13, kl_14, kl_15, kl_16, kl_17, kl_18, kl_19, kl_20, kl_21, kl_22, kl_23, kl_32, kl_40, kl_48, kl_50, kl_53, kl_56, kl_57, kl_60, kl_61, kl_66, kl_97, kl_99, kl_100, kl_120, kl_122, kl_160, kl_200, kl_255, kl_300, kl_500, kl_600, kl_601, kl_999, kl_1000, kl_2048, kl_9999, and_self, and_true, true_and, and_false, false_and, not_false_eq_true, not_true_eq_false]
          rw [b2, if_pos hca]
      · obtain ⟨v, q1, q2⟩ := ih K (i + 1) (by omega) (by omega) (by omega)
        refine ⟨v, ?_, ?_⟩
        · rw [f5_beads_1]
          simp (disch := omega) only [r3, hd1, a1, Nat.add_sub_cancel, nm_s, bd1_s, bd2_s, bd3_s, gd_n, gd_ne, nI_clamp, nI_leI, nI_ltI, nI_eq, nI_add, pk_mul, pk_sub, up_r, upL_r, jrem_n, jmax_n, if_true, if_false, if_pos, if_neg, gd_i, Nat.zero_add, Nat.add_zero, Nat.mul_zero, nI_nn, nI_nn2, mI_le, mI_ne, mI_ne2, mI_ne3, mI_ne4, ne0, kl_0, kl_1, kl_2, kl_3, kl_4, kl_5, kl_6, kl_7, kl_8, kl_9, kl_10, kl_11, kl_12, kl_13, kl_14, kl_15, kl_16, kl_17, kl_18, kl_19, kl_20, kl_21, kl_22, kl_23, kl_32, kl_40, kl_48, kl_50, kl_53, kl_56, kl_57, kl_60, kl_61, kl_66, kl_97, kl_99, kl_100, kl_120, kl_122, kl_160, kl_200, kl_255, kl_300, kl_500, kl_600, kl_601, kl_999, kl_1000, kl_2048, kl_9999, and_self, and_true, true_and, and_false, false_and, not_false_eq_true, not_true_eq_false]
          exact q1
        · rw [f6_beads_2]
          simp (disch := omega) only [Nat.add_sub_cancel, nm_s, bd1_s, bd2_s, bd3_s, gd_n, gd_ne, nI_clamp, nI_leI, nI_ltI, nI_eq, nI_add, pk_mul, pk_sub, up_r, upL_r, jrem_n, jmax_n, if_true, if_false, if_pos, if_neg, gd_i, Nat.zero_add, Nat.add_zero, Nat.mul_zero, nI_nn, nI_nn2, mI_le, mI_ne, mI_ne2, mI_ne3, mI_ne4, ne0, kl_0, kl_1, kl_2, kl_3, kl_4, kl_5, kl_6, kl_7, kl_8, kl_9, kl_10, kl_11, kl_12, kl_13, kl_14, kl_15, kl_16, kl_17, kl_18, kl_19, kl_20, kl_21, kl_22, kl_23, kl_32, kl_40, kl_48, kl_50, kl_53, kl_56, kl_57, kl_60, kl_61, kl_66, kl_97, kl_99, kl_100, kl_120, kl_122, kl_160, kl_200, kl_255, kl_300, kl_500, kl_600, kl_601, kl_999, kl_1000, kl_2048, kl_9999, and_self, and_true, true_and, and_false, false_and, not_false_eq_true, not_true_eq_false]
          rw [b2, if_neg hca]
          exact q2
theorem bd1' {μ μM : Mem} {ν : Lem} {q z : Nat} {it : Nat → Int32} (R : RG μ μM q z it) (h0 : 0 < z) : ∀ (n i c : Nat), i ≤ z → z - i < n → CT (NZ it z 0) i c → ∃ c', CT (NZ it z 0) z c' ∧ f6_beads_1 μM ν n (nI q) (nI z) (nI c) (nI i) = f6_beads_2 μM ν FUEL (nI q) (nI z) (nI c') (nI 0) := by
  have hz := R.2.1
  intro n
  induction n with
  | zero => intro i c _ h; omega
  | succ n ih =>
    intro i c hi hn hc
    have hcl := CT_le i c hc
    by_cases hiz : i = z
    · subst hiz
      exact ⟨c, hc, by rw [f6_beads_1]; simp (disch := omega) only [Nat.add_sub_cancel, nm_s, bd1_s, bd2_s, bd3_s, gd_n, gd_ne, nI_clamp, nI_leI, nI_ltI, nI_eq, nI_add, pk_mul, pk_sub, up_r, upL_r, jrem_n, jmax_n, if_true, if_false, if_pos, if_neg, gd_i, Nat.zero_add, Nat.add_zero, Nat.mul_zero, nI_nn, nI_nn2, mI_le, mI_ne, mI_ne2, mI_ne3, mI_ne4, ne0, kl_0, kl_1, kl_2, kl_3, kl_4, kl_5, kl_6, kl_7, kl_8, kl_9, kl_10, kl_11, kl_12, kl_13, kl_14, kl_15, kl_16, kl_17, kl_18, kl_19, kl_20, kl_21, kl_22, kl_23, kl_32, kl_40, kl_48, kl_50, kl_53, kl_56, kl_57, kl_60, kl_61, kl_66, kl_97, kl_99, kl_100, kl_120, kl_122, kl_160, kl_200, kl_255, kl_300, kl_500, kl_600, kl_601, kl_999, kl_1000, kl_2048, kl_9999, and_self, and_true, true_and, and_false, false_and, not_false_eq_true, not_true_eq_false]⟩
    · have g := ring_M (ν := ν) R h0 (i := i) (by omega)
      have e0 : (0 + i) % z = i % z := by rw [Nat.zero_add]
      by_cases hP : it (i % z) = nI 0
      · obtain ⟨c', q1, q2⟩ := ih (i + 1) c (by omega) (by omega) (Or.inr ⟨fun h => h (by rw [e0]; exact hP), hc⟩)
        exact ⟨c', q1, by rw [← q2, f6_beads_1]; simp (disch := omega) only [g, hP, Nat.add_sub_cancel, nm_s, bd1_s, bd2_s, bd3_s, gd_n, gd_ne, nI_clamp, nI_leI, nI_ltI, nI_eq, nI_add, pk_mul, pk_sub, up_r, upL_r, jrem_n, jmax_n, if_true, if_false, if_pos, if_neg, gd_i, Nat.zero_add, Nat.add_zero, Nat.mul_zero, nI_nn, nI_nn2, mI_le, mI_ne, mI_ne2, mI_ne3, mI_ne4, ne0, kl_0, kl_1, kl_2, kl_3, kl_4, kl_5, kl_6, kl_7, kl_8, kl_9, kl_10, kl_11, kl_12, kl_13, kl_14, kl_15, kl_16, kl_17, kl_18, kl_19, kl_20, kl_21, kl_22, kl_23, kl_32, kl_40, kl_48, kl_50, kl_53, kl_56, kl_57, kl_60, kl_61, kl_66, kl_97, kl_99, kl_100, kl_120, kl_122, kl_160, kl_200, kl_255, kl_300, kl_500, kl_600, kl_601, kl_999, kl_1000, kl_2048, kl_9999, and_self, and_true, true_and, and_false, false_and, not_false_eq_true, not_true_eq_false]⟩
      · obtain ⟨c', q1, q2⟩ := ih (i + 1) (c + 1) (by omega) (by omega) (Or.inl ⟨fun h => hP (by rw [← e0]; exact h), c, rfl, hc⟩)
        exact ⟨c', q1, by rw [← q2, f6_beads_1]; simp (disch := omega) only [g, hP, Nat.add_sub_cancel, nm_s, bd1_s, bd2_s, bd3_s, gd_n, gd_ne, nI_clamp, nI_leI, nI_ltI, nI_eq, nI_add, pk_mul, pk_sub, up_r, upL_r, jrem_n, jmax_n, if_true, if_false, if_pos, if_neg, gd_i, Nat.zero_add, Nat.add_zero, Nat.mul_zero, nI_nn, nI_nn2, mI_le, mI_ne, mI_ne2, mI_ne3, mI_ne4, ne0, kl_0, kl_1, kl_2, kl_3, kl_4, kl_5, kl_6, kl_7, kl_8, kl_9, kl_10, kl_11, kl_12, kl_13, kl_14, kl_15, kl_16, kl_17, kl_18, kl_19, kl_20, kl_21, kl_22, kl_23, kl_32, kl_40, kl_48, kl_50, kl_53, kl_56, kl_57, kl_60, kl_61, kl_66, kl_97, kl_99, kl_100, kl_120, kl_122, kl_160, kl_200, kl_255, kl_300, kl_500, kl_600, kl_601, kl_999, kl_1000, kl_2048, kl_9999, and_self, and_true, true_and, and_false, false_and, not_false_eq_true, not_true_eq_false]⟩
/-- how both begin with a ring -/
theorem ring_pre {μ μM : Mem} {ν : Lem} (pS : RS μ μM) (x : Int32) : (f5_isSheet x = nI 0 ∧ f6_ringBad μM ν x = some (-nI 2)) ∨ ∃ q, q < 4 ∧ x = nI q ∧ f5_isSheet x = nI 1 ∧ ((f1_isMissing μ q = nI 1 ∧ f6_ringBad μM ν x = some (-nI 11)) ∨ ∃ z it, RG μ μM q z it ∧ f1_isMissing μ q = nI 0 ∧ ((¬ jrem (nI z) (nI 2) = nI 0 ∧ f6_ringBad μM ν x = some (-nI 2)) ∨ (z % 2 = 0 ∧ jrem (nI z) (nI 2) = nI 0 ∧ f6_ringBad μM ν x = some (nI 0)))) := by
  unfold f6_ringBad
  rcases sheet3 x with ⟨h1, h2⟩ | ⟨q, hq, rfl, h1, h2⟩
  · have h2 : f6_isSheet x = nI 0 := h2
    exact Or.inl ⟨h1, by simp (disch := omega) only [h2, Nat.add_sub_cancel, nm_s, bd1_s, bd2_s, bd3_s, gd_n, gd_ne, nI_clamp, nI_leI, nI_ltI, nI_eq, nI_add, pk_mul, pk_sub, up_r, upL_r, jrem_n, jmax_n, if_true, if_false, if_pos, if_neg, gd_i, Nat.zero_add, Nat.add_zero, Nat.mul_zero, nI_nn, nI_nn2, mI_le, mI_ne, mI_ne2, mI_ne3, mI_ne4, ne0, kl_0, kl_1, kl_2, kl_3, kl_4, kl_5, kl_6, kl_7, kl_8, kl_9, kl_10, kl_11, kl_12, kl_13, kl_14, kl_15, kl_16, kl_17, kl_18, kl_19, kl_20, kl_21, kl_22, kl_23, kl_32, kl_40, kl_48, kl_50, kl_53, kl_56, kl_57, kl_60, kl_61, kl_66, kl_97, kl_99, kl_100, kl_120, kl_122, kl_160, kl_200, kl_255, kl_300, kl_500, kl_600, kl_601, kl_999, kl_1000, kl_2048, kl_9999, and_self, and_true, true_and, and_false, false_and, not_false_eq_true, not_true_eq_false]⟩
  · have h2 : f6_isSheet (nI q) = nI 1 := h2
    refine Or.inr ⟨q, hq, rfl, h1, ?_⟩
    rcases (pS q hq).miss with ⟨a1, a2⟩ | ⟨so, z, hso, hz, a1, a2, a3, a4, a5, a6, a7⟩
    · exact Or.inl ⟨a1, by simp (disch := omega) only [h2, a2, Nat.add_sub_cancel, nm_s, bd1_s, bd2_s, bd3_s, gd_n, gd_ne, nI_clamp, nI_leI, nI_ltI, nI_eq, nI_add, pk_mul, pk_sub, up_r, upL_r, jrem_n, jmax_n, if_true, if_false, if_pos, if_neg, gd_i, Nat.zero_add, Nat.add_zero, Nat.mul_zero, nI_nn, nI_nn2, mI_le, mI_ne, mI_ne2, mI_ne3, mI_ne4, ne0, kl_0, kl_1, kl_2, kl_3, kl_4, kl_5, kl_6, kl_7, kl_8, kl_9, kl_10, kl_11, kl_12, kl_13, kl_14, kl_15, kl_16, kl_17, kl_18, kl_19, kl_20, kl_21, kl_22, kl_23, kl_32, kl_40, kl_48, kl_50, kl_53, kl_56, kl_57, kl_60, kl_61, kl_66, kl_97, kl_99, kl_100, kl_120, kl_122, kl_160, kl_200, kl_255, kl_300, kl_500, kl_600, kl_601, kl_999, kl_1000, kl_2048, kl_9999, and_self, and_true, true_and, and_false, false_and, not_false_eq_true, not_true_eq_false]⟩
    · refine Or.inr ⟨z, fun i => μM 20 (40 * q + i), ⟨hq, hz, a5, a6, fun i hi => ⟨a7 i hi, rfl⟩⟩, a1, ?_⟩
      have hj : jrem (nI z) (nI 2) = nI (z % 2) := jrem_n (by omega) (by decide) (by decide)
      by_cases hp : z % 2 = 0
      · exact Or.inr ⟨hp, by rw [hj, hp], by simp (disch := omega) only [h2, a2, a6, Nat.add_sub_cancel, nm_s, bd1_s, bd2_s, bd3_s, gd_n, gd_ne, nI_clamp, nI_leI, nI_ltI, nI_eq, nI_add, pk_mul, pk_sub, up_r, upL_r, jrem_n, jmax_n, if_true, if_false, if_pos, if_neg, gd_i, Nat.zero_add, Nat.add_zero, Nat.mul_zero, nI_nn, nI_nn2, mI_le, mI_ne, mI_ne2, mI_ne3, mI_ne4, ne0, kl_0, kl_1, kl_2, kl_3, kl_4, kl_5, kl_6, kl_7, kl_8, kl_9, kl_10, kl_11, kl_12, kl_13, kl_14, kl_15, kl_16, kl_17, kl_18, kl_19, kl_20, kl_21, kl_22, kl_23, kl_32, kl_40, kl_48, kl_50, kl_53, kl_56, kl_57, kl_60, kl_61, kl_66, kl_97, kl_99, kl_100, kl_120, kl_122, kl_160, kl_200, kl_255, kl_300, kl_500, kl_600, kl_601, kl_999, kl_1000, kl_2048, kl_9999, and_self, and_true, true_and, and_false, false_and, not_false_eq_true, not_true_eq_false]⟩
      · exact Or.inl ⟨by rw [hj, nI_eq (by omega) (by decide)]; exact hp, by simp (disch := omega) only [h2, a2, a6, Nat.add_sub_cancel, nm_s, bd1_s, bd2_s, bd3_s, gd_n, gd_ne, nI_clamp, nI_leI, nI_ltI, nI_eq, nI_add, pk_mul, pk_sub, up_r, upL_r, jrem_n, jmax_n, if_true, if_false, if_pos, if_neg, gd_i, Nat.zero_add, Nat.add_zero, Nat.mul_zero, nI_nn, nI_nn2, mI_le, mI_ne, mI_ne2, mI_ne3, mI_ne4, ne0, kl_0, kl_1, kl_2, kl_3, kl_4, kl_5, kl_6, kl_7, kl_8, kl_9, kl_10, kl_11, kl_12, kl_13, kl_14, kl_15, kl_16, kl_17, kl_18, kl_19, kl_20, kl_21, kl_22, kl_23, kl_32, kl_40, kl_48, kl_50, kl_53, kl_56, kl_57, kl_60, kl_61, kl_66, kl_97, kl_99, kl_100, kl_120, kl_122, kl_160, kl_200, kl_255, kl_300, kl_500, kl_600, kl_601, kl_999, kl_1000, kl_2048, kl_9999, and_self, and_true, true_and, and_false, false_and, not_false_eq_true, not_true_eq_false]⟩
theorem beads_call {μ μM : Mem} {ν : Lem} {T F n r : Nat} {G : Nat → Gw} (p : RQ μ μM T F n r G) (x1 : Int32) : ∃ v, f5_beads μ x1 = some v ∧ f6_beads μM ν x1 = some v := by
  have hm : ¬ -nI 2 = nI 0 := by decide
  have hm2 : ¬ -nI 11 = nI 0 := by decide
  unfold f5_beads f6_beads
  rcases ring_pre (ν := ν) p.2.2.1 x1 with ⟨h1, h2⟩ | ⟨q, hq, rfl, h1, ⟨h3, h4⟩ | ⟨z, it, R, h3, ⟨h4, h5⟩ | ⟨hz2, h4, h5⟩⟩⟩
  · exact ⟨-nI 2, by simp (disch := omega) only [h1, Nat.add_sub_cancel, nm_s, bd1_s, bd2_s, bd3_s, gd_n, gd_ne, nI_clamp, nI_leI, nI_ltI, nI_eq, nI_add, pk_mul, pk_sub, up_r, upL_r, jrem_n, jmax_n, if_true, if_false, if_pos, if_neg, gd_i, Nat.zero_add, Nat.add_zero, Nat.mul_zero, nI_nn, nI_nn2, mI_le, mI_ne, mI_ne2, mI_ne3, mI_ne4, ne0, kl_0, kl_1, kl_2, kl_3, kl_4, kl_5, kl_6, kl_7, kl_8, kl_9, kl_10, kl_11, kl_12, kl_13, kl_14, kl_15, kl_16, kl_17, kl_18, kl_19, kl_20, kl_21, kl_22, kl_23, kl_32, kl_40, kl_48, kl_50, kl_53, kl_56, kl_57, kl_60, kl_61, kl_66, kl_97, kl_99, kl_100, kl_120, kl_122, kl_160, kl_200, kl_255, kl_300, kl_500, kl_600, kl_601, kl_999, kl_1000, kl_2048, kl_9999, and_self, and_true, true_and, and_false, false_and, not_false_eq_true, not_true_eq_false], by simp (disch := omega) only [h2, hm, Nat.add_sub_cancel, nm_s, bd1_s, bd2_s, bd3_s, gd_n, gd_ne, nI_clamp, nI_leI, nI_ltI, nI_eq, nI_add, pk_mul, pk_sub, up_r, upL_r, jrem_n, jmax_n, if_true, if_false, if_pos, if_neg, gd_i, Nat.zero_add, Nat.add_zero, Nat.mul_zero, nI_nn, nI_nn2, mI_le, mI_ne, mI_ne2, mI_ne3, mI_ne4, ne0, kl_0, kl_1, kl_2, kl_3, kl_4, kl_5, kl_6, kl_7, kl_8, kl_9, kl_10, kl_11, kl_12, kl_13, kl_14, kl_15, kl_16, kl_17, kl_18, kl_19, kl_20, kl_21, kl_22, kl_23, kl_32, kl_40, kl_48, kl_50, kl_53, kl_56, kl_57, kl_60, kl_61, kl_66, kl_97, kl_99, kl_100, kl_120, kl_122, kl_160, kl_200, kl_255, kl_300, kl_500, kl_600, kl_601, kl_999, kl_1000, kl_2048, kl_9999, and_self, and_true, true_and, and_false, false_and, not_false_eq_true, not_true_eq_false]⟩
  · exact ⟨-nI 11, by simp (disch := omega) only [h1, h3, Nat.add_sub_cancel, nm_s, bd1_s, bd2_s, bd3_s, gd_n, gd_ne, nI_clamp, nI_leI, nI_ltI, nI_eq, nI_add, pk_mul, pk_sub, up_r, upL_r, jrem_n, jmax_n, if_true, if_false, if_pos, if_neg, gd_i, Nat.zero_add, Nat.add_zero, Nat.mul_zero, nI_nn, nI_nn2, mI_le, mI_ne, mI_ne2, mI_ne3, mI_ne4, ne0, kl_0, kl_1, kl_2, kl_3, kl_4, kl_5, kl_6, kl_7, kl_8, kl_9, kl_10, kl_11, kl_12, kl_13, kl_14, kl_15, kl_16, kl_17, kl_18, kl_19, kl_20, kl_21, kl_22, kl_23, kl_32, kl_40, kl_48, kl_50, kl_53, kl_56, kl_57, kl_60, kl_61, kl_66, kl_97, kl_99, kl_100, kl_120, kl_122, kl_160, kl_200, kl_255, kl_300, kl_500, kl_600, kl_601, kl_999, kl_1000, kl_2048, kl_9999, and_self, and_true, true_and, and_false, false_and, not_false_eq_true, not_true_eq_false], by simp (disch := omega) only [h4, hm2, Nat.add_sub_cancel, nm_s, bd1_s, bd2_s, bd3_s, gd_n, gd_ne, nI_clamp, nI_leI, nI_ltI, nI_eq, nI_add, pk_mul, pk_sub, up_r, upL_r, jrem_n, jmax_n, if_true, if_false, if_pos, if_neg, gd_i, Nat.zero_add, Nat.add_zero, Nat.mul_zero, nI_nn, nI_nn2, mI_le, mI_ne, mI_ne2, mI_ne3, mI_ne4, ne0, kl_0, kl_1, kl_2, kl_3, kl_4, kl_5, kl_6, kl_7, kl_8, kl_9, kl_10, kl_11, kl_12, kl_13, kl_14, kl_15, kl_16, kl_17, kl_18, kl_19, kl_20, kl_21, kl_22, kl_23, kl_32, kl_40, kl_48, kl_50, kl_53, kl_56, kl_57, kl_60, kl_61, kl_66, kl_97, kl_99, kl_100, kl_120, kl_122, kl_160, kl_200, kl_255, kl_300, kl_500, kl_600, kl_601, kl_999, kl_1000, kl_2048, kl_9999, and_self, and_true, true_and, and_false, false_and, not_false_eq_true, not_true_eq_false]⟩
  · have r3 := R.2.2.1
    exact ⟨-nI 2, by simp (disch := omega) only [kl_0, kl_2, kl_4, gd_n, nI_clamp, h1, h3, r3, h4, if_true, if_false, ne0], by simp (disch := omega) only [h5, hm, Nat.add_sub_cancel, nm_s, bd1_s, bd2_s, bd3_s, gd_n, gd_ne, nI_clamp, nI_leI, nI_ltI, nI_eq, nI_add, pk_mul, pk_sub, up_r, upL_r, jrem_n, jmax_n, if_true, if_false, if_pos, if_neg, gd_i, Nat.zero_add, Nat.add_zero, Nat.mul_zero, nI_nn, nI_nn2, mI_le, mI_ne, mI_ne2, mI_ne3, mI_ne4, ne0, kl_0, kl_1, kl_2, kl_3, kl_4, kl_5, kl_6, kl_7, kl_8, kl_9, kl_10, kl_11, kl_12, kl_13, kl_14, kl_15, kl_16, kl_17, kl_18, kl_19, kl_20, kl_21, kl_22, kl_23, kl_32, kl_40, kl_48, kl_50, kl_53, kl_56, kl_57, kl_60, kl_61, kl_66, kl_97, kl_99, kl_100, kl_120, kl_122, kl_160, kl_200, kl_255, kl_300, kl_500, kl_600, kl_601, kl_999, kl_1000, kl_2048, kl_9999, and_self, and_true, true_and, and_false, false_and, not_false_eq_true, not_true_eq_false]⟩
  · have r3 := R.2.2.1
    have r4 := R.2.2.2.1
    have hz := R.2.1
    by_cases h0 : z = 0
    · subst h0
      have c1 : f1_filled μ q (nI 0) (nI 0) = some (nI 0) := by
        unfold f1_filled
        rw [show FUEL = 99999 + 1 from rfl, f1_filled_1]
        simp (disch := omega) only [Nat.add_sub_cancel, nm_s, bd1_s, bd2_s, bd3_s, gd_n, gd_ne, nI_clamp, nI_leI, nI_ltI, nI_eq, nI_add, pk_mul, pk_sub, up_r, upL_r, jrem_n, jmax_n, if_true, if_false, if_pos, if_neg, gd_i, Nat.zero_add, Nat.add_zero, Nat.mul_zero, nI_nn, nI_nn2, mI_le, mI_ne, mI_ne2, mI_ne3, mI_ne4, ne0, kl_0, kl_1, kl_2, kl_3, kl_4, kl_5, kl_6, kl_7, kl_8, kl_9, kl_10, kl_11, kl_12, kl_13, kl_14, kl_15, kl_16, kl_17, kl_18, kl_19, kl_20, kl_21, kl_22, kl_23, kl_32, kl_40, kl_48, kl_50, kl_53, kl_56, kl_57, kl_60, kl_61, kl_66, kl_97, kl_99, kl_100, kl_120, kl_122, kl_160, kl_200, kl_255, kl_300, kl_500, kl_600, kl_601, kl_999, kl_1000, kl_2048, kl_9999, and_self, and_true, true_and, and_false, false_and, not_false_eq_true, not_true_eq_false]
      have hd : nI 0 / nI 2 = nI 0 := by decide
      refine ⟨-nI 1, ?_, ?_⟩
      · simp (disch := omega) only [h1, h3, r3, c1, hd, Nat.add_sub_cancel, nm_s, bd1_s, bd2_s, bd3_s, gd_n, gd_ne, nI_clamp, nI_leI, nI_ltI, nI_eq, nI_add, pk_mul, pk_sub, up_r, upL_r, jrem_n, jmax_n, if_true, if_false, if_pos, if_neg, gd_i, Nat.zero_add, Nat.add_zero, Nat.mul_zero, nI_nn, nI_nn2, mI_le, mI_ne, mI_ne2, mI_ne3, mI_ne4, ne0, kl_0, kl_1, kl_2, kl_3, kl_4, kl_5, kl_6, kl_7, kl_8, kl_9, kl_10, kl_11, kl_12, kl_13, kl_14, kl_15, kl_16, kl_17, kl_18, kl_19, kl_20, kl_21, kl_22, kl_23, kl_32, kl_40, kl_48, kl_50, kl_53, kl_56, kl_57, kl_60, kl_61, kl_66, kl_97, kl_99, kl_100, kl_120, kl_122, kl_160, kl_200, kl_255, kl_300, kl_500, kl_600, kl_601, kl_999, kl_1000, kl_2048, kl_9999, and_self, and_true, true_and, and_false, false_and, not_false_eq_true, not_true_eq_false]
        rw [show FUEL = 99999 + 1 from rfl, f5_beads_1]
        simp (disch := omega) only [r3, Nat.add_sub_cancel, nm_s, bd1_s, bd2_s, bd3_s, gd_n, gd_ne, nI_clamp, nI_leI, nI_ltI, nI_eq, nI_add, pk_mul, pk_sub, up_r, upL_r, jrem_n, jmax_n, if_true, if_false, if_pos, if_neg, gd_i, Nat.zero_add, Nat.add_zero, Nat.mul_zero, nI_nn, nI_nn2, mI_le, mI_ne, mI_ne2, mI_ne3, mI_ne4, ne0, kl_0, kl_1, kl_2, kl_3, kl_4, kl_5, kl_6, kl_7, kl_8, kl_9, kl_10, kl_11, kl_12, kl_13, kl_14, kl_15, kl_16, kl_17, kl_18, kl_19, kl_20, kl_21, kl_22, kl_23, kl_32, kl_40, kl_48, kl_50, kl_53, kl_56, kl_57, kl_60, kl_61, kl_66, kl_97, kl_99, kl_100, kl_120, kl_122, kl_160, kl_200, kl_255, kl_300, kl_500, kl_600, kl_601, kl_999, kl_1000, kl_2048, kl_9999, and_self, and_true, true_and, and_false, false_and, not_false_eq_true, not_true_eq_false]
      · simp (disch := omega) only [h5, r4, Nat.add_sub_cancel, nm_s, bd1_s, bd2_s, bd3_s, gd_n, gd_ne, nI_clamp, nI_leI, nI_ltI, nI_eq, nI_add, pk_mul, pk_sub, up_r, upL_r, jrem_n, jmax_n, if_true, if_false, if_pos, if_neg, gd_i, Nat.zero_add, Nat.add_zero, Nat.mul_zero, nI_nn, nI_nn2, mI_le, mI_ne, mI_ne2, mI_ne3, mI_ne4, ne0, kl_0, kl_1, kl_2, kl_3, kl_4, kl_5, kl_6, kl_7, kl_8, kl_9, kl_10, kl_11, kl_12, kl_13, kl_14, kl_15, kl_16, kl_17, kl_18, kl_19, kl_20, kl_21, kl_22, kl_23, kl_32, kl_40, kl_48, kl_50, kl_53, kl_56, kl_57, kl_60, kl_61, kl_66, kl_97, kl_99, kl_100, kl_120, kl_122, kl_160, kl_200, kl_255, kl_300, kl_500, kl_600, kl_601, kl_999, kl_1000, kl_2048, kl_9999, and_self, and_true, true_and, and_false, false_and, not_false_eq_true, not_true_eq_false]
        rw [show FUEL = 99999 + 1 from rfl, f6_beads_1]
        simp (disch := omega) only [Nat.add_sub_cancel, nm_s, bd1_s, bd2_s, bd3_s, gd_n, gd_ne, nI_clamp, nI_leI, nI_ltI, nI_eq, nI_add, pk_mul, pk_sub, up_r, upL_r, jrem_n, jmax_n, if_true, if_false, if_pos, if_neg, gd_i, Nat.zero_add, Nat.add_zero, Nat.mul_zero, nI_nn, nI_nn2, mI_le, mI_ne, mI_ne2, mI_ne3, mI_ne4, ne0, kl_0, kl_1, kl_2, kl_3, kl_4, kl_5, kl_6, kl_7, kl_8, kl_9, kl_10, kl_11, kl_12, kl_13, kl_14, kl_15, kl_16, kl_17, kl_18, kl_19, kl_20, kl_21, kl_22, kl_23, kl_32, kl_40, kl_48, kl_50, kl_53, kl_56, kl_57, kl_60, kl_61, kl_66, kl_97, kl_99, kl_100, kl_120, kl_122, kl_160, kl_200, kl_255, kl_300, kl_500, kl_600, kl_601, kl_999, kl_1000, kl_2048, kl_9999, and_self, and_true, true_and, and_false, false_and, not_false_eq_true, not_true_eq_false]
        rw [show FUEL = 99999 + 1 from rfl, f6_beads_2]
        simp (disch := omega) only [Nat.add_sub_cancel, nm_s, bd1_s, bd2_s, bd3_s, gd_n, gd_ne, nI_clamp, nI_leI, nI_ltI, nI_eq, nI_add, pk_mul, pk_sub, up_r, upL_r, jrem_n, jmax_n, if_true, if_false, if_pos, if_neg, gd_i, Nat.zero_add, Nat.add_zero, Nat.mul_zero, nI_nn, nI_nn2, mI_le, mI_ne, mI_ne2, mI_ne3, mI_ne4, ne0, kl_0, kl_1, kl_2, kl_3, kl_4, kl_5, kl_6, kl_7, kl_8, kl_9, kl_10, kl_11, kl_12, kl_13, kl_14, kl_15, kl_16, kl_17, kl_18, kl_19, kl_20, kl_21, kl_22, kl_23, kl_32, kl_40, kl_48, kl_50, kl_53, kl_56, kl_57, kl_60, kl_61, kl_66, kl_97, kl_99, kl_100, kl_120, kl_122, kl_160, kl_200, kl_255, kl_300, kl_500, kl_600, kl_601, kl_999, kl_1000, kl_2048, kl_9999, and_self, and_true, true_and, and_false, false_and, not_false_eq_true, not_true_eq_false]
    · obtain ⟨c, a1, a2⟩ := fill R (by omega) (s := 0) (N := z) (by omega) (by omega)
      obtain ⟨c', b1, b2⟩ := bd1' (ν := ν) R (by omega) FUEL 0 0 (by omega) (fuel_o (by omega)) rfl
      have hcc := CT_one _ _ _ a2 b1
      subst hcc
      have hcl := CT_le _ _ a2
      have hd2 : nI c / nI 2 = nI (c / 2) := pk_div (by omega) (by decide) (by decide)
      obtain ⟨v, y1, y2⟩ := bd2' (ν := ν) R (by omega) (all := c) (by omega) FUEL FUEL 0 (by omega) (fuel_o (by omega)) (fuel_o (by omega))
      refine ⟨v, ?_, ?_⟩
      · simp (disch := omega) only [h1, h3, r3, a1, hd2, Nat.add_sub_cancel, nm_s, bd1_s, bd2_s, bd3_s, gd_n, gd_ne, nI_clamp, nI_leI, nI_ltI, nI_eq, nI_add, pk_mul, pk_sub, up_r, upL_r, jrem_n, jmax_n, if_true, if_false, if_pos, if_neg, gd_i, Nat.zero_add, Nat.add_zero, Nat.mul_zero, nI_nn, nI_nn2, mI_le, mI_ne, mI_ne2, mI_ne3, mI_ne4, ne0, kl_0, kl_1, kl_2, kl_3, kl_4, kl_5, kl_6, kl_7, kl_8, kl_9, kl_10, kl_11, kl_12, kl_13, kl_14, kl_15, kl_16, kl_17, kl_18, kl_19, kl_20, kl_21, kl_22, kl_23, kl_32, kl_40, kl_48, kl_50, kl_53, kl_56, kl_57, kl_60, kl_61, kl_66, kl_97, kl_99, kl_100, kl_120, kl_122, kl_160, kl_200, kl_255, kl_300, kl_500, kl_600, kl_601, kl_999, kl_1000, kl_2048, kl_9999, and_self, and_true, true_and, and_false, false_and, not_false_eq_true, not_true_eq_false]
        exact y1
      · simp (disch := omega) only [h5, r4, Nat.add_sub_cancel, nm_s, bd1_s, bd2_s, bd3_s, gd_n, gd_ne, nI_clamp, nI_leI, nI_ltI, nI_eq, nI_add, pk_mul, pk_sub, up_r, upL_r, jrem_n, jmax_n, if_true, if_false, if_pos, if_neg, gd_i, Nat.zero_add, Nat.add_zero, Nat.mul_zero, nI_nn, nI_nn2, mI_le, mI_ne, mI_ne2, mI_ne3, mI_ne4, ne0, kl_0, kl_1, kl_2, kl_3, kl_4, kl_5, kl_6, kl_7, kl_8, kl_9, kl_10, kl_11, kl_12, kl_13, kl_14, kl_15, kl_16, kl_17, kl_18, kl_19, kl_20, kl_21, kl_22, kl_23, kl_32, kl_40, kl_48, kl_50, kl_53, kl_56, kl_57, kl_60, kl_61, kl_66, kl_97, kl_99, kl_100, kl_120, kl_122, kl_160, kl_200, kl_255, kl_300, kl_500, kl_600, kl_601, kl_999, kl_1000, kl_2048, kl_9999, and_self, and_true, true_and, and_false, false_and, not_false_eq_true, not_true_eq_false]
        rw [b2]
        exact y2
/-! heat -/
def WH (it : Nat → Int32) (z i : Nat) : Int64 := (it (i % z)).toInt64 - (it ((i + z / 2) % z)).toInt64
theorem WH_i (it : Nat → Int32) (z i : Nat) : (WH it z i).toInt = (it (i % z)).toInt - (it ((i + z / 2) % z)).toInt := by
  have h1 := fb_rng (it (i % z))
  have h2 := fb_rng (it ((i + z / 2) % z))
  unfold WH
  rw [fb_subL (by rw [Int32.toInt_toInt64, Int32.toInt_toInt64]; omega) (by rw [Int32.toInt_toInt64, Int32.toInt_toInt64]; omega), Int32.toInt_toInt64, Int32.toInt_toInt64]
theorem opp_i (x y : Int64) : f5_areOpposite x y = nI 0 ↔ ¬ ((0 < x.toInt ∧ y.toInt < 0) ∨ (x.toInt < 0 ∧ 0 < y.toInt)) := by
  have z0 : (0 : Int64).toInt = 0 := by decide
  unfold f5_areOpposite f5_areOpposite_1
  by_cases a1 : lg_cmp x 0 ≤ 0
  · rw [if_pos a1]
    have b1 := (lg_le x 0).mp a1
    rw [fa_le64, z0] at b1
    by_cases a2 : 0 ≤ lg_cmp x 0
    · rw [if_pos a2]
      have b2 := (lg_ge x 0).mp a2
      rw [fa_le64, z0] at b2
      exact ⟨fun _ => by omega, fun _ => rfl⟩
    · rw [if_neg a2]
      have b2 : ¬ (0 : Int64) ≤ x := fun q => a2 ((lg_ge x 0).mpr q)
      rw [fa_le64, z0] at b2
      by_cases a3 : lg_cmp y 0 ≤ 0
      · rw [if_pos a3]
        have b3 := (lg_le y 0).mp a3
        rw [fa_le64, z0] at b3
        exact ⟨fun _ => by omega, fun _ => rfl⟩
      · rw [if_neg a3]
        have b3 : ¬ y ≤ (0 : Int64) := fun q => a3 ((lg_le y 0).mpr q)
        rw [fa_le64, z0] at b3
        exact ⟨fun h => absurd h (by decide), fun h => absurd (Or.inr ⟨by omega, by omega⟩) h⟩
  · rw [if_neg a1]
    have b1 : ¬ x ≤ (0 : Int64) := fun q => a1 ((lg_le x 0).mpr q)
    rw [fa_le64, z0] at b1
    by_cases a2 : lg_cmp y 0 < 0
    · rw [if_pos a2]
      have b2 := (lg_lt y 0).mp a2
      rw [fa_lt64, z0] at b2
      exact ⟨fun h => absurd h (by decide), fun h => absurd (Or.inl ⟨by omega, by omega⟩) h⟩
    · rw [if_neg a2]
      have b2 : ¬ y < (0 : Int64) := fun q => a2 ((lg_lt y 0).mpr q)
      rw [fa_lt64, z0] at b2
      have a3 : 0 ≤ lg_cmp x 0 := (lg_ge x 0).mpr (by rw [fa_le64, z0]; omega)
      rw [if_pos a3]
      exact ⟨fun _ => by omega, fun _ => rfl⟩
def HIT (it : Nat → Int32) (z i : Nat) : Prop := lg_cmp (WH it z i) 0 = nI 0 ∨ ¬ f5_areOpposite (WH it z i) (WH it z (i + 1)) = nI 0
theorem hit_in (it : Nat → Int32) {z : Nat} (h0 : 0 < z) (h2 : z % 2 = 0) : ∃ i, i < z ∧ HIT it z i := by
  apply Classical.byContradiction
  intro hno
  have hall : ∀ i, i < z → ¬ (WH it z i).toInt = 0 ∧ ¬ ((0 < (WH it z i).toInt ∧ (WH it z (i + 1)).toInt < 0) ∨ ((WH it z i).toInt < 0 ∧ 0 < (WH it z (i + 1)).toInt)) := by
    intro i hi
    have hn : ¬ HIT it z i := fun h => hno ⟨i, hi, h⟩
    constructor
    · intro h
      refine hn (Or.inl ((lg_eq _ _).mpr ?_))
      rw [fa_eq64, h]; decide
    · intro h
      exact hn (Or.inr (fun q => (opp_i _ _).mp q h))
  have h00 := (hall 0 h0).1
  have hs : ∀ i, i ≤ z / 2 → (0 < (WH it z 0).toInt → 0 < (WH it z i).toInt) ∧ ((WH it z 0).toInt < 0 → (WH it z i).toInt < 0) := by
    intro i
    induction i with
    | zero => intro _; exact ⟨fun h => h, fun h => h⟩
    | succ i ih =>
      intro hi
      obtain ⟨a, b⟩ := ih (by omega)
      have h1 := (hall i (by omega)).2
      have h3 : ¬ (WH it z (i + 1)).toInt = 0 := (hall (i + 1) (by omega)).1
      exact ⟨fun h => by have := a h; omega, fun h => by have := b h; omega⟩
  have e : (WH it z (z / 2)).toInt = -(WH it z 0).toInt := by
    rw [WH_i, WH_i]
    have m1 : (z / 2 + z / 2) % z = 0 := by rw [show z / 2 + z / 2 = z by omega]; exact Nat.mod_self z
    have m2 : (0 + z / 2) % z = (z / 2) % z := by rw [Nat.zero_add]
    have m3 : 0 % z = 0 := Nat.zero_mod z
    rw [m1, m2, m3]
    omega
  obtain ⟨a, b⟩ := hs (z / 2) (Nat.le_refl _)
  rcases (show 0 < (WH it z 0).toInt ∨ (WH it z 0).toInt < 0 by omega) with h | h
  · have := a h; omega
  · have := b h; omega
theorem across_C {μ μM : Mem} {q z : Nat} {it : Nat → Int32} (R : RG μ μM q z it) (h0 : 0 < z) {i : Nat} (hi : i < 100) : f1_acrossFrom μ q (nI i) = some (WH it z i) := by
  have hz := R.2.1
  have r3 := R.2.2.1
  have g1 := ring_C R h0 (i := i) (by omega)
  have g2 := ring_C R h0 (i := i + z / 2) (by omega)
  have hd1 : nI z / nI 2 = nI (z / 2) := pk_div (by omega) (by decide) (by decide)
  unfold f1_acrossFrom WH
  simp (disch := omega) only [g1, r3, hd1, g2, Nat.add_sub_cancel, nm_s, bd1_s, bd2_s, bd3_s, gd_n, gd_ne, nI_clamp, nI_leI, nI_ltI, nI_eq, nI_add, pk_mul, pk_sub, up_r, upL_r, jrem_n, jmax_n, if_true, if_false, if_pos, if_neg, gd_i, Nat.zero_add, Nat.add_zero, Nat.mul_zero, nI_nn, nI_nn2, mI_le, mI_ne, mI_ne2, mI_ne3, mI_ne4, ne0, kl_0, kl_1, kl_2, kl_3, kl_4, kl_5, kl_6, kl_7, kl_8, kl_9, kl_10, kl_11, kl_12, kl_13, kl_14, kl_15, kl_16, kl_17, kl_18, kl_19, kl_20, kl_21, kl_22, kl_23, kl_32, kl_40, kl_48, kl_50, kl_53, kl_56, kl_57, kl_60, kl_61, kl_66, kl_97, kl_99, kl_100, kl_120, kl_122, kl_160, kl_200, kl_255, kl_300, kl_500, kl_600, kl_601, kl_999, kl_1000, kl_2048, kl_9999, and_self, and_true, true_and, and_false, false_and, not_false_eq_true, not_true_eq_false]
theorem across_M {μ μM : Mem} {ν : Lem} {q z : Nat} {it : Nat → Int32} (R : RG μ μM q z it) (h0 : 0 < z) {i : Nat} (hi : i < 100) : f6_across μM ν (nI q) (nI i) = some (WH it z i) := by
  have hz := R.2.1
  have hq := R.1
  have r4 := R.2.2.2.1
  have g1 := ring_M (ν := ν) R h0 (i := i) (by omega)
  have g2 := ring_M (ν := ν) R h0 (i := i + z / 2) (by omega)
  have hd1 : nI z / nI 2 = nI (z / 2) := pk_div (by omega) (by decide) (by decide)
  unfold f6_across WH
  simp (disch := omega) only [g1, r4, hd1, g2, Nat.add_sub_cancel, nm_s, bd1_s, bd2_s, bd3_s, gd_n, gd_ne, nI_clamp, nI_leI, nI_ltI, nI_eq, nI_add, pk_mul, pk_sub, up_r, upL_r, jrem_n, jmax_n, if_true, if_false, if_pos, if_neg, gd_i, Nat.zero_add, Nat.add_zero, Nat.mul_zero, nI_nn, nI_nn2, mI_le, mI_ne, mI_ne2, mI_ne3, mI_ne4, ne0, kl_0, kl_1, kl_2, kl_3, kl_4, kl_5, kl_6, kl_7, kl_8, kl_9, kl_10, kl_11, kl_12, kl_13, kl_14, kl_15, kl_16, kl_17, kl_18, kl_19, kl_20, kl_21, kl_22, kl_23, kl_32, kl_40, kl_48, kl_50, kl_53, kl_56, kl_57, kl_60, kl_61, kl_66, kl_97, kl_99, kl_100, kl_120, kl_122, kl_160, kl_200, kl_255, kl_300, kl_500, kl_600, kl_601, kl_999, kl_1000, kl_2048, kl_9999, and_self, and_true, true_and, and_false, false_and, not_false_eq_true, not_true_eq_false]
theorem heat1 {μ μM : Mem} {ν : Lem} {q z : Nat} {it : Nat → Int32} (R : RG μ μM q z it) (h0 : 0 < z) : ∀ (n K i : Nat), i < z → z - i < n → z - i < K → (∃ j, i ≤ j ∧ j < z ∧ HIT it z j) → ∃ v, f5_heat_1 μ n q (nI i) = some v ∧ f6_heat_1 μM ν K (nI q) (nI i) = some v := by
  have hz := R.2.1
  have r3 := R.2.2.1
  intro n
  induction n with
  | zero => intro K i _ h; omega
  | succ n ih =>
    intro K i hi hn hK hj
    obtain ⟨K, rfl⟩ : ∃ k', K = k' + 1 := ⟨K - 1, by omega⟩
    have c0 := across_C R h0 (i := i) (by omega)
    have c1 := across_C R h0 (i := i + 1) (by omega)
    have d0 := across_M (ν := ν) R h0 (i := i) (by omega)
    have d1 := across_M (ν := ν) R h0 (i := i + 1) (by omega)
    by_cases a1 : lg_cmp (WH it z i) 0 = nI 0
    · exact ⟨nI i, by rw [f5_heat_1]; simp (disch := omega) only [r3, c0, a1, Nat.add_sub_cancel, nm_s, bd1_s, bd2_s, bd3_s, gd_n, gd_ne, nI_clamp, nI_leI, nI_ltI, nI_eq, nI_add, pk_mul, pk_sub, up_r, upL_r, jrem_n, jmax_n, if_true, if_false, if_pos, if_neg, gd_i, Nat.zero_add, Nat.add_zero, Nat.mul_zero, nI_nn, nI_nn2, mI_le, mI_ne, mI_ne2, mI_ne3, mI_ne4, ne0, kl_0, kl_1, kl_2, kl_3, kl_4, kl_5, kl_6, kl_7, kl_8, kl_9, kl_10, kl_11, kl_12, kl_13, kl_14, kl_15, kl_16, kl_17, kl_18, kl_19, kl_20, kl_21, kl_22, kl_23, kl_32, kl_40, kl_48, kl_50, kl_53, kl_56, kl_57, kl_60, kl_61, kl_66, kl_97, kl_99, kl_100, kl_120, kl_122, kl_160, kl_200, kl_255, kl_300, kl_500, kl_600, kl_601, kl_999, kl_1000, kl_2048, kl_9999, and_self, and_true, true_and, and_false, false_and, not_false_eq_true, not_true_eq_false], by rw [f6_heat_1]; simp (disch := omega) only [d0, a1, Nat.add_sub_cancel, nm_s, bd1_s, bd2_s, bd3_s, gd_n, gd_ne, nI_clamp, nI_leI, nI_ltI, nI_eq, nI_add, pk_mul, pk_sub, up_r, upL_r, jrem_n, jmax_n, if_true, if_false, if_pos, if_neg, gd_i, Nat.zero_add, Nat.add_zero, Nat.mul_zero, nI_nn, nI_nn2, mI_le, mI_ne, mI_ne2, mI_ne3, mI_ne4, ne0, kl_0, kl_1, kl_2, kl_3, kl_4, kl_5, kl_6, kl_7, kl_8, kl_9, kl_10, kl_11, kl_12, kl_13, kl_14, kl_15, kl_16, kl_17, kl_18, kl_19, kl_20, kl_21, kl_22, kl_23, kl_32, kl_40, kl_48, kl_50, kl_53, kl_56, kl_57, kl_60, kl_61, kl_66, kl_97, kl_99, kl_100, kl_120, kl_122, kl_160, kl_200, kl_255, kl_300, kl_500, kl_600, kl_601, kl_999, kl_1000, kl_2048, kl_9999, and_self, and_true, true_and, and_false, false_and, not_false_eq_true, not_true_eq_false]⟩
    · by_cases a2 : f5_areOpposite (WH it z i) (WH it z (i + 1)) = nI 0
      · have hj2 : ∃ j, i + 1 ≤ j ∧ j < z ∧ HIT it z j := by
          obtain ⟨j, j1, j2, j3⟩ := hj
          refine ⟨j, ?_, j2, j3⟩
          by_cases e : j = i
          · subst e
            rcases j3 with j3 | j3
            · exact absurd j3 a1
            · exact absurd a2 j3
          · omega
        obtain ⟨j, j1, j2, j3⟩ := hj2
        obtain ⟨v, q1, q2⟩ := ih K (i + 1) (by omega) (by omega) (by omega) ⟨j, j1, j2, j3⟩
        exact ⟨v, by rw [f5_heat_1]; simp (disch := omega) only [r3, c0, c1, a1, a2, Nat.add_sub_cancel, nm_s, bd1_s, bd2_s, bd3_s, gd_n, gd_ne, nI_clamp, nI_leI, nI_ltI, nI_eq, nI_add, pk_mul, pk_sub, up_r, upL_r, jrem_n, jmax_n, if_true, if_false, if_pos, if_neg, gd_i, Nat.zero_add, Nat.add_zero, Nat.mul_zero, nI_nn, nI_nn2, mI_le, mI_ne, mI_ne2, mI_ne3, mI_ne4, ne0, kl_0, kl_1, kl_2, kl_3, kl_4, kl_5, kl_6, kl_7, kl_8, kl_9, kl_10, kl_11, kl_12, kl_13, kl_14, kl_15, kl_16, kl_17, kl_18, kl_19, kl_20, kl_21, kl_22, kl_23, kl_32, kl_40, kl_48, kl_50, kl_53, kl_56, kl_57, kl_60, kl_61, kl_66, kl_97, kl_99, kl_100, kl_120, kl_122, kl_160, kl_200, kl_255, kl_300, kl_500, kl_600, kl_601, kl_999, kl_1000, kl_2048, kl_9999, and_self, and_true, true_and, and_false, false_and, not_false_eq_true, not_true_eq_false]; exact q1, by rw [f6_heat_1]; simp (disch := omega) only [d0, d1, a1, opp_eq, a2, Nat.add_sub_cancel, nm_s, bd1_s, bd2_s, bd3_s, gd_n, gd_ne, nI_clamp, nI_leI, nI_ltI, nI_eq, nI_add, pk_mul, pk_sub, up_r, upL_r, jrem_n, jmax_n, if_true, if_false, if_pos, if_neg, gd_i, Nat.zero_add, Nat.add_zero, Nat.mul_zero, nI_nn, nI_nn2, mI_le, mI_ne, mI_ne2, mI_ne3, mI_ne4, ne0, kl_0, kl_1, kl_2, kl_3, kl_4, kl_5, kl_6, kl_7, kl_8, kl_9, kl_10, kl_11, kl_12, kl_13, kl_14, kl_15, kl_16, kl_17, kl_18, kl_19, kl_20, kl_21, kl_22, kl_23, kl_32, kl_40, kl_48, kl_50, kl_53, kl_56, kl_57, kl_60, kl_61, kl_66, kl_97, kl_99, kl_100, kl_120, kl_122, kl_160, kl_200, kl_255, kl_300, kl_500, kl_600, kl_601, kl_999, kl_1000, kl_2048, kl_9999, and_self, and_true, true_and, and_false, false_and, not_false_eq_true, not_true_eq_false]; exact q2⟩
      · exact ⟨nI i, by rw [f5_heat_1]; simp (disch := omega) only [r3, c0, c1, a1, a2, Nat.add_sub_cancel, nm_s, bd1_s, bd2_s, bd3_s, gd_n, gd_ne, nI_clamp, nI_leI, nI_ltI, nI_eq, nI_add, pk_mul, pk_sub, up_r, upL_r, jrem_n, jmax_n, if_true, if_false, if_pos, if_neg, gd_i, Nat.zero_add, Nat.add_zero, Nat.mul_zero, nI_nn, nI_nn2, mI_le, mI_ne, mI_ne2, mI_ne3, mI_ne4, ne0, kl_0, kl_1, kl_2, kl_3, kl_4, kl_5, kl_6, kl_7, kl_8, kl_9, kl_10, kl_11, kl_12, kl_13, kl_14, kl_15, kl_16, kl_17, kl_18, kl_19, kl_20, kl_21, kl_22, kl_23, kl_32, kl_40, kl_48, kl_50, kl_53, kl_56, kl_57, kl_60, kl_61, kl_66, kl_97, kl_99, kl_100, kl_120, kl_122, kl_160, kl_200, kl_255, kl_300, kl_500, kl_600, kl_601, kl_999, kl_1000, kl_2048, kl_9999, and_self, and_true, true_and, and_false, false_and, not_false_eq_true, not_true_eq_false], by rw [f6_heat_1]; simp (disch := omega) only [d0, d1, a1, opp_eq, a2, Nat.add_sub_cancel, nm_s, bd1_s, bd2_s, bd3_s, gd_n, gd_ne, nI_clamp, nI_leI, nI_ltI, nI_eq, nI_add, pk_mul, pk_sub, up_r, upL_r, jrem_n, jmax_n, if_true, if_false, if_pos, if_neg, gd_i, Nat.zero_add, Nat.add_zero, Nat.mul_zero, nI_nn, nI_nn2, mI_le, mI_ne, mI_ne2, mI_ne3, mI_ne4, ne0, kl_0, kl_1, kl_2, kl_3, kl_4, kl_5, kl_6, kl_7, kl_8, kl_9, kl_10, kl_11, kl_12, kl_13, kl_14, kl_15, kl_16, kl_17, kl_18, kl_19, kl_20, kl_21, kl_22, kl_23, kl_32, kl_40, kl_48, kl_50, kl_53, kl_56, kl_57, kl_60, kl_61, kl_66, kl_97, kl_99, kl_100, kl_120, kl_122, kl_160, kl_200, kl_255, kl_300, kl_500, kl_600, kl_601, kl_999, kl_1000, kl_2048, kl_9999, and_self, and_true, true_and, and_false, false_and, not_false_eq_true, not_true_eq_false]⟩
theorem heat_call {μ μM : Mem} {ν : Lem} {T F n r : Nat} {G : Nat → Gw} (p : RQ μ μM T F n r G) (x1 : Int32) : ∃ v, f5_heat μ x1 = some v ∧ f6_heat μM ν x1 = some v := by
  have hm : ¬ -nI 2 = nI 0 := by decide
  have hm2 : ¬ -nI 11 = nI 0 := by decide
  unfold f5_heat f6_heat
  rcases ring_pre (ν := ν) p.2.2.1 x1 with ⟨h1, h2⟩ | ⟨q, hq, rfl, h1, ⟨h3, h4⟩ | ⟨z, it, R, h3, ⟨h4, h5⟩ | ⟨hz2, h4, h5⟩⟩⟩
  · exact ⟨-nI 2, by simp (disch := omega) only [h1, Nat.add_sub_cancel, nm_s, bd1_s, bd2_s, bd3_s, gd_n, gd_ne, nI_clamp, nI_leI, nI_ltI, nI_eq, nI_add, pk_mul, pk_sub, up_r, upL_r, jrem_n, jmax_n, if_true, if_false, if_pos, if_neg, gd_i, Nat.zero_add, Nat.add_zero, Nat.mul_zero, nI_nn, nI_nn2, mI_le, mI_ne, mI_ne2, mI_ne3, mI_ne4, ne0, kl_0, kl_1, kl_2, kl_3, kl_4, kl_5, kl_6, kl_7, kl_8, kl_9, kl_10, kl_11, kl_12, kl_13, kl_14, kl_15, kl_16, kl_17, kl_18, kl_19, kl_20, kl_21, kl_22, kl_23, kl_32, kl_40, kl_48, kl_50, kl_53, kl_56, kl_57, kl_60, kl_61, kl_66, kl_97, kl_99, kl_100, kl_120, kl_122, kl_160, kl_200, kl_255, kl_300, kl_500, kl_600, kl_601, kl_999, kl_1000, kl_2048, kl_9999, and_self, and_true, true_and, and_false, false_and, not_false_eq_true, not_true_eq_false], by simp (disch := omega) only [h2, hm, Nat.add_sub_cancel, nm_s, bd1_s, bd2_s, bd3_s, gd_n, gd_ne, nI_clamp, nI_leI, nI_ltI, nI_eq, nI_add, pk_mul, pk_sub, up_r, upL_r, jrem_n, jmax_n, if_true, if_false, if_pos, if_neg, gd_i, Nat.zero_add, Nat.add_zero, Nat.mul_zero, nI_nn, nI_nn2, mI_le, mI_ne, mI_ne2, mI_ne3, mI_ne4, ne0, kl_0, kl_1, kl_2, kl_3, kl_4, kl_5, kl_6, kl_7, kl_8, kl_9, kl_10, kl_11, kl_12, kl_13, kl_14, kl_15, kl_16, kl_17, kl_18, kl_19, kl_20, kl_21, kl_22, kl_23, kl_32, kl_40, kl_48, kl_50, kl_53, kl_56, kl_57, kl_60, kl_61, kl_66, kl_97, kl_99, kl_100, kl_120, kl_122, kl_160, kl_200, kl_255, kl_300, kl_500, kl_600, kl_601, kl_999, kl_1000, kl_2048, kl_9999, and_self, and_true, true_and, and_false, false_and, not_false_eq_true, not_true_eq_false]⟩
  · exact ⟨-nI 11, by simp (disch := omega) only [h1, h3, Nat.add_sub_cancel, nm_s, bd1_s, bd2_s, bd3_s, gd_n, gd_ne, nI_clamp, nI_leI, nI_ltI, nI_eq, nI_add, pk_mul, pk_sub, up_r, upL_r, jrem_n, jmax_n, if_true, if_false, if_pos, if_neg, gd_i, Nat.zero_add, Nat.add_zero, Nat.mul_zero, nI_nn, nI_nn2, mI_le, mI_ne, mI_ne2, mI_ne3, mI_ne4, ne0, kl_0, kl_1, kl_2, kl_3, kl_4, kl_5, kl_6, kl_7, kl_8, kl_9, kl_10, kl_11, kl_12, kl_13, kl_14, kl_15, kl_16, kl_17, kl_18, kl_19, kl_20, kl_21, kl_22, kl_23, kl_32, kl_40, kl_48, kl_50, kl_53, kl_56, kl_57, kl_60, kl_61, kl_66, kl_97, kl_99, kl_100, kl_120, kl_122, kl_160, kl_200, kl_255, kl_300, kl_500, kl_600, kl_601, kl_999, kl_1000, kl_2048, kl_9999, and_self, and_true, true_and, and_false, false_and, not_false_eq_true, not_true_eq_false], by simp (disch := omega) only [h4, hm2, Nat.add_sub_cancel, nm_s, bd1_s, bd2_s, bd3_s, gd_n, gd_ne, nI_clamp, nI_leI, nI_ltI, nI_eq, nI_add, pk_mul, pk_sub, up_r, upL_r, jrem_n, jmax_n, if_true, if_false, if_pos, if_neg, gd_i, Nat.zero_add, Nat.add_zero, Nat.mul_zero, nI_nn, nI_nn2, mI_le, mI_ne, mI_ne2, mI_ne3, mI_ne4, ne0, kl_0, kl_1, kl_2, kl_3, kl_4, kl_5, kl_6, kl_7, kl_8, kl_9, kl_10, kl_11, kl_12, kl_13, kl_14, kl_15, kl_16, kl_17, kl_18, kl_19, kl_20, kl_21, kl_22, kl_23, kl_32, kl_40, kl_48, kl_50, kl_53, kl_56, kl_57, kl_60, kl_61, kl_66, kl_97, kl_99, kl_100, kl_120, kl_122, kl_160, kl_200, kl_255, kl_300, kl_500, kl_600, kl_601, kl_999, kl_1000, kl_2048, kl_9999, and_self, and_true, true_and, and_false, false_and, not_false_eq_true, not_true_eq_false]⟩
  · have r3 := R.2.2.1
    exact ⟨-nI 2, by simp (disch := omega) only [kl_0, kl_2, kl_4, gd_n, nI_clamp, h1, h3, r3, h4, if_true, if_false, ne0], by simp (disch := omega) only [h5, hm, Nat.add_sub_cancel, nm_s, bd1_s, bd2_s, bd3_s, gd_n, gd_ne, nI_clamp, nI_leI, nI_ltI, nI_eq, nI_add, pk_mul, pk_sub, up_r, upL_r, jrem_n, jmax_n, if_true, if_false, if_pos, if_neg, gd_i, Nat.zero_add, Nat.add_zero, Nat.mul_zero, nI_nn, nI_nn2, mI_le, mI_ne, mI_ne2, mI_ne3, mI_ne4, ne0, kl_0, kl_1, kl_2, kl_3, kl_4, kl_5, kl_6, kl_7, kl_8, kl_9, kl_10, kl_11, kl_12, kl_13, kl_14, kl_15, kl_16, kl_17, kl_18, kl_19, kl_20, kl_21, kl_22, kl_23, kl_32, kl_40, kl_48, kl_50, kl_53, kl_56, kl_57, kl_60, kl_61, kl_66, kl_97, kl_99, kl_100, kl_120, kl_122, kl_160, kl_200, kl_255, kl_300, kl_500, kl_600, kl_601, kl_999, kl_1000, kl_2048, kl_9999, and_self, and_true, true_and, and_false, false_and, not_false_eq_true, not_true_eq_false]⟩
  · have r3 := R.2.2.1
    have r4 := R.2.2.2.1
    have hz := R.2.1
    by_cases h0 : z = 0
    · subst h0
      exact ⟨-nI 2, by simp (disch := omega) only [h1, h3, r3, Nat.add_sub_cancel, nm_s, bd1_s, bd2_s, bd3_s, gd_n, gd_ne, nI_clamp, nI_leI, nI_ltI, nI_eq, nI_add, pk_mul, pk_sub, up_r, upL_r, jrem_n, jmax_n, if_true, if_false, if_pos, if_neg, gd_i, Nat.zero_add, Nat.add_zero, Nat.mul_zero, nI_nn, nI_nn2, mI_le, mI_ne, mI_ne2, mI_ne3, mI_ne4, ne0, kl_0, kl_1, kl_2, kl_3, kl_4, kl_5, kl_6, kl_7, kl_8, kl_9, kl_10, kl_11, kl_12, kl_13, kl_14, kl_15, kl_16, kl_17, kl_18, kl_19, kl_20, kl_21, kl_22, kl_23, kl_32, kl_40, kl_48, kl_50, kl_53, kl_56, kl_57, kl_60, kl_61, kl_66, kl_97, kl_99, kl_100, kl_120, kl_122, kl_160, kl_200, kl_255, kl_300, kl_500, kl_600, kl_601, kl_999, kl_1000, kl_2048, kl_9999, and_self, and_true, true_and, and_false, false_and, not_false_eq_true, not_true_eq_false], by simp (disch := omega) only [h5, r4, Nat.add_sub_cancel, nm_s, bd1_s, bd2_s, bd3_s, gd_n, gd_ne, nI_clamp, nI_leI, nI_ltI, nI_eq, nI_add, pk_mul, pk_sub, up_r, upL_r, jrem_n, jmax_n, if_true, if_false, if_pos, if_neg, gd_i, Nat.zero_add, Nat.add_zero, Nat.mul_zero, nI_nn, nI_nn2, mI_le, mI_ne, mI_ne2, mI_ne3, mI_ne4, ne0, kl_0, kl_1, kl_2, kl_3, kl_4, kl_5, kl_6, kl_7, kl_8, kl_9, kl_10, kl_11, kl_12, kl_13, kl_14, kl_15, kl_16, kl_17, kl_18, kl_19, kl_20, kl_21, kl_22, kl_23, kl_32, kl_40, kl_48, kl_50, kl_53, kl_56, kl_57, kl_60, kl_61, kl_66, kl_97, kl_99, kl_100, kl_120, kl_122, kl_160, kl_200, kl_255, kl_300, kl_500, kl_600, kl_601, kl_999, kl_1000, kl_2048, kl_9999, and_self, and_true, true_and, and_false, false_and, not_false_eq_true, not_true_eq_false]⟩
    · obtain ⟨i, hi, hH⟩ := hit_in it (by omega) hz2
      obtain ⟨v, y1, y2⟩ := heat1 (ν := ν) R (by omega) FUEL FUEL 0 (by omega) (fuel_o (by omega)) (fuel_o (by omega)) ⟨i, by omega, hi, hH⟩
      exact ⟨v, by simp (disch := omega) only [h1, h3, r3, Nat.add_sub_cancel, nm_s, bd1_s, bd2_s, bd3_s, gd_n, gd_ne, nI_clamp, nI_leI, nI_ltI, nI_eq, nI_add, pk_mul, pk_sub, up_r, upL_r, jrem_n, jmax_n, if_true, if_false, if_pos, if_neg, gd_i, Nat.zero_add, Nat.add_zero, Nat.mul_zero, nI_nn, nI_nn2, mI_le, mI_ne, mI_ne2, mI_ne3, mI_ne4, ne0, kl_0, kl_1, kl_2, kl_3, kl_4, kl_5, kl_6, kl_7, kl_8, kl_9, kl_10, kl_11, kl_12, kl_13, kl_14, kl_15, kl_16, kl_17, kl_18, kl_19, kl_20, kl_21, kl_22, kl_23, kl_32, kl_40, kl_48, kl_50, kl_53, kl_56, kl_57, kl_60, kl_61, kl_66, kl_97, kl_99, kl_100, kl_120, kl_122, kl_160, kl_200, kl_255, kl_300, kl_500, kl_600, kl_601, kl_999, kl_1000, kl_2048, kl_9999, and_self, and_true, true_and, and_false, false_and, not_false_eq_true, not_true_eq_false]; exact y1, by simp (disch := omega) only [h5, r4, Nat.add_sub_cancel, nm_s, bd1_s, bd2_s, bd3_s, gd_n, gd_ne, nI_clamp, nI_leI, nI_ltI, nI_eq, nI_add, pk_mul, pk_sub, up_r, upL_r, jrem_n, jmax_n, if_true, if_false, if_pos, if_neg, gd_i, Nat.zero_add, Nat.add_zero, Nat.mul_zero, nI_nn, nI_nn2, mI_le, mI_ne, mI_ne2, mI_ne3, mI_ne4, ne0, kl_0, kl_1, kl_2, kl_3, kl_4, kl_5, kl_6, kl_7, kl_8, kl_9, kl_10, kl_11, kl_12, kl_13, kl_14, kl_15, kl_16, kl_17, kl_18, kl_19, kl_20, kl_21, kl_22, kl_23, kl_32, kl_40, kl_48, kl_50, kl_53, kl_56, kl_57, kl_60, kl_61, kl_66, kl_97, kl_99, kl_100, kl_120, kl_122, kl_160, kl_200, kl_255, kl_300, kl_500, kl_600, kl_601, kl_999, kl_1000, kl_2048, kl_9999, and_self, and_true, true_and, and_false, false_and, not_false_eq_true, not_true_eq_false]; exact y2⟩
