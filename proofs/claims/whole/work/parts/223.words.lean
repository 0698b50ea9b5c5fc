/-! is it this word, this sign -/
def LTP (B : Nat → Nat) (q e i c : Nat) : Prop := (e ≤ q + i ∧ c = 0) ∨ (q + i < e ∧ B (q + i) = c)
theorem ltp {T s q e i c : Nat} {B : Nat → Nat} {μ : Mem} (ν : Lem) (hY : BY s B) (hM : MB T s B μ) (he : e ≤ s) (hqe : q < e) (hP : ∀ j, q ≤ j → j < e → isL (B j)) (h24 : μ 0 24 = nI q) (h22 : μ 0 22 = nI e) (hi : i < 8) (hc : c ≤ 255) :
    (LTP B q e i c → f6_isLetter μ ν (nI i) (nI c) = some (nI 1)) ∧ (¬ LTP B q e i c → f6_isLetter μ ν (nI i) (nI c) = some (nI 0)) := by
  have hs := hY.1
  unfold f6_isLetter
  by_cases h : e ≤ q + i
  · by_cases h0 : c = 0
    · refine ⟨fun _ => ?_, fun h2 => absurd (Or.inl ⟨h, h0⟩) h2⟩
      simp (disch := omega) only [h24, h22, h0, Nat.add_sub_cancel, nm_s, bd1_s, bd2_s, bd3_s, gd_n, gd_ne, nI_clamp, nI_leI, nI_ltI, nI_eq, nI_add, pk_mul, pk_sub, up_r, upL_r, jrem_n, jmax_n, if_true, if_false, if_pos, if_neg, gd_i, Nat.zero_add, Nat.add_zero, Nat.mul_zero, nI_nn, nI_nn2, mI_le, mI_ne, mI_ne2, mI_ne3, mI_ne4, ne0, kl_0, kl_1, kl_2, kl_3, kl_4, kl_5, kl_6, kl_7, kl_8, kl_9, kl_10, kl_11, kl_12, kl_13, kl_14, kl_15, kl_16, kl_17, kl_18, kl_19, kl_20, kl_21, kl_22, kl_23, kl_32, kl_40, kl_48, kl_50, kl_53, kl_56, kl_57, kl_60, kl_61, kl_66, kl_97, kl_99, kl_100, kl_120, kl_122, kl_160, kl_200, kl_255, kl_300, kl_500, kl_600, kl_601, kl_999, kl_1000, kl_2048, kl_9999, and_self, and_true, true_and, and_false, false_and, not_false_eq_true, not_true_eq_false]
    · refine ⟨fun h2 => ?_, fun _ => ?_⟩
      · rcases h2 with ⟨-, h2⟩ | ⟨h2, -⟩
        · exact absurd h2 h0
        · omega
      · simp (disch := omega) only [h24, h22, Nat.add_sub_cancel, nm_s, bd1_s, bd2_s, bd3_s, gd_n, gd_ne, nI_clamp, nI_leI, nI_ltI, nI_eq, nI_add, pk_mul, pk_sub, up_r, upL_r, jrem_n, jmax_n, if_true, if_false, if_pos, if_neg, gd_i, Nat.zero_add, Nat.add_zero, Nat.mul_zero, nI_nn, nI_nn2, mI_le, mI_ne, mI_ne2, mI_ne3, mI_ne4, ne0, kl_0, kl_1, kl_2, kl_3, kl_4, kl_5, kl_6, kl_7, kl_8, kl_9, kl_10, kl_11, kl_12, kl_13, kl_14, kl_15, kl_16, kl_17, kl_18, kl_19, kl_20, kl_21, kl_22, kl_23, kl_32, kl_40, kl_48, kl_50, kl_53, kl_56, kl_57, kl_60, kl_61, kl_66, kl_97, kl_99, kl_100, kl_120, kl_122, kl_160, kl_200, kl_255, kl_300, kl_500, kl_600, kl_601, kl_999, kl_1000, kl_2048, kl_9999, and_self, and_true, true_and, and_false, false_and, not_false_eq_true, not_true_eq_false]
  · have b1 := byte_in ν hY hM (i := q + i) (by omega)
    have b2 := hY.2 (q + i) (by omega)
    by_cases h0 : B (q + i) = c
    · refine ⟨fun _ => ?_, fun h2 => absurd (Or.inr ⟨by omega, h0⟩) h2⟩
      simp (disch := omega) only [h24, h22, b1, h0, Nat.add_sub_cancel, nm_s, bd1_s, bd2_s, bd3_s, gd_n, gd_ne, nI_clamp, nI_leI, nI_ltI, nI_eq, nI_add, pk_mul, pk_sub, up_r, upL_r, jrem_n, jmax_n, if_true, if_false, if_pos, if_neg, gd_i, Nat.zero_add, Nat.add_zero, Nat.mul_zero, nI_nn, nI_nn2, mI_le, mI_ne, mI_ne2, mI_ne3, mI_ne4, ne0, kl_0, kl_1, kl_2, kl_3, kl_4, kl_5, kl_6, kl_7, kl_8, kl_9, kl_10, kl_11, kl_12, kl_13, kl_14, kl_15, kl_16, kl_17, kl_18, kl_19, kl_20, kl_21, kl_22, kl_23, kl_32, kl_40, kl_48, kl_50, kl_53, kl_56, kl_57, kl_60, kl_61, kl_66, kl_97, kl_99, kl_100, kl_120, kl_122, kl_160, kl_200, kl_255, kl_300, kl_500, kl_600, kl_601, kl_999, kl_1000, kl_2048, kl_9999, and_self, and_true, true_and, and_false, false_and, not_false_eq_true, not_true_eq_false]
    · refine ⟨fun h2 => ?_, fun _ => ?_⟩
      · rcases h2 with ⟨h2, -⟩ | ⟨-, h2⟩
        · omega
        · exact absurd h2 h0
      · simp (disch := omega) only [h24, h22, b1, h0, Nat.add_sub_cancel, nm_s, bd1_s, bd2_s, bd3_s, gd_n, gd_ne, nI_clamp, nI_leI, nI_ltI, nI_eq, nI_add, pk_mul, pk_sub, up_r, upL_r, jrem_n, jmax_n, if_true, if_false, if_pos, if_neg, gd_i, Nat.zero_add, Nat.add_zero, Nat.mul_zero, nI_nn, nI_nn2, mI_le, mI_ne, mI_ne2, mI_ne3, mI_ne4, ne0, kl_0, kl_1, kl_2, kl_3, kl_4, kl_5, kl_6, kl_7, kl_8, kl_9, kl_10, kl_11, kl_12, kl_13, kl_14, kl_15, kl_16, kl_17, kl_18, kl_19, kl_20, kl_21, kl_22, kl_23, kl_32, kl_40, kl_48, kl_50, kl_53, kl_56, kl_57, kl_60, kl_61, kl_66, kl_97, kl_99, kl_100, kl_120, kl_122, kl_160, kl_200, kl_255, kl_300, kl_500, kl_600, kl_601, kl_999, kl_1000, kl_2048, kl_9999, and_self, and_true, true_and, and_false, false_and, not_false_eq_true, not_true_eq_false]
theorem isWord_gen {μ : Mem} {ν : Lem} {q e : Nat} (hq : q ≤ 160) (he : e ≤ 160) {c1 c2 c3 c4 c5 c6 c7 c8 : Int32} {P1 P2 P3 P4 P5 P6 P7 P8 : Prop} (h27 : μ 0 27 = nI 0) (h23 : μ 0 23 = nI 1) (h24 : μ 0 24 = nI q) (h22 : μ 0 22 = nI e)
    (p1 : (P1 → f6_isLetter μ ν (nI 0) c1 = some (nI 1)) ∧ (¬ P1 → f6_isLetter μ ν (nI 0) c1 = some (nI 0)))
    (p2 : (P2 → f6_isLetter μ ν (nI 1) c2 = some (nI 1)) ∧ (¬ P2 → f6_isLetter μ ν (nI 1) c2 = some (nI 0)))
    (p3 : (P3 → f6_isLetter μ ν (nI 2) c3 = some (nI 1)) ∧ (¬ P3 → f6_isLetter μ ν (nI 2) c3 = some (nI 0)))
    (p4 : (P4 → f6_isLetter μ ν (nI 3) c4 = some (nI 1)) ∧ (¬ P4 → f6_isLetter μ ν (nI 3) c4 = some (nI 0)))
    (p5 : (P5 → f6_isLetter μ ν (nI 4) c5 = some (nI 1)) ∧ (¬ P5 → f6_isLetter μ ν (nI 4) c5 = some (nI 0)))
    (p6 : (P6 → f6_isLetter μ ν (nI 5) c6 = some (nI 1)) ∧ (¬ P6 → f6_isLetter μ ν (nI 5) c6 = some (nI 0)))
    (p7 : (P7 → f6_isLetter μ ν (nI 6) c7 = some (nI 1)) ∧ (¬ P7 → f6_isLetter μ ν (nI 6) c7 = some (nI 0)))
    (p8 : (P8 → f6_isLetter μ ν (nI 7) c8 = some (nI 1)) ∧ (¬ P8 → f6_isLetter μ ν (nI 7) c8 = some (nI 0))) :
    ((e ≤ q + 8 ∧ P1 ∧ P2 ∧ P3 ∧ P4 ∧ P5 ∧ P6 ∧ P7 ∧ P8) → f6_isWord μ ν c1 c2 c3 c4 c5 c6 c7 c8 = some (nI 1)) ∧ (¬ (e ≤ q + 8 ∧ P1 ∧ P2 ∧ P3 ∧ P4 ∧ P5 ∧ P6 ∧ P7 ∧ P8) → f6_isWord μ ν c1 c2 c3 c4 c5 c6 c7 c8 = some (nI 0)) := by
  unfold f6_isWord
  by_cases h0 : e ≤ q + 8
  · by_cases a1 : P1
    · have x1 := p1.1 a1
      by_cases a2 : P2
      · have x2 := p2.1 a2
        by_cases a3 : P3
        · have x3 := p3.1 a3
          by_cases a4 : P4
          · have x4 := p4.1 a4
            by_cases a5 : P5
            · have x5 := p5.1 a5
              by_cases a6 : P6
              · have x6 := p6.1 a6
                by_cases a7 : P7
                · have x7 := p7.1 a7
                  by_cases a8 : P8
                  · have x8 := p8.1 a8
                    refine ⟨fun _ => ?_, fun h => absurd ⟨h0, a1, a2, a3, a4, a5, a6, a7, a8⟩ h⟩
                    simp (disch := omega) only [h27, h23, h24, h22, x1, x2, x3, x4, x5, x6, x7, x8, Nat.add_sub_cancel, nm_s, bd1_s, bd2_s, bd3_s, gd_n, gd_ne, nI_clamp, nI_leI, nI_ltI, nI_eq, nI_add, pk_mul, pk_sub, up_r, upL_r, jrem_n, jmax_n, if_true, if_false, if_pos, if_neg, gd_i, Nat.zero_add, Nat.add_zero, Nat.mul_zero, nI_nn, nI_nn2, mI_le, mI_ne, mI_ne2, mI_ne3, mI_ne4, ne0, kl_0, kl_1, kl_2, kl_3, kl_4, kl_5, kl_6, kl_7, kl_8, kl_9, kl_10, kl_11, kl_12, kl_13, kl_14, kl_15, kl_16, kl_17, kl_18, kl_19, kl_20, kl_21, kl_22, kl_23, kl_32, kl_40, kl_48, kl_50, kl_53, kl_56, kl_57, kl_60, kl_61, kl_66, kl_97, kl_99, kl_100, kl_120, kl_122, kl_160, kl_200, kl_255, kl_300, kl_500, kl_600, kl_601, kl_999, kl_1000, kl_2048, kl_9999, and_self, and_true, true_and, and_false, false_and, not_false_eq_true, not_true_eq_false]
                  · have x8 := p8.2 a8
                    refine ⟨fun h => absurd h.2.2.2.2.2.2.2.2 a8, fun _ => ?_⟩
                    simp (disch := omega) only [h27, h23, h24, h22, x1, x2, x3, x4, x5, x6, x7, x8, Nat.add_sub_cancel, nm_s, bd1_s, bd2_s, bd3_s, gd_n, gd_ne, nI_clamp, nI_leI, nI_ltI, nI_eq, nI_add, pk_mul, pk_sub, up_r, upL_r, jrem_n, jmax_n, if_true, if_false, if_pos, if_neg, gd_i, Nat.zero_add, Nat.add_zero, Nat.mul_zero, nI_nn, nI_nn2, mI_le, mI_ne, mI_ne2, mI_ne3, mI_ne4, ne0, kl_0, kl_1, kl_2, kl_3, kl_4, kl_5, kl_6, kl_7, kl_8, kl_9, kl_10, kl_11, kl_12, kl_13, kl_14, kl_15, kl_16, kl_17, kl_18, kl_19, kl_20, kl_21, kl_22, kl_23, kl_32, kl_40, kl_48, kl_50, kl_53, kl_56, kl_57, kl_60, kl_61, kl_66, kl_97, kl_99, kl_100, kl_120, kl_122, kl_160, kl_200, kl_255, kl_300, kl_500, kl_600, kl_601, kl_999, kl_1000, kl_2048, kl_9999, and_self, and_true, true_and, and_false, false_and, not_false_eq_true, not_true_eq_false]
                · have x7 := p7.2 a7
                  refine ⟨fun h => absurd h.2.2.2.2.2.2.2.1 a7, fun _ => ?_⟩
                  simp (disch := omega) only [h27, h23, h24, h22, x1, x2, x3, x4, x5, x6, x7, Nat.add_sub_cancel, nm_s, bd1_s, bd2_s, bd3_s, gd_n, gd_ne, nI_clamp, nI_leI, nI_ltI, nI_eq, nI_add, pk_mul, pk_sub, up_r, upL_r, jrem_n, jmax_n, if_true, if_false, if_pos, if_neg, gd_i, Nat.zero_add, Nat.add_zero, Nat.mul_zero, nI_nn, nI_nn2, mI_le, mI_ne, mI_ne2, mI_ne3, mI_ne4, ne0, kl_0, kl_1, kl_2, kl_3, kl_4, kl_5, kl_6, kl_7, kl_8, kl_9, kl_10, kl_11, kl_12, kl_13, kl_14, kl_15, kl_16, kl_17, kl_18, kl_19, kl_20, kl_21, kl_22, kl_23, kl_32, kl_40, kl_48, kl_50, kl_53, kl_56, kl_57, kl_60, kl_61, kl_66, kl_97, kl_99, kl_100, kl_120, kl_122, kl_160, kl_200, kl_255, kl_300, kl_500, kl_600, kl_601, kl_999, kl_1000, kl_2048, kl_9999, and_self, and_true, true_and, and_false, false_and, not_false_eq_true, not_true_eq_false]
              · have x6 := p6.2 a6
                refine ⟨fun h => absurd h.2.2.2.2.2.2.1 a6, fun _ => ?_⟩
                simp (disch := omega) only [h27, h23, h24, h22, x1, x2, x3, x4, x5, x6, Nat.add_sub_cancel, nm_s, bd1_s, bd2_s, bd3_s, gd_n, gd_ne, nI_clamp, nI_leI, nI_ltI, nI_eq, nI_add, pk_mul, pk_sub, up_r, upL_r, jrem_n, jmax_n, if_true, if_false, if_pos, if_neg, gd_i, Nat.zero_add, Nat.add_zero, Nat.mul_zero, nI_nn, nI_nn2, mI_le, mI_ne, mI_ne2, mI_ne3, mI_ne4, ne0, kl_0, kl_1, kl_2, kl_3, kl_4, kl_5, kl_6, kl_7, kl_8, kl_9, kl_10, kl_11, kl_12, kl_13, kl_14, kl_15, kl_16, kl_17, kl_18, kl_19, kl_20, kl_21, kl_22, kl_23, kl_32, kl_40, kl_48, kl_50, kl_53, kl_56, kl_57, kl_60, kl_61, kl_66, kl_97, kl_99, kl_100, kl_120, kl_122, kl_160, kl_200, kl_255, kl_300, kl_500, kl_600, kl_601, kl_999, kl_1000, kl_2048, kl_9999, and_self, and_true, true_and, and_false, false_and, not_false_eq_true, not_true_eq_false]
            · have x5 := p5.2 a5
              refine ⟨fun h => absurd h.2.2.2.2.2.1 a5, fun _ => ?_⟩
              simp (disch := omega) only [h27, h23, h24, h22, x1, x2, x3, x4, x5, Nat.add_sub_cancel, nm_s, bd1_s, bd2_s, bd3_s, gd_n, gd_ne, nI_clamp, nI_leI, nI_ltI, nI_eq, nI_add, pk_mul, pk_sub, up_r, upL_r, jrem_n, jmax_n, if_true, if_false, if_pos, if_neg, gd_i, Nat.zero_add, Nat.add_zero, Nat.mul_zero, nI_nn, nI_nn2, mI_le, mI_ne, mI_ne2, mI_ne3, mI_ne4, ne0, kl_0, kl_1, kl_2, kl_3, kl_4, kl_5, kl_6, kl_7, kl_8, kl_9, kl_10, kl_11, kl_12, kl_13, kl_14, kl_15, kl_16, kl_17, kl_18, kl_19, kl_20, kl_21, kl_22, kl_23, kl_32, kl_40, kl_48, kl_50, kl_53, kl_56, kl_57, kl_60, kl_61, kl_66, kl_97, kl_99, kl_100, kl_120, kl_122, kl_160, kl_200, kl_255, kl_300, kl_500, kl_600, kl_601, kl_999, kl_1000, kl_2048, kl_9999, and_self, and_true, true_and, and_false, false_and, not_false_eq_true, not_true_eq_false]
          · have x4 := p4.2 a4
            refine ⟨fun h => absurd h.2.2.2.2.1 a4, fun _ => ?_⟩
            simp (disch := omega) only [h27, h23, h24, h22, x1, x2, x3, x4, Nat.add_sub_cancel, nm_s, bd1_s, bd2_s, bd3_s, gd_n, gd_ne, nI_clamp, nI_leI, nI_ltI, nI_eq, nI_add, pk_mul, pk_sub, up_r, upL_r, jrem_n, jmax_n, if_true, if_false, if_pos, if_neg, gd_i, Nat.zero_add, Nat.add_zero, Nat.mul_zero, nI_nn, nI_nn2, mI_le, mI_ne, mI_ne2, mI_ne3, mI_ne4, ne0, kl_0, kl_1, kl_2, kl_3, kl_4, kl_5, kl_6, kl_7, kl_8, kl_9, kl_10, kl_11, kl_12, kl_13, kl_14, kl_15, kl_16, kl_17, kl_18, kl_19, kl_20, kl_21, kl_22, kl_23, kl_32, kl_40, kl_48, kl_50, kl_53, kl_56, kl_57, kl_60, kl_61, kl_66, kl_97, kl_99, kl_100, kl_120, kl_122, kl_160, kl_200, kl_255, kl_300, kl_500, kl_600, kl_601, kl_999, kl_1000, kl_2048, kl_9999, and_self, and_true, true_and, and_false, false_and, not_false_eq_true, not_true_eq_false]
        · have x3 := p3.2 a3
          refine ⟨fun h => absurd h.2.2.2.1 a3, fun _ => ?_⟩
          simp (disch := omega) only [h27, h23, h24, h22, x1, x2, x3, Nat.add_sub_cancel, nm_s, bd1_s, bd2_s, bd3_s, gd_n, gd_ne, nI_clamp, nI_leI, nI_ltI, nI_eq, nI_add, pk_mul, pk_sub, up_r, upL_r, jrem_n, jmax_n, if_true, if_false, if_pos, if_neg, gd_i, Nat.zero_add, Nat.add_zero, Nat.mul_zero, nI_nn, nI_nn2, mI_le, mI_ne, mI_ne2, mI_ne3, mI_ne4, ne0, kl_0, kl_1, kl_2, kl_3, kl_4, kl_5, kl_6, kl_7, kl_8, kl_9, kl_10, kl_11, kl_12, kl_13, kl_14, kl_15, kl_16, kl_17, kl_18, kl_19, kl_20, kl_21, kl_22, kl_23, kl_32, kl_40, kl_48, kl_50, kl_53, kl_56, kl_57, kl_60, kl_61, kl_66, kl_97, kl_99, kl_100, kl_120, kl_122, kl_160, kl_200, kl_255, kl_300, kl_500, kl_600, kl_601, kl_999, kl_1000, kl_2048, kl_9999, and_self, and_true, true_and, and_false, false_and, not_false_eq_true, not_true_eq_false]
      · have x2 := p2.2 a2
        refine ⟨fun h => absurd h.2.2.1 a2, fun _ => ?_⟩
        simp (disch := omega) only [h27, h23, h24, h22, x1, x2, Nat.add_sub_cancel, nm_s, bd1_s, bd2_s, bd3_s, gd_n, gd_ne, nI_clamp, nI_leI, nI_ltI, nI_eq, nI_add, pk_mul, pk_sub, up_r, upL_r, jrem_n, jmax_n, if_true, if_false, if_pos, if_neg, gd_i, Nat.zero_add, Nat.add_zero, Nat.mul_zero, nI_nn, nI_nn2, mI_le, mI_ne, mI_ne2, mI_ne3, mI_ne4, ne0, kl_0, kl_1, kl_2, kl_3, kl_4, kl_5, kl_6, kl_7, kl_8, kl_9, kl_10, kl_11, kl_12, kl_13, kl_14, kl_15, kl_16, kl_17, kl_18, kl_19, kl_20, kl_21, kl_22, kl_23, kl_32, kl_40, kl_48, kl_50, kl_53, kl_56, kl_57, kl_60, kl_61, kl_66, kl_97, kl_99, kl_100, kl_120, kl_122, kl_160, kl_200, kl_255, kl_300, kl_500, kl_600, kl_601, kl_999, kl_1000, kl_2048, kl_9999, and_self, and_true, true_and, and_false, false_and, not_false_eq_true, not_true_eq_false]
    · have x1 := p1.2 a1
      refine ⟨fun h => absurd h.2.1 a1, fun _ => ?_⟩
      simp (disch := omega) only [h27, h23, h24, h22, x1, Nat.add_sub_cancel, nm_s, bd1_s, bd2_s, bd3_s, gd_n, gd_ne, nI_clamp, nI_leI, nI_ltI, nI_eq, nI_add, pk_mul, pk_sub, up_r, upL_r, jrem_n, jmax_n, if_true, if_false, if_pos, if_neg, gd_i, Nat.zero_add, Nat.add_zero, Nat.mul_zero, nI_nn, nI_nn2, mI_le, mI_ne, mI_ne2, mI_ne3, mI_ne4, ne0, kl_0, kl_1, kl_2, kl_3, kl_4, kl_5, kl_6, kl_7, kl_8, kl_9, kl_10, kl_11, kl_12, kl_13, kl_14, kl_15, kl_16, kl_17, kl_18, kl_19, kl_20, kl_21, kl_22, kl_23, kl_32, kl_40, kl_48, kl_50, kl_53, kl_56, kl_57, kl_60, kl_61, kl_66, kl_97, kl_99, kl_100, kl_120, kl_122, kl_160, kl_200, kl_255, kl_300, kl_500, kl_600, kl_601, kl_999, kl_1000, kl_2048, kl_9999, and_self, and_true, true_and, and_false, false_and, not_false_eq_true, not_true_eq_false]
  · refine ⟨fun h => absurd h.1 h0, fun _ => ?_⟩
    simp (disch := omega) only [h27, h23, h24, h22, Nat.add_sub_cancel, nm_s, bd1_s, bd2_s, bd3_s, gd_n, gd_ne, nI_clamp, nI_leI, nI_ltI, nI_eq, nI_add, pk_mul, pk_sub, up_r, upL_r, jrem_n, jmax_n, if_true, if_false, if_pos, if_neg, gd_i, Nat.zero_add, Nat.add_zero, Nat.mul_zero, nI_nn, nI_nn2, mI_le, mI_ne, mI_ne2, mI_ne3, mI_ne4, ne0, kl_0, kl_1, kl_2, kl_3, kl_4, kl_5, kl_6, kl_7, kl_8, kl_9, kl_10, kl_11, kl_12, kl_13, kl_14, kl_15, kl_16, kl_17, kl_18, kl_19, kl_20, kl_21, kl_22, kl_23, kl_32, kl_40, kl_48, kl_50, kl_53, kl_56, kl_57, kl_60, kl_61, kl_66, kl_97, kl_99, kl_100, kl_120, kl_122, kl_160, kl_200, kl_255, kl_300, kl_500, kl_600, kl_601, kl_999, kl_1000, kl_2048, kl_9999, and_self, and_true, true_and, and_false, false_and, not_false_eq_true, not_true_eq_false]
def pad (k i : Nat) : Nat := (wl k).getD i 0
theorem pad_all : ∀ k, k < 12 → ∀ i, i < 8 → pad k i ≤ 255 ∧ (i < (wl k).length → 97 ≤ pad k i) ∧ ((wl k).length ≤ i → pad k i = 0) := by decide
theorem word_iff {B : Nat → Nat} {q e k : Nat} (hk : k < 12) (hqe : q < e) (hP : ∀ j, q ≤ j → j < e → isL (B j)) : (e ≤ q + 8 ∧ LTP B q e 0 (pad k 0) ∧ LTP B q e 1 (pad k 1) ∧ LTP B q e 2 (pad k 2) ∧ LTP B q e 3 (pad k 3) ∧ LTP B q e 4 (pad k 4) ∧ LTP B q e 5 (pad k 5) ∧ LTP B q e 6 (pad k 6) ∧ LTP B q e 7 (pad k 7)) ↔ EQL B q e (wl k) := by
  obtain ⟨-, w2, w3, -⟩ := wl_len k hk
  constructor
  · rintro ⟨h8, a0, a1, a2, a3, a4, a5, a6, a7⟩
    have all : ∀ i, i < 8 → LTP B q e i (pad k i) := by
      intro i hi
      have : i = 0 ∨ i = 1 ∨ i = 2 ∨ i = 3 ∨ i = 4 ∨ i = 5 ∨ i = 6 ∨ i = 7 := by omega
      rcases this with rfl | rfl | rfl | rfl | rfl | rfl | rfl | rfl <;> assumption
    have hin : ∀ i, i < (wl k).length → q + i < e ∧ B (q + i) = pad k i := by
      intro i hi
      have p := (pad_all k hk i (by omega)).2.1 hi
      rcases all i (by omega) with ⟨h1, h2⟩ | h
      · omega
      · exact h
    have hlast := (hin ((wl k).length - 1) (by omega)).1
    have hL := all (wl k).length (by omega)
    have p0 := (pad_all k hk (wl k).length (by omega)).2.2 (Nat.le_refl _)
    refine ⟨?_, fun i hi => (getD_some hi).mpr (hin i hi).2.symm⟩
    rcases hL with ⟨h1, -⟩ | ⟨h1, h2⟩
    · omega
    · have := hP (q + (wl k).length) (by omega) h1
      unfold isL at this
      omega
  · rintro ⟨h1, h2⟩
    have all : ∀ i, i < 8 → LTP B q e i (pad k i) := by
      intro i hi
      by_cases hl : i < (wl k).length
      · exact Or.inr ⟨by omega, ((getD_some hl).mp (h2 i hl)).symm⟩
      · exact Or.inl ⟨by omega, (pad_all k hk i hi).2.2 (by omega)⟩
    exact ⟨by omega, all 0 (by omega), all 1 (by omega), all 2 (by omega), all 3 (by omega), all 4 (by omega), all 5 (by omega), all 6 (by omega), all 7 (by omega)⟩
theorem isWord_all {T s q t e v : Nat} {B : Nat → Nat} {μ : Mem} {ν : Lem} (hY : BY s B) (hM : MB T s B μ) (hL : ML B s q t e v μ ν) (h27 : μ 0 27 = nI 0) {k : Nat} (hk : k < 12) : f6_isWord μ ν (nI (pad k 0)) (nI (pad k 1)) (nI (pad k 2)) (nI (pad k 3)) (nI (pad k 4)) (nI (pad k 5)) (nI (pad k 6)) (nI (pad k 7)) = some (if t = k then nI 1 else nI 0) := by
  have hs := hY.1
  obtain ⟨h24, hK⟩ := hL
  have no : ∀ j : Nat, j < 9 → j ≠ 1 → μ 0 23 = nI j → ¬ t = k → f6_isWord μ ν (nI (pad k 0)) (nI (pad k 1)) (nI (pad k 2)) (nI (pad k 3)) (nI (pad k 4)) (nI (pad k 5)) (nI (pad k 6)) (nI (pad k 7)) = some (if t = k then nI 1 else nI 0) := by
    intro j hj h1 h2 h3
    unfold f6_isWord
    rw [if_pos (by rw [h27]; rfl), if_neg (by rw [h2, kl_1, nI_eq (by omega) (by decide)]; exact h1), if_neg h3]
    rfl
  rcases hK with ⟨h1, h2, -⟩ | ⟨h1, h2, -⟩ | ⟨h1, h1', h2, -⟩ | ⟨h1, h2, h3, h4, h5, h6⟩ | ⟨h1, h2⟩
  · exact no 0 (by omega) (by omega) h2 (by omega)
  · exact no 2 (by omega) (by omega) h2 (by omega)
  · exact no 3 (by omega) (by omega) h2 (by omega)
  · have g := fun i (hi : i < 8) => ltp (c := pad k i) ν hY hM h4 h3 h5 h24 h2 hi (pad_all k hk i hi).1
    have w := isWord_gen (μ := μ) (ν := ν) (q := q) (e := e) (by omega) (by omega) h27 h1 h24 h2 (g 0 (by omega)) (g 1 (by omega)) (g 2 (by omega)) (g 3 (by omega)) (g 4 (by omega)) (g 5 (by omega)) (g 6 (by omega)) (g 7 (by omega))
    rw [word_iff hk h3 h5] at w
    by_cases htk : t = k
    · rw [if_pos htk]
      apply w.1
      rcases h6 with ⟨-, h6⟩ | ⟨h6, -⟩
      · rw [← htk]; exact h6
      · omega
    · rw [if_neg htk]
      apply w.2
      intro hE
      rcases h6 with ⟨a, h6⟩ | ⟨-, h6⟩
      · exact htk (wl_inj t a k hk (h6.inj hE))
      · exact h6 k hk hE
  · exact no 4 (by omega) (by omega) h2 (by omega)
theorem isWord_bad {μ : Mem} {ν : Lem} (h27 : μ 0 27 = nI 1) (c1 c2 c3 c4 c5 c6 c7 c8 : Int32) : f6_isWord μ ν c1 c2 c3 c4 c5 c6 c7 c8 = some (nI 0) := by
  unfold f6_isWord
  rw [if_neg (by rw [h27]; decide)]
  rfl
theorem w_minute {T s q t e v : Nat} {B : Nat → Nat} {μ : Mem} {ν : Lem} (hY : BY s B) (hM : MB T s B μ) (hL : ML B s q t e v μ ν) (h27 : μ 0 27 = nI 0) : f6_isWord μ ν 109 105 110 117 116 101 0 0 = some (if t = 0 then nI 1 else nI 0) := isWord_all hY hM hL h27 (k := 0) (by decide)
theorem w_place {T s q t e v : Nat} {B : Nat → Nat} {μ : Mem} {ν : Lem} (hY : BY s B) (hM : MB T s B μ) (hL : ML B s q t e v μ ν) (h27 : μ 0 27 = nI 0) : f6_isWord μ ν 112 108 97 99 101 0 0 0 = some (if t = 1 then nI 1 else nI 0) := isWord_all hY hM hL h27 (k := 1) (by decide)
theorem w_way {T s q t e v : Nat} {B : Nat → Nat} {μ : Mem} {ν : Lem} (hY : BY s B) (hM : MB T s B μ) (hL : ML B s q t e v μ ν) (h27 : μ 0 27 = nI 0) : f6_isWord μ ν 119 97 121 0 0 0 0 0 = some (if t = 2 then nI 1 else nI 0) := isWord_all hY hM hL h27 (k := 2) (by decide)
theorem w_pace {T s q t e v : Nat} {B : Nat → Nat} {μ : Mem} {ν : Lem} (hY : BY s B) (hM : MB T s B μ) (hL : ML B s q t e v μ ν) (h27 : μ 0 27 = nI 0) : f6_isWord μ ν 112 97 99 101 0 0 0 0 = some (if t = 3 then nI 1 else nI 0) := isWord_all hY hM hL h27 (k := 3) (by decide)
theorem w_far {T s q t e v : Nat} {B : Nat → Nat} {μ : Mem} {ν : Lem} (hY : BY s B) (hM : MB T s B μ) (hL : ML B s q t e v μ ν) (h27 : μ 0 27 = nI 0) : f6_isWord μ ν 102 97 114 0 0 0 0 0 = some (if t = 4 then nI 1 else nI 0) := isWord_all hY hM hL h27 (k := 4) (by decide)
theorem w_points {T s q t e v : Nat} {B : Nat → Nat} {μ : Mem} {ν : Lem} (hY : BY s B) (hM : MB T s B μ) (hL : ML B s q t e v μ ν) (h27 : μ 0 27 = nI 0) : f6_isWord μ ν 112 111 105 110 116 115 0 0 = some (if t = 5 then nI 1 else nI 0) := isWord_all hY hM hL h27 (k := 5) (by decide)
theorem w_near {T s q t e v : Nat} {B : Nat → Nat} {μ : Mem} {ν : Lem} (hY : BY s B) (hM : MB T s B μ) (hL : ML B s q t e v μ ν) (h27 : μ 0 27 = nI 0) : f6_isWord μ ν 110 101 97 114 0 0 0 0 = some (if t = 6 then nI 1 else nI 0) := isWord_all hY hM hL h27 (k := 6) (by decide)
theorem w_off {T s q t e v : Nat} {B : Nat → Nat} {μ : Mem} {ν : Lem} (hY : BY s B) (hM : MB T s B μ) (hL : ML B s q t e v μ ν) (h27 : μ 0 27 = nI 0) : f6_isWord μ ν 111 102 102 0 0 0 0 0 = some (if t = 7 then nI 1 else nI 0) := isWord_all hY hM hL h27 (k := 7) (by decide)
theorem w_worth {T s q t e v : Nat} {B : Nat → Nat} {μ : Mem} {ν : Lem} (hY : BY s B) (hM : MB T s B μ) (hL : ML B s q t e v μ ν) (h27 : μ 0 27 = nI 0) : f6_isWord μ ν 119 111 114 116 104 0 0 0 = some (if t = 8 then nI 1 else nI 0) := isWord_all hY hM hL h27 (k := 8) (by decide)
theorem w_or {T s q t e v : Nat} {B : Nat → Nat} {μ : Mem} {ν : Lem} (hY : BY s B) (hM : MB T s B μ) (hL : ML B s q t e v μ ν) (h27 : μ 0 27 = nI 0) : f6_isWord μ ν 111 114 0 0 0 0 0 0 = some (if t = 9 then nI 1 else nI 0) := isWord_all hY hM hL h27 (k := 9) (by decide)
theorem w_and {T s q t e v : Nat} {B : Nat → Nat} {μ : Mem} {ν : Lem} (hY : BY s B) (hM : MB T s B μ) (hL : ML B s q t e v μ ν) (h27 : μ 0 27 = nI 0) : f6_isWord μ ν 97 110 100 0 0 0 0 0 = some (if t = 10 then nI 1 else nI 0) := isWord_all hY hM hL h27 (k := 10) (by decide)
theorem w_not {T s q t e v : Nat} {B : Nat → Nat} {μ : Mem} {ν : Lem} (hY : BY s B) (hM : MB T s B μ) (hL : ML B s q t e v μ ν) (h27 : μ 0 27 = nI 0) : f6_isWord μ ν 110 111 116 0 0 0 0 0 = some (if t = 11 then nI 1 else nI 0) := isWord_all hY hM hL h27 (k := 11) (by decide)
theorem isSign_all {s q t e v : Nat} {B : Nat → Nat} {μ : Mem} {ν : Lem} (hL : ML B s q t e v μ ν) (h27 : μ 0 27 = nI 0) {j : Nat} (h12 : 12 ≤ j) (h19 : j ≤ 19) : f6_isSign μ ν (nI (sg j)) = if t = j then nI 1 else nI 0 := by
  obtain ⟨h24, hK⟩ := hL
  have no : ∀ i : Nat, i < 9 → i ≠ 3 → μ 0 23 = nI i → ¬ t = j → f6_isSign μ ν (nI (sg j)) = if t = j then nI 1 else nI 0 := by
    intro i hi h1 h2 h3
    unfold f6_isSign
    rw [if_pos (by rw [h27]; rfl), if_neg (by rw [h2, kl_3, nI_eq (by omega) (by decide)]; exact h1), if_neg h3]
    rfl
  rcases hK with ⟨h1, h2, -⟩ | ⟨h1, h2, -⟩ | ⟨h1, h1', h2, -, h3⟩ | ⟨h1, h2, h3, h4, h5, h6⟩ | ⟨h1, h2⟩
  · exact no 0 (by omega) (by omega) h2 (by omega)
  · exact no 2 (by omega) (by omega) h2 (by omega)
  · unfold f6_isSign
    rw [if_pos (by rw [h27]; rfl), if_pos (by rw [h2]; rfl), h3]
    have inj : ∀ a, a < 20 → 12 ≤ a → ∀ b, b < 20 → 12 ≤ b → sg a = sg b → a = b := by decide
    have le : ∀ a, a < 20 → sg a ≤ 61 := by decide
    by_cases htj : t = j
    · rw [if_pos htj, htj, if_pos ((lg_eq _ _).mpr rfl)]
      rfl
    · rw [if_neg htj, if_neg]
      · rfl
      · intro h
        have := (lg_eq _ _).mp h
        rw [fa_wide_eq, nI_eq (by have := le t (by omega); omega) (by have := le j (by omega); omega)] at this
        exact htj (inj t (by omega) h1 j (by omega) h12 this)
  · refine no 1 (by omega) (by omega) h1 ?_
    rcases h6 with ⟨a, -⟩ | ⟨a, -⟩ <;> omega
  · exact no 4 (by omega) (by omega) h2 (by omega)
theorem isSign_bad {μ : Mem} {ν : Lem} (h27 : μ 0 27 = nI 1) (c : Int32) : f6_isSign μ ν c = nI 0 := by
  unfold f6_isSign
  rw [if_neg (by rw [h27]; decide)]
  rfl
theorem g_40 {s q t e v : Nat} {B : Nat → Nat} {μ : Mem} {ν : Lem} (hL : ML B s q t e v μ ν) (h27 : μ 0 27 = nI 0) : f6_isSign μ ν 40 = if t = 12 then nI 1 else nI 0 := isSign_all hL h27 (j := 12) (by decide) (by decide)
theorem g_41 {s q t e v : Nat} {B : Nat → Nat} {μ : Mem} {ν : Lem} (hL : ML B s q t e v μ ν) (h27 : μ 0 27 = nI 0) : f6_isSign μ ν 41 = if t = 13 then nI 1 else nI 0 := isSign_all hL h27 (j := 13) (by decide) (by decide)
theorem g_59 {s q t e v : Nat} {B : Nat → Nat} {μ : Mem} {ν : Lem} (hL : ML B s q t e v μ ν) (h27 : μ 0 27 = nI 0) : f6_isSign μ ν 59 = if t = 14 then nI 1 else nI 0 := isSign_all hL h27 (j := 14) (by decide) (by decide)
theorem g_43 {s q t e v : Nat} {B : Nat → Nat} {μ : Mem} {ν : Lem} (hL : ML B s q t e v μ ν) (h27 : μ 0 27 = nI 0) : f6_isSign μ ν 43 = if t = 15 then nI 1 else nI 0 := isSign_all hL h27 (j := 15) (by decide) (by decide)
theorem g_45 {s q t e v : Nat} {B : Nat → Nat} {μ : Mem} {ν : Lem} (hL : ML B s q t e v μ ν) (h27 : μ 0 27 = nI 0) : f6_isSign μ ν 45 = if t = 16 then nI 1 else nI 0 := isSign_all hL h27 (j := 16) (by decide) (by decide)
theorem g_42 {s q t e v : Nat} {B : Nat → Nat} {μ : Mem} {ν : Lem} (hL : ML B s q t e v μ ν) (h27 : μ 0 27 = nI 0) : f6_isSign μ ν 42 = if t = 17 then nI 1 else nI 0 := isSign_all hL h27 (j := 17) (by decide) (by decide)
theorem g_60 {s q t e v : Nat} {B : Nat → Nat} {μ : Mem} {ν : Lem} (hL : ML B s q t e v μ ν) (h27 : μ 0 27 = nI 0) : f6_isSign μ ν 60 = if t = 18 then nI 1 else nI 0 := isSign_all hL h27 (j := 18) (by decide) (by decide)
theorem g_61 {s q t e v : Nat} {B : Nat → Nat} {μ : Mem} {ν : Lem} (hL : ML B s q t e v μ ν) (h27 : μ 0 27 = nI 0) : f6_isSign μ ν 61 = if t = 19 then nI 1 else nI 0 := isSign_all hL h27 (j := 19) (by decide) (by decide)
