/-! leaves of the grammar -/
def OUT (s : Nat) (B : Nat → Nat) (o : Nat) (CF : Mem → Option Mem) (F : Mem → Lem → Option (Int32 × Mem × Lem)) (q t e v : Nat) : Prop :=
  (∃ f, f ≤ 160 ∧ (∀ (T : Nat) (cs : List Int32) (μ : Mem), GC T s B q t e v cs μ → ∃ μ', CF μ = some μ' ∧ BC T f μ' ∧ fT T μ μ') ∧ ∀ (T : Nat) (μ : Mem) (ν : Lem), GM T s B q t e v o μ ν → ∃ x μ' ν', F μ ν = some (x, μ', ν') ∧ BM f μ' ∧ fR μ μ') ∨
  (∃ q' t' e' v' c, TK s q' t' e' v' ∧ q + c.length ≤ q' ∧ q < q' ∧ (∀ (T : Nat) (cs : List Int32) (μ : Mem), GC T s B q t e v cs μ → ∃ μ', CF μ = some μ' ∧ GC T s B q' t' e' v' (cs ++ c) μ' ∧ fT T μ μ') ∧ ∀ (T : Nat) (μ : Mem) (ν : Lem), GM T s B q t e v o μ ν → ∃ x μ' ν', F μ ν = some (x, μ', ν') ∧ GM T s B q' t' e' v' o μ' ν' ∧ fR μ μ' ∧ VAL (env6 μ) c x)
theorem SIM.mk {s o : Nat} {B : Nat → Nat} {CF : Mem → Option Mem} {F : Mem → Lem → Option (Int32 × Mem × Lem)} (h : ∀ q t e v, TK s q t e v → OUT s B o CF F q t e v) : SIM s B o CF F := h
theorem SIM.at {s o : Nat} {B : Nat → Nat} {CF : Mem → Option Mem} {F : Mem → Lem → Option (Int32 × Mem × Lem)} (h : SIM s B o CF F) {q t e v : Nat} (hT : TK s q t e v) : OUT s B o CF F q t e v := h q t e v hT
theorem OUT.to {s o q t e v : Nat} {B : Nat → Nat} {CF CF' : Mem → Option Mem} {F F' : Mem → Lem → Option (Int32 × Mem × Lem)} (h : OUT s B o CF F q t e v) (h1 : ∀ T cs μ, GC T s B q t e v cs μ → CF' μ = CF μ) (h2 : ∀ T μ ν, GM T s B q t e v o μ ν → F' μ ν = F μ ν) : OUT s B o CF' F' q t e v := by
  rcases h with ⟨f, f1, f2, f3⟩ | ⟨q', t', e', v', c, g1, g2, g3, g4, g5⟩
  · left
    refine ⟨f, f1, fun T cs μ hG => ?_, fun T μ ν hG => ?_⟩
    · rw [h1 T cs μ hG]; exact f2 T cs μ hG
    · rw [h2 T μ ν hG]; exact f3 T μ ν hG
  · right
    refine ⟨q', t', e', v', c, g1, g2, g3, fun T cs μ hG => ?_, fun T μ ν hG => ?_⟩
    · rw [h1 T cs μ hG]; exact g4 T cs μ hG
    · rw [h2 T μ ν hG]; exact g5 T μ ν hG
theorem one_leaf {P : Mem → Int32 → Int32 → Option Mem} {μ : Mem} {t o : Nat} (hG : μ 3 4 = nI t) (ht : t = 20 ∨ t < 6) (ho : o ≤ 5) : f2_one P μ (nI o) = bd1 (f2_advance μ) (fun μ68 => bd1 (f2_emit μ68 (if t = 20 then μ 3 5 else nI t ^^^ (-1))) (fun μ81 => some μ81)) := by
  unfold f2_one f2_one_2 f2_one_3 f2_one_4 f2_one_5
  rcases ht with rfl | ht
  · simp (disch := omega) only [hG, Nat.add_sub_cancel, nm_s, bd1_s, bd2_s, bd3_s, gd_n, gd_ne, nI_clamp, nI_leI, nI_ltI, nI_eq, nI_add, pk_mul, pk_sub, up_r, upL_r, jrem_n, jmax_n, if_true, if_false, if_pos, if_neg, gd_i, Nat.zero_add, Nat.add_zero, Nat.mul_zero, nI_nn, nI_nn2, mI_le, mI_ne, mI_ne2, mI_ne3, mI_ne4, ne0, kl_0, kl_1, kl_2, kl_3, kl_4, kl_5, kl_6, kl_7, kl_8, kl_9, kl_10, kl_11, kl_12, kl_13, kl_14, kl_15, kl_16, kl_17, kl_18, kl_19, kl_20, kl_21, kl_22, kl_23, kl_32, kl_40, kl_48, kl_50, kl_53, kl_56, kl_57, kl_60, kl_61, kl_66, kl_97, kl_99, kl_100, kl_120, kl_122, kl_160, kl_200, kl_255, kl_300, kl_500, kl_600, kl_601, kl_999, kl_1000, kl_2048, kl_9999, and_self, and_true, true_and, and_false, false_and, not_false_eq_true, not_true_eq_false]
    all_goals (first | rfl | (congr; funext μ68; congr))
  · simp (disch := omega) only [hG, Nat.add_sub_cancel, nm_s, bd1_s, bd2_s, bd3_s, gd_n, gd_ne, nI_clamp, nI_leI, nI_ltI, nI_eq, nI_add, pk_mul, pk_sub, up_r, upL_r, jrem_n, jmax_n, if_true, if_false, if_pos, if_neg, gd_i, Nat.zero_add, Nat.add_zero, Nat.mul_zero, nI_nn, nI_nn2, mI_le, mI_ne, mI_ne2, mI_ne3, mI_ne4, ne0, kl_0, kl_1, kl_2, kl_3, kl_4, kl_5, kl_6, kl_7, kl_8, kl_9, kl_10, kl_11, kl_12, kl_13, kl_14, kl_15, kl_16, kl_17, kl_18, kl_19, kl_20, kl_21, kl_22, kl_23, kl_32, kl_40, kl_48, kl_50, kl_53, kl_56, kl_57, kl_60, kl_61, kl_66, kl_97, kl_99, kl_100, kl_120, kl_122, kl_160, kl_200, kl_255, kl_300, kl_500, kl_600, kl_601, kl_999, kl_1000, kl_2048, kl_9999, and_self, and_true, true_and, and_false, false_and, not_false_eq_true, not_true_eq_false]
    all_goals (first | rfl | (congr; funext μ68; congr))
theorem one_fail {P : Mem → Int32 → Int32 → Option Mem} {μ : Mem} {t o : Nat} (hG : μ 3 4 = nI t) (ht : t ≠ 20) (ht6 : 6 ≤ t) (ht22 : t ≤ 22) (ho : o ≤ 5) (h5 : t = 12 ∨ t = 16 → o = 5) : f2_one P μ (nI o) = some (f2_refuse μ) := by
  unfold f2_one
  by_cases h16 : t = 16
  · subst h16
    have : o = 5 := h5 (by omega)
    subst this
    unfold f2_one_1 f2_one_2 f2_one_3
    simp (disch := omega) only [hG, Nat.add_sub_cancel, nm_s, bd1_s, bd2_s, bd3_s, gd_n, gd_ne, nI_clamp, nI_leI, nI_ltI, nI_eq, nI_add, pk_mul, pk_sub, up_r, upL_r, jrem_n, jmax_n, if_true, if_false, if_pos, if_neg, gd_i, Nat.zero_add, Nat.add_zero, Nat.mul_zero, nI_nn, nI_nn2, mI_le, mI_ne, mI_ne2, mI_ne3, mI_ne4, ne0, kl_0, kl_1, kl_2, kl_3, kl_4, kl_5, kl_6, kl_7, kl_8, kl_9, kl_10, kl_11, kl_12, kl_13, kl_14, kl_15, kl_16, kl_17, kl_18, kl_19, kl_20, kl_21, kl_22, kl_23, kl_32, kl_40, kl_48, kl_50, kl_53, kl_56, kl_57, kl_60, kl_61, kl_66, kl_97, kl_99, kl_100, kl_120, kl_122, kl_160, kl_200, kl_255, kl_300, kl_500, kl_600, kl_601, kl_999, kl_1000, kl_2048, kl_9999, and_self, and_true, true_and, and_false, false_and, not_false_eq_true, not_true_eq_false]
  · by_cases h12 : t = 12
    · subst h12
      have : o = 5 := h5 (by omega)
      subst this
      unfold f2_one_1 f2_one_2 f2_one_3
      simp (disch := omega) only [hG, Nat.add_sub_cancel, nm_s, bd1_s, bd2_s, bd3_s, gd_n, gd_ne, nI_clamp, nI_leI, nI_ltI, nI_eq, nI_add, pk_mul, pk_sub, up_r, upL_r, jrem_n, jmax_n, if_true, if_false, if_pos, if_neg, gd_i, Nat.zero_add, Nat.add_zero, Nat.mul_zero, nI_nn, nI_nn2, mI_le, mI_ne, mI_ne2, mI_ne3, mI_ne4, ne0, kl_0, kl_1, kl_2, kl_3, kl_4, kl_5, kl_6, kl_7, kl_8, kl_9, kl_10, kl_11, kl_12, kl_13, kl_14, kl_15, kl_16, kl_17, kl_18, kl_19, kl_20, kl_21, kl_22, kl_23, kl_32, kl_40, kl_48, kl_50, kl_53, kl_56, kl_57, kl_60, kl_61, kl_66, kl_97, kl_99, kl_100, kl_120, kl_122, kl_160, kl_200, kl_255, kl_300, kl_500, kl_600, kl_601, kl_999, kl_1000, kl_2048, kl_9999, and_self, and_true, true_and, and_false, false_and, not_false_eq_true, not_true_eq_false]
    · unfold f2_one_2 f2_one_3
      simp (disch := omega) only [hG, Nat.add_sub_cancel, nm_s, bd1_s, bd2_s, bd3_s, gd_n, gd_ne, nI_clamp, nI_leI, nI_ltI, nI_eq, nI_add, pk_mul, pk_sub, up_r, upL_r, jrem_n, jmax_n, if_true, if_false, if_pos, if_neg, gd_i, Nat.zero_add, Nat.add_zero, Nat.mul_zero, nI_nn, nI_nn2, mI_le, mI_ne, mI_ne2, mI_ne3, mI_ne4, ne0, kl_0, kl_1, kl_2, kl_3, kl_4, kl_5, kl_6, kl_7, kl_8, kl_9, kl_10, kl_11, kl_12, kl_13, kl_14, kl_15, kl_16, kl_17, kl_18, kl_19, kl_20, kl_21, kl_22, kl_23, kl_32, kl_40, kl_48, kl_50, kl_53, kl_56, kl_57, kl_60, kl_61, kl_66, kl_97, kl_99, kl_100, kl_120, kl_122, kl_160, kl_200, kl_255, kl_300, kl_500, kl_600, kl_601, kl_999, kl_1000, kl_2048, kl_9999, and_self, and_true, true_and, and_false, false_and, not_false_eq_true, not_true_eq_false]
theorem one_minus {P : Mem → Int32 → Int32 → Option Mem} {μ : Mem} {o : Nat} (hG : μ 3 4 = nI 16) (ho : o < 5) : f2_one P μ (nI o) = bd1 (f2_advance μ) (fun μ68 => bd1 (P μ68 (nI 5) (nI (o + 1))) (fun μ98 => bd1 (f2_emit μ98 (-24)) (fun μ107 => some μ107))) := by
  unfold f2_one f2_one_1 f2_one_3 f2_one_4 f2_one_5
  simp (disch := omega) only [hG, Nat.add_sub_cancel, nm_s, bd1_s, bd2_s, bd3_s, gd_n, gd_ne, nI_clamp, nI_leI, nI_ltI, nI_eq, nI_add, pk_mul, pk_sub, up_r, upL_r, jrem_n, jmax_n, if_true, if_false, if_pos, if_neg, gd_i, Nat.zero_add, Nat.add_zero, Nat.mul_zero, nI_nn, nI_nn2, mI_le, mI_ne, mI_ne2, mI_ne3, mI_ne4, ne0, kl_0, kl_1, kl_2, kl_3, kl_4, kl_5, kl_6, kl_7, kl_8, kl_9, kl_10, kl_11, kl_12, kl_13, kl_14, kl_15, kl_16, kl_17, kl_18, kl_19, kl_20, kl_21, kl_22, kl_23, kl_32, kl_40, kl_48, kl_50, kl_53, kl_56, kl_57, kl_60, kl_61, kl_66, kl_97, kl_99, kl_100, kl_120, kl_122, kl_160, kl_200, kl_255, kl_300, kl_500, kl_600, kl_601, kl_999, kl_1000, kl_2048, kl_9999, and_self, and_true, true_and, and_false, false_and, not_false_eq_true, not_true_eq_false]
theorem one_paren {P : Mem → Int32 → Int32 → Option Mem} {μ : Mem} {o : Nat} (hG : μ 3 4 = nI 12) (ho : o < 5) : f2_one P μ (nI o) = bd1 (f2_advance μ) (fun μ68 => bd1 (P μ68 (nI 0) (nI (o + 1))) (fun μ118 => bd1 (f2_expect μ118 (nI 13)) (fun μ124 => some μ124))) := by
  unfold f2_one f2_one_1 f2_one_3 f2_one_4 f2_one_5
  simp (disch := omega) only [hG, Nat.add_sub_cancel, nm_s, bd1_s, bd2_s, bd3_s, gd_n, gd_ne, nI_clamp, nI_leI, nI_ltI, nI_eq, nI_add, pk_mul, pk_sub, up_r, upL_r, jrem_n, jmax_n, if_true, if_false, if_pos, if_neg, gd_i, Nat.zero_add, Nat.add_zero, Nat.mul_zero, nI_nn, nI_nn2, mI_le, mI_ne, mI_ne2, mI_ne3, mI_ne4, ne0, kl_0, kl_1, kl_2, kl_3, kl_4, kl_5, kl_6, kl_7, kl_8, kl_9, kl_10, kl_11, kl_12, kl_13, kl_14, kl_15, kl_16, kl_17, kl_18, kl_19, kl_20, kl_21, kl_22, kl_23, kl_32, kl_40, kl_48, kl_50, kl_53, kl_56, kl_57, kl_60, kl_61, kl_66, kl_97, kl_99, kl_100, kl_120, kl_122, kl_160, kl_200, kl_255, kl_300, kl_500, kl_600, kl_601, kl_999, kl_1000, kl_2048, kl_9999, and_self, and_true, true_and, and_false, false_and, not_false_eq_true, not_true_eq_false]
theorem pr2_s {α γ β : Type} (x : α) (y : γ) (k : α → γ → β) : pr2 (x, y) k = k x y := rfl
theorem ML.num {B : Nat → Nat} {s q e v : Nat} {μ : Mem} {ν : Lem} (h : ML B s q 20 e v μ ν) : μ 0 23 = 2 ∧ ν 0 25 = lN v := by
  obtain ⟨-, h⟩ := h
  rcases h with ⟨h, -⟩ | ⟨-, h1, -, h2⟩ | ⟨-, h, -⟩ | ⟨-, -, -, -, -, h⟩ | ⟨h, -⟩
  · omega
  · exact ⟨h1, h2⟩
  · omega
  · rcases h with ⟨h, -⟩ | ⟨h, -⟩ <;> omega
  · omega
theorem ML.kw {B : Nat → Nat} {s q t e v : Nat} {μ : Mem} {ν : Lem} (h : ML B s q t e v μ ν) (ht : t < 12) : μ 0 23 = 1 := by
  obtain ⟨-, h⟩ := h
  rcases h with ⟨h, -⟩ | ⟨h, -⟩ | ⟨h, -⟩ | ⟨h, -⟩ | ⟨h, -⟩
  · omega
  · omega
  · omega
  · exact h
  · omega
theorem ML.kin {B : Nat → Nat} {s q t e v : Nat} {μ : Mem} {ν : Lem} (h : ML B s q t e v μ ν) (ht : t ≠ 20) : ∃ j, j < 9 ∧ j ≠ 2 ∧ μ 0 23 = nI j := by
  obtain ⟨-, h⟩ := h
  rcases h with ⟨-, h, -⟩ | ⟨h, -⟩ | ⟨-, -, h, -⟩ | ⟨h, -⟩ | ⟨-, h⟩
  · exact ⟨0, by omega, by omega, h⟩
  · omega
  · exact ⟨3, by omega, by omega, h⟩
  · exact ⟨1, by omega, by omega, h⟩
  · exact ⟨4, by omega, by omega, h⟩
theorem name_leaf {T s q t e v o : Nat} {B : Nat → Nat} {μ : Mem} {ν : Lem} (hY : BY s B) (hG : GM T s B q t e v o μ ν) (ht : t < 6) : f6_name μ ν = some (μ 0 (14 + t), μ, ν) := by
  obtain ⟨hM, hL, h27, -⟩ := hG
  unfold f6_name
  rw [w_minute hY hM hL h27, w_place hY hM hL h27, w_way hY hM hL h27, w_pace hY hM hL h27, w_far hY hM hL h27, w_points hY hM hL h27]
  have : t = 0 ∨ t = 1 ∨ t = 2 ∨ t = 3 ∨ t = 4 ∨ t = 5 := by omega
  rcases this with rfl | rfl | rfl | rfl | rfl | rfl
  · simp (disch := omega) only [Nat.add_sub_cancel, nm_s, bd1_s, bd2_s, bd3_s, gd_n, gd_ne, nI_clamp, nI_leI, nI_ltI, nI_eq, nI_add, pk_mul, pk_sub, up_r, upL_r, jrem_n, jmax_n, if_true, if_false, if_pos, if_neg, gd_i, Nat.zero_add, Nat.add_zero, Nat.mul_zero, nI_nn, nI_nn2, mI_le, mI_ne, mI_ne2, mI_ne3, mI_ne4, ne0, kl_0, kl_1, kl_2, kl_3, kl_4, kl_5, kl_6, kl_7, kl_8, kl_9, kl_10, kl_11, kl_12, kl_13, kl_14, kl_15, kl_16, kl_17, kl_18, kl_19, kl_20, kl_21, kl_22, kl_23, kl_32, kl_40, kl_48, kl_50, kl_53, kl_56, kl_57, kl_60, kl_61, kl_66, kl_97, kl_99, kl_100, kl_120, kl_122, kl_160, kl_200, kl_255, kl_300, kl_500, kl_600, kl_601, kl_999, kl_1000, kl_2048, kl_9999, and_self, and_true, true_and, and_false, false_and, not_false_eq_true, not_true_eq_false]
  · simp (disch := omega) only [Nat.add_sub_cancel, nm_s, bd1_s, bd2_s, bd3_s, gd_n, gd_ne, nI_clamp, nI_leI, nI_ltI, nI_eq, nI_add, pk_mul, pk_sub, up_r, upL_r, jrem_n, jmax_n, if_true, if_false, if_pos, if_neg, gd_i, Nat.zero_add, Nat.add_zero, Nat.mul_zero, nI_nn, nI_nn2, mI_le, mI_ne, mI_ne2, mI_ne3, mI_ne4, ne0, kl_0, kl_1, kl_2, kl_3, kl_4, kl_5, kl_6, kl_7, kl_8, kl_9, kl_10, kl_11, kl_12, kl_13, kl_14, kl_15, kl_16, kl_17, kl_18, kl_19, kl_20, kl_21, kl_22, kl_23, kl_32, kl_40, kl_48, kl_50, kl_53, kl_56, kl_57, kl_60, kl_61, kl_66, kl_97, kl_99, kl_100, kl_120, kl_122, kl_160, kl_200, kl_255, kl_300, kl_500, kl_600, kl_601, kl_999, kl_1000, kl_2048, kl_9999, and_self, and_true, true_and, and_false, false_and, not_false_eq_true, not_true_eq_false]
  · simp (disch := omega) only [Nat.add_sub_cancel, nm_s, bd1_s, bd2_s, bd3_s, gd_n, gd_ne, nI_clamp, nI_leI, nI_ltI, nI_eq, nI_add, pk_mul, pk_sub, up_r, upL_r, jrem_n, jmax_n, if_true, if_false, if_pos, if_neg, gd_i, Nat.zero_add, Nat.add_zero, Nat.mul_zero, nI_nn, nI_nn2, mI_le, mI_ne, mI_ne2, mI_ne3, mI_ne4, ne0, kl_0, kl_1, kl_2, kl_3, kl_4, kl_5, kl_6, kl_7, kl_8, kl_9, kl_10, kl_11, kl_12, kl_13, kl_14, kl_15, kl_16, kl_17, kl_18, kl_19, kl_20, kl_21, kl_22, kl_23, kl_32, kl_40, kl_48, kl_50, kl_53, kl_56, kl_57, kl_60, kl_61, kl_66, kl_97, kl_99, kl_100, kl_120, kl_122, kl_160, kl_200, kl_255, kl_300, kl_500, kl_600, kl_601, kl_999, kl_1000, kl_2048, kl_9999, and_self, and_true, true_and, and_false, false_and, not_false_eq_true, not_true_eq_false]
  · simp (disch := omega) only [Nat.add_sub_cancel, nm_s, bd1_s, bd2_s, bd3_s, gd_n, gd_ne, nI_clamp, nI_leI, nI_ltI, nI_eq, nI_add, pk_mul, pk_sub, up_r, upL_r, jrem_n, jmax_n, if_true, if_false, if_pos, if_neg, gd_i, Nat.zero_add, Nat.add_zero, Nat.mul_zero, nI_nn, nI_nn2, mI_le, mI_ne, mI_ne2, mI_ne3, mI_ne4, ne0, kl_0, kl_1, kl_2, kl_3, kl_4, kl_5, kl_6, kl_7, kl_8, kl_9, kl_10, kl_11, kl_12, kl_13, kl_14, kl_15, kl_16, kl_17, kl_18, kl_19, kl_20, kl_21, kl_22, kl_23, kl_32, kl_40, kl_48, kl_50, kl_53, kl_56, kl_57, kl_60, kl_61, kl_66, kl_97, kl_99, kl_100, kl_120, kl_122, kl_160, kl_200, kl_255, kl_300, kl_500, kl_600, kl_601, kl_999, kl_1000, kl_2048, kl_9999, and_self, and_true, true_and, and_false, false_and, not_false_eq_true, not_true_eq_false]
  · simp (disch := omega) only [Nat.add_sub_cancel, nm_s, bd1_s, bd2_s, bd3_s, gd_n, gd_ne, nI_clamp, nI_leI, nI_ltI, nI_eq, nI_add, pk_mul, pk_sub, up_r, upL_r, jrem_n, jmax_n, if_true, if_false, if_pos, if_neg, gd_i, Nat.zero_add, Nat.add_zero, Nat.mul_zero, nI_nn, nI_nn2, mI_le, mI_ne, mI_ne2, mI_ne3, mI_ne4, ne0, kl_0, kl_1, kl_2, kl_3, kl_4, kl_5, kl_6, kl_7, kl_8, kl_9, kl_10, kl_11, kl_12, kl_13, kl_14, kl_15, kl_16, kl_17, kl_18, kl_19, kl_20, kl_21, kl_22, kl_23, kl_32, kl_40, kl_48, kl_50, kl_53, kl_56, kl_57, kl_60, kl_61, kl_66, kl_97, kl_99, kl_100, kl_120, kl_122, kl_160, kl_200, kl_255, kl_300, kl_500, kl_600, kl_601, kl_999, kl_1000, kl_2048, kl_9999, and_self, and_true, true_and, and_false, false_and, not_false_eq_true, not_true_eq_false]
  · simp (disch := omega) only [Nat.add_sub_cancel, nm_s, bd1_s, bd2_s, bd3_s, gd_n, gd_ne, nI_clamp, nI_leI, nI_ltI, nI_eq, nI_add, pk_mul, pk_sub, up_r, upL_r, jrem_n, jmax_n, if_true, if_false, if_pos, if_neg, gd_i, Nat.zero_add, Nat.add_zero, Nat.mul_zero, nI_nn, nI_nn2, mI_le, mI_ne, mI_ne2, mI_ne3, mI_ne4, ne0, kl_0, kl_1, kl_2, kl_3, kl_4, kl_5, kl_6, kl_7, kl_8, kl_9, kl_10, kl_11, kl_12, kl_13, kl_14, kl_15, kl_16, kl_17, kl_18, kl_19, kl_20, kl_21, kl_22, kl_23, kl_32, kl_40, kl_48, kl_50, kl_53, kl_56, kl_57, kl_60, kl_61, kl_66, kl_97, kl_99, kl_100, kl_120, kl_122, kl_160, kl_200, kl_255, kl_300, kl_500, kl_600, kl_601, kl_999, kl_1000, kl_2048, kl_9999, and_self, and_true, true_and, and_false, false_and, not_false_eq_true, not_true_eq_false]
theorem name_fail {T s q t e v o : Nat} {B : Nat → Nat} {μ : Mem} {ν : Lem} (hY : BY s B) (hG : GM T s B q t e v o μ ν) (ht : 6 ≤ t) : f6_name μ ν = pr2 (f6_fail μ ν) (fun μ148 ν148 => some (0, μ148, ν148)) := by
  obtain ⟨hM, hL, h27, -⟩ := hG
  unfold f6_name
  rw [w_minute hY hM hL h27, w_place hY hM hL h27, w_way hY hM hL h27, w_pace hY hM hL h27, w_far hY hM hL h27, w_points hY hM hL h27]
  simp (disch := omega) only [Nat.add_sub_cancel, nm_s, bd1_s, bd2_s, bd3_s, gd_n, gd_ne, nI_clamp, nI_leI, nI_ltI, nI_eq, nI_add, pk_mul, pk_sub, up_r, upL_r, jrem_n, jmax_n, if_true, if_false, if_pos, if_neg, gd_i, Nat.zero_add, Nat.add_zero, Nat.mul_zero, nI_nn, nI_nn2, mI_le, mI_ne, mI_ne2, mI_ne3, mI_ne4, ne0, kl_0, kl_1, kl_2, kl_3, kl_4, kl_5, kl_6, kl_7, kl_8, kl_9, kl_10, kl_11, kl_12, kl_13, kl_14, kl_15, kl_16, kl_17, kl_18, kl_19, kl_20, kl_21, kl_22, kl_23, kl_32, kl_40, kl_48, kl_50, kl_53, kl_56, kl_57, kl_60, kl_61, kl_66, kl_97, kl_99, kl_100, kl_120, kl_122, kl_160, kl_200, kl_255, kl_300, kl_500, kl_600, kl_601, kl_999, kl_1000, kl_2048, kl_9999, and_self, and_true, true_and, and_false, false_and, not_false_eq_true, not_true_eq_false]
theorem tail_leaf {T s q t e v o : Nat} {B : Nat → Nat} {μ : Mem} {ν : Lem} (hY : BY s B) (hG : GM T s B q t e v o μ ν) (ht : t < 6) : f6_atom4_2 μ ν 0 = bd2 (f6_next μ ν) (fun μ151 ν151 => some (μ 0 (14 + t), μ151, ν151)) := by
  unfold f6_atom4_2
  rw [if_pos hG.ok, if_pos (hG.2.1.kw (by omega)), name_leaf hY hG ht, bd3_s, if_pos hG.ok]
theorem tail_fail {T s q t e v o : Nat} {B : Nat → Nat} {μ : Mem} {ν : Lem} (hY : BY s B) (hG : GM T s B q t e v o μ ν) (ht : 6 ≤ t) (h20 : t ≠ 20) : ∃ x μ', f6_atom4_2 μ ν 0 = some (x, μ', ν) ∧ BM q μ' ∧ fR μ μ' := by
  obtain ⟨μ', r1, r2, r3⟩ := fail_M hG
  refine ⟨0, μ', ?_, r2, r3⟩
  unfold f6_atom4_2
  rw [if_pos hG.ok]
  by_cases hk : μ 0 23 = 1
  · rw [if_pos hk, name_fail hY hG ht, r1, pr2_s, bd3_s, if_neg (bad0 r2)]
  · rw [if_neg hk]
    unfold f6_atom4_3
    rw [r1, pr2_s]
theorem opens_no {T s q t e v : Nat} {B : Nat → Nat} {μ : Mem} {ν : Lem} (hG : GM T s B q t e v 5 μ ν) : ∃ μ', f6_opens μ ν = some (0, μ', ν) ∧ BM q μ' ∧ fR μ μ' := by
  obtain ⟨μ', r1, r2, r3⟩ := fail_M hG
  refine ⟨μ', ?_, r2, r3⟩
  unfold f6_opens
  rw [if_pos (show μ 0 26 = 5 from hG.2.2.2), r1, pr2_s]
theorem opens_ok {μ : Mem} {ν : Lem} {o : Nat} (ho : o < 5) (h : μ 0 26 = nI o) : f6_opens μ ν = bd2 (f6_next (up μ 0 26 (nI (o + 1))) ν) (fun μ25 ν25 => some (1, μ25, ν25)) := by
  unfold f6_opens
  rw [if_neg (by rw [h, kl_5, nI_eq (by omega) (by omega)]; omega), h, nm_s, kl_1, nI_add]
theorem shut {T s q t e v o : Nat} {B : Nat → Nat} {μ : Mem} {ν : Lem} (h : GM T s B q t e v (o + 1) μ ν) : GM T s B q t e v o (up μ 0 26 (μ 0 26 - 1)) ν := by
  have e : μ 0 26 - 1 = nI o := by rw [h.2.2.2, kl_1, pk_sub (by omega)]; rfl
  rw [e]
  exact h.op o
def gAtom (E A : Mem → Lem → Option (Int32 × Mem × Lem)) (μ : Mem) (ν : Lem) : Option (Int32 × Mem × Lem) :=
  if (f6_isSign μ ν 45) = 0 then if (f6_isSign μ ν 40) = 0 then if (μ 0 27) = 0 then if (μ 0 23) = 2 then nm ((ν 0 25).toInt32) (fun v115 => bd2 (f6_next μ ν) (fun μ117 ν117 => some (v115, μ117, ν117))) else f6_atom4_2 μ ν 0 else f6_atom4_2 μ ν 0 else bd3 (f6_opens μ ν) (fun r47 μ47 ν47 => if r47 = 0 then some (0, μ47, ν47) else bd3 (E μ47 ν47) (fun r54 μ54 ν54 => if (f6_isSign μ54 ν54 41) = 0 then pr2 (f6_fail μ54 ν54) (fun μ68 ν68 => f6_atom4_1 μ68 ν68 r54) else f6_atom4_1 μ54 ν54 r54)) else bd3 (f6_opens μ ν) (fun r12 μ12 ν12 => if r12 = 0 then some (0, μ12, ν12) else bd3 (A μ12 ν12) (fun r19 μ19 ν19 => nm (-r19) (fun v23 => nm (up μ19 0 26 ((μ19 0 26) - 1)) (fun μ31 => some (v23, μ31, ν19)))))
def gAtom5 (μ : Mem) (ν : Lem) : Option (Int32 × Mem × Lem) :=
  if (f6_isSign μ ν 45) = 0 then if (f6_isSign μ ν 40) = 0 then if (μ 0 27) = 0 then if (μ 0 23) = 2 then nm ((ν 0 25).toInt32) (fun v56 => bd2 (f6_next μ ν) (fun μ58 ν58 => some (v56, μ58, ν58))) else f6_atom4_2 μ ν 0 else f6_atom4_2 μ ν 0 else bd3 (f6_opens μ ν) (fun r29 μ29 ν29 => some (0, μ29, ν29)) else bd3 (f6_opens μ ν) (fun r12 μ12 ν12 => some (0, μ12, ν12))
theorem z00 : nI 0 = (0 : Int32) := rfl
theorem z10 : ¬ nI 1 = (0 : Int32) := by decide
/-- a leaf -/
theorem leaf_out {s o q t e v : Nat} {B : Nat → Nat} (hY : BY s B) (hT : TK s q t e v) (ht : t = 20 ∨ t < 6) (ho : o ≤ 5) {P : Mem → Int32 → Int32 → Option Mem} {F : Mem → Lem → Option (Int32 × Mem × Lem)} (hF : ∀ T μ ν, GM T s B q t e v o μ ν → F μ ν = bd2 (f6_next μ ν) (fun μ1 ν1 => some (if t = 20 then nI v else μ 0 (14 + t), μ1, ν1))) : OUT s B o (fun μ => f2_one P μ (nI o)) F q t e v := by
  have hT0 := hT
  obtain ⟨k1, k2, k3, k4, k5, k6⟩ := hT0
  have hqe := k6 (by omega) (by omega)
  obtain ⟨q1, t1, e1, v1, a1, a2, a3, a4⟩ := step hY hT (by omega)
  have hq1 := a2.q160 hY
  right
  refine ⟨q1, t1, e1, v1, [if t = 20 then nI v else nI t ^^^ (-1)], a2, by rw [List.length_singleton]; omega, by omega, fun T cs μ hG => ?_, fun T μ ν hG => ?_⟩
  · obtain ⟨μ1, b1, b2, b3⟩ := a3 T cs μ hG
    have hl := hG.2.2.2.2.2.2
    obtain ⟨μ2, d1, d2, d3⟩ := put_C b2 hq1 (by omega) (if t = 20 then nI v else nI t ^^^ (-1))
    refine ⟨μ2, ?_, d2, b3.t.tr d3⟩
    have hv : (if t = 20 then μ 3 5 else nI t ^^^ (-1)) = (if t = 20 then nI v else nI t ^^^ (-1)) := by
      by_cases h : t = 20
      · rw [if_pos h, if_pos h]; exact hG.2.2.1.2.2.2 h
      · rw [if_neg h, if_neg h]
    show f2_one P μ (nI o) = some μ2
    rw [one_leaf hG.2.2.1.2.1 ht ho, b1, bd1_s, hv, gput b2.1 b2.2.2.2.2.1, d1, bd1_s]
  · obtain ⟨μ1, ν1, b1, b2, b3⟩ := a4 T o μ ν hG
    refine ⟨_, μ1, ν1, by rw [hF T μ ν hG, b1, bd2_s], b2, b3.r, ?_⟩
    by_cases h : t = 20
    · rw [if_pos h, if_pos h]; exact VAL.num k4
    · rw [if_neg h, if_neg h]
      exact VAL.nam (env := env6 μ) (by omega)
theorem fail_out {s o q t e v : Nat} {B : Nat → Nat} (hY : BY s B) (hT : TK s q t e v) (ht : t ≠ 20) (ht6 : 6 ≤ t) (ho : o ≤ 5) (h5 : t = 12 ∨ t = 16 → o = 5) {P : Mem → Int32 → Int32 → Option Mem} {F : Mem → Lem → Option (Int32 × Mem × Lem)} (hF : ∀ T μ ν, GM T s B q t e v o μ ν → ∃ x μ' ν', F μ ν = some (x, μ', ν') ∧ BM q μ' ∧ fR μ μ') : OUT s B o (fun μ => f2_one P μ (nI o)) F q t e v := by
  have hq := hT.q160 hY
  left
  refine ⟨q, hq, fun T cs μ hG => ?_, hF⟩
  obtain ⟨r1, r2⟩ := refuse_C hG hq
  exact ⟨f2_refuse μ, one_fail hG.2.2.1.2.1 ht ht6 hT.2.2.1 ho h5, r1, r2⟩
theorem at_gen {s o : Nat} {B : Nat → Nat} (hY : BY s B) (ho : o < 5) {P : Mem → Int32 → Int32 → Option Mem} {E A : Mem → Lem → Option (Int32 × Mem × Lem)} (hE : SIM s B (o + 1) (fun μ => P μ (nI 0) (nI (o + 1))) E) (hA : SIM s B (o + 1) (fun μ => P μ (nI 5) (nI (o + 1))) A) : SIM s B o (fun μ => f2_one P μ (nI o)) (gAtom E A) := by
  refine SIM.mk fun q t e v hT => ?_
  have hT0 := hT
  obtain ⟨k1, k2, k3, k4, k5, k6⟩ := hT0
  by_cases hleaf : t = 20 ∨ t < 6
  · refine leaf_out hY hT hleaf (by omega) (fun T μ ν hG => ?_)
    unfold gAtom
    rw [g_45 hG.2.1 hG.2.2.1, if_neg (show ¬ t = 16 by omega), if_pos z00, g_40 hG.2.1 hG.2.2.1, if_neg (show ¬ t = 12 by omega), if_pos z00, if_pos hG.ok]
    rcases hleaf with h | h
    · subst h
      obtain ⟨n1, n2⟩ := hG.2.1.num
      rw [if_pos n1, n2, lN_short k4, nm_s, if_pos rfl]
    · obtain n1 := hG.2.1.kw (by omega)
      rw [if_neg (by rw [n1]; decide), tail_leaf hY hG h, if_neg (by omega)]
  · by_cases h16 : t = 16
    · subst h16
      have hqe := k6 (by omega) (by omega)
      obtain ⟨q1, t1, e1, v1, a1, a2, a3, a4⟩ := step hY hT (by omega)
      have href : ∀ (T : Nat) (μ : Mem) (ν : Lem), GM T s B q 16 e v o μ ν → ∃ μ1 ν1, gAtom E A μ ν = bd3 (A μ1 ν1) (fun r19 μ19 ν19 => some (-r19, up μ19 0 26 (μ19 0 26 - 1), ν19)) ∧ GM T s B q1 t1 e1 v1 (o + 1) μ1 ν1 ∧ fR μ μ1 := by
        intro T μ ν hG
        obtain ⟨μ1, ν1, b1, b2, b3⟩ := a4 T (o + 1) _ ν (hG.op (o + 1))
        refine ⟨μ1, ν1, ?_, b2, (fR.rf.up (by omega)).tr b3.r⟩
        unfold gAtom
        rw [g_45 hG.2.1 hG.2.2.1, if_pos rfl, if_neg z10, opens_ok ho hG.2.2.2, b1, bd2_s, bd3_s, if_neg (by decide)]
        rfl
      rcases hA q1 t1 e1 v1 a2 with ⟨f, f1, f2, f3⟩ | ⟨q2, t2, e2, v2, c, g1, g2, g3, g4, g5⟩
      · left
        refine ⟨f, f1, fun T cs μ hG => ?_, fun T μ ν hG => ?_⟩
        · obtain ⟨μ1, b1, b2, b3⟩ := a3 T cs μ hG
          obtain ⟨μ2, d1, d2, d3⟩ := f2 T cs μ1 b2
          have d1 : P μ1 (nI 5) (nI (o + 1)) = some μ2 := d1
          obtain ⟨μ3, x1, x2, x3⟩ := put_B d2 (-24)
          refine ⟨μ3, ?_, x2, (b3.t.tr d3).tr x3⟩
          show f2_one P μ (nI o) = some μ3
          rw [one_minus hG.2.2.1.2.1 ho, b1, bd1_s, d1, bd1_s, gput d2.1 d2.2.2.2.2.1, x1, bd1_s]
        · obtain ⟨μ1, ν1, b1, b2, b3⟩ := href T μ ν hG
          obtain ⟨r, μ2, ν2, d1, d2, d3⟩ := f3 T μ1 ν1 b2
          exact ⟨-r, up μ2 0 26 (μ2 0 26 - 1), ν2, by rw [b1, d1, bd3_s], d2.up (by omega), (b3.tr d3).up (by omega)⟩
      · right
        have hq2 := g1.q160 hY
        refine ⟨q2, t2, e2, v2, c ++ [-24], g1, by rw [List.length_append, List.length_singleton]; omega, by omega, fun T cs μ hG => ?_, fun T μ ν hG => ?_⟩
        · obtain ⟨μ1, b1, b2, b3⟩ := a3 T cs μ hG
          obtain ⟨μ2, d1, d2, d3⟩ := g4 T cs μ1 b2
          have d1 : P μ1 (nI 5) (nI (o + 1)) = some μ2 := d1
          have hl := hG.2.2.2.2.2.2
          obtain ⟨μ3, x1, x2, x3⟩ := put_C d2 hq2 (by rw [List.length_append]; omega) (-24)
          refine ⟨μ3, ?_, by rw [← List.append_assoc]; exact x2, (b3.t.tr d3).tr x3⟩
          show f2_one P μ (nI o) = some μ3
          rw [one_minus hG.2.2.1.2.1 ho, b1, bd1_s, d1, bd1_s, gput d2.1 d2.2.2.2.2.1, x1, bd1_s]
        · obtain ⟨μ1, ν1, b1, b2, b3⟩ := href T μ ν hG
          obtain ⟨r, μ2, ν2, d1, d2, d3, d4⟩ := g5 T μ1 ν1 b2
          exact ⟨-r, up μ2 0 26 (μ2 0 26 - 1), ν2, by rw [b1, d1, bd3_s], shut d2, (b3.tr d3).up (by omega), (d4.bk b3).neg⟩
    · by_cases h12 : t = 12
      · subst h12
        have hqe := k6 (by omega) (by omega)
        obtain ⟨q1, t1, e1, v1, a1, a2, a3, a4⟩ := step hY hT (by omega)
        have href : ∀ (T : Nat) (μ : Mem) (ν : Lem), GM T s B q 12 e v o μ ν → ∃ μ1 ν1, gAtom E A μ ν = bd3 (E μ1 ν1) (fun r54 μ54 ν54 => if (f6_isSign μ54 ν54 41) = 0 then pr2 (f6_fail μ54 ν54) (fun μ68 ν68 => f6_atom4_1 μ68 ν68 r54) else f6_atom4_1 μ54 ν54 r54) ∧ GM T s B q1 t1 e1 v1 (o + 1) μ1 ν1 ∧ fR μ μ1 := by
          intro T μ ν hG
          obtain ⟨μ1, ν1, b1, b2, b3⟩ := a4 T (o + 1) _ ν (hG.op (o + 1))
          refine ⟨μ1, ν1, ?_, b2, (fR.rf.up (by omega)).tr b3.r⟩
          unfold gAtom
          rw [g_45 hG.2.1 hG.2.2.1, if_neg (show ¬ 12 = 16 by omega), if_pos z00, g_40 hG.2.1 hG.2.2.1, if_pos rfl, if_neg z10, opens_ok ho hG.2.2.2, b1, bd2_s, bd3_s, if_neg (by decide)]
        rcases hE q1 t1 e1 v1 a2 with ⟨f, f1, f2, f3⟩ | ⟨q2, t2, e2, v2, c, g1, g2, g3, g4, g5⟩
        · left
          refine ⟨f, f1, fun T cs μ hG => ?_, fun T μ ν hG => ?_⟩
          · obtain ⟨μ1, b1, b2, b3⟩ := a3 T cs μ hG
            obtain ⟨μ2, d1, d2, d3⟩ := f2 T cs μ1 b2
            have d1 : P μ1 (nI 0) (nI (o + 1)) = some μ2 := d1
            obtain ⟨x2, x3⟩ := refuse_B d2
            refine ⟨f2_refuse μ2, ?_, x2, (b3.t.tr d3).tr x3⟩
            show f2_one P μ (nI o) = _
            rw [one_paren hG.2.2.1.2.1 ho, b1, bd1_s, d1, bd1_s]
            unfold f2_expect
            rw [if_neg (by rw [d2.2.1]; decide)]
            rfl
          · obtain ⟨μ1, ν1, b1, b2, b3⟩ := href T μ ν hG
            obtain ⟨r, μ2, ν2, d1, d2, d3⟩ := f3 T μ1 ν1 b2
            have d4 : BM f (up μ2 0 26 (μ2 0 26 - 1)) := d2.up (by omega)
            refine ⟨r, up μ2 0 26 (μ2 0 26 - 1), ν2, ?_, d4, (b3.tr d3).up (by omega)⟩
            rw [b1, d1, bd3_s, isSign_bad d2.1, if_pos z00, fail_B d2, pr2_s]
            unfold f6_atom4_1
            rw [nm_s, if_neg (bad0 d4)]
        · have hq2 := g1.q160 hY
          by_cases h13 : t2 = 13
          · subst h13
            obtain ⟨q3, t3, e3, v3, y1, y2, y3, y4⟩ := step hY g1 (by omega)
            have k1' := g1.1
            right
            refine ⟨q3, t3, e3, v3, c, y2, by omega, by omega, fun T cs μ hG => ?_, fun T μ ν hG => ?_⟩
            · obtain ⟨μ1, b1, b2, b3⟩ := a3 T cs μ hG
              obtain ⟨μ2, d1, d2, d3⟩ := g4 T cs μ1 b2
              have d1 : P μ1 (nI 0) (nI (o + 1)) = some μ2 := d1
              obtain ⟨μ3, x1, x2, x3⟩ := y3 T _ μ2 d2
              refine ⟨μ3, ?_, x2, (b3.t.tr d3).tr x3.t⟩
              show f2_one P μ (nI o) = _
              rw [one_paren hG.2.2.1.2.1 ho, b1, bd1_s, d1, bd1_s]
              unfold f2_expect
              rw [if_pos d2.2.2.1.2.1, x1, bd1_s, bd1_s]
            · obtain ⟨μ1, ν1, b1, b2, b3⟩ := href T μ ν hG
              obtain ⟨r, μ2, ν2, d1, d2, d3, d4⟩ := g5 T μ1 ν1 b2
              have d5 := shut d2
              obtain ⟨μ3, ν3, x1, x2, x3⟩ := y4 T o _ ν2 d5
              refine ⟨r, μ3, ν3, ?_, x2, ((b3.tr d3).up (by omega)).tr x3.r, d4.bk b3⟩
              rw [b1, d1, bd3_s, g_41 d2.2.1 d2.2.2.1, if_pos rfl, if_neg z10]
              unfold f6_atom4_1
              rw [nm_s, if_pos d5.ok, x1, bd2_s]
          · left
            refine ⟨q2, hq2, fun T cs μ hG => ?_, fun T μ ν hG => ?_⟩
            · obtain ⟨μ1, b1, b2, b3⟩ := a3 T cs μ hG
              obtain ⟨μ2, d1, d2, d3⟩ := g4 T cs μ1 b2
              have d1 : P μ1 (nI 0) (nI (o + 1)) = some μ2 := d1
              obtain ⟨x2, x3⟩ := refuse_C d2 hq2
              refine ⟨f2_refuse μ2, ?_, x2, (b3.t.tr d3).tr x3⟩
              show f2_one P μ (nI o) = _
              rw [one_paren hG.2.2.1.2.1 ho, b1, bd1_s, d1, bd1_s]
              unfold f2_expect
              have ht2 := g1.2.2.1
              rw [if_neg (by rw [d2.2.2.1.2.1, nI_eq (by omega) (by omega)]; exact h13)]
              rfl
            · obtain ⟨μ1, ν1, b1, b2, b3⟩ := href T μ ν hG
              obtain ⟨r, μ2, ν2, d1, d2, d3, d4⟩ := g5 T μ1 ν1 b2
              obtain ⟨μ3, x1, x2, x3⟩ := fail_M d2
              have x4 : BM q2 (up μ3 0 26 (μ3 0 26 - 1)) := x2.up (by omega)
              refine ⟨r, up μ3 0 26 (μ3 0 26 - 1), ν2, ?_, x4, ((b3.tr d3).tr x3).up (by omega)⟩
              rw [b1, d1, bd3_s, g_41 d2.2.1 d2.2.2.1, if_neg h13, if_pos z00, x1, pr2_s]
              unfold f6_atom4_1
              rw [nm_s, if_neg (bad0 x4)]
      · refine fail_out hY hT (by omega) (by omega) (by omega) (by omega) (fun T μ ν hG => ?_)
        obtain ⟨x, μ', r1, r2, r3⟩ := tail_fail hY hG (by omega) (by omega)
        refine ⟨x, μ', ν, ?_, r2, r3⟩
        obtain ⟨j, j1, j2, j3⟩ := hG.2.1.kin (by omega)
        unfold gAtom
        rw [g_45 hG.2.1 hG.2.2.1, if_neg h16, if_pos z00, g_40 hG.2.1 hG.2.2.1, if_neg h12, if_pos z00, if_pos hG.ok, if_neg (by rw [j3, kl_2, nI_eq (by omega) (by omega)]; exact j2)]
        exact r1
theorem at5_gen {s : Nat} {B : Nat → Nat} (hY : BY s B) {P : Mem → Int32 → Int32 → Option Mem} : SIM s B 5 (fun μ => f2_one P μ (nI 5)) gAtom5 := by
  refine SIM.mk fun q t e v hT => ?_
  have hT0 := hT
  obtain ⟨k1, k2, k3, k4, k5, k6⟩ := hT0
  by_cases hleaf : t = 20 ∨ t < 6
  · refine leaf_out hY hT hleaf (by omega) (fun T μ ν hG => ?_)
    unfold gAtom5
    rw [g_45 hG.2.1 hG.2.2.1, if_neg (show ¬ t = 16 by omega), if_pos z00, g_40 hG.2.1 hG.2.2.1, if_neg (show ¬ t = 12 by omega), if_pos z00, if_pos hG.ok]
    rcases hleaf with h | h
    · subst h
      obtain ⟨n1, n2⟩ := hG.2.1.num
      rw [if_pos n1, n2, lN_short k4, nm_s, if_pos rfl]
    · obtain n1 := hG.2.1.kw (by omega)
      rw [if_neg (by rw [n1]; decide), tail_leaf hY hG h, if_neg (by omega)]
  · refine fail_out hY hT (by omega) (by omega) (by omega) (fun _ => rfl) (fun T μ ν hG => ?_)
    by_cases h16 : t = 16
    · obtain ⟨μ', r1, r2, r3⟩ := opens_no hG
      refine ⟨0, μ', ν, ?_, r2, r3⟩
      unfold gAtom5
      rw [g_45 hG.2.1 hG.2.2.1, if_pos h16, if_neg z10, r1, bd3_s]
    · by_cases h12 : t = 12
      · obtain ⟨μ', r1, r2, r3⟩ := opens_no hG
        refine ⟨0, μ', ν, ?_, r2, r3⟩
        unfold gAtom5
        rw [g_45 hG.2.1 hG.2.2.1, if_neg h16, if_pos z00, g_40 hG.2.1 hG.2.2.1, if_pos h12, if_neg z10, r1, bd3_s]
      · obtain ⟨x, μ', r1, r2, r3⟩ := tail_fail hY hG (by omega) (by omega)
        refine ⟨x, μ', ν, ?_, r2, r3⟩
        obtain ⟨j, j1, j2, j3⟩ := hG.2.1.kin (by omega)
        unfold gAtom5
        rw [g_45 hG.2.1 hG.2.2.1, if_neg h16, if_pos z00, g_40 hG.2.1 hG.2.2.1, if_neg h12, if_pos z00, if_pos hG.ok, if_neg (by rw [j3, kl_2, nI_eq (by omega) (by omega)]; exact j2)]
        exact r1
