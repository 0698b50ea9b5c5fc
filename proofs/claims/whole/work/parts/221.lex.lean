/-! the tape's words, as both worlds read them -/
def BY (s : Nat) (B : Nat → Nat) : Prop := s ≤ 160 ∧ ∀ i, i < s → B i ≤ 255
def CB (s : Nat) (B : Nat → Nat) (μ : Mem) : Prop := μ 3 1 = nI s ∧ ∀ i, i < s → μ 4 i = nI (B i)
def MB (T s : Nat) (B : Nat → Nat) (μ : Mem) : Prop := T < 6 ∧ μ 0 20 = nI (160 * T) ∧ μ 0 21 = nI s ∧ ∀ i, i < s → μ 1 (160 * T + i) = nI (B i)
def fA (μ μ' : Mem) : Prop := ∀ k i, ¬ (k = 3 ∧ 2 ≤ i ∧ i ≤ 5) → μ' k i = μ k i
def fN (μ μ' : Mem) : Prop := ∀ k i, ¬ (k = 0 ∧ 22 ≤ i ∧ i ≤ 24) → μ' k i = μ k i
theorem fA.rf {μ : Mem} : fA μ μ := fun _ _ _ => rfl
theorem fN.rf {μ : Mem} : fN μ μ := fun _ _ _ => rfl
theorem fA.tr {μ μ1 μ2 : Mem} (h : fA μ μ1) (h2 : fA μ1 μ2) : fA μ μ2 := fun k i q => (h2 k i q).trans (h k i q)
theorem fN.tr {μ μ1 μ2 : Mem} (h : fN μ μ1) (h2 : fN μ1 μ2) : fN μ μ2 := fun k i q => (h2 k i q).trans (h k i q)
theorem fA.up {μ μ1 : Mem} {i : Nat} {v : Int32} (h : fA μ μ1) (hi : 2 ≤ i ∧ i ≤ 5) : fA μ (up μ1 3 i v) := fun k' i' q => by
  rw [up_r, if_neg (by omega)]
  exact h k' i' q
theorem fN.up {μ μ1 : Mem} {i : Nat} {v : Int32} (h : fN μ μ1) (hi : 22 ≤ i ∧ i ≤ 24) : fN μ (up μ1 0 i v) := fun k' i' q => by
  rw [up_r, if_neg (by omega)]
  exact h k' i' q
theorem CB.fr {s : Nat} {B : Nat → Nat} {μ μ' : Mem} (h : CB s B μ) (f : fA μ μ') : CB s B μ' := ⟨by rw [f _ _ (by omega)]; exact h.1, fun i hi => by rw [f _ _ (by omega)]; exact h.2 i hi⟩
theorem MB.fr {T s : Nat} {B : Nat → Nat} {μ μ' : Mem} (h : MB T s B μ) (f : fN μ μ') : MB T s B μ' := ⟨h.1, by rw [f _ _ (by omega)]; exact h.2.1, by rw [f _ _ (by omega)]; exact h.2.2.1, fun i hi => by rw [f _ _ (by omega)]; exact h.2.2.2 i hi⟩
/-- the words -/
def wl : Nat → List Nat
  | 0 => [109, 105, 110, 117, 116, 101]
  | 1 => [112, 108, 97, 99, 101]
  | 2 => [119, 97, 121]
  | 3 => [112, 97, 99, 101]
  | 4 => [102, 97, 114]
  | 5 => [112, 111, 105, 110, 116, 115]
  | 6 => [110, 101, 97, 114]
  | 7 => [111, 102, 102]
  | 8 => [119, 111, 114, 116, 104]
  | 9 => [111, 114]
  | 10 => [97, 110, 100]
  | 11 => [110, 111, 116]
  | _ => []
def wa : Nat → Nat
  | 0 => 0
  | 1 => 7
  | 2 => 13
  | 3 => 17
  | 4 => 22
  | 5 => 26
  | 6 => 33
  | 7 => 38
  | 8 => 42
  | 9 => 48
  | 10 => 51
  | 11 => 55
  | _ => 59
def EQL (B : Nat → Nat) (q h : Nat) (l : List Nat) : Prop := h = q + l.length ∧ ∀ i, i < l.length → l[i]? = some (B (q + i))
theorem EQL.inj {B : Nat → Nat} {q h : Nat} {l l' : List Nat} (a : EQL B q h l) (b : EQL B q h l') : l = l' := by
  have hl : l.length = l'.length := by have := a.1; have := b.1; omega
  apply List.ext_getElem?
  intro i
  by_cases hi : i < l.length
  · rw [a.2 i hi, b.2 i (by omega)]
  · rw [List.getElem?_eq_none (by omega), List.getElem?_eq_none (by omega)]
theorem wl_inj : ∀ k, k < 12 → ∀ k', k' < 12 → wl k = wl k' → k = k' := by decide
theorem wl_len : ∀ k, k < 12 → wa (k + 1) = wa k + (wl k).length + 1 ∧ 2 ≤ (wl k).length ∧ (wl k).length ≤ 6 ∧ wa k + (wl k).length < 59 := by decide
/-- a memory -/
def mz : Mem := fun _ _ => 0
theorem ch_all0 : ∀ k, k < 12 → ∀ i, i < (wl k).length → fJ0_charAt_5068e mz 0 (nI (wa k + i)) = some (nI ((wl k).getD i 0)) ∧ ¬ nI ((wl k).getD i 0) = nI 32 ∧ (wl k).getD i 0 ≤ 255 := by decide +kernel
theorem ch_sp0 : ∀ k, k < 12 → fJ0_charAt_5068e mz 0 (nI (wa k + (wl k).length)) = some (nI 32) := by decide +kernel
theorem ch_mem (μ : Mem) (x : Int32) : fJ0_charAt_5068e μ 0 x = fJ0_charAt_5068e mz 0 x := rfl
theorem ch_all (μ : Mem) {k : Nat} (hk : k < 12) {i : Nat} (hi : i < (wl k).length) : fJ0_charAt_5068e μ 0 (nI (wa k + i)) = some (nI ((wl k).getD i 0)) ∧ ¬ nI ((wl k).getD i 0) = nI 32 ∧ (wl k).getD i 0 ≤ 255 := by
  rw [ch_mem]
  exact ch_all0 k hk i hi
theorem ch_sp (μ : Mem) {k : Nat} (hk : k < 12) : fJ0_charAt_5068e μ 0 (nI (wa k + (wl k).length)) = some (nI 32) := by
  rw [ch_mem]
  exact ch_sp0 k hk
theorem len_0 : fJ0_length_8abf5 0 = nI 59 := by decide +kernel
theorem getD_some {l : List Nat} {i x : Nat} (hi : i < l.length) : l[i]? = some x ↔ l.getD i 0 = x := by
  rw [List.getD_eq_getElem?_getD, List.getElem?_eq_getElem hi]
  exact ⟨fun h => by rw [h]; rfl, fun h => congrArg some h⟩
theorem isw1 {μ : Mem} {s q e k : Nat} {B : Nat → Nat} (hY : BY s B) (hC : CB s B μ) (h2 : μ 3 2 = nI e) (h3 : μ 3 3 = nI q) (he : e ≤ s) (hk : k < 12) (hl : e = q + (wl k).length) : ∀ (n j : Nat), j ≤ (wl k).length → (wl k).length - j < n →
    ((∀ i, j ≤ i → i < (wl k).length → (wl k)[i]? = some (B (q + i))) → f2_isWord_1 μ n (nI (wa k)) (nI (q + j)) = some (nI 1)) ∧ (¬ (∀ i, j ≤ i → i < (wl k).length → (wl k)[i]? = some (B (q + i))) → f2_isWord_1 μ n (nI (wa k)) (nI (q + j)) = some (nI 0)) := by
  intro n
  induction n with
  | zero => intro j _ h; omega
  | succ n ih =>
    intro j hj hn
    obtain ⟨-, w2, w3, w4⟩ := wl_len k hk
    have hs := hY.1
    rw [f2_isWord_1]
    by_cases hjl : j = (wl k).length
    · refine ⟨fun _ => ?_, fun h => absurd (fun i h1 h2 => absurd h2 (by omega)) h⟩
      simp (disch := omega) only [h2, Nat.add_sub_cancel, nm_s, bd1_s, bd2_s, bd3_s, gd_n, gd_ne, nI_clamp, nI_leI, nI_ltI, nI_eq, nI_add, pk_mul, pk_sub, up_r, upL_r, jrem_n, jmax_n, if_true, if_false, if_pos, if_neg, gd_i, Nat.zero_add, Nat.add_zero, Nat.mul_zero, nI_nn, nI_nn2, mI_le, mI_ne, mI_ne2, mI_ne3, mI_ne4, ne0, kl_0, kl_1, kl_2, kl_3, kl_4, kl_5, kl_6, kl_7, kl_8, kl_9, kl_10, kl_11, kl_12, kl_13, kl_14, kl_15, kl_16, kl_17, kl_18, kl_19, kl_20, kl_21, kl_22, kl_23, kl_32, kl_40, kl_48, kl_50, kl_53, kl_56, kl_57, kl_60, kl_61, kl_66, kl_97, kl_99, kl_100, kl_120, kl_122, kl_160, kl_200, kl_255, kl_300, kl_500, kl_600, kl_601, kl_999, kl_1000, kl_2048, kl_9999, and_self, and_true, true_and, and_false, false_and, not_false_eq_true, not_true_eq_false]
    · obtain ⟨c1, -, c3⟩ := ch_all μ hk (i := j) (by omega)
      have e1 := hC.2 (q + j) (by omega)
      have e2 := hY.2 (q + j) (by omega)
      have e3 : wa k + (q + j) - q = wa k + j := by omega
      have e4 : q + j + 1 = q + (j + 1) := by omega
      have := ih (j + 1) (by omega) (by omega)
      by_cases hb : (wl k).getD j 0 = B (q + j)
      · have hiff : (∀ i, j ≤ i → i < (wl k).length → (wl k)[i]? = some (B (q + i))) ↔ (∀ i, j + 1 ≤ i → i < (wl k).length → (wl k)[i]? = some (B (q + i))) := by
          refine ⟨fun h i h1 h2 => h i (by omega) h2, fun h i h1 h2 => ?_⟩
          by_cases e : i = j
          · subst e; exact (getD_some h2).mpr hb
          · exact h i (by omega) h2
        rw [hiff]
        simp (disch := omega) only [h2, h3, e1, e3, c1, hb, e4, Nat.add_sub_cancel, nm_s, bd1_s, bd2_s, bd3_s, gd_n, gd_ne, nI_clamp, nI_leI, nI_ltI, nI_eq, nI_add, pk_mul, pk_sub, up_r, upL_r, jrem_n, jmax_n, if_true, if_false, if_pos, if_neg, gd_i, Nat.zero_add, Nat.add_zero, Nat.mul_zero, nI_nn, nI_nn2, mI_le, mI_ne, mI_ne2, mI_ne3, mI_ne4, ne0, kl_0, kl_1, kl_2, kl_3, kl_4, kl_5, kl_6, kl_7, kl_8, kl_9, kl_10, kl_11, kl_12, kl_13, kl_14, kl_15, kl_16, kl_17, kl_18, kl_19, kl_20, kl_21, kl_22, kl_23, kl_32, kl_40, kl_48, kl_50, kl_53, kl_56, kl_57, kl_60, kl_61, kl_66, kl_97, kl_99, kl_100, kl_120, kl_122, kl_160, kl_200, kl_255, kl_300, kl_500, kl_600, kl_601, kl_999, kl_1000, kl_2048, kl_9999, and_self, and_true, true_and, and_false, false_and, not_false_eq_true, not_true_eq_false]
        exact this
      · refine ⟨fun h => absurd ((getD_some (by omega)).mp (h j (by omega) (by omega))) hb, fun _ => ?_⟩
        have hb2 : ¬ B (q + j) = (wl k).getD j 0 := fun h => hb h.symm
        simp (disch := omega) only [h2, h3, e1, e3, c1, hb2, Nat.add_sub_cancel, nm_s, bd1_s, bd2_s, bd3_s, gd_n, gd_ne, nI_clamp, nI_leI, nI_ltI, nI_eq, nI_add, pk_mul, pk_sub, up_r, upL_r, jrem_n, jmax_n, if_true, if_false, if_pos, if_neg, gd_i, Nat.zero_add, Nat.add_zero, Nat.mul_zero, nI_nn, nI_nn2, mI_le, mI_ne, mI_ne2, mI_ne3, mI_ne4, ne0, kl_0, kl_1, kl_2, kl_3, kl_4, kl_5, kl_6, kl_7, kl_8, kl_9, kl_10, kl_11, kl_12, kl_13, kl_14, kl_15, kl_16, kl_17, kl_18, kl_19, kl_20, kl_21, kl_22, kl_23, kl_32, kl_40, kl_48, kl_50, kl_53, kl_56, kl_57, kl_60, kl_61, kl_66, kl_97, kl_99, kl_100, kl_120, kl_122, kl_160, kl_200, kl_255, kl_300, kl_500, kl_600, kl_601, kl_999, kl_1000, kl_2048, kl_9999, and_self, and_true, true_and, and_false, false_and, not_false_eq_true, not_true_eq_false]
theorem isw {μ : Mem} {s q e k : Nat} {B : Nat → Nat} (hY : BY s B) (hC : CB s B μ) (h2 : μ 3 2 = nI e) (h3 : μ 3 3 = nI q) (he : e ≤ s) (hq : q ≤ e) (hk : k < 12) :
    (EQL B q e (wl k) → f2_isWord μ (nI (wa k)) (nI (wa k + (wl k).length)) = some (nI 1)) ∧ (¬ EQL B q e (wl k) → f2_isWord μ (nI (wa k)) (nI (wa k + (wl k).length)) = some (nI 0)) := by
  obtain ⟨-, w2, w3, w4⟩ := wl_len k hk
  have hs := hY.1
  have e3 : wa k + (wl k).length - wa k = (wl k).length := by omega
  unfold f2_isWord
  by_cases hl : e = q + (wl k).length
  · have := isw1 hY hC h2 h3 he hk hl FUEL 0 (by omega) (fuel_o (by omega))
    have e4 : e - q = (wl k).length := by omega
    simp (disch := omega) only [h2, h3, e3, e4, Nat.add_sub_cancel, nm_s, bd1_s, bd2_s, bd3_s, gd_n, gd_ne, nI_clamp, nI_leI, nI_ltI, nI_eq, nI_add, pk_mul, pk_sub, up_r, upL_r, jrem_n, jmax_n, if_true, if_false, if_pos, if_neg, gd_i, Nat.zero_add, Nat.add_zero, Nat.mul_zero, nI_nn, nI_nn2, mI_le, mI_ne, mI_ne2, mI_ne3, mI_ne4, ne0, kl_0, kl_1, kl_2, kl_3, kl_4, kl_5, kl_6, kl_7, kl_8, kl_9, kl_10, kl_11, kl_12, kl_13, kl_14, kl_15, kl_16, kl_17, kl_18, kl_19, kl_20, kl_21, kl_22, kl_23, kl_32, kl_40, kl_48, kl_50, kl_53, kl_56, kl_57, kl_60, kl_61, kl_66, kl_97, kl_99, kl_100, kl_120, kl_122, kl_160, kl_200, kl_255, kl_300, kl_500, kl_600, kl_601, kl_999, kl_1000, kl_2048, kl_9999, and_self, and_true, true_and, and_false, false_and, not_false_eq_true, not_true_eq_false]
    refine ⟨fun h => this.1 (fun i _ h2 => h.2 i h2), fun h => this.2 (fun h2 => h ⟨hl, fun i hi => h2 i (by omega) hi⟩)⟩
  · refine ⟨fun h => absurd h.1 hl, fun _ => ?_⟩
    have e4 : ¬ e - q = (wl k).length := by omega
    simp (disch := omega) only [h2, h3, e3, e4, Nat.add_sub_cancel, nm_s, bd1_s, bd2_s, bd3_s, gd_n, gd_ne, nI_clamp, nI_leI, nI_ltI, nI_eq, nI_add, pk_mul, pk_sub, up_r, upL_r, jrem_n, jmax_n, if_true, if_false, if_pos, if_neg, gd_i, Nat.zero_add, Nat.add_zero, Nat.mul_zero, nI_nn, nI_nn2, mI_le, mI_ne, mI_ne2, mI_ne3, mI_ne4, ne0, kl_0, kl_1, kl_2, kl_3, kl_4, kl_5, kl_6, kl_7, kl_8, kl_9, kl_10, kl_11, kl_12, kl_13, kl_14, kl_15, kl_16, kl_17, kl_18, kl_19, kl_20, kl_21, kl_22, kl_23, kl_32, kl_40, kl_48, kl_50, kl_53, kl_56, kl_57, kl_60, kl_61, kl_66, kl_97, kl_99, kl_100, kl_120, kl_122, kl_160, kl_200, kl_255, kl_300, kl_500, kl_600, kl_601, kl_999, kl_1000, kl_2048, kl_9999, and_self, and_true, true_and, and_false, false_and, not_false_eq_true, not_true_eq_false]
theorem rw3s {μ : Mem} {k : Nat} (hk : k < 12) (ht : μ 3 4 = nI 22) (x1 x2 : Int32) (n : Nat) : ∀ j, j ≤ (wl k).length → f2_readWord_3 (n + j) μ x1 x2 (nI (wa k + ((wl k).length - j))) = f2_readWord_3 n μ x1 x2 (nI (wa k + (wl k).length)) := by
  obtain ⟨-, w2, w3, w4⟩ := wl_len k hk
  intro j
  induction j with
  | zero => intro _; rfl
  | succ j ih =>
    intro hj
    obtain ⟨c1, c2, c3⟩ := ch_all μ hk (i := (wl k).length - (j + 1)) (by omega)
    rw [show n + (j + 1) = (n + j) + 1 by omega, f2_readWord_3]
    have e4 : wa k + ((wl k).length - (j + 1)) + 1 = wa k + ((wl k).length - j) := by omega
    simp (disch := omega) only [len_0, ht, c1, c2, e4, Nat.add_sub_cancel, nm_s, bd1_s, bd2_s, bd3_s, gd_n, gd_ne, nI_clamp, nI_leI, nI_ltI, nI_eq, nI_add, pk_mul, pk_sub, up_r, upL_r, jrem_n, jmax_n, if_true, if_false, if_pos, if_neg, gd_i, Nat.zero_add, Nat.add_zero, Nat.mul_zero, nI_nn, nI_nn2, mI_le, mI_ne, mI_ne2, mI_ne3, mI_ne4, ne0, kl_0, kl_1, kl_2, kl_3, kl_4, kl_5, kl_6, kl_7, kl_8, kl_9, kl_10, kl_11, kl_12, kl_13, kl_14, kl_15, kl_16, kl_17, kl_18, kl_19, kl_20, kl_21, kl_22, kl_23, kl_32, kl_40, kl_48, kl_50, kl_53, kl_56, kl_57, kl_60, kl_61, kl_66, kl_97, kl_99, kl_100, kl_120, kl_122, kl_160, kl_200, kl_255, kl_300, kl_500, kl_600, kl_601, kl_999, kl_1000, kl_2048, kl_9999, and_self, and_true, true_and, and_false, false_and, not_false_eq_true, not_true_eq_false]
    exact ih (by omega)
theorem rw3k {μ : Mem} {s q e k : Nat} {B : Nat → Nat} (hY : BY s B) (hC : CB s B μ) (h2 : μ 3 2 = nI e) (h3 : μ 3 3 = nI q) (he : e ≤ s) (hq : q ≤ e) (hk : k < 12) (ht : μ 3 4 = nI 22) (n : Nat) :
    (EQL B q e (wl k) → f2_readWord_3 (n + 1 + (wl k).length) μ (nI k) (nI (wa k)) (nI (wa k)) = f2_readWord_3 n (up μ 3 4 (nI k)) (nI (k + 1)) (nI (wa (k + 1))) (nI (wa (k + 1)))) ∧
    (¬ EQL B q e (wl k) → f2_readWord_3 (n + 1 + (wl k).length) μ (nI k) (nI (wa k)) (nI (wa k)) = f2_readWord_3 n μ (nI (k + 1)) (nI (wa (k + 1))) (nI (wa (k + 1)))) := by
  obtain ⟨w1, w2, w3, w4⟩ := wl_len k hk
  have h := rw3s hk ht (nI k) (nI (wa k)) (n + 1) (wl k).length (Nat.le_refl _)
  rw [Nat.sub_self] at h
  have h : f2_readWord_3 (n + 1 + (wl k).length) μ (nI k) (nI (wa k)) (nI (wa k)) = f2_readWord_3 (n + 1) μ (nI k) (nI (wa k)) (nI (wa k + (wl k).length)) := h
  rw [h, f2_readWord_3]
  have c1 := ch_sp μ hk
  have i1 := isw hY hC h2 h3 he hq hk
  rw [w1]
  by_cases hE : EQL B q e (wl k)
  · refine ⟨fun _ => ?_, fun h => absurd hE h⟩
    have i2 := i1.1 hE
    simp (disch := omega) only [len_0, ht, c1, i2, Nat.add_sub_cancel, nm_s, bd1_s, bd2_s, bd3_s, gd_n, gd_ne, nI_clamp, nI_leI, nI_ltI, nI_eq, nI_add, pk_mul, pk_sub, up_r, upL_r, jrem_n, jmax_n, if_true, if_false, if_pos, if_neg, gd_i, Nat.zero_add, Nat.add_zero, Nat.mul_zero, nI_nn, nI_nn2, mI_le, mI_ne, mI_ne2, mI_ne3, mI_ne4, ne0, kl_0, kl_1, kl_2, kl_3, kl_4, kl_5, kl_6, kl_7, kl_8, kl_9, kl_10, kl_11, kl_12, kl_13, kl_14, kl_15, kl_16, kl_17, kl_18, kl_19, kl_20, kl_21, kl_22, kl_23, kl_32, kl_40, kl_48, kl_50, kl_53, kl_56, kl_57, kl_60, kl_61, kl_66, kl_97, kl_99, kl_100, kl_120, kl_122, kl_160, kl_200, kl_255, kl_300, kl_500, kl_600, kl_601, kl_999, kl_1000, kl_2048, kl_9999, and_self, and_true, true_and, and_false, false_and, not_false_eq_true, not_true_eq_false]
  · refine ⟨fun h => absurd h hE, fun _ => ?_⟩
    have i2 := i1.2 hE
    simp (disch := omega) only [len_0, ht, c1, i2, Nat.add_sub_cancel, nm_s, bd1_s, bd2_s, bd3_s, gd_n, gd_ne, nI_clamp, nI_leI, nI_ltI, nI_eq, nI_add, pk_mul, pk_sub, up_r, upL_r, jrem_n, jmax_n, if_true, if_false, if_pos, if_neg, gd_i, Nat.zero_add, Nat.add_zero, Nat.mul_zero, nI_nn, nI_nn2, mI_le, mI_ne, mI_ne2, mI_ne3, mI_ne4, ne0, kl_0, kl_1, kl_2, kl_3, kl_4, kl_5, kl_6, kl_7, kl_8, kl_9, kl_10, kl_11, kl_12, kl_13, kl_14, kl_15, kl_16, kl_17, kl_18, kl_19, kl_20, kl_21, kl_22, kl_23, kl_32, kl_40, kl_48, kl_50, kl_53, kl_56, kl_57, kl_60, kl_61, kl_66, kl_97, kl_99, kl_100, kl_120, kl_122, kl_160, kl_200, kl_255, kl_300, kl_500, kl_600, kl_601, kl_999, kl_1000, kl_2048, kl_9999, and_self, and_true, true_and, and_false, false_and, not_false_eq_true, not_true_eq_false]
/-- the word between q and e: which, or 22 -/
def WD (B : Nat → Nat) (q e t : Nat) : Prop := (t < 12 ∧ EQL B q e (wl t)) ∨ (t = 22 ∧ ∀ k, k < 12 → ¬ EQL B q e (wl k))
theorem rw3 {s q e : Nat} {B : Nat → Nat} (hY : BY s B) (he : e ≤ s) (hq : q ≤ e) : ∀ (m k : Nat) (n : Nat), k + m = 12 → 60 - wa k < n → ∃ t, ((k ≤ t ∧ t < 12 ∧ EQL B q e (wl t)) ∨ (t = 22 ∧ ∀ k', k ≤ k' → k' < 12 → ¬ EQL B q e (wl k'))) ∧
    ∀ μ : Mem, CB s B μ → μ 3 2 = nI e → μ 3 3 = nI q → μ 3 4 = nI 22 → ∃ μ', f2_readWord_3 n μ (nI k) (nI (wa k)) (nI (wa k)) = some μ' ∧ μ' 3 4 = nI t ∧ ∀ a i, ¬ (a = 3 ∧ i = 4) → μ' a i = μ a i := by
  intro m
  induction m with
  | zero =>
    intro k n hk hn
    obtain rfl : k = 12 := by omega
    refine ⟨22, Or.inr ⟨rfl, fun k' h1 h2 => by omega⟩, fun μ hC h2 h3 h4 => ⟨μ, ?_, h4, fun _ _ _ => rfl⟩⟩
    obtain ⟨n, rfl⟩ : ∃ n', n = n' + 1 := ⟨n - 1, by omega⟩
    rw [f2_readWord_3, show wa 12 = 59 from rfl]
    simp (disch := omega) only [len_0, Nat.add_sub_cancel, nm_s, bd1_s, bd2_s, bd3_s, gd_n, gd_ne, nI_clamp, nI_leI, nI_ltI, nI_eq, nI_add, pk_mul, pk_sub, up_r, upL_r, jrem_n, jmax_n, if_true, if_false, if_pos, if_neg, gd_i, Nat.zero_add, Nat.add_zero, Nat.mul_zero, nI_nn, nI_nn2, mI_le, mI_ne, mI_ne2, mI_ne3, mI_ne4, ne0, kl_0, kl_1, kl_2, kl_3, kl_4, kl_5, kl_6, kl_7, kl_8, kl_9, kl_10, kl_11, kl_12, kl_13, kl_14, kl_15, kl_16, kl_17, kl_18, kl_19, kl_20, kl_21, kl_22, kl_23, kl_32, kl_40, kl_48, kl_50, kl_53, kl_56, kl_57, kl_60, kl_61, kl_66, kl_97, kl_99, kl_100, kl_120, kl_122, kl_160, kl_200, kl_255, kl_300, kl_500, kl_600, kl_601, kl_999, kl_1000, kl_2048, kl_9999, and_self, and_true, true_and, and_false, false_and, not_false_eq_true, not_true_eq_false]
  | succ m ih =>
    intro k n hk hn
    obtain ⟨w1, w2, w3, w4⟩ := wl_len k (by omega)
    obtain ⟨n', rfl⟩ : ∃ n', n = n' + 1 + (wl k).length := ⟨n - 1 - (wl k).length, by omega⟩
    by_cases hE : EQL B q e (wl k)
    · refine ⟨k, Or.inl ⟨Nat.le_refl _, by omega, hE⟩, fun μ hC h2 h3 h4 => ⟨up μ 3 4 (nI k), ?_, up_at, fun a i hh => ?_⟩⟩
      · rw [(rw3k hY hC h2 h3 he hq (by omega) h4 n').1 hE]
        obtain ⟨n'', rfl⟩ : ∃ n'', n' = n'' + 1 := ⟨n' - 1, by omega⟩
        rw [f2_readWord_3]
        have hne : ¬ k = 22 := by omega
        by_cases h59 : 59 ≤ wa (k + 1)
        · rw [if_pos (by rw [len_0, nI_leI (by omega) (by omega)]; exact h59)]
        · rw [if_neg (by rw [len_0, nI_leI (by omega) (by omega)]; exact h59), if_neg]
          rw [up_at]
          simp (disch := omega) only [hne, Nat.add_sub_cancel, nm_s, bd1_s, bd2_s, bd3_s, gd_n, gd_ne, nI_clamp, nI_leI, nI_ltI, nI_eq, nI_add, pk_mul, pk_sub, up_r, upL_r, jrem_n, jmax_n, if_true, if_false, if_pos, if_neg, gd_i, Nat.zero_add, Nat.add_zero, Nat.mul_zero, nI_nn, nI_nn2, mI_le, mI_ne, mI_ne2, mI_ne3, mI_ne4, ne0, kl_0, kl_1, kl_2, kl_3, kl_4, kl_5, kl_6, kl_7, kl_8, kl_9, kl_10, kl_11, kl_12, kl_13, kl_14, kl_15, kl_16, kl_17, kl_18, kl_19, kl_20, kl_21, kl_22, kl_23, kl_32, kl_40, kl_48, kl_50, kl_53, kl_56, kl_57, kl_60, kl_61, kl_66, kl_97, kl_99, kl_100, kl_120, kl_122, kl_160, kl_200, kl_255, kl_300, kl_500, kl_600, kl_601, kl_999, kl_1000, kl_2048, kl_9999, and_self, and_true, true_and, and_false, false_and, not_false_eq_true, not_true_eq_false]
      · rw [up_r, if_neg hh]
    · obtain ⟨t, h1, h2⟩ := ih (k + 1) n' (by omega) (by omega)
      refine ⟨t, ?_, fun μ hC hx2 hx3 hx4 => ?_⟩
      · rcases h1 with ⟨a1, a2, a3⟩ | ⟨a1, a2⟩
        · exact Or.inl ⟨by omega, a2, a3⟩
        · refine Or.inr ⟨a1, fun k' b1 b2 => ?_⟩
          by_cases e : k' = k
          · subst e; exact hE
          · exact a2 k' (by omega) b2
      · rw [(rw3k hY hC hx2 hx3 he hq (by omega) hx4 n').2 hE]
        exact h2 μ hC hx2 hx3 hx4
theorem rw3_0 {s q e : Nat} {B : Nat → Nat} (hY : BY s B) (he : e ≤ s) (hq : q ≤ e) {n : Nat} (hn : 60 < n) : ∃ t, WD B q e t ∧
    ∀ μ : Mem, CB s B μ → μ 3 2 = nI e → μ 3 3 = nI q → μ 3 4 = nI 22 → ∃ μ', f2_readWord_3 n μ (nI 0) (nI 0) (nI 0) = some μ' ∧ μ' 3 4 = nI t ∧ ∀ a i, ¬ (a = 3 ∧ i = 4) → μ' a i = μ a i := by
  obtain ⟨t, ht, hf⟩ := rw3 hY he hq 12 0 n (by omega) (by omega)
  rw [show wa 0 = 0 from rfl] at hf
  refine ⟨t, ?_, hf⟩
  rcases ht with ⟨-, a2, a3⟩ | ⟨a1, a2⟩
  · exact Or.inl ⟨a2, a3⟩
  · exact Or.inr ⟨a1, fun k hk => a2 k (by omega) hk⟩
theorem rw2_eq (μ : Mem) : f2_readWord_2 μ = f2_readWord_3 FUEL (up μ 3 4 (nI 22)) (nI 0) (nI 0) (nI 0) := by
  unfold f2_readWord_2
  rw [nm_s, kl_22, kl_0]
/-- runs -/
theorem run_ex (P : Nat → Prop) (B : Nat → Nat) (s : Nat) : ∀ (n q : Nat), q + n = s → ∃ e, q ≤ e ∧ e ≤ s ∧ (∀ j, q ≤ j → j < e → P (B j)) ∧ (e < s → ¬ P (B e)) := by
  intro n
  induction n with
  | zero => intro q h; exact ⟨q, Nat.le_refl _, by omega, fun j _ _ => by omega, fun _ => by omega⟩
  | succ n ih =>
    intro q h
    by_cases hp : P (B q)
    · obtain ⟨e, h1, h2, h3, h4⟩ := ih (q + 1) (by omega)
      refine ⟨e, by omega, h2, fun j a1 a2 => ?_, h4⟩
      by_cases e1 : j = q
      · subst e1; exact hp
      · exact h3 j (by omega) a2
    · exact ⟨q, Nat.le_refl _, by omega, fun j _ _ => by omega, fun _ => hp⟩
def isL (b : Nat) : Prop := 97 ≤ b ∧ b ≤ 122
def isD (b : Nat) : Prop := 48 ≤ b ∧ b ≤ 57
theorem cL_all : ∀ b, b < 256 → f2_isLetter (nI b) = (if 97 ≤ b ∧ b ≤ 122 then nI 1 else nI 0) ∧ f2_isDigit (nI b) = (if 48 ≤ b ∧ b ≤ 57 then nI 1 else nI 0) ∧ f6_in ((nI b).toInt64) (97 : Int64) (122 : Int64) = (if 97 ≤ b ∧ b ≤ 122 then nI 1 else nI 0) ∧ f6_in ((nI b).toInt64) (48 : Int64) (57 : Int64) = (if 48 ≤ b ∧ b ≤ 57 then nI 1 else nI 0) := by decide +kernel
theorem cLy {b : Nat} (hb : b ≤ 255) (h : isL b) : f2_isLetter (nI b) = nI 1 ∧ f6_in ((nI b).toInt64) (97 : Int64) (122 : Int64) = nI 1 := by
  have := cL_all b (by omega)
  unfold isL at h
  rw [if_pos h] at this
  exact ⟨this.1, this.2.2.1⟩
theorem cLn {b : Nat} (hb : b ≤ 255) (h : ¬ isL b) : f2_isLetter (nI b) = nI 0 ∧ f6_in ((nI b).toInt64) (97 : Int64) (122 : Int64) = nI 0 := by
  have := cL_all b (by omega)
  unfold isL at h
  rw [if_neg h] at this
  exact ⟨this.1, this.2.2.1⟩
theorem cDy {b : Nat} (hb : b ≤ 255) (h : isD b) : f2_isDigit (nI b) = nI 1 ∧ f6_in ((nI b).toInt64) (48 : Int64) (57 : Int64) = nI 1 := by
  have := cL_all b (by omega)
  unfold isD at h
  exact ⟨by rw [this.2.1, if_pos h], by rw [this.2.2.2, if_pos h]⟩
theorem cDn {b : Nat} (hb : b ≤ 255) (h : ¬ isD b) : f2_isDigit (nI b) = nI 0 ∧ f6_in ((nI b).toInt64) (48 : Int64) (57 : Int64) = nI 0 := by
  have := cL_all b (by omega)
  unfold isD at h
  exact ⟨by rw [this.2.1, if_neg h], by rw [this.2.2.2, if_neg h]⟩
theorem in_m1 : f6_in ((-1 : Int32).toInt64) (97 : Int64) (122 : Int64) = nI 0 ∧ f6_in ((-1 : Int32).toInt64) (48 : Int64) (57 : Int64) = nI 0 := by decide +kernel
/-- the class reads a word -/
theorem rdw {s q e : Nat} {B : Nat → Nat} (hY : BY s B) (hq : q ≤ e) (he : e ≤ s) (hP : ∀ j, q ≤ j → j < e → isL (B j)) (hN : e < s → ¬ isL (B e)) : ∃ t, WD B q e t ∧ ∀ (n p : Nat) (μ : Mem), q ≤ p → p ≤ e → e - p < n → CB s B μ → μ 3 2 = nI p → μ 3 3 = nI q → ∃ μ', f2_readWord_1 n μ = some μ' ∧ μ' 3 2 = nI e ∧ μ' 3 3 = nI q ∧ μ' 3 4 = nI t ∧ fA μ μ' := by
  have hs := hY.1
  obtain ⟨t, ht, hf⟩ := rw3_0 hY he hq (n := FUEL) (fuel_o (by omega))
  refine ⟨t, ht, ?_⟩
  intro n
  induction n with
  | zero => intro p μ _ _ h; omega
  | succ n ih =>
    intro p μ h1 h2 h3 hC e2 e3
    rw [f2_readWord_1]
    have hend : p = e → ∃ μ', f2_readWord_2 μ = some μ' ∧ μ' 3 2 = nI e ∧ μ' 3 3 = nI q ∧ μ' 3 4 = nI t ∧ fA μ μ' := by
      intro hpe
      subst hpe
      have f1 : fA μ (up μ 3 4 (nI 22)) := fA.rf.up (by omega)
      obtain ⟨μ', r1, r2, r3⟩ := hf (up μ 3 4 (nI 22)) (hC.fr f1) (by rw [up_r, if_neg (by omega)]; exact e2) (by rw [up_r, if_neg (by omega)]; exact e3) up_at
      exact ⟨μ', by rw [rw2_eq]; exact r1, by rw [r3 _ _ (by omega), up_r, if_neg (by omega)]; exact e2, by rw [r3 _ _ (by omega), up_r, if_neg (by omega)]; exact e3, r2, f1.tr fun k i hh => r3 k i (by omega)⟩
    by_cases hps : s ≤ p
    · have hl := hC.1
      simp (disch := omega) only [e2, hl, Nat.add_sub_cancel, nm_s, bd1_s, bd2_s, bd3_s, gd_n, gd_ne, nI_clamp, nI_leI, nI_ltI, nI_eq, nI_add, pk_mul, pk_sub, up_r, upL_r, jrem_n, jmax_n, if_true, if_false, if_pos, if_neg, gd_i, Nat.zero_add, Nat.add_zero, Nat.mul_zero, nI_nn, nI_nn2, mI_le, mI_ne, mI_ne2, mI_ne3, mI_ne4, ne0, kl_0, kl_1, kl_2, kl_3, kl_4, kl_5, kl_6, kl_7, kl_8, kl_9, kl_10, kl_11, kl_12, kl_13, kl_14, kl_15, kl_16, kl_17, kl_18, kl_19, kl_20, kl_21, kl_22, kl_23, kl_32, kl_40, kl_48, kl_50, kl_53, kl_56, kl_57, kl_60, kl_61, kl_66, kl_97, kl_99, kl_100, kl_120, kl_122, kl_160, kl_200, kl_255, kl_300, kl_500, kl_600, kl_601, kl_999, kl_1000, kl_2048, kl_9999, and_self, and_true, true_and, and_false, false_and, not_false_eq_true, not_true_eq_false]
      exact hend (by omega)
    · have hl := hC.1
      have hb := hC.2 p (by omega)
      have hb2 := hY.2 p (by omega)
      by_cases hpe : p = e
      · have c1 := (cLn hb2 (by rw [hpe]; exact hN (by omega))).1
        simp (disch := omega) only [e2, hl, hb, c1, Nat.add_sub_cancel, nm_s, bd1_s, bd2_s, bd3_s, gd_n, gd_ne, nI_clamp, nI_leI, nI_ltI, nI_eq, nI_add, pk_mul, pk_sub, up_r, upL_r, jrem_n, jmax_n, if_true, if_false, if_pos, if_neg, gd_i, Nat.zero_add, Nat.add_zero, Nat.mul_zero, nI_nn, nI_nn2, mI_le, mI_ne, mI_ne2, mI_ne3, mI_ne4, ne0, kl_0, kl_1, kl_2, kl_3, kl_4, kl_5, kl_6, kl_7, kl_8, kl_9, kl_10, kl_11, kl_12, kl_13, kl_14, kl_15, kl_16, kl_17, kl_18, kl_19, kl_20, kl_21, kl_22, kl_23, kl_32, kl_40, kl_48, kl_50, kl_53, kl_56, kl_57, kl_60, kl_61, kl_66, kl_97, kl_99, kl_100, kl_120, kl_122, kl_160, kl_200, kl_255, kl_300, kl_500, kl_600, kl_601, kl_999, kl_1000, kl_2048, kl_9999, and_self, and_true, true_and, and_false, false_and, not_false_eq_true, not_true_eq_false]
        exact hend hpe
      · have c1 := (cLy hb2 (hP p h1 (by omega))).1
        simp (disch := omega) only [e2, hl, hb, c1, Nat.add_sub_cancel, nm_s, bd1_s, bd2_s, bd3_s, gd_n, gd_ne, nI_clamp, nI_leI, nI_ltI, nI_eq, nI_add, pk_mul, pk_sub, up_r, upL_r, jrem_n, jmax_n, if_true, if_false, if_pos, if_neg, gd_i, Nat.zero_add, Nat.add_zero, Nat.mul_zero, nI_nn, nI_nn2, mI_le, mI_ne, mI_ne2, mI_ne3, mI_ne4, ne0, kl_0, kl_1, kl_2, kl_3, kl_4, kl_5, kl_6, kl_7, kl_8, kl_9, kl_10, kl_11, kl_12, kl_13, kl_14, kl_15, kl_16, kl_17, kl_18, kl_19, kl_20, kl_21, kl_22, kl_23, kl_32, kl_40, kl_48, kl_50, kl_53, kl_56, kl_57, kl_60, kl_61, kl_66, kl_97, kl_99, kl_100, kl_120, kl_122, kl_160, kl_200, kl_255, kl_300, kl_500, kl_600, kl_601, kl_999, kl_1000, kl_2048, kl_9999, and_self, and_true, true_and, and_false, false_and, not_false_eq_true, not_true_eq_false]
        have f1 : fA μ (up μ 3 2 (nI (p + 1))) := fA.rf.up (by omega)
        obtain ⟨μ', r1, r2, r3, r4, r5⟩ := ih (p + 1) _ (by omega) (by omega) (by omega) (hC.fr f1) up_at (by rw [up_r, if_neg (by omega)]; exact e3)
        exact ⟨μ', r1, r2, r3, r4, f1.tr r5⟩
/-- digits -/
def dv (B : Nat → Nat) (q : Nat) : Nat → Nat
  | 0 => 0
  | j + 1 => 10 * dv B q j + (B (q + j) - 48)
theorem dv_le {B : Nat → Nat} {q : Nat} : ∀ j, (∀ i, i < j → isD (B (q + i))) → dv B q j + 1 ≤ 10 ^ j := by
  intro j
  induction j with
  | zero => intro _; exact Nat.le_refl 1
  | succ j ih =>
    intro h
    have h1 := ih (fun i hi => h i (by omega))
    have h2 := h j (by omega)
    unfold isD at h2
    show 10 * dv B q j + (B (q + j) - 48) + 1 ≤ 10 ^ (j + 1)
    rw [Nat.pow_succ]
    omega
theorem dv4 {B : Nat → Nat} {q j : Nat} (hj : j ≤ 4) (h : ∀ i, i < j → isD (B (q + i))) : dv B q j ≤ 9999 := by
  have h1 := dv_le j h
  have h2 : 10 ^ j ≤ 10 ^ 4 := Nat.pow_le_pow_right (by decide) hj
  omega
theorem rdn {s q e : Nat} {B : Nat → Nat} (hY : BY s B) (hq : q ≤ e) (he : e ≤ s) (hP : ∀ j, q ≤ j → j < e → isD (B j)) (hN : e < s → ¬ isD (B e)) : ∀ (n p : Nat) (μ : Mem), q ≤ p → p ≤ e → e - p < n → CB s B μ → μ 3 2 = nI p → μ 3 3 = nI q → (p - q ≤ 4 → μ 3 5 = nI (dv B q (p - q))) → ∃ μ', f2_readNumber_1 n μ = some μ' ∧ μ' 3 2 = nI e ∧ μ' 3 3 = nI q ∧ μ' 3 4 = nI (if e - q ≤ 4 then 20 else 22) ∧ (e - q ≤ 4 → μ' 3 5 = nI (dv B q (e - q))) ∧ fA μ μ' := by
  have hs := hY.1
  intro n
  induction n with
  | zero => intro p μ _ _ h; omega
  | succ n ih =>
    intro p μ h1 h2 h3 hC e2 e3 e5
    rw [f2_readNumber_1]
    have hend : p = e → ∃ μ', f2_readNumber_2 μ = some μ' ∧ μ' 3 2 = nI e ∧ μ' 3 3 = nI q ∧ μ' 3 4 = nI (if e - q ≤ 4 then 20 else 22) ∧ (e - q ≤ 4 → μ' 3 5 = nI (dv B q (e - q))) ∧ fA μ μ' := by
      intro hpe
      subst hpe
      unfold f2_readNumber_2
      by_cases h4 : p - q ≤ 4
      · rw [if_pos h4]
        refine ⟨up μ 3 4 (nI 20), ?_, by rw [up_r, if_neg (by omega)]; exact e2, by rw [up_r, if_neg (by omega)]; exact e3, up_at, fun _ => by rw [up_r, if_neg (by omega)]; exact e5 h4, fA.rf.up (by omega)⟩
        simp (disch := omega) only [e2, e3, h4, Nat.add_sub_cancel, nm_s, bd1_s, bd2_s, bd3_s, gd_n, gd_ne, nI_clamp, nI_leI, nI_ltI, nI_eq, nI_add, pk_mul, pk_sub, up_r, upL_r, jrem_n, jmax_n, if_true, if_false, if_pos, if_neg, gd_i, Nat.zero_add, Nat.add_zero, Nat.mul_zero, nI_nn, nI_nn2, mI_le, mI_ne, mI_ne2, mI_ne3, mI_ne4, ne0, kl_0, kl_1, kl_2, kl_3, kl_4, kl_5, kl_6, kl_7, kl_8, kl_9, kl_10, kl_11, kl_12, kl_13, kl_14, kl_15, kl_16, kl_17, kl_18, kl_19, kl_20, kl_21, kl_22, kl_23, kl_32, kl_40, kl_48, kl_50, kl_53, kl_56, kl_57, kl_60, kl_61, kl_66, kl_97, kl_99, kl_100, kl_120, kl_122, kl_160, kl_200, kl_255, kl_300, kl_500, kl_600, kl_601, kl_999, kl_1000, kl_2048, kl_9999, and_self, and_true, true_and, and_false, false_and, not_false_eq_true, not_true_eq_false]
      · rw [if_neg h4]
        refine ⟨up μ 3 4 (nI 22), ?_, by rw [up_r, if_neg (by omega)]; exact e2, by rw [up_r, if_neg (by omega)]; exact e3, up_at, fun h => absurd h h4, fA.rf.up (by omega)⟩
        simp (disch := omega) only [e2, e3, h4, Nat.add_sub_cancel, nm_s, bd1_s, bd2_s, bd3_s, gd_n, gd_ne, nI_clamp, nI_leI, nI_ltI, nI_eq, nI_add, pk_mul, pk_sub, up_r, upL_r, jrem_n, jmax_n, if_true, if_false, if_pos, if_neg, gd_i, Nat.zero_add, Nat.add_zero, Nat.mul_zero, nI_nn, nI_nn2, mI_le, mI_ne, mI_ne2, mI_ne3, mI_ne4, ne0, kl_0, kl_1, kl_2, kl_3, kl_4, kl_5, kl_6, kl_7, kl_8, kl_9, kl_10, kl_11, kl_12, kl_13, kl_14, kl_15, kl_16, kl_17, kl_18, kl_19, kl_20, kl_21, kl_22, kl_23, kl_32, kl_40, kl_48, kl_50, kl_53, kl_56, kl_57, kl_60, kl_61, kl_66, kl_97, kl_99, kl_100, kl_120, kl_122, kl_160, kl_200, kl_255, kl_300, kl_500, kl_600, kl_601, kl_999, kl_1000, kl_2048, kl_9999, and_self, and_true, true_and, and_false, false_and, not_false_eq_true, not_true_eq_false]
    by_cases hps : s ≤ p
    · have hl := hC.1
      simp (disch := omega) only [e2, hl, Nat.add_sub_cancel, nm_s, bd1_s, bd2_s, bd3_s, gd_n, gd_ne, nI_clamp, nI_leI, nI_ltI, nI_eq, nI_add, pk_mul, pk_sub, up_r, upL_r, jrem_n, jmax_n, if_true, if_false, if_pos, if_neg, gd_i, Nat.zero_add, Nat.add_zero, Nat.mul_zero, nI_nn, nI_nn2, mI_le, mI_ne, mI_ne2, mI_ne3, mI_ne4, ne0, kl_0, kl_1, kl_2, kl_3, kl_4, kl_5, kl_6, kl_7, kl_8, kl_9, kl_10, kl_11, kl_12, kl_13, kl_14, kl_15, kl_16, kl_17, kl_18, kl_19, kl_20, kl_21, kl_22, kl_23, kl_32, kl_40, kl_48, kl_50, kl_53, kl_56, kl_57, kl_60, kl_61, kl_66, kl_97, kl_99, kl_100, kl_120, kl_122, kl_160, kl_200, kl_255, kl_300, kl_500, kl_600, kl_601, kl_999, kl_1000, kl_2048, kl_9999, and_self, and_true, true_and, and_false, false_and, not_false_eq_true, not_true_eq_false]
      exact hend (by omega)
    · have hl := hC.1
      have hb := hC.2 p (by omega)
      have hb2 := hY.2 p (by omega)
      by_cases hpe : p = e
      · have c1 := (cDn hb2 (by rw [hpe]; exact hN (by omega))).1
        simp (disch := omega) only [e2, hl, hb, c1, Nat.add_sub_cancel, nm_s, bd1_s, bd2_s, bd3_s, gd_n, gd_ne, nI_clamp, nI_leI, nI_ltI, nI_eq, nI_add, pk_mul, pk_sub, up_r, upL_r, jrem_n, jmax_n, if_true, if_false, if_pos, if_neg, gd_i, Nat.zero_add, Nat.add_zero, Nat.mul_zero, nI_nn, nI_nn2, mI_le, mI_ne, mI_ne2, mI_ne3, mI_ne4, ne0, kl_0, kl_1, kl_2, kl_3, kl_4, kl_5, kl_6, kl_7, kl_8, kl_9, kl_10, kl_11, kl_12, kl_13, kl_14, kl_15, kl_16, kl_17, kl_18, kl_19, kl_20, kl_21, kl_22, kl_23, kl_32, kl_40, kl_48, kl_50, kl_53, kl_56, kl_57, kl_60, kl_61, kl_66, kl_97, kl_99, kl_100, kl_120, kl_122, kl_160, kl_200, kl_255, kl_300, kl_500, kl_600, kl_601, kl_999, kl_1000, kl_2048, kl_9999, and_self, and_true, true_and, and_false, false_and, not_false_eq_true, not_true_eq_false]
        exact hend hpe
      · have hd := hP p h1 (by omega)
        have c1 := (cDy hb2 hd).1
        simp (disch := omega) only [e2, hl, hb, c1, Nat.add_sub_cancel, nm_s, bd1_s, bd2_s, bd3_s, gd_n, gd_ne, nI_clamp, nI_leI, nI_ltI, nI_eq, nI_add, pk_mul, pk_sub, up_r, upL_r, jrem_n, jmax_n, if_true, if_false, if_pos, if_neg, gd_i, Nat.zero_add, Nat.add_zero, Nat.mul_zero, nI_nn, nI_nn2, mI_le, mI_ne, mI_ne2, mI_ne3, mI_ne4, ne0, kl_0, kl_1, kl_2, kl_3, kl_4, kl_5, kl_6, kl_7, kl_8, kl_9, kl_10, kl_11, kl_12, kl_13, kl_14, kl_15, kl_16, kl_17, kl_18, kl_19, kl_20, kl_21, kl_22, kl_23, kl_32, kl_40, kl_48, kl_50, kl_53, kl_56, kl_57, kl_60, kl_61, kl_66, kl_97, kl_99, kl_100, kl_120, kl_122, kl_160, kl_200, kl_255, kl_300, kl_500, kl_600, kl_601, kl_999, kl_1000, kl_2048, kl_9999, and_self, and_true, true_and, and_false, false_and, not_false_eq_true, not_true_eq_false]
        have f1 : fA μ (up (up μ 3 5 (nI 10 * μ 3 5 + nI (B p) - nI 48)) 3 2 (nI (p + 1))) := (fA.rf.up (by omega)).up (by omega)
        obtain ⟨μ', r1, r2, r3, r4, r5, r6⟩ := ih (p + 1) _ (by omega) (by omega) (by omega) (hC.fr f1) up_at (by rw [up_r, if_neg (by omega), up_r, if_neg (by omega)]; exact e3) (fun h4 => by
          have h5 := e5 (by omega)
          have h6 := dv4 (B := B) (q := q) (j := p - q) (by omega) (fun i hi => hP _ (by omega) (by omega))
          unfold isD at hd
          rw [up_r, if_neg (by omega), up_at, h5, show p + 1 - q = (p - q) + 1 by omega]
          show _ = nI (10 * dv B q (p - q) + (B (q + (p - q)) - 48))
          rw [show q + (p - q) = p by omega, show 10 * dv B q (p - q) + (B p - 48) = 10 * dv B q (p - q) + B p - 48 by omega]
          simp (disch := omega) only [Nat.add_sub_cancel, nm_s, bd1_s, bd2_s, bd3_s, gd_n, gd_ne, nI_clamp, nI_leI, nI_ltI, nI_eq, nI_add, pk_mul, pk_sub, up_r, upL_r, jrem_n, jmax_n, if_true, if_false, if_pos, if_neg, gd_i, Nat.zero_add, Nat.add_zero, Nat.mul_zero, nI_nn, nI_nn2, mI_le, mI_ne, mI_ne2, mI_ne3, mI_ne4, ne0, kl_0, kl_1, kl_2, kl_3, kl_4, kl_5, kl_6, kl_7, kl_8, kl_9, kl_10, kl_11, kl_12, kl_13, kl_14, kl_15, kl_16, kl_17, kl_18, kl_19, kl_20, kl_21, kl_22, kl_23, kl_32, kl_40, kl_48, kl_50, kl_53, kl_56, kl_57, kl_60, kl_61, kl_66, kl_97, kl_99, kl_100, kl_120, kl_122, kl_160, kl_200, kl_255, kl_300, kl_500, kl_600, kl_601, kl_999, kl_1000, kl_2048, kl_9999, and_self, and_true, true_and, and_false, false_and, not_false_eq_true, not_true_eq_false])
        exact ⟨μ', r1, r2, r3, r4, r5, f1.tr r6⟩
