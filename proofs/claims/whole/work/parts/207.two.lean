/-! two ways: rows laid, gaps, meetings -/
def fX (k0 : Nat) (μ μ' : Mem) : Prop := ∀ k i, k ≠ k0 → μ' k i = μ k i
theorem fX.rf {k0 : Nat} {μ : Mem} : fX k0 μ μ := fun _ _ _ => rfl
theorem fX.up {k0 i : Nat} {μ μ1 : Mem} {v : Int32} (h : fX k0 μ μ1) : fX k0 μ (up μ1 k0 i v) := fun k' i' q => by
  rw [up_r, if_neg (by omega)]
  exact h k' i' q
theorem fX.c {k0 : Nat} {μ μ1 : Mem} (h : fX k0 μ μ1) (hk : (7 ≤ k0 ∧ k0 ≤ 11) ∨ (50 ≤ k0 ∧ k0 ≤ 52)) : fC μ μ1 := fun k i q => h k i (by omega)
theorem fX.m {k0 : Nat} {μ μ1 : Mem} (h : fX k0 μ μ1) (hk : 9 ≤ k0 ∧ k0 ≤ 12) : fM μ μ1 := fun k i q => h k i (by omega)
theorem WC.fx {μ μ' : Mem} {j k : Nat} {g : Gw} (hk : k < 14) (h : fX k μ μ') (w : WC μ j g) : WC μ' j g := by
  obtain ⟨c0, c1, c2, c3, c4⟩ := w
  exact ⟨by rw [h _ _ (by omega)]; exact c0, by rw [h _ _ (by omega)]; exact c1, by rw [h _ _ (by omega)]; exact c2, fun i hi => by rw [h _ _ (by omega)]; exact c3 i hi, fun i hi => by rw [h _ _ (by omega)]; exact c4 i hi⟩
theorem WM.f2 {μ μ' : Mem} {w : Nat} {g : Gw} (h : ∀ k i, k ≠ 10 → k ≠ 11 → μ' k i = μ k i) (c : WM μ w g) : WM μ' w g := by
  obtain ⟨c0, c1, c2, c3, c4⟩ := c
  exact ⟨fun q => ⟨by rw [h _ _ (by omega) (by omega)]; exact (c0 q).1, by rw [h _ _ (by omega) (by omega)]; exact (c0 q).2⟩, c1, by rw [h _ _ (by omega) (by omega)]; exact c2, fun i hi => by rw [h _ _ (by omega) (by omega)]; exact c3 i hi, fun i hi => by rw [h _ _ (by omega) (by omega)]; exact c4 i hi⟩
theorem lay1 {F j k : Nat} {g : Gw} {μ0 : Mem} (hG : Gok F g) (hF : F ≤ 999) (hk : k < 14) (hC : WC μ0 j g) : ∀ (n c : Nat) (μ : Mem), c ≤ 601 → 601 - c < n → fX k μ0 μ → (∀ i, i < c → μ k i = nI (AT F g i)) →
    ∃ μ', f4_lay_1 n μ j k (nI F) (nI c) = some μ' ∧ fX k μ0 μ' ∧ ∀ i, i ≤ 600 → μ' k i = nI (AT F g i) := by
  intro n
  induction n with
  | zero => intro c μ _ h; omega
  | succ n ih =>
    intro c μ hc hn hf hv
    by_cases hc6 : c = 601
    · subst hc6
      exact ⟨μ, by rw [f4_lay_1]; simp (disch := omega) only [Nat.add_sub_cancel, nm_s, bd1_s, bd2_s, bd3_s, gd_n, gd_ne, nI_clamp, nI_leI, nI_ltI, nI_eq, nI_add, pk_mul, pk_sub, up_r, upL_r, jrem_n, jmax_n, if_true, if_false, if_pos, if_neg, gd_i, Nat.zero_add, Nat.add_zero, Nat.mul_zero, nI_nn, nI_nn2, mI_le, mI_ne, mI_ne2, mI_ne3, mI_ne4, ne0, kl_0, kl_1, kl_2, kl_3, kl_4, kl_5, kl_6, kl_7, kl_8, kl_9, kl_10, kl_11, kl_12, kl_13, kl_14, kl_15, kl_16, kl_17, kl_18, kl_19, kl_20, kl_21, kl_22, kl_23, kl_32, kl_40, kl_48, kl_50, kl_53, kl_56, kl_57, kl_60, kl_61, kl_66, kl_97, kl_99, kl_100, kl_120, kl_122, kl_160, kl_200, kl_255, kl_300, kl_500, kl_600, kl_601, kl_999, kl_1000, kl_2048, kl_9999], hf, fun i hi => hv i (by omega)⟩
    · have e1 := AT_C hG hF (hC.fx hk hf) (m := c) (by omega)
      rw [f4_lay_1]
      simp (disch := omega) only [e1, Nat.add_sub_cancel, nm_s, bd1_s, bd2_s, bd3_s, gd_n, gd_ne, nI_clamp, nI_leI, nI_ltI, nI_eq, nI_add, pk_mul, pk_sub, up_r, upL_r, jrem_n, jmax_n, if_true, if_false, if_pos, if_neg, gd_i, Nat.zero_add, Nat.add_zero, Nat.mul_zero, nI_nn, nI_nn2, mI_le, mI_ne, mI_ne2, mI_ne3, mI_ne4, ne0, kl_0, kl_1, kl_2, kl_3, kl_4, kl_5, kl_6, kl_7, kl_8, kl_9, kl_10, kl_11, kl_12, kl_13, kl_14, kl_15, kl_16, kl_17, kl_18, kl_19, kl_20, kl_21, kl_22, kl_23, kl_32, kl_40, kl_48, kl_50, kl_53, kl_56, kl_57, kl_60, kl_61, kl_66, kl_97, kl_99, kl_100, kl_120, kl_122, kl_160, kl_200, kl_255, kl_300, kl_500, kl_600, kl_601, kl_999, kl_1000, kl_2048, kl_9999]
      refine ih (c + 1) _ (by omega) (by omega) hf.up (fun i hi => ?_)
      rw [up_r]
      by_cases hic : i = c
      · subst hic
        rw [if_pos ⟨rfl, rfl⟩]
      · rw [if_neg (by omega)]
        exact hv i (by omega)
theorem layC {F j k : Nat} {g : Gw} {μ : Mem} (hG : Gok F g) (hF : F ≤ 999) (hk : k < 14) (hC : WC μ j g) : ∃ μ', f4_lay μ j k (nI F) = some μ' ∧ fX k μ μ' ∧ ∀ i, i ≤ 600 → μ' k i = nI (AT F g i) := by
  obtain ⟨μ', h1, h2, h3⟩ := lay1 hG hF hk hC FUEL 0 μ (by omega) (fuel_o (by omega)) fX.rf (fun i hi => by omega)
  exact ⟨μ', h1, h2, h3⟩
/-- the reference's two rows -/
def fY (μ μ' : Mem) : Prop := ∀ k i, k ≠ 10 → k ≠ 11 → μ' k i = μ k i
theorem fY.m {μ μ1 : Mem} (h : fY μ μ1) : fM μ μ1 := fun k i q => h k i (by omega) (by omega)
theorem fY.up {k i : Nat} {μ μ1 : Mem} {v : Int32} (h : fY μ μ1) (hk : k = 10 ∨ k = 11) : fY μ (up μ1 k i v) := fun k' i' q q2 => by
  rw [up_r, if_neg (by omega)]
  exact h k' i' q q2
theorem lays1 {F a b : Nat} {ga gb : Gw} {μ0 : Mem} {ν : Lem} (hF : F ≤ 999) (hGa : Gok F ga) (hGb : Gok F gb) (ha : a ≤ 6) (hb : b ≤ 6) (hMa : WM μ0 a ga) (hMb : WM μ0 b gb) (h7 : μ0 0 7 = nI F) : ∀ (n c : Nat) (μ : Mem), c ≤ 601 → 601 - c < n → fY μ0 μ → (∀ i, i < c → μ 10 i = nI (AT F ga i) ∧ μ 11 i = nI (AT F gb i)) →
    ∃ μ', f6_lays_1 n μ ν (nI a) (nI b) (nI c) = some (μ', ν) ∧ fY μ0 μ' ∧ ∀ i, i ≤ 600 → μ' 10 i = nI (AT F ga i) ∧ μ' 11 i = nI (AT F gb i) := by
  intro n
  induction n with
  | zero => intro c μ _ h; omega
  | succ n ih =>
    intro c μ hc hn hf hv
    by_cases hc6 : c = 601
    · subst hc6
      exact ⟨μ, by rw [f6_lays_1]; simp (disch := omega) only [Nat.add_sub_cancel, nm_s, bd1_s, bd2_s, bd3_s, gd_n, gd_ne, nI_clamp, nI_leI, nI_ltI, nI_eq, nI_add, pk_mul, pk_sub, up_r, upL_r, jrem_n, jmax_n, if_true, if_false, if_pos, if_neg, gd_i, Nat.zero_add, Nat.add_zero, Nat.mul_zero, nI_nn, nI_nn2, mI_le, mI_ne, mI_ne2, mI_ne3, mI_ne4, ne0, kl_0, kl_1, kl_2, kl_3, kl_4, kl_5, kl_6, kl_7, kl_8, kl_9, kl_10, kl_11, kl_12, kl_13, kl_14, kl_15, kl_16, kl_17, kl_18, kl_19, kl_20, kl_21, kl_22, kl_23, kl_32, kl_40, kl_48, kl_50, kl_53, kl_56, kl_57, kl_60, kl_61, kl_66, kl_97, kl_99, kl_100, kl_120, kl_122, kl_160, kl_200, kl_255, kl_300, kl_500, kl_600, kl_601, kl_999, kl_1000, kl_2048, kl_9999], hf, fun i hi => hv i (by omega)⟩
    · have e1 := AT_M (ν := ν) hGa hF (hMa.f2 hf) (by rw [hf _ _ (by omega) (by omega)]; exact h7) ha (m := c) (by omega)
      have hf2 : fY μ0 (up μ 10 c (nI (AT F ga c))) := hf.up (Or.inl rfl)
      have e2 := AT_M (ν := ν) hGb hF (hMb.f2 hf2) (by rw [hf2 _ _ (by omega) (by omega)]; exact h7) hb (m := c) (by omega)
      rw [f6_lays_1]
      simp (disch := omega) only [e1, e2, Nat.add_sub_cancel, nm_s, bd1_s, bd2_s, bd3_s, gd_n, gd_ne, nI_clamp, nI_leI, nI_ltI, nI_eq, nI_add, pk_mul, pk_sub, up_r, upL_r, jrem_n, jmax_n, if_true, if_false, if_pos, if_neg, gd_i, Nat.zero_add, Nat.add_zero, Nat.mul_zero, nI_nn, nI_nn2, mI_le, mI_ne, mI_ne2, mI_ne3, mI_ne4, ne0, kl_0, kl_1, kl_2, kl_3, kl_4, kl_5, kl_6, kl_7, kl_8, kl_9, kl_10, kl_11, kl_12, kl_13, kl_14, kl_15, kl_16, kl_17, kl_18, kl_19, kl_20, kl_21, kl_22, kl_23, kl_32, kl_40, kl_48, kl_50, kl_53, kl_56, kl_57, kl_60, kl_61, kl_66, kl_97, kl_99, kl_100, kl_120, kl_122, kl_160, kl_200, kl_255, kl_300, kl_500, kl_600, kl_601, kl_999, kl_1000, kl_2048, kl_9999]
      refine ih (c + 1) _ (by omega) (by omega) (hf2.up (Or.inr rfl)) (fun i hi => ?_)
      by_cases hic : i = c
      · subst hic
        exact ⟨by simp (disch := omega) only [Nat.add_sub_cancel, nm_s, bd1_s, bd2_s, bd3_s, gd_n, gd_ne, nI_clamp, nI_leI, nI_ltI, nI_eq, nI_add, pk_mul, pk_sub, up_r, upL_r, jrem_n, jmax_n, if_true, if_false, if_pos, if_neg, gd_i, Nat.zero_add, Nat.add_zero, Nat.mul_zero, nI_nn, nI_nn2, mI_le, mI_ne, mI_ne2, mI_ne3, mI_ne4, ne0, kl_0, kl_1, kl_2, kl_3, kl_4, kl_5, kl_6, kl_7, kl_8, kl_9, kl_10, kl_11, kl_12, kl_13, kl_14, kl_15, kl_16, kl_17, kl_18, kl_19, kl_20, kl_21, kl_22, kl_23, kl_32, kl_40, kl_48, kl_50, kl_53, kl_56, kl_57, kl_60, kl_61, kl_66, kl_97, kl_99, kl_100, kl_120, kl_122, kl_160, kl_200, kl_255, kl_300, kl_500, kl_600, kl_601, kl_999, kl_1000, kl_2048, kl_9999], by simp (disch := omega) only [Nat.add_sub_cancel, nm_s, bd1_s, bd2_s, bd3_s, gd_n, gd_ne, nI_clamp, nI_leI, nI_ltI, nI_eq, nI_add, pk_mul, pk_sub, up_r, upL_r, jrem_n, jmax_n, if_true, if_false, if_pos, if_neg, gd_i, Nat.zero_add, Nat.add_zero, Nat.mul_zero, nI_nn, nI_nn2, mI_le, mI_ne, mI_ne2, mI_ne3, mI_ne4, ne0, kl_0, kl_1, kl_2, kl_3, kl_4, kl_5, kl_6, kl_7, kl_8, kl_9, kl_10, kl_11, kl_12, kl_13, kl_14, kl_15, kl_16, kl_17, kl_18, kl_19, kl_20, kl_21, kl_22, kl_23, kl_32, kl_40, kl_48, kl_50, kl_53, kl_56, kl_57, kl_60, kl_61, kl_66, kl_97, kl_99, kl_100, kl_120, kl_122, kl_160, kl_200, kl_255, kl_300, kl_500, kl_600, kl_601, kl_999, kl_1000, kl_2048, kl_9999]⟩
      · have := hv i (by omega)
        exact ⟨by simp (disch := omega) only [Nat.add_sub_cancel, nm_s, bd1_s, bd2_s, bd3_s, gd_n, gd_ne, nI_clamp, nI_leI, nI_ltI, nI_eq, nI_add, pk_mul, pk_sub, up_r, upL_r, jrem_n, jmax_n, if_true, if_false, if_pos, if_neg, gd_i, Nat.zero_add, Nat.add_zero, Nat.mul_zero, nI_nn, nI_nn2, mI_le, mI_ne, mI_ne2, mI_ne3, mI_ne4, ne0, kl_0, kl_1, kl_2, kl_3, kl_4, kl_5, kl_6, kl_7, kl_8, kl_9, kl_10, kl_11, kl_12, kl_13, kl_14, kl_15, kl_16, kl_17, kl_18, kl_19, kl_20, kl_21, kl_22, kl_23, kl_32, kl_40, kl_48, kl_50, kl_53, kl_56, kl_57, kl_60, kl_61, kl_66, kl_97, kl_99, kl_100, kl_120, kl_122, kl_160, kl_200, kl_255, kl_300, kl_500, kl_600, kl_601, kl_999, kl_1000, kl_2048, kl_9999]; exact this.1, by simp (disch := omega) only [Nat.add_sub_cancel, nm_s, bd1_s, bd2_s, bd3_s, gd_n, gd_ne, nI_clamp, nI_leI, nI_ltI, nI_eq, nI_add, pk_mul, pk_sub, up_r, upL_r, jrem_n, jmax_n, if_true, if_false, if_pos, if_neg, gd_i, Nat.zero_add, Nat.add_zero, Nat.mul_zero, nI_nn, nI_nn2, mI_le, mI_ne, mI_ne2, mI_ne3, mI_ne4, ne0, kl_0, kl_1, kl_2, kl_3, kl_4, kl_5, kl_6, kl_7, kl_8, kl_9, kl_10, kl_11, kl_12, kl_13, kl_14, kl_15, kl_16, kl_17, kl_18, kl_19, kl_20, kl_21, kl_22, kl_23, kl_32, kl_40, kl_48, kl_50, kl_53, kl_56, kl_57, kl_60, kl_61, kl_66, kl_97, kl_99, kl_100, kl_120, kl_122, kl_160, kl_200, kl_255, kl_300, kl_500, kl_600, kl_601, kl_999, kl_1000, kl_2048, kl_9999]; exact this.2⟩
theorem laysM {F a b : Nat} {ga gb : Gw} {μ : Mem} (ν : Lem) (hF : F ≤ 999) (hGa : Gok F ga) (hGb : Gok F gb) (ha : a ≤ 6) (hb : b ≤ 6) (hMa : WM μ a ga) (hMb : WM μ b gb) (h7 : μ 0 7 = nI F) :
    ∃ μ', f6_lays μ ν (nI a) (nI b) = some (μ', ν) ∧ fY μ μ' ∧ ∀ i, i ≤ 600 → μ' 10 i = nI (AT F ga i) ∧ μ' 11 i = nI (AT F gb i) := by
  obtain ⟨μ', h1, h2, h3⟩ := lays1 (ν := ν) hF hGa hGb ha hb hMa hMb h7 FUEL 0 μ (by omega) (fuel_o (by omega)) (fun _ _ _ _ => rfl) (fun i hi => by omega)
  exact ⟨μ', h1, h2, h3⟩
/-- the rows of two -/
def ROW (μ μM : Mem) (A B : Nat → Nat) : Prop := (∀ i, A i ≤ 999000) ∧ (∀ i, B i ≤ 999000) ∧ ∀ i, i ≤ 600 → μ 7 i = nI (A i) ∧ μ 8 i = nI (B i) ∧ μM 10 i = nI (A i) ∧ μM 11 i = nI (B i)
theorem lmx {m k : Nat} (hm : m < 2 ^ 30) (hk : k < 2 ^ 30) : jmax (nI 0) (nI m - nI k) = nI (m - k) := by
  unfold jmax
  have e := pk_sub_toInt hm hk
  by_cases h : k ≤ m
  · rw [pk_sub h]
    by_cases h2 : m - k = 0
    · rw [h2]; rfl
    · rw [if_pos (nI_lt (by omega) (by omega))]
  · rw [if_neg (by rw [fa_lt, e, nI_toInt (by decide)]; omega)]
    exact congrArg nI (by omega)
def DD (A B : Nat → Nat) (l m : Nat) : Int32 := nI (A (m - l)) - nI (B m)
theorem gap_C {μ μM : Mem} {A B : Nat → Nat} (R : ROW μ μM A B) {m l : Nat} (hm : m ≤ 600) (hl : l ≤ 600) : f5_gap μ (nI m) (nI l) = some (DD A B l m) := by
  obtain ⟨-, -, R⟩ := R
  have r1 := (R (m - l) (by omega)).1
  have r2 := (R m hm).2.1
  unfold f5_gap DD
  simp (disch := omega) only [lmx, kl_0, gd_n, nI_clamp, r1, r2]
theorem gap_M {μ μM : Mem} {ν : Lem} {A B : Nat → Nat} (R : ROW μ μM A B) {m l : Nat} (hm : m ≤ 600) (hl : l ≤ 600) : f6_apartAt μM ν (nI m) (nI l) = some (DD A B l m) := by
  obtain ⟨-, -, R⟩ := R
  have r1 := (R (m - l) (by omega)).2.2.1
  have r0 := (R 0 (by omega)).2.2.1
  have r2 := (R m hm).2.2.2
  unfold f6_apartAt DD
  by_cases h : l ≤ m
  · simp (disch := omega) only [nI_leI, if_pos, pk_sub, gd_n, nI_clamp, r1, r2]
  · have : m - l = 0 := by omega
    simp (disch := omega) only [nI_leI, if_neg, kl_0, gd_n, nI_clamp, r0, r2, this]
/-- two meet in minute m, the one later by l -/
def MT (A B : Nat → Nat) (l m : Nat) : Prop := DD A B l m = nI 0 ∨ (m < 600 ∧ ¬ f5_areOpposite (DD A B l m).toInt64 (DD A B l (m + 1)).toInt64 = nI 0)
theorem meetIn_C {μ μM : Mem} {A B : Nat → Nat} (R : ROW μ μM A B) {m : Nat} (hm : m ≤ 600) : (MT A B 0 m → f5_meetIn μ (nI m) = some (nI 1)) ∧ (¬ MT A B 0 m → f5_meetIn μ (nI m) = some (nI 0)) := by
  have g0 := gap_C R hm (l := 0) (by omega)
  unfold f5_meetIn
  by_cases h0 : DD A B 0 m = nI 0
  · exact ⟨fun _ => by simp (disch := omega) only [g0, h0, Nat.add_sub_cancel, nm_s, bd1_s, bd2_s, bd3_s, gd_n, gd_ne, nI_clamp, nI_leI, nI_ltI, nI_eq, nI_add, pk_mul, pk_sub, up_r, upL_r, jrem_n, jmax_n, if_true, if_false, if_pos, if_neg, gd_i, Nat.zero_add, Nat.add_zero, Nat.mul_zero, nI_nn, nI_nn2, mI_le, mI_ne, mI_ne2, mI_ne3, mI_ne4, ne0, kl_0, kl_1, kl_2, kl_3, kl_4, kl_5, kl_6, kl_7, kl_8, kl_9, kl_10, kl_11, kl_12, kl_13, kl_14, kl_15, kl_16, kl_17, kl_18, kl_19, kl_20, kl_21, kl_22, kl_23, kl_32, kl_40, kl_48, kl_50, kl_53, kl_56, kl_57, kl_60, kl_61, kl_66, kl_97, kl_99, kl_100, kl_120, kl_122, kl_160, kl_200, kl_255, kl_300, kl_500, kl_600, kl_601, kl_999, kl_1000, kl_2048, kl_9999], fun h => absurd (Or.inl h0) h⟩
  · by_cases h6 : m = 600
    · exact ⟨fun h => by rcases h with h | h; exact absurd h h0; omega, fun _ => by simp (disch := omega) only [g0, h0, Nat.add_sub_cancel, nm_s, bd1_s, bd2_s, bd3_s, gd_n, gd_ne, nI_clamp, nI_leI, nI_ltI, nI_eq, nI_add, pk_mul, pk_sub, up_r, upL_r, jrem_n, jmax_n, if_true, if_false, if_pos, if_neg, gd_i, Nat.zero_add, Nat.add_zero, Nat.mul_zero, nI_nn, nI_nn2, mI_le, mI_ne, mI_ne2, mI_ne3, mI_ne4, ne0, kl_0, kl_1, kl_2, kl_3, kl_4, kl_5, kl_6, kl_7, kl_8, kl_9, kl_10, kl_11, kl_12, kl_13, kl_14, kl_15, kl_16, kl_17, kl_18, kl_19, kl_20, kl_21, kl_22, kl_23, kl_32, kl_40, kl_48, kl_50, kl_53, kl_56, kl_57, kl_60, kl_61, kl_66, kl_97, kl_99, kl_100, kl_120, kl_122, kl_160, kl_200, kl_255, kl_300, kl_500, kl_600, kl_601, kl_999, kl_1000, kl_2048, kl_9999]⟩
    · have g1 := gap_C R (m := m + 1) (by omega) (l := 0) (by omega)
      by_cases h1 : f5_areOpposite (DD A B 0 m).toInt64 (DD A B 0 (m + 1)).toInt64 = nI 0
      · exact ⟨fun h => by rcases h with h | h; exact absurd h h0; exact absurd h1 h.2, fun _ => by simp (disch := omega) only [g0, g1, h0, h1, Nat.add_sub_cancel, nm_s, bd1_s, bd2_s, bd3_s, gd_n, gd_ne, nI_clamp, nI_leI, nI_ltI, nI_eq, nI_add, pk_mul, pk_sub, up_r, upL_r, jrem_n, jmax_n, if_true, if_false, if_pos, if_neg, gd_i, Nat.zero_add, Nat.add_zero, Nat.mul_zero, nI_nn, nI_nn2, mI_le, mI_ne, mI_ne2, mI_ne3, mI_ne4, ne0, kl_0, kl_1, kl_2, kl_3, kl_4, kl_5, kl_6, kl_7, kl_8, kl_9, kl_10, kl_11, kl_12, kl_13, kl_14, kl_15, kl_16, kl_17, kl_18, kl_19, kl_20, kl_21, kl_22, kl_23, kl_32, kl_40, kl_48, kl_50, kl_53, kl_56, kl_57, kl_60, kl_61, kl_66, kl_97, kl_99, kl_100, kl_120, kl_122, kl_160, kl_200, kl_255, kl_300, kl_500, kl_600, kl_601, kl_999, kl_1000, kl_2048, kl_9999]⟩
      · exact ⟨fun _ => by simp (disch := omega) only [g0, g1, h0, h1, Nat.add_sub_cancel, nm_s, bd1_s, bd2_s, bd3_s, gd_n, gd_ne, nI_clamp, nI_leI, nI_ltI, nI_eq, nI_add, pk_mul, pk_sub, up_r, upL_r, jrem_n, jmax_n, if_true, if_false, if_pos, if_neg, gd_i, Nat.zero_add, Nat.add_zero, Nat.mul_zero, nI_nn, nI_nn2, mI_le, mI_ne, mI_ne2, mI_ne3, mI_ne4, ne0, kl_0, kl_1, kl_2, kl_3, kl_4, kl_5, kl_6, kl_7, kl_8, kl_9, kl_10, kl_11, kl_12, kl_13, kl_14, kl_15, kl_16, kl_17, kl_18, kl_19, kl_20, kl_21, kl_22, kl_23, kl_32, kl_40, kl_48, kl_50, kl_53, kl_56, kl_57, kl_60, kl_61, kl_66, kl_97, kl_99, kl_100, kl_120, kl_122, kl_160, kl_200, kl_255, kl_300, kl_500, kl_600, kl_601, kl_999, kl_1000, kl_2048, kl_9999], fun h => absurd (Or.inr ⟨by omega, h1⟩) h⟩
theorem doMeet_M {μ μM : Mem} {ν : Lem} {A B : Nat → Nat} (R : ROW μ μM A B) {m l : Nat} (hm : m ≤ 600) (hl : l ≤ 600) : (MT A B l m → f6_doMeet μM ν (nI m) (nI l) = some (nI 1)) ∧ (¬ MT A B l m → f6_doMeet μM ν (nI m) (nI l) = some (nI 0)) := by
  have g0 := gap_M (ν := ν) R hm hl
  unfold f6_doMeet
  by_cases h0 : DD A B l m = nI 0
  · exact ⟨fun _ => by simp (disch := omega) only [g0, h0, Nat.add_sub_cancel, nm_s, bd1_s, bd2_s, bd3_s, gd_n, gd_ne, nI_clamp, nI_leI, nI_ltI, nI_eq, nI_add, pk_mul, pk_sub, up_r, upL_r, jrem_n, jmax_n, if_true, if_false, if_pos, if_neg, gd_i, Nat.zero_add, Nat.add_zero, Nat.mul_zero, nI_nn, nI_nn2, mI_le, mI_ne, mI_ne2, mI_ne3, mI_ne4, ne0, kl_0, kl_1, kl_2, kl_3, kl_4, kl_5, kl_6, kl_7, kl_8, kl_9, kl_10, kl_11, kl_12, kl_13, kl_14, kl_15, kl_16, kl_17, kl_18, kl_19, kl_20, kl_21, kl_22, kl_23, kl_32, kl_40, kl_48, kl_50, kl_53, kl_56, kl_57, kl_60, kl_61, kl_66, kl_97, kl_99, kl_100, kl_120, kl_122, kl_160, kl_200, kl_255, kl_300, kl_500, kl_600, kl_601, kl_999, kl_1000, kl_2048, kl_9999], fun h => absurd (Or.inl h0) h⟩
  · by_cases h6 : m = 600
    · exact ⟨fun h => by rcases h with h | h; exact absurd h h0; omega, fun _ => by simp (disch := omega) only [g0, h0, Nat.add_sub_cancel, nm_s, bd1_s, bd2_s, bd3_s, gd_n, gd_ne, nI_clamp, nI_leI, nI_ltI, nI_eq, nI_add, pk_mul, pk_sub, up_r, upL_r, jrem_n, jmax_n, if_true, if_false, if_pos, if_neg, gd_i, Nat.zero_add, Nat.add_zero, Nat.mul_zero, nI_nn, nI_nn2, mI_le, mI_ne, mI_ne2, mI_ne3, mI_ne4, ne0, kl_0, kl_1, kl_2, kl_3, kl_4, kl_5, kl_6, kl_7, kl_8, kl_9, kl_10, kl_11, kl_12, kl_13, kl_14, kl_15, kl_16, kl_17, kl_18, kl_19, kl_20, kl_21, kl_22, kl_23, kl_32, kl_40, kl_48, kl_50, kl_53, kl_56, kl_57, kl_60, kl_61, kl_66, kl_97, kl_99, kl_100, kl_120, kl_122, kl_160, kl_200, kl_255, kl_300, kl_500, kl_600, kl_601, kl_999, kl_1000, kl_2048, kl_9999]⟩
    · have g1 := gap_M (ν := ν) R (m := m + 1) (by omega) hl
      by_cases h1 : f5_areOpposite (DD A B l m).toInt64 (DD A B l (m + 1)).toInt64 = nI 0
      · exact ⟨fun h => by rcases h with h | h; exact absurd h h0; exact absurd h1 h.2, fun _ => by simp (disch := omega) only [g0, g1, h0, opp_eq, h1, Nat.add_sub_cancel, nm_s, bd1_s, bd2_s, bd3_s, gd_n, gd_ne, nI_clamp, nI_leI, nI_ltI, nI_eq, nI_add, pk_mul, pk_sub, up_r, upL_r, jrem_n, jmax_n, if_true, if_false, if_pos, if_neg, gd_i, Nat.zero_add, Nat.add_zero, Nat.mul_zero, nI_nn, nI_nn2, mI_le, mI_ne, mI_ne2, mI_ne3, mI_ne4, ne0, kl_0, kl_1, kl_2, kl_3, kl_4, kl_5, kl_6, kl_7, kl_8, kl_9, kl_10, kl_11, kl_12, kl_13, kl_14, kl_15, kl_16, kl_17, kl_18, kl_19, kl_20, kl_21, kl_22, kl_23, kl_32, kl_40, kl_48, kl_50, kl_53, kl_56, kl_57, kl_60, kl_61, kl_66, kl_97, kl_99, kl_100, kl_120, kl_122, kl_160, kl_200, kl_255, kl_300, kl_500, kl_600, kl_601, kl_999, kl_1000, kl_2048, kl_9999]⟩
      · exact ⟨fun _ => by simp (disch := omega) only [g0, g1, h0, opp_eq, h1, Nat.add_sub_cancel, nm_s, bd1_s, bd2_s, bd3_s, gd_n, gd_ne, nI_clamp, nI_leI, nI_ltI, nI_eq, nI_add, pk_mul, pk_sub, up_r, upL_r, jrem_n, jmax_n, if_true, if_false, if_pos, if_neg, gd_i, Nat.zero_add, Nat.add_zero, Nat.mul_zero, nI_nn, nI_nn2, mI_le, mI_ne, mI_ne2, mI_ne3, mI_ne4, ne0, kl_0, kl_1, kl_2, kl_3, kl_4, kl_5, kl_6, kl_7, kl_8, kl_9, kl_10, kl_11, kl_12, kl_13, kl_14, kl_15, kl_16, kl_17, kl_18, kl_19, kl_20, kl_21, kl_22, kl_23, kl_32, kl_40, kl_48, kl_50, kl_53, kl_56, kl_57, kl_60, kl_61, kl_66, kl_97, kl_99, kl_100, kl_120, kl_122, kl_160, kl_200, kl_255, kl_300, kl_500, kl_600, kl_601, kl_999, kl_1000, kl_2048, kl_9999], fun h => absurd (Or.inr ⟨by omega, h1⟩) h⟩
theorem first1 {μ μM : Mem} {ν : Lem} {A B : Nat → Nat} (R : ROW μ μM A B) {l : Nat} (hl : l ≤ 600) : ∀ (n k m : Nat), m ≤ 600 → 600 - m < n → 601 - m < k →
    ∃ r, f5_firstMeeting_1 μ n (nI l) (DD A B l m) (nI m) = some r ∧ f6_firstMeet_1 μM ν k (nI l) (nI m) = some r ∧ (r = -nI 1 ∨ ∃ m, m ≤ 600 ∧ r = nI m) := by
  intro n
  induction n with
  | zero => intro k m _ h; omega
  | succ n ih =>
    intro k m hm hn hk
    obtain ⟨k, rfl⟩ : ∃ k', k = k' + 1 := ⟨k - 1, by omega⟩
    obtain ⟨k, rfl⟩ : ∃ k', k = k' + 1 := ⟨k - 1, by omega⟩
    have dm := doMeet_M (ν := ν) R hm hl
    by_cases h6 : m = 600
    · subst h6
      by_cases h0 : DD A B l 600 = nI 0
      · have d1 := dm.1 (Or.inl h0)
        refine ⟨nI 600, ?_, ?_, Or.inr ⟨600, by omega, rfl⟩⟩
        · rw [f5_firstMeeting_1]; simp (disch := omega) only [h0, Nat.add_sub_cancel, nm_s, bd1_s, bd2_s, bd3_s, gd_n, gd_ne, nI_clamp, nI_leI, nI_ltI, nI_eq, nI_add, pk_mul, pk_sub, up_r, upL_r, jrem_n, jmax_n, if_true, if_false, if_pos, if_neg, gd_i, Nat.zero_add, Nat.add_zero, Nat.mul_zero, nI_nn, nI_nn2, mI_le, mI_ne, mI_ne2, mI_ne3, mI_ne4, ne0, kl_0, kl_1, kl_2, kl_3, kl_4, kl_5, kl_6, kl_7, kl_8, kl_9, kl_10, kl_11, kl_12, kl_13, kl_14, kl_15, kl_16, kl_17, kl_18, kl_19, kl_20, kl_21, kl_22, kl_23, kl_32, kl_40, kl_48, kl_50, kl_53, kl_56, kl_57, kl_60, kl_61, kl_66, kl_97, kl_99, kl_100, kl_120, kl_122, kl_160, kl_200, kl_255, kl_300, kl_500, kl_600, kl_601, kl_999, kl_1000, kl_2048, kl_9999]
        · rw [f6_firstMeet_1]; simp (disch := omega) only [d1, Nat.add_sub_cancel, nm_s, bd1_s, bd2_s, bd3_s, gd_n, gd_ne, nI_clamp, nI_leI, nI_ltI, nI_eq, nI_add, pk_mul, pk_sub, up_r, upL_r, jrem_n, jmax_n, if_true, if_false, if_pos, if_neg, gd_i, Nat.zero_add, Nat.add_zero, Nat.mul_zero, nI_nn, nI_nn2, mI_le, mI_ne, mI_ne2, mI_ne3, mI_ne4, ne0, kl_0, kl_1, kl_2, kl_3, kl_4, kl_5, kl_6, kl_7, kl_8, kl_9, kl_10, kl_11, kl_12, kl_13, kl_14, kl_15, kl_16, kl_17, kl_18, kl_19, kl_20, kl_21, kl_22, kl_23, kl_32, kl_40, kl_48, kl_50, kl_53, kl_56, kl_57, kl_60, kl_61, kl_66, kl_97, kl_99, kl_100, kl_120, kl_122, kl_160, kl_200, kl_255, kl_300, kl_500, kl_600, kl_601, kl_999, kl_1000, kl_2048, kl_9999]
      · have d1 := dm.2 (fun h => by rcases h with h | h; exact h0 h; omega)
        refine ⟨-nI 1, ?_, ?_, Or.inl rfl⟩
        · rw [f5_firstMeeting_1]; simp (disch := omega) only [h0, Nat.add_sub_cancel, nm_s, bd1_s, bd2_s, bd3_s, gd_n, gd_ne, nI_clamp, nI_leI, nI_ltI, nI_eq, nI_add, pk_mul, pk_sub, up_r, upL_r, jrem_n, jmax_n, if_true, if_false, if_pos, if_neg, gd_i, Nat.zero_add, Nat.add_zero, Nat.mul_zero, nI_nn, nI_nn2, mI_le, mI_ne, mI_ne2, mI_ne3, mI_ne4, ne0, kl_0, kl_1, kl_2, kl_3, kl_4, kl_5, kl_6, kl_7, kl_8, kl_9, kl_10, kl_11, kl_12, kl_13, kl_14, kl_15, kl_16, kl_17, kl_18, kl_19, kl_20, kl_21, kl_22, kl_23, kl_32, kl_40, kl_48, kl_50, kl_53, kl_56, kl_57, kl_60, kl_61, kl_66, kl_97, kl_99, kl_100, kl_120, kl_122, kl_160, kl_200, kl_255, kl_300, kl_500, kl_600, kl_601, kl_999, kl_1000, kl_2048, kl_9999]
        · rw [f6_firstMeet_1]; simp (disch := omega) only [d1, Nat.add_sub_cancel, nm_s, bd1_s, bd2_s, bd3_s, gd_n, gd_ne, nI_clamp, nI_leI, nI_ltI, nI_eq, nI_add, pk_mul, pk_sub, up_r, upL_r, jrem_n, jmax_n, if_true, if_false, if_pos, if_neg, gd_i, Nat.zero_add, Nat.add_zero, Nat.mul_zero, nI_nn, nI_nn2, mI_le, mI_ne, mI_ne2, mI_ne3, mI_ne4, ne0, kl_0, kl_1, kl_2, kl_3, kl_4, kl_5, kl_6, kl_7, kl_8, kl_9, kl_10, kl_11, kl_12, kl_13, kl_14, kl_15, kl_16, kl_17, kl_18, kl_19, kl_20, kl_21, kl_22, kl_23, kl_32, kl_40, kl_48, kl_50, kl_53, kl_56, kl_57, kl_60, kl_61, kl_66, kl_97, kl_99, kl_100, kl_120, kl_122, kl_160, kl_200, kl_255, kl_300, kl_500, kl_600, kl_601, kl_999, kl_1000, kl_2048, kl_9999]
          rw [f6_firstMeet_1]; simp (disch := omega) only [Nat.add_sub_cancel, nm_s, bd1_s, bd2_s, bd3_s, gd_n, gd_ne, nI_clamp, nI_leI, nI_ltI, nI_eq, nI_add, pk_mul, pk_sub, up_r, upL_r, jrem_n, jmax_n, if_true, if_false, if_pos, if_neg, gd_i, Nat.zero_add, Nat.add_zero, Nat.mul_zero, nI_nn, nI_nn2, mI_le, mI_ne, mI_ne2, mI_ne3, mI_ne4, ne0, kl_0, kl_1, kl_2, kl_3, kl_4, kl_5, kl_6, kl_7, kl_8, kl_9, kl_10, kl_11, kl_12, kl_13, kl_14, kl_15, kl_16, kl_17, kl_18, kl_19, kl_20, kl_21, kl_22, kl_23, kl_32, kl_40, kl_48, kl_50, kl_53, kl_56, kl_57, kl_60, kl_61, kl_66, kl_97, kl_99, kl_100, kl_120, kl_122, kl_160, kl_200, kl_255, kl_300, kl_500, kl_600, kl_601, kl_999, kl_1000, kl_2048, kl_9999]
    · have g1 := gap_C R (m := m + 1) (by omega) hl
      by_cases h0 : DD A B l m = nI 0
      · have d1 := dm.1 (Or.inl h0)
        refine ⟨nI m, ?_, ?_, Or.inr ⟨m, hm, rfl⟩⟩
        · rw [f5_firstMeeting_1]; simp (disch := omega) only [g1, h0, Nat.add_sub_cancel, nm_s, bd1_s, bd2_s, bd3_s, gd_n, gd_ne, nI_clamp, nI_leI, nI_ltI, nI_eq, nI_add, pk_mul, pk_sub, up_r, upL_r, jrem_n, jmax_n, if_true, if_false, if_pos, if_neg, gd_i, Nat.zero_add, Nat.add_zero, Nat.mul_zero, nI_nn, nI_nn2, mI_le, mI_ne, mI_ne2, mI_ne3, mI_ne4, ne0, kl_0, kl_1, kl_2, kl_3, kl_4, kl_5, kl_6, kl_7, kl_8, kl_9, kl_10, kl_11, kl_12, kl_13, kl_14, kl_15, kl_16, kl_17, kl_18, kl_19, kl_20, kl_21, kl_22, kl_23, kl_32, kl_40, kl_48, kl_50, kl_53, kl_56, kl_57, kl_60, kl_61, kl_66, kl_97, kl_99, kl_100, kl_120, kl_122, kl_160, kl_200, kl_255, kl_300, kl_500, kl_600, kl_601, kl_999, kl_1000, kl_2048, kl_9999]
        · rw [f6_firstMeet_1]; simp (disch := omega) only [d1, Nat.add_sub_cancel, nm_s, bd1_s, bd2_s, bd3_s, gd_n, gd_ne, nI_clamp, nI_leI, nI_ltI, nI_eq, nI_add, pk_mul, pk_sub, up_r, upL_r, jrem_n, jmax_n, if_true, if_false, if_pos, if_neg, gd_i, Nat.zero_add, Nat.add_zero, Nat.mul_zero, nI_nn, nI_nn2, mI_le, mI_ne, mI_ne2, mI_ne3, mI_ne4, ne0, kl_0, kl_1, kl_2, kl_3, kl_4, kl_5, kl_6, kl_7, kl_8, kl_9, kl_10, kl_11, kl_12, kl_13, kl_14, kl_15, kl_16, kl_17, kl_18, kl_19, kl_20, kl_21, kl_22, kl_23, kl_32, kl_40, kl_48, kl_50, kl_53, kl_56, kl_57, kl_60, kl_61, kl_66, kl_97, kl_99, kl_100, kl_120, kl_122, kl_160, kl_200, kl_255, kl_300, kl_500, kl_600, kl_601, kl_999, kl_1000, kl_2048, kl_9999]
      · by_cases h1 : f5_areOpposite (DD A B l m).toInt64 (DD A B l (m + 1)).toInt64 = nI 0
        · have d1 := dm.2 (fun h => by rcases h with h | h; exact h0 h; exact h.2 h1)
          obtain ⟨r, q1, q2, q3⟩ := ih (k + 1) (m + 1) (by omega) (by omega) (by omega)
          refine ⟨r, ?_, ?_, q3⟩
          · rw [f5_firstMeeting_1]; simp (disch := omega) only [g1, h0, h1, Nat.add_sub_cancel, nm_s, bd1_s, bd2_s, bd3_s, gd_n, gd_ne, nI_clamp, nI_leI, nI_ltI, nI_eq, nI_add, pk_mul, pk_sub, up_r, upL_r, jrem_n, jmax_n, if_true, if_false, if_pos, if_neg, gd_i, Nat.zero_add, Nat.add_zero, Nat.mul_zero, nI_nn, nI_nn2, mI_le, mI_ne, mI_ne2, mI_ne3, mI_ne4, ne0, kl_0, kl_1, kl_2, kl_3, kl_4, kl_5, kl_6, kl_7, kl_8, kl_9, kl_10, kl_11, kl_12, kl_13, kl_14, kl_15, kl_16, kl_17, kl_18, kl_19, kl_20, kl_21, kl_22, kl_23, kl_32, kl_40, kl_48, kl_50, kl_53, kl_56, kl_57, kl_60, kl_61, kl_66, kl_97, kl_99, kl_100, kl_120, kl_122, kl_160, kl_200, kl_255, kl_300, kl_500, kl_600, kl_601, kl_999, kl_1000, kl_2048, kl_9999]; exact q1
          · rw [f6_firstMeet_1]; simp (disch := omega) only [d1, Nat.add_sub_cancel, nm_s, bd1_s, bd2_s, bd3_s, gd_n, gd_ne, nI_clamp, nI_leI, nI_ltI, nI_eq, nI_add, pk_mul, pk_sub, up_r, upL_r, jrem_n, jmax_n, if_true, if_false, if_pos, if_neg, gd_i, Nat.zero_add, Nat.add_zero, Nat.mul_zero, nI_nn, nI_nn2, mI_le, mI_ne, mI_ne2, mI_ne3, mI_ne4, ne0, kl_0, kl_1, kl_2, kl_3, kl_4, kl_5, kl_6, kl_7, kl_8, kl_9, kl_10, kl_11, kl_12, kl_13, kl_14, kl_15, kl_16, kl_17, kl_18, kl_19, kl_20, kl_21, kl_22, kl_23, kl_32, kl_40, kl_48, kl_50, kl_53, kl_56, kl_57, kl_60, kl_61, kl_66, kl_97, kl_99, kl_100, kl_120, kl_122, kl_160, kl_200, kl_255, kl_300, kl_500, kl_600, kl_601, kl_999, kl_1000, kl_2048, kl_9999]; exact q2
        · have d1 := dm.1 (Or.inr ⟨by omega, h1⟩)
          refine ⟨nI m, ?_, ?_, Or.inr ⟨m, hm, rfl⟩⟩
          · rw [f5_firstMeeting_1]; simp (disch := omega) only [g1, h0, h1, Nat.add_sub_cancel, nm_s, bd1_s, bd2_s, bd3_s, gd_n, gd_ne, nI_clamp, nI_leI, nI_ltI, nI_eq, nI_add, pk_mul, pk_sub, up_r, upL_r, jrem_n, jmax_n, if_true, if_false, if_pos, if_neg, gd_i, Nat.zero_add, Nat.add_zero, Nat.mul_zero, nI_nn, nI_nn2, mI_le, mI_ne, mI_ne2, mI_ne3, mI_ne4, ne0, kl_0, kl_1, kl_2, kl_3, kl_4, kl_5, kl_6, kl_7, kl_8, kl_9, kl_10, kl_11, kl_12, kl_13, kl_14, kl_15, kl_16, kl_17, kl_18, kl_19, kl_20, kl_21, kl_22, kl_23, kl_32, kl_40, kl_48, kl_50, kl_53, kl_56, kl_57, kl_60, kl_61, kl_66, kl_97, kl_99, kl_100, kl_120, kl_122, kl_160, kl_200, kl_255, kl_300, kl_500, kl_600, kl_601, kl_999, kl_1000, kl_2048, kl_9999]
          · rw [f6_firstMeet_1]; simp (disch := omega) only [d1, Nat.add_sub_cancel, nm_s, bd1_s, bd2_s, bd3_s, gd_n, gd_ne, nI_clamp, nI_leI, nI_ltI, nI_eq, nI_add, pk_mul, pk_sub, up_r, upL_r, jrem_n, jmax_n, if_true, if_false, if_pos, if_neg, gd_i, Nat.zero_add, Nat.add_zero, Nat.mul_zero, nI_nn, nI_nn2, mI_le, mI_ne, mI_ne2, mI_ne3, mI_ne4, ne0, kl_0, kl_1, kl_2, kl_3, kl_4, kl_5, kl_6, kl_7, kl_8, kl_9, kl_10, kl_11, kl_12, kl_13, kl_14, kl_15, kl_16, kl_17, kl_18, kl_19, kl_20, kl_21, kl_22, kl_23, kl_32, kl_40, kl_48, kl_50, kl_53, kl_56, kl_57, kl_60, kl_61, kl_66, kl_97, kl_99, kl_100, kl_120, kl_122, kl_160, kl_200, kl_255, kl_300, kl_500, kl_600, kl_601, kl_999, kl_1000, kl_2048, kl_9999]
theorem first_eq {μ μM : Mem} {ν : Lem} {A B : Nat → Nat} (R : ROW μ μM A B) {l : Nat} (hl : l ≤ 600) : ∃ r, f5_firstMeeting μ (nI l) = some r ∧ f6_firstMeet μM ν (nI l) = some r ∧ (r = -nI 1 ∨ ∃ m, m ≤ 600 ∧ r = nI m) := by
  obtain ⟨r, q1, q2, q3⟩ := first1 (ν := ν) R hl FUEL FUEL 0 (by omega) (fuel_o (by omega)) (fuel_o (by omega))
  refine ⟨r, ?_, q2, q3⟩
  have g0 := gap_C R (m := 0) (by omega) hl
  unfold f5_firstMeeting
  simp (disch := omega) only [g0, Nat.add_sub_cancel, nm_s, bd1_s, bd2_s, bd3_s, gd_n, gd_ne, nI_clamp, nI_leI, nI_ltI, nI_eq, nI_add, pk_mul, pk_sub, up_r, upL_r, jrem_n, jmax_n, if_true, if_false, if_pos, if_neg, gd_i, Nat.zero_add, Nat.add_zero, Nat.mul_zero, nI_nn, nI_nn2, mI_le, mI_ne, mI_ne2, mI_ne3, mI_ne4, ne0, kl_0, kl_1, kl_2, kl_3, kl_4, kl_5, kl_6, kl_7, kl_8, kl_9, kl_10, kl_11, kl_12, kl_13, kl_14, kl_15, kl_16, kl_17, kl_18, kl_19, kl_20, kl_21, kl_22, kl_23, kl_32, kl_40, kl_48, kl_50, kl_53, kl_56, kl_57, kl_60, kl_61, kl_66, kl_97, kl_99, kl_100, kl_120, kl_122, kl_160, kl_200, kl_255, kl_300, kl_500, kl_600, kl_601, kl_999, kl_1000, kl_2048, kl_9999]
  exact q1
theorem two3 {μ μM : Mem} {ν : Lem} {F n r : Nat} {G : Nat → Gw} (p : PR μ μM F n r G) (x y : Int32) : (f5_areTwo μ x y = nI 0 ∧ f6_areTwo μM ν x y = nI 0) ∨ ∃ a b, a < n ∧ b < n ∧ a ≠ b ∧ x = nI a ∧ y = nI b ∧ f5_areTwo μ x y = nI 1 ∧ f6_areTwo μM ν x y = nI 1 := by
  have hn : n ≤ 6 := p.2.2.1
  unfold f5_areTwo f6_areTwo
  rcases way3 (ν := ν) p x with ⟨h1, h2⟩ | ⟨a, ha, rfl, h1, h2⟩
  · exact Or.inl ⟨by simp (disch := omega) only [h1, Nat.add_sub_cancel, nm_s, bd1_s, bd2_s, bd3_s, gd_n, gd_ne, nI_clamp, nI_leI, nI_ltI, nI_eq, nI_add, pk_mul, pk_sub, up_r, upL_r, jrem_n, jmax_n, if_true, if_false, if_pos, if_neg, gd_i, Nat.zero_add, Nat.add_zero, Nat.mul_zero, nI_nn, nI_nn2, mI_le, mI_ne, mI_ne2, mI_ne3, mI_ne4, ne0, kl_0, kl_1, kl_2, kl_3, kl_4, kl_5, kl_6, kl_7, kl_8, kl_9, kl_10, kl_11, kl_12, kl_13, kl_14, kl_15, kl_16, kl_17, kl_18, kl_19, kl_20, kl_21, kl_22, kl_23, kl_32, kl_40, kl_48, kl_50, kl_53, kl_56, kl_57, kl_60, kl_61, kl_66, kl_97, kl_99, kl_100, kl_120, kl_122, kl_160, kl_200, kl_255, kl_300, kl_500, kl_600, kl_601, kl_999, kl_1000, kl_2048, kl_9999], by simp (disch := omega) only [h2, Nat.add_sub_cancel, nm_s, bd1_s, bd2_s, bd3_s, gd_n, gd_ne, nI_clamp, nI_leI, nI_ltI, nI_eq, nI_add, pk_mul, pk_sub, up_r, upL_r, jrem_n, jmax_n, if_true, if_false, if_pos, if_neg, gd_i, Nat.zero_add, Nat.add_zero, Nat.mul_zero, nI_nn, nI_nn2, mI_le, mI_ne, mI_ne2, mI_ne3, mI_ne4, ne0, kl_0, kl_1, kl_2, kl_3, kl_4, kl_5, kl_6, kl_7, kl_8, kl_9, kl_10, kl_11, kl_12, kl_13, kl_14, kl_15, kl_16, kl_17, kl_18, kl_19, kl_20, kl_21, kl_22, kl_23, kl_32, kl_40, kl_48, kl_50, kl_53, kl_56, kl_57, kl_60, kl_61, kl_66, kl_97, kl_99, kl_100, kl_120, kl_122, kl_160, kl_200, kl_255, kl_300, kl_500, kl_600, kl_601, kl_999, kl_1000, kl_2048, kl_9999]⟩
  · rcases way3 (ν := ν) p y with ⟨h3, h4⟩ | ⟨b, hb, rfl, h3, h4⟩
    · exact Or.inl ⟨by simp (disch := omega) only [h1, h3, Nat.add_sub_cancel, nm_s, bd1_s, bd2_s, bd3_s, gd_n, gd_ne, nI_clamp, nI_leI, nI_ltI, nI_eq, nI_add, pk_mul, pk_sub, up_r, upL_r, jrem_n, jmax_n, if_true, if_false, if_pos, if_neg, gd_i, Nat.zero_add, Nat.add_zero, Nat.mul_zero, nI_nn, nI_nn2, mI_le, mI_ne, mI_ne2, mI_ne3, mI_ne4, ne0, kl_0, kl_1, kl_2, kl_3, kl_4, kl_5, kl_6, kl_7, kl_8, kl_9, kl_10, kl_11, kl_12, kl_13, kl_14, kl_15, kl_16, kl_17, kl_18, kl_19, kl_20, kl_21, kl_22, kl_23, kl_32, kl_40, kl_48, kl_50, kl_53, kl_56, kl_57, kl_60, kl_61, kl_66, kl_97, kl_99, kl_100, kl_120, kl_122, kl_160, kl_200, kl_255, kl_300, kl_500, kl_600, kl_601, kl_999, kl_1000, kl_2048, kl_9999], by simp (disch := omega) only [h2, h4, Nat.add_sub_cancel, nm_s, bd1_s, bd2_s, bd3_s, gd_n, gd_ne, nI_clamp, nI_leI, nI_ltI, nI_eq, nI_add, pk_mul, pk_sub, up_r, upL_r, jrem_n, jmax_n, if_true, if_false, if_pos, if_neg, gd_i, Nat.zero_add, Nat.add_zero, Nat.mul_zero, nI_nn, nI_nn2, mI_le, mI_ne, mI_ne2, mI_ne3, mI_ne4, ne0, kl_0, kl_1, kl_2, kl_3, kl_4, kl_5, kl_6, kl_7, kl_8, kl_9, kl_10, kl_11, kl_12, kl_13, kl_14, kl_15, kl_16, kl_17, kl_18, kl_19, kl_20, kl_21, kl_22, kl_23, kl_32, kl_40, kl_48, kl_50, kl_53, kl_56, kl_57, kl_60, kl_61, kl_66, kl_97, kl_99, kl_100, kl_120, kl_122, kl_160, kl_200, kl_255, kl_300, kl_500, kl_600, kl_601, kl_999, kl_1000, kl_2048, kl_9999]⟩
    · by_cases hab : a = b
      · subst hab
        exact Or.inl ⟨by simp (disch := omega) only [h1, Nat.add_sub_cancel, nm_s, bd1_s, bd2_s, bd3_s, gd_n, gd_ne, nI_clamp, nI_leI, nI_ltI, nI_eq, nI_add, pk_mul, pk_sub, up_r, upL_r, jrem_n, jmax_n, if_true, if_false, if_pos, if_neg, gd_i, Nat.zero_add, Nat.add_zero, Nat.mul_zero, nI_nn, nI_nn2, mI_le, mI_ne, mI_ne2, mI_ne3, mI_ne4, ne0, kl_0, kl_1, kl_2, kl_3, kl_4, kl_5, kl_6, kl_7, kl_8, kl_9, kl_10, kl_11, kl_12, kl_13, kl_14, kl_15, kl_16, kl_17, kl_18, kl_19, kl_20, kl_21, kl_22, kl_23, kl_32, kl_40, kl_48, kl_50, kl_53, kl_56, kl_57, kl_60, kl_61, kl_66, kl_97, kl_99, kl_100, kl_120, kl_122, kl_160, kl_200, kl_255, kl_300, kl_500, kl_600, kl_601, kl_999, kl_1000, kl_2048, kl_9999], by simp (disch := omega) only [h2, Nat.add_sub_cancel, nm_s, bd1_s, bd2_s, bd3_s, gd_n, gd_ne, nI_clamp, nI_leI, nI_ltI, nI_eq, nI_add, pk_mul, pk_sub, up_r, upL_r, jrem_n, jmax_n, if_true, if_false, if_pos, if_neg, gd_i, Nat.zero_add, Nat.add_zero, Nat.mul_zero, nI_nn, nI_nn2, mI_le, mI_ne, mI_ne2, mI_ne3, mI_ne4, ne0, kl_0, kl_1, kl_2, kl_3, kl_4, kl_5, kl_6, kl_7, kl_8, kl_9, kl_10, kl_11, kl_12, kl_13, kl_14, kl_15, kl_16, kl_17, kl_18, kl_19, kl_20, kl_21, kl_22, kl_23, kl_32, kl_40, kl_48, kl_50, kl_53, kl_56, kl_57, kl_60, kl_61, kl_66, kl_97, kl_99, kl_100, kl_120, kl_122, kl_160, kl_200, kl_255, kl_300, kl_500, kl_600, kl_601, kl_999, kl_1000, kl_2048, kl_9999]⟩
      · exact Or.inr ⟨a, b, ha, hb, hab, rfl, rfl, by simp (disch := omega) only [h1, h3, Nat.add_sub_cancel, nm_s, bd1_s, bd2_s, bd3_s, gd_n, gd_ne, nI_clamp, nI_leI, nI_ltI, nI_eq, nI_add, pk_mul, pk_sub, up_r, upL_r, jrem_n, jmax_n, if_true, if_false, if_pos, if_neg, gd_i, Nat.zero_add, Nat.add_zero, Nat.mul_zero, nI_nn, nI_nn2, mI_le, mI_ne, mI_ne2, mI_ne3, mI_ne4, ne0, kl_0, kl_1, kl_2, kl_3, kl_4, kl_5, kl_6, kl_7, kl_8, kl_9, kl_10, kl_11, kl_12, kl_13, kl_14, kl_15, kl_16, kl_17, kl_18, kl_19, kl_20, kl_21, kl_22, kl_23, kl_32, kl_40, kl_48, kl_50, kl_53, kl_56, kl_57, kl_60, kl_61, kl_66, kl_97, kl_99, kl_100, kl_120, kl_122, kl_160, kl_200, kl_255, kl_300, kl_500, kl_600, kl_601, kl_999, kl_1000, kl_2048, kl_9999], by simp (disch := omega) only [h2, h4, Nat.add_sub_cancel, nm_s, bd1_s, bd2_s, bd3_s, gd_n, gd_ne, nI_clamp, nI_leI, nI_ltI, nI_eq, nI_add, pk_mul, pk_sub, up_r, upL_r, jrem_n, jmax_n, if_true, if_false, if_pos, if_neg, gd_i, Nat.zero_add, Nat.add_zero, Nat.mul_zero, nI_nn, nI_nn2, mI_le, mI_ne, mI_ne2, mI_ne3, mI_ne4, ne0, kl_0, kl_1, kl_2, kl_3, kl_4, kl_5, kl_6, kl_7, kl_8, kl_9, kl_10, kl_11, kl_12, kl_13, kl_14, kl_15, kl_16, kl_17, kl_18, kl_19, kl_20, kl_21, kl_22, kl_23, kl_32, kl_40, kl_48, kl_50, kl_53, kl_56, kl_57, kl_60, kl_61, kl_66, kl_97, kl_99, kl_100, kl_120, kl_122, kl_160, kl_200, kl_255, kl_300, kl_500, kl_600, kl_601, kl_999, kl_1000, kl_2048, kl_9999]⟩
/-- two rows laid out -/
theorem two_laid {μ μM : Mem} (ν : Lem) {F n r : Nat} {G : Nat → Gw} (p : PR μ μM F n r G) {a b : Nat} (ha : a < n) (hb : b < n) :
    ∃ μ' μM', f5_layTwo μ (nI a) (nI b) = some μ' ∧ f6_lays μM ν (nI a) (nI b) = some (μM', ν) ∧ fC μ μ' ∧ fM μM μM' ∧ ∃ A B, ROW μ' μM' A B := by
  obtain ⟨a6, hF, hGa, hCa, hMa, e1, e2⟩ := p.way ha
  obtain ⟨b6, -, hGb, hCb, hMb, -, -⟩ := p.way hb
  obtain ⟨μ1, q1, q2, q3⟩ := layC (k := 7) hGa hF (by omega) hCa
  obtain ⟨μ2, s1, s2, s3⟩ := layC (k := 8) hGb hF (by omega) (hCb.fx (by omega) q2)
  obtain ⟨μM', t1, t2, t3⟩ := laysM ν hF hGa hGb (by omega) (by omega) hMa hMb e2
  have e3 : μ1 1 0 = nI F := by rw [q2 _ _ (by omega)]; exact e1
  refine ⟨μ2, μM', ?_, t1, (q2.c (by omega)).tr (s2.c (by omega)), t2.m, fun i => if i ≤ 600 then AT F (G a) i else 0, fun i => if i ≤ 600 then AT F (G b) i else 0, ?_, ?_, ?_⟩
  · unfold f5_layTwo
    simp (disch := omega) only [e1, q1, e3, s1, Nat.add_sub_cancel, nm_s, bd1_s, bd2_s, bd3_s, gd_n, gd_ne, nI_clamp, nI_leI, nI_ltI, nI_eq, nI_add, pk_mul, pk_sub, up_r, upL_r, jrem_n, jmax_n, if_true, if_false, if_pos, if_neg, gd_i, Nat.zero_add, Nat.add_zero, Nat.mul_zero, nI_nn, nI_nn2, mI_le, mI_ne, mI_ne2, mI_ne3, mI_ne4, ne0, kl_0, kl_1, kl_2, kl_3, kl_4, kl_5, kl_6, kl_7, kl_8, kl_9, kl_10, kl_11, kl_12, kl_13, kl_14, kl_15, kl_16, kl_17, kl_18, kl_19, kl_20, kl_21, kl_22, kl_23, kl_32, kl_40, kl_48, kl_50, kl_53, kl_56, kl_57, kl_60, kl_61, kl_66, kl_97, kl_99, kl_100, kl_120, kl_122, kl_160, kl_200, kl_255, kl_300, kl_500, kl_600, kl_601, kl_999, kl_1000, kl_2048, kl_9999]
  · intro i
    by_cases h : i ≤ 600
    · rw [if_pos h]; have := AT_le hGa hF h; omega
    · rw [if_neg h]; omega
  · intro i
    by_cases h : i ≤ 600
    · rw [if_pos h]; have := AT_le hGb hF h; omega
    · rw [if_neg h]; omega
  · intro i hi
    rw [if_pos hi, if_pos hi]
    exact ⟨by rw [s2 _ _ (by omega)]; exact q3 i hi, s3 i hi, (t3 i hi).1, (t3 i hi).2⟩
